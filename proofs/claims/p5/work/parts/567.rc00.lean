set_option maxHeartbeats 4000000 in
set_option maxRecDepth 100000 in
theorem r_X4_readClause (l : Launch) (D : va_G) (g : Nat → ClassId) (sz : Nat) (Rd : Nat) (zf : Int32) (Tp : Nat) (ln : Nat) (ax : Nat) (ht : Nat) (ct : Nat) (Rv : Nat) (ftp : Nat → Int32) (fval : Nat → Int32) (h0 : ln ≤ 160) (h1 : ax ≤ ln) (h2 : ht ≤ 3) (h3 : ct ≤ 3) (h4 : vOK fval) : Met l yX4_readClause wsX4_readClause ({ frames := 5, cells := 0, slots := 0, locals := 107 }) (va_Pc [.ref Rd, .int zf] (pre D g sz [(Rd, .inr (4, [.ref Tp, .int (nI ln), .int (nI ax), .int (-1), .int (nI ht), .int (nI ct), .ref Rv])), (Tp, .inl (g 0, 160, .inl ftp)), (Rv, .inl (g 0, 21, .inl fval))])) (va_Qv (fun (u : va_W) => ∃ (axx : Nat) (zfax : Int32) (htx : Nat) (ctx : Nat) (fvalx : Nat → Int32), u = [(Rd, .inr (4, [.ref Tp, .int (nI ln), .int (nI axx), .int zfax, .int (nI htx), .int (nI ctx), .ref Rv])), (Tp, .inl (g 0, 160, .inl ftp)), (Rv, .inl (g 0, 21, .inl fvalx))] ∧ ((axx ≤ ln) ∧ (htx ≤ 3) ∧ (ctx ≤ 3) ∧ (vOK fvalx) ∧ (zfax = (clF ftp ln ax zf ht ct).1) ∧ ((htx, ctx) = (clF ftp ln ax zf ht ct).2.2) ∧ (zfax = -1 → axx = (clF ftp ln ax zf ht ct).2.1 ∧ ax < axx))) (wd D (va_A [(Rd, .inr (4, [.ref Tp, .int (nI ln), .int (nI ax), .int (-1), .int (nI ht), .int (nI ct), .ref Rv])), (Tp, .inl (g 0, 160, .inl ftp)), (Rv, .inl (g 0, 21, .inl fval))] sz)) (va_A [(Rd, .inr (4, [.ref Tp, .int (nI ln), .int (nI ax), .int (-1), .int (nI ht), .int (nI ct), .ref Rv])), (Tp, .inl (g 0, 160, .inl ftp)), (Rv, .inl (g 0, 21, .inl fval))] sz)) 0 0 (va_A [(Rd, .inr (4, [.ref Tp, .int (nI ln), .int (nI ax), .int (-1), .int (nI ht), .int (nI ct), .ref Rv])), (Tp, .inl (g 0, 160, .inl ftp)), (Rv, .inl (g 0, 21, .inl fval))] sz) := by
  refine Met.ofW (cc := cX4_readClause) (maxL := 6) (ret := none) (by decide) rfl ?_
  intro p e s m args below meth c s₁ B hml hv
  obtain ⟨rfl, hsz, hP, ⟨hK, hN⟩, hD0, hZ⟩ := hv
  have hx := B.exec
  have hb := B.bytes
  have hr := B.returns
  have hts := atoms_spec (ws := wsX4_readClause) B.pre
  have hown : s.vm.findClass RX4 = some m.cls := findClass_of_methodNamed B.named
  have hlocks := B.notSynchronized
  clear B
  subst hsz
  have hD := hD0.self (sz := s.heap.size)
  clear hD0
  generalize hAe : va_A [(Rd, .inr (4, [.ref Tp, .int (nI ln), .int (nI ax), .int (-1), .int (nI ht), .int (nI ct), .ref Rv])), (Tp, .inl (g 0, 160, .inl ftp)), (Rv, .inl (g 0, 21, .inl fval))] s.heap.size = A at hD hZ ⊢
  have hA : ∀ q : Nat, s.heap.size ≤ q → A q := fun q h => by rw [← hAe]; exact Or.inr h
  have hS : va_S A s.heap s.heap [] := va_S.rf
  have f24 := hts (.fieldLink RX4 24 "HopCredits$Reading" "length" "I") (List.mem_of_getElem? (i := 2) rfl)
  have f28 := hts (.fieldLink RX4 28 "HopCredits$Reading" "at" "I") (List.mem_of_getElem? (i := 1) rfl)
  have f31 := hts (.fieldLink RX4 31 "HopCredits$Reading" "fault" "I") (List.mem_of_getElem? (i := 4) rfl)
  have f9 := hts (.fieldLink RX4 9 "HopCredits$Reading" "text" "[I") (List.mem_of_getElem? (i := 3) rfl)
  have iX4 : ∀ w ∈ u_ws RX4 TX4 7, w ∈ wsX4_readClause := fun w h => List.mem_cons_of_mem _ (List.mem_append_right _ (h))
  have hl := lv_entry ([.ref Rd, .int zf]) (n := 6) (Nat.le_of_ble_eq_true rfl)
  rw [lg_entry_eq]
  generalize (lg_sl ([.ref Rd, .int zf]) ++ List.replicate (6 - (lg_sl ([.ref Rd, .int zf])).length) Slot.unset).toArray = ls at hl ⊢
  have hl : lv_has ls 6 [(0, .ref Rd), (1, .int zf)] := hl
  generalize hQ : MQ below _ _ s _ _ _ = Q
  generalize hH : s.heap = H at hP ⊢
  have hS : va_S A s.heap H [] := by rw [← hH]; exact hS
  clear hH
  refine lv_aload_n hx hb dX4_readClause_0 rfl (lv_at hl 0 rfl) ?_
  refine lv_iload_n hx hb dX4_readClause_1 rfl (lv_at hl 1 rfl) ?_
  refine ky_Vi (As := [.int zf]) (rest := []) ⟨hx, hb, hml, hown, hts⟩ ⟨hK, hN⟩ hZ hP hD hS hA [0, 1] [2] (wc := [(Rd, .inr (4, [.ref Tp, .int (nI ln), .int (nI ax), .int (-1), .int (nI ht), .int (nI ct), .ref Rv])), (Tp, .inl (g 0, 160, .inl ftp))]) (wr := [(Rv, .inl (g 0, 21, .inl fval))]) rfl rfl rfl rfl (by decide) (r_X4_readHead l D g H.size Rd zf Tp ln ax ht ct Rv ftp (show ln ≤ 160 by omega) (show ax ≤ ln by omega) (show ht ≤ 3 by omega) (show ct ≤ 3 by omega)) (cwV 1 hts gX4_readClause_X4_readHead rfl rfl rfl (by decide +kernel) ⟨(Nat.le_of_ble_eq_true rfl), (Nat.le_of_ble_eq_true rfl)⟩) 0 4 rfl rfl rfl rfl hl.1 rfl (Nat.le_of_ble_eq_true rfl) dX4_readClause_2 ⟨(Nat.le_of_ble_eq_true rfl), (Nat.le_of_ble_eq_true rfl)⟩ (fun r_1 u H locs hw hP2 hD2 hS2 => ?_)
  clear hP hD hS
  obtain ⟨axx_2, zfax_3, htx_4, ctx_5, zr_6, rfl, rfl, hf_7⟩ := hw
  have hg_8 := hf_7.1
  have hg_9 := hf_7.2.1
  have hg_10 := hf_7.2.2.1
  have hPD : PD D A [(Rv, .inl (g 0, 21, .inl fval)), (Rd, .inr (4, [.ref Tp, .int (nI ln), .int (nI axx_2), .int zfax_3, .int (nI htx_4), .int (nI ctx_5), .ref Rv])), (Tp, .inl (g 0, 160, .inl ftp))] H := ⟨hP2, hD2⟩
  have hS := hS2; clear hP2 hD2 hS2; have hP := hPD.1; have hD := hPD.2; clear hPD
  refine W.widen (k := 0) (n := 0) (Nat.le_of_ble_eq_true rfl) (Nat.le_of_ble_eq_true rfl) ?_
  rcases hf_7.2.2.2.2 with ⟨qa_11, qb_12⟩ | ⟨qa_11, qb_12, qc_13⟩
  · skip
    have hPq_14 := hP; have hDq_14 := hD; have hSq_14 := hS; have hlq_14 := hl; clear hP hD hS hl
    subst qa_11
    have hP := hPq_14; have hD := hDq_14; have hS := hSq_14; have hl := hlq_14; clear hPq_14 hDq_14 hSq_14 hlq_14
    refine lv_istore_n (lv' := [(2, .int (-1)), (0, .ref Rd), (1, .int zf)]) hx hb dX4_readClause_5 rfl hl (by decide) rfl (fun ls hl => ?_)
    refine lv_iload_n hx hb dX4_readClause_6 rfl (lv_at hl 0 rfl) ?_
    refine lv_iconst (v := (-1)) hx hb dX4_readClause_7 (by decide) ?_
    refine lv_icmp_ne (tgt := 12) hx hb dX4_readClause_8 (by decide) (fun cb => absurd (by decide) cb) (fun _ => ?_)
    have hPD9 : PD D A [(Rd, .inr (4, [.ref Tp, .int (nI ln), .int (nI axx_2), .int zfax_3, .int (nI htx_4), .int (nI ctx_5), .ref Rv])), (Tp, .inl (g 0, 160, .inl ftp)), (Rv, .inl (g 0, 21, .inl fval))] H := ⟨hP.sub [1, 2, 0] rfl, hD.sub [1, 2, 0] (by decide) rfl⟩
    have hP9 := hPD9.1; have hD9 := hPD9.2
    subst hQ
    refine W.widen (k := 0) (n := 0) (Nat.le_of_ble_eq_true rfl) (Nat.le_of_ble_eq_true rfl) ?_
    exact W.vret hx hb hr (fun tS htS _ => ⟨⟨_, rfl, ⟨axx_2, zfax_3, htx_4, ctx_5, fval, rfl, ⟨(show axx_2 ≤ ln by omega), (show htx_4 ≤ 3 by omega), (show ctx_5 ≤ 3 by omega), (h4), (by rw [clF_head hf_7.2.2.2.1.symm]; exact qb_12), (by rw [clF_head hf_7.2.2.2.1.symm]), (fun q => absurd (qb_12.symm.trans q) (m1_ne (show sB ftp ln ax < 2 ^ 31 by have := sB_le (T := ftp) (show ax ≤ ln by omega); omega)))⟩⟩, by rw [htS]; exact hP9, hD9⟩, hS.F htS⟩) hS.2.2 dX4_readClause_11
  · skip
    have h7 : ok7 r_1 := by have q7 := hdR_7 (T := ftp) (n := ln) (i := ax) (zf := zf) (h := ht) (ct := ct) (by omega) (by omega); rw [← hf_7.2.2.2.1] at q7; exact q7
    have hPq_17 := hP; have hDq_17 := hD; have hSq_17 := hS; have hlq_17 := hl; clear hP hD hS hl
    obtain ⟨cl_15, hcl_16, rfl⟩ := ok7_j h7 qa_11; subst qb_12
    have hP := hPq_17; have hD := hDq_17; have hS := hSq_17; have hl := hlq_17; clear hPq_17 hDq_17 hSq_17 hlq_17
    have hkd_18 := kdN_lt cl_15; have hkd_18b := sB_ge (T := ftp) (show ax ≤ ln by omega)
    have hR_19 : itR ftp ln (kdN cl_15) 4 0 (sB ftp ln ax + 1) = itR ftp ln (kdN cl_15) 4 0 axx_2 := by rw [qc_13]
    refine lv_istore_n (lv' := [(2, .int (nI cl_15)), (0, .ref Rd), (1, .int zf)]) hx hb dX4_readClause_5 rfl hl (by decide) rfl (fun ls hl => ?_)
    refine lv_iload_n hx hb dX4_readClause_6 rfl (lv_at hl 0 rfl) ?_
    refine lv_iconst (v := (-1)) hx hb dX4_readClause_7 (by decide) ?_
    refine lv_icmp_ne (tgt := 12) hx hb dX4_readClause_8 (by decide) (fun _ => ?_) (fun cb => absurd cb (m1_ne (show cl_15 < 2 ^ 31 by omega)))
    refine lv_iconst (v := 0) hx hb dX4_readClause_12 (by decide) ?_
    refine lv_istore_n (lv' := [(3, .int 0), (2, .int (nI cl_15)), (0, .ref Rd), (1, .int zf)]) hx hb dX4_readClause_13 rfl hl (by decide) rfl (fun ls hl => ?_)
    refine lv_iconst (v := 0) hx hb dX4_readClause_14 (by decide) ?_
    refine lv_istore (lv' := [(4, .int 0), (3, .int 0), (2, .int (nI cl_15)), (0, .ref Rd), (1, .int zf)]) hx hb dX4_readClause_15 hl (by decide) rfl (fun ls hl => ?_)
    refine lv_iload hx hb dX4_readClause_17 (lv_at hl 0 rfl) ?_
    refine lv_iconst (v := 3) hx hb dX4_readClause_19 (by decide) ?_
    refine lv_icmp_gt (tgt := 134) hx hb dX4_readClause_20 (by decide) (fun cb => absurd cb (by decide)) (fun _ => ?_)
    refine lv_aload_n hx hb dX4_readClause_23 rfl (lv_at hl 3 rfl) ?_
    refine ky_Vv (As := []) (rest := []) ⟨hx, hb, hml, hown, hts⟩ ⟨hK, hN⟩ hZ hP hD hS hA [1, 2] [0] (wc := [(Rd, .inr (4, [.ref Tp, .int (nI ln), .int (nI axx_2), .int (-1), .int (nI htx_4), .int (nI ctx_5), .ref Rv])), (Tp, .inl (g 0, 160, .inl ftp))]) (wr := [(Rv, .inl (g 0, 21, .inl fval))]) rfl rfl rfl rfl (by decide) (r_X4_passBlanks l D g H.size Rd Tp ln axx_2 (-1) htx_4 ctx_5 Rv ftp (show ln ≤ 160 by omega) (show axx_2 ≤ ln by omega)) (cwV 0 hts gX4_readClause_X4_passBlanks rfl rfl rfl (by decide +kernel) ⟨(Nat.le_of_ble_eq_true rfl), (Nat.le_of_ble_eq_true rfl)⟩) 1 4 rfl rfl rfl rfl hl.1 rfl (Nat.le_of_ble_eq_true rfl) dX4_readClause_24 ⟨(Nat.le_of_ble_eq_true rfl), (Nat.le_of_ble_eq_true rfl)⟩ (fun u H locs hw hP2 hD2 hS2 => ?_)
    clear hP hD hS
    obtain ⟨axx_21, rfl, hf_22, hf_23⟩ := hw
    have hPD : PD D A [(Rv, .inl (g 0, 21, .inl fval)), (Rd, .inr (4, [.ref Tp, .int (nI ln), .int (nI axx_21), .int (-1), .int (nI htx_4), .int (nI ctx_5), .ref Rv])), (Tp, .inl (g 0, 160, .inl ftp))] H := ⟨hP2, hD2⟩
    have hS := hS2; clear hP2 hD2 hS2; have hP := hPD.1; have hD := hPD.2; clear hPD
    refine W.widen (k := 0) (n := 0) (Nat.le_of_ble_eq_true rfl) (Nat.le_of_ble_eq_true rfl) ?_
    have hge_24 := sB_ge (T := ftp) (n := ln) (i := axx_2) (by omega)
    refine lv_aload_n hx hb dX4_readClause_27 rfl (lv_at hl 3 rfl) ?_
    refine va_get (D := D) (ci := 4) (v := .int (nI axx_21)) (C := RX4) (T := TX4) (N := 7) hx hb hts iX4 hown hK hP 1 rfl rfl 2 (by decide) f28 (fun _ h9 => h9) rfl dX4_readClause_28 ?_
    refine lv_aload_n hx hb dX4_readClause_31 rfl (lv_at hl 3 rfl) ?_
    refine va_get (D := D) (ci := 4) (v := .int (nI ln)) (C := RX4) (T := TX4) (N := 7) hx hb hts iX4 hown hK hP 1 rfl rfl 1 (by decide) f24 (fun _ h9 => h9) rfl dX4_readClause_32 ?_
    refine lv_icmp_ge (tgt := 52) hx hb dX4_readClause_35 (by decide) (fun cb_25 => ?_) (fun cb_25 => ?_)
    · skip
      have cn_26 : ln ≤ axx_21 := (nI_leI (show ln < 2 ^ 31 by omega) (show axx_21 < 2 ^ 31 by omega)).mp cb_25
      have hPD9 : PD D A [(Rd, .inr (4, [.ref Tp, .int (nI ln), .int (nI axx_21), .int (-1), .int (nI htx_4), .int (nI ctx_5), .ref Rv])), (Tp, .inl (g 0, 160, .inl ftp)), (Rv, .inl (g 0, 21, .inl fval))] H := ⟨hP.sub [1, 2, 0] rfl, hD.sub [1, 2, 0] (by decide) rfl⟩
      have hP9 := hPD9.1; have hD9 := hPD9.2
      subst hQ
      refine W.widen (k := 0) (n := 0) (Nat.le_of_ble_eq_true rfl) (Nat.le_of_ble_eq_true rfl) ?_
      exact W.vret hx hb hr (fun tS htS _ => ⟨⟨_, rfl, ⟨axx_21, (-1), htx_4, ctx_5, fval, rfl, ⟨(show axx_21 ≤ ln by omega), (show htx_4 ≤ 3 by omega), (show ctx_5 ≤ 3 by omega), (h4), (cl_end hf_7.2.2.2.1.symm (show cl_15 < 7 by omega) (hR_19.trans (itR_end (f := 3) hf_23 (show ¬ axx_21 < ln by omega))) (fun q => absurd q.1 (show ¬ axx_21 < ln by omega))).1, (cl_end hf_7.2.2.2.1.symm (show cl_15 < 7 by omega) (hR_19.trans (itR_end (f := 3) hf_23 (show ¬ axx_21 < ln by omega))) (fun q => absurd q.1 (show ¬ axx_21 < ln by omega))).2.1, (fun _ => ⟨(cl_end hf_7.2.2.2.1.symm (show cl_15 < 7 by omega) (hR_19.trans (itR_end (f := 3) hf_23 (show ¬ axx_21 < ln by omega))) (fun q => absurd q.1 (show ¬ axx_21 < ln by omega))).2.2, show ax < axx_21 by omega⟩)⟩⟩, by rw [htS]; exact hP9, hD9⟩, hS.F htS⟩) hS.2.2 dX4_readClause_52
    · skip
      have cn_27 : axx_21 < ln := Nat.lt_of_not_le (fun q9 => cb_25 ((nI_leI (show ln < 2 ^ 31 by omega) (show axx_21 < 2 ^ 31 by omega)).mpr q9))
      refine lv_aload_n hx hb dX4_readClause_38 rfl (lv_at hl 3 rfl) ?_
      refine va_get (D := D) (ci := 4) (v := .ref Tp) (C := RX4) (T := TX4) (N := 7) hx hb hts iX4 hown hK hP 1 rfl rfl 0 (by decide) f9 (fun _ h9 => h9) rfl dX4_readClause_39 ?_
      refine lv_aload_n hx hb dX4_readClause_42 rfl (lv_at hl 3 rfl) ?_
      refine va_get (D := D) (ci := 4) (v := .int (nI axx_21)) (C := RX4) (T := TX4) (N := 7) hx hb hts iX4 hown hK hP 1 rfl rfl 2 (by decide) f28 (fun _ h9 => h9) rfl dX4_readClause_43 ?_
      refine va_iald hx hb hK hP 2 0 rfl rfl (vp_in_nI (show axx_21 < 160 by omega) (by decide)) dX4_readClause_46 ?_
      refine lv_eqi (y := (ftp (axx_21))) (congrArg ftp (nI_clamp (show axx_21 < 2 ^ 31 by omega))) ?_
      refine lv_bipush (v := 59) hx hb dX4_readClause_47 (by decide) ?_
      refine lv_icmp_ne (tgt := 53) hx hb dX4_readClause_49 (by decide) (fun cb_28 => ?_) (fun cb_28 => ?_)
      · skip
        refine lv_iload_n hx hb dX4_readClause_53 rfl (lv_at hl 2 rfl) ?_
        refine ky_Si (As := [.int (nI cl_15)]) (rest := []) ⟨hx, hb, hml, hown, hts⟩ ⟨hK, hN⟩ hZ hP hD hS hA [] [0, 1, 2] (wc := []) (wr := [(Rv, .inl (g 0, 21, .inl fval)), (Rd, .inr (4, [.ref Tp, .int (nI ln), .int (nI axx_21), .int (-1), .int (nI htx_4), .int (nI ctx_5), .ref Rv])), (Tp, .inl (g 0, 160, .inl ftp))]) rfl rfl rfl rfl (by decide) (r_X4_kindOf l D g H.size cl_15 (show cl_15 < 7 by omega)) (va_cwS 1 hts gX4_readClause_X4_kindOf rfl rfl rfl (by decide +kernel) ⟨(Nat.le_of_ble_eq_true rfl), (Nat.le_of_ble_eq_true rfl)⟩) rfl hl.1 rfl (Nat.le_of_ble_eq_true rfl) dX4_readClause_54 ⟨(Nat.le_of_ble_eq_true rfl), (Nat.le_of_ble_eq_true rfl)⟩ (fun r_29 u H locs hw hP2 hD2 hS2 => ?_)
        clear hP hD hS
        obtain ⟨rfl, rfl⟩ := hw
        have hPD : PD D A [(Rv, .inl (g 0, 21, .inl fval)), (Rd, .inr (4, [.ref Tp, .int (nI ln), .int (nI axx_21), .int (-1), .int (nI htx_4), .int (nI ctx_5), .ref Rv])), (Tp, .inl (g 0, 160, .inl ftp))] H := ⟨hP2, hD2⟩
        have hS := hS2; clear hP2 hD2 hS2; have hP := hPD.1; have hD := hPD.2; clear hPD
        refine W.widen (k := 0) (n := 0) (Nat.le_of_ble_eq_true rfl) (Nat.le_of_ble_eq_true rfl) ?_
        refine lv_aload_n hx hb dX4_readClause_57 rfl (lv_at hl 3 rfl) ?_
        refine va_get (D := D) (ci := 4) (v := .ref Tp) (C := RX4) (T := TX4) (N := 7) hx hb hts iX4 hown hK hP 1 rfl rfl 0 (by decide) f9 (fun _ h9 => h9) rfl dX4_readClause_58 ?_
        refine lv_aload_n hx hb dX4_readClause_61 rfl (lv_at hl 3 rfl) ?_
        refine va_get (D := D) (ci := 4) (v := .int (nI axx_21)) (C := RX4) (T := TX4) (N := 7) hx hb hts iX4 hown hK hP 1 rfl rfl 2 (by decide) f28 (fun _ h9 => h9) rfl dX4_readClause_62 ?_
        refine va_iald hx hb hK hP 2 0 rfl rfl (vp_in_nI (show axx_21 < 160 by omega) (by decide)) dX4_readClause_65 ?_
        refine lv_eqi (y := (ftp (axx_21))) (congrArg ftp (nI_clamp (show axx_21 < 2 ^ 31 by omega))) ?_
        refine ky_Si (As := [.int (nI (kdN cl_15)), .int (ftp (axx_21))]) (rest := []) ⟨hx, hb, hml, hown, hts⟩ ⟨hK, hN⟩ hZ hP hD hS hA [] [0, 1, 2] (wc := []) (wr := [(Rv, .inl (g 0, 21, .inl fval)), (Rd, .inr (4, [.ref Tp, .int (nI ln), .int (nI axx_21), .int (-1), .int (nI htx_4), .int (nI ctx_5), .ref Rv])), (Tp, .inl (g 0, 160, .inl ftp))]) rfl rfl rfl rfl (by decide) (r_X4_itemOf l D g H.size (kdN cl_15) (ftp (axx_21)) (show (kdN cl_15) < 3 by omega)) (va_cwS 2 hts gX4_readClause_X4_itemOf rfl rfl rfl (by decide +kernel) ⟨(Nat.le_of_ble_eq_true rfl), (Nat.le_of_ble_eq_true rfl)⟩) rfl hl.1 rfl (Nat.le_of_ble_eq_true rfl) dX4_readClause_66 ⟨(Nat.le_of_ble_eq_true rfl), (Nat.le_of_ble_eq_true rfl)⟩ (fun r_30 u H locs hw hP2 hD2 hS2 => ?_)
        clear hP hD hS
        obtain ⟨rfl, rfl⟩ := hw
        have hPD : PD D A [(Rv, .inl (g 0, 21, .inl fval)), (Rd, .inr (4, [.ref Tp, .int (nI ln), .int (nI axx_21), .int (-1), .int (nI htx_4), .int (nI ctx_5), .ref Rv])), (Tp, .inl (g 0, 160, .inl ftp))] H := ⟨hP2, hD2⟩
        have hS := hS2; clear hP2 hD2 hS2; have hP := hPD.1; have hD := hPD.2; clear hPD
        refine W.widen (k := 0) (n := 0) (Nat.le_of_ble_eq_true rfl) (Nat.le_of_ble_eq_true rfl) ?_
        rcases itK_c (kdN cl_15) (ftp (axx_21)) with qi_31 | qi_31 | qi_31 | qi_31
        · skip
          refine lv_eqi (y := (-1)) (qi_31) ?_
          refine lv_istore (lv' := [(5, .int (-1)), (4, .int 0), (3, .int 0), (2, .int (nI cl_15)), (0, .ref Rd), (1, .int zf)]) hx hb dX4_readClause_69 hl (by decide) rfl (fun ls hl => ?_)
          refine lv_iload hx hb dX4_readClause_71 (lv_at hl 0 rfl) ?_
          refine lv_iconst (v := (-1)) hx hb dX4_readClause_73 (by decide) ?_
          refine lv_icmp_eq (tgt := 86) hx hb dX4_readClause_74 (by decide) (fun _ => ?_) (fun cb => absurd (by decide) cb)
          refine lv_aload_n hx hb dX4_readClause_86 rfl (lv_at hl 4 rfl) ?_
          refine lv_aload_n hx hb dX4_readClause_87 rfl (lv_at hl 4 rfl) ?_
          refine va_get (D := D) (ci := 4) (v := .int (nI axx_21)) (C := RX4) (T := TX4) (N := 7) hx hb hts iX4 hown hK hP 1 rfl rfl 2 (by decide) f28 (fun _ h9 => h9) rfl dX4_readClause_88 ?_
          refine va_put (D := D) (ci := 4) (v := .int (nI axx_21)) (ty := .int) (C := RX4) (T := TX4) (N := 7) hx hb hts iX4 tyX4 tyX4_ok nmX4 hown hK hP hD hS 1 rfl rfl 3 (by decide) f31 (fun _ h9 => h9) rfl (by decide +kernel) (rfl) (rfl) (Nat.le_of_ble_eq_true rfl) dX4_readClause_91 (fun H locs hP2 hD2 hS2 => ?_)
          clear hP hD hS
          have hPD : PD D A [(Rv, .inl (g 0, 21, .inl fval)), (Rd, .inr (4, [.ref Tp, .int (nI ln), .int (nI axx_21), .int (nI axx_21), .int (nI htx_4), .int (nI ctx_5), .ref Rv])), (Tp, .inl (g 0, 160, .inl ftp))] H := ⟨hP2, hD2⟩
          have hS := hS2; clear hP2 hD2 hS2; have hP := hPD.1; have hD := hPD.2; clear hPD
          have hPD9 : PD D A [(Rd, .inr (4, [.ref Tp, .int (nI ln), .int (nI axx_21), .int (nI axx_21), .int (nI htx_4), .int (nI ctx_5), .ref Rv])), (Tp, .inl (g 0, 160, .inl ftp)), (Rv, .inl (g 0, 21, .inl fval))] H := ⟨hP.sub [1, 2, 0] rfl, hD.sub [1, 2, 0] (by decide) rfl⟩
          have hP9 := hPD9.1; have hD9 := hPD9.2
          subst hQ
          refine W.widen (k := 0) (n := 0) (Nat.le_of_ble_eq_true rfl) (Nat.le_of_ble_eq_true rfl) ?_
          exact W.vret hx hb hr (fun tS htS _ => ⟨⟨_, rfl, ⟨axx_21, (nI axx_21), htx_4, ctx_5, fval, rfl, ⟨(show axx_21 ≤ ln by omega), (show htx_4 ≤ 3 by omega), (show ctx_5 ≤ 3 by omega), (h4), (cl_bad hf_7.2.2.2.1.symm (show cl_15 < 7 by omega) (hR_19.trans (itR_no (f := 3) hf_23 qi_31)) (show axx_21 < ln by omega) cb_28).1, (cl_bad hf_7.2.2.2.1.symm (show cl_15 < 7 by omega) (hR_19.trans (itR_no (f := 3) hf_23 qi_31)) (show axx_21 < ln by omega) cb_28).2, (fun q => absurd q (m1_ne (show axx_21 < 2 ^ 31 by omega)))⟩⟩, by rw [htS]; exact hP9, hD9⟩, hS.F htS⟩) hS.2.2 dX4_readClause_94
        · skip
          refine lv_eqi (y := 0) (qi_31) ?_
          refine lv_istore (lv' := [(5, .int 0), (4, .int 0), (3, .int 0), (2, .int (nI cl_15)), (0, .ref Rd), (1, .int zf)]) hx hb dX4_readClause_69 hl (by decide) rfl (fun ls hl => ?_)
          refine lv_iload hx hb dX4_readClause_71 (lv_at hl 0 rfl) ?_
          refine lv_iconst (v := (-1)) hx hb dX4_readClause_73 (by decide) ?_
          refine lv_icmp_eq (tgt := 86) hx hb dX4_readClause_74 (by decide) (fun cb => absurd cb (by decide)) (fun _ => ?_)
          refine lv_iload_n hx hb dX4_readClause_77 rfl (lv_at hl 2 rfl) ?_
          refine lv_iconst (v := 1) hx hb dX4_readClause_78 (by decide) ?_
          refine lv_iload hx hb dX4_readClause_79 (lv_at hl 0 rfl) ?_
          refine lv_ishl hx hb dX4_readClause_81 ?_
          refine lv_eqi (y := 1) (by decide) ?_
          refine lv_iand hx hb dX4_readClause_82 ?_
          refine lv_eqi (y := 0) (by decide) ?_
          refine lv_if_eq (tgt := 95) hx hb dX4_readClause_83 (by decide) (fun _ => ?_) (fun cb => absurd (by decide) cb)
          refine lv_iload_n hx hb dX4_readClause_95 rfl (lv_at hl 2 rfl) ?_
          refine lv_iconst (v := 1) hx hb dX4_readClause_96 (by decide) ?_
          refine lv_iload hx hb dX4_readClause_97 (lv_at hl 0 rfl) ?_
          refine lv_ishl hx hb dX4_readClause_99 ?_
          refine lv_eqi (y := 1) (by decide) ?_
          refine lv_ior hx hb dX4_readClause_100 ?_
          refine lv_eqi (y := 1) (by decide) ?_
          refine lv_istore_n (lv' := [(3, .int 1), (5, .int 0), (4, .int 0), (2, .int (nI cl_15)), (0, .ref Rd), (1, .int zf)]) hx hb dX4_readClause_101 rfl hl (by decide) rfl (fun ls hl => ?_)
          refine lv_aload_n hx hb dX4_readClause_102 rfl (lv_at hl 4 rfl) ?_
          refine lv_dup hx hb dX4_readClause_103 rfl ?_
          refine va_get (D := D) (ci := 4) (v := .int (nI axx_21)) (C := RX4) (T := TX4) (N := 7) hx hb hts iX4 hown hK hP 1 rfl rfl 2 (by decide) f28 (fun _ h9 => h9) rfl dX4_readClause_104 ?_
          refine lv_iconst (v := 1) hx hb dX4_readClause_107 (by decide) ?_
          refine lv_iadd hx hb dX4_readClause_108 ?_
          refine lv_eqi (y := (nI (axx_21 + 1))) (nI_add (axx_21) (1)) ?_
          refine va_put (D := D) (ci := 4) (v := .int (nI (axx_21 + 1))) (ty := .int) (C := RX4) (T := TX4) (N := 7) hx hb hts iX4 tyX4 tyX4_ok nmX4 hown hK hP hD hS 1 rfl rfl 2 (by decide) f28 (fun _ h9 => h9) rfl (by decide +kernel) (rfl) (rfl) (Nat.le_of_ble_eq_true rfl) dX4_readClause_109 (fun H locs hP2 hD2 hS2 => ?_)
          clear hP hD hS
          have hPD : PD D A [(Rv, .inl (g 0, 21, .inl fval)), (Rd, .inr (4, [.ref Tp, .int (nI ln), .int (nI (axx_21 + 1)), .int (-1), .int (nI htx_4), .int (nI ctx_5), .ref Rv])), (Tp, .inl (g 0, 160, .inl ftp))] H := ⟨hP2, hD2⟩
          have hS := hS2; clear hP2 hD2 hS2; have hP := hPD.1; have hD := hPD.2; clear hPD
          refine lv_aload_n hx hb dX4_readClause_112 rfl (lv_at hl 4 rfl) ?_
          refine lv_iload_n hx hb dX4_readClause_113 rfl (lv_at hl 3 rfl) ?_
          refine lv_iload hx hb dX4_readClause_114 (lv_at hl 1 rfl) ?_
          refine ky_Vv (As := [.int (nI cl_15), .int 0]) (rest := []) ⟨hx, hb, hml, hown, hts⟩ ⟨hK, hN⟩ hZ hP hD hS hA [1, 2, 0] [] (wc := [(Rd, .inr (4, [.ref Tp, .int (nI ln), .int (nI (axx_21 + 1)), .int (-1), .int (nI htx_4), .int (nI ctx_5), .ref Rv])), (Tp, .inl (g 0, 160, .inl ftp)), (Rv, .inl (g 0, 21, .inl fval))]) (wr := []) rfl rfl rfl rfl (by decide) (r_X4_readNumber l D g H.size Rd cl_15 0 Tp ln (axx_21 + 1) htx_4 ctx_5 Rv ftp fval (show ln ≤ 160 by omega) (show (axx_21 + 1) ≤ ln by omega) (h4) (show cl_15 < 7 by omega) (show 0 < 3 by omega)) (cwV 2 hts gX4_readClause_X4_readNumber rfl rfl rfl (by decide +kernel) ⟨(Nat.le_of_ble_eq_true rfl), (Nat.le_of_ble_eq_true rfl)⟩) 1 4 rfl rfl rfl rfl hl.1 rfl (Nat.le_of_ble_eq_true rfl) dX4_readClause_116 ⟨(Nat.le_of_ble_eq_true rfl), (Nat.le_of_ble_eq_true rfl)⟩ (fun u H locs hw hP2 hD2 hS2 => ?_)
          clear hP hD hS
          obtain ⟨axx_33, zfax_34, fvalx_35, rfl, hf_36, hf_37, hf_38, hf_39⟩ := hw
          have hPD : PD D A [(Rd, .inr (4, [.ref Tp, .int (nI ln), .int (nI axx_33), .int zfax_34, .int (nI htx_4), .int (nI ctx_5), .ref Rv])), (Tp, .inl (g 0, 160, .inl ftp)), (Rv, .inl (g 0, 21, .inl fvalx_35))] H := ⟨hP2, hD2⟩
          have hS := hS2; clear hP2 hD2 hS2; have hP := hPD.1; have hD := hPD.2; clear hPD
          refine W.widen (k := 0) (n := 0) (Nat.le_of_ble_eq_true rfl) (Nat.le_of_ble_eq_true rfl) ?_
          refine lv_aload_n hx hb dX4_readClause_119 rfl (lv_at hl 4 rfl) ?_
          refine va_get (D := D) (ci := 4) (v := .int zfax_34) (C := RX4) (T := TX4) (N := 7) hx hb hts iX4 hown hK hP 0 rfl rfl 3 (by decide) f31 (fun _ h9 => h9) rfl dX4_readClause_120 ?_
          refine lv_iconst (v := (-1)) hx hb dX4_readClause_123 (by decide) ?_
          refine lv_icmp_eq (tgt := 128) hx hb dX4_readClause_124 (by decide) (fun cb_40 => ?_) (fun cb_40 => ?_)
          · skip
            have hPq_41 := hP; have hDq_41 := hD; have hSq_41 := hS; have hlq_41 := hl; clear hP hD hS hl
            subst cb_40
            have hP := hPq_41; have hD := hDq_41; have hS := hSq_41; have hl := hlq_41; clear hPq_41 hDq_41 hSq_41 hlq_41
            have hne_43 := (hf_39 rfl).1
            have hne_43g := nmE_gt (T := ftp) (n := ln) (i := axx_21 + 1) (by omega)
            have hR_42 : itR ftp ln (kdN cl_15) 4 0 (sB ftp ln ax + 1) = itR ftp ln (kdN cl_15) 3 1 axx_33 := hR_19.trans ((itR_go (f := 3) (m := 0) (q := 0) hf_23 (show axx_21 < ln by omega) qi_31 (by decide) (by decide) hf_38.symm).trans (by rw [hne_43]))
            refine lv_iinc (v := 1) (lv' := [(4, .int 1), (3, .int 1), (5, .int 0), (2, .int (nI cl_15)), (0, .ref Rd), (1, .int zf)]) hx hb dX4_readClause_128 hl (k := 2) rfl (by decide) (by decide) rfl (fun ls hl => ?_)
            refine lv_goto (tgt := 17) hx hb dX4_readClause_131 (by decide) ?_
            refine lv_iload hx hb dX4_readClause_17 (lv_at hl 0 rfl) ?_
            refine lv_iconst (v := 3) hx hb dX4_readClause_19 (by decide) ?_
            refine lv_icmp_gt (tgt := 134) hx hb dX4_readClause_20 (by decide) (fun cb => absurd cb (by decide)) (fun _ => ?_)
            refine lv_aload_n hx hb dX4_readClause_23 rfl (lv_at hl 4 rfl) ?_
            refine ky_Vv (As := []) (rest := []) ⟨hx, hb, hml, hown, hts⟩ ⟨hK, hN⟩ hZ hP hD hS hA [0, 1] [2] (wc := [(Rd, .inr (4, [.ref Tp, .int (nI ln), .int (nI axx_33), .int (-1), .int (nI htx_4), .int (nI ctx_5), .ref Rv])), (Tp, .inl (g 0, 160, .inl ftp))]) (wr := [(Rv, .inl (g 0, 21, .inl fvalx_35))]) rfl rfl rfl rfl (by decide) (r_X4_passBlanks l D g H.size Rd Tp ln axx_33 (-1) htx_4 ctx_5 Rv ftp (show ln ≤ 160 by omega) (show axx_33 ≤ ln by omega)) (cwV 0 hts gX4_readClause_X4_passBlanks rfl rfl rfl (by decide +kernel) ⟨(Nat.le_of_ble_eq_true rfl), (Nat.le_of_ble_eq_true rfl)⟩) 0 4 rfl rfl rfl rfl hl.1 rfl (Nat.le_of_ble_eq_true rfl) dX4_readClause_24 ⟨(Nat.le_of_ble_eq_true rfl), (Nat.le_of_ble_eq_true rfl)⟩ (fun u H locs hw hP2 hD2 hS2 => ?_)
            clear hP hD hS
            obtain ⟨axx_45, rfl, hf_46, hf_47⟩ := hw
            have hPD : PD D A [(Rv, .inl (g 0, 21, .inl fvalx_35)), (Rd, .inr (4, [.ref Tp, .int (nI ln), .int (nI axx_45), .int (-1), .int (nI htx_4), .int (nI ctx_5), .ref Rv])), (Tp, .inl (g 0, 160, .inl ftp))] H := ⟨hP2, hD2⟩
            have hS := hS2; clear hP2 hD2 hS2; have hP := hPD.1; have hD := hPD.2; clear hPD
            refine W.widen (k := 0) (n := 0) (Nat.le_of_ble_eq_true rfl) (Nat.le_of_ble_eq_true rfl) ?_
            have hge_48 := sB_ge (T := ftp) (n := ln) (i := axx_33) (by omega)
            refine lv_aload_n hx hb dX4_readClause_27 rfl (lv_at hl 4 rfl) ?_
            refine va_get (D := D) (ci := 4) (v := .int (nI axx_45)) (C := RX4) (T := TX4) (N := 7) hx hb hts iX4 hown hK hP 1 rfl rfl 2 (by decide) f28 (fun _ h9 => h9) rfl dX4_readClause_28 ?_
            refine lv_aload_n hx hb dX4_readClause_31 rfl (lv_at hl 4 rfl) ?_
            refine va_get (D := D) (ci := 4) (v := .int (nI ln)) (C := RX4) (T := TX4) (N := 7) hx hb hts iX4 hown hK hP 1 rfl rfl 1 (by decide) f24 (fun _ h9 => h9) rfl dX4_readClause_32 ?_
            refine lv_icmp_ge (tgt := 52) hx hb dX4_readClause_35 (by decide) (fun cb_49 => ?_) (fun cb_49 => ?_)
            · skip
              have cn_50 : ln ≤ axx_45 := (nI_leI (show ln < 2 ^ 31 by omega) (show axx_45 < 2 ^ 31 by omega)).mp cb_49
              have hPD9 : PD D A [(Rd, .inr (4, [.ref Tp, .int (nI ln), .int (nI axx_45), .int (-1), .int (nI htx_4), .int (nI ctx_5), .ref Rv])), (Tp, .inl (g 0, 160, .inl ftp)), (Rv, .inl (g 0, 21, .inl fvalx_35))] H := ⟨hP.sub [1, 2, 0] rfl, hD.sub [1, 2, 0] (by decide) rfl⟩
              have hP9 := hPD9.1; have hD9 := hPD9.2
              subst hQ
              refine W.widen (k := 0) (n := 0) (Nat.le_of_ble_eq_true rfl) (Nat.le_of_ble_eq_true rfl) ?_
              exact W.vret hx hb hr (fun tS htS _ => ⟨⟨_, rfl, ⟨axx_45, (-1), htx_4, ctx_5, fvalx_35, rfl, ⟨(show axx_45 ≤ ln by omega), (show htx_4 ≤ 3 by omega), (show ctx_5 ≤ 3 by omega), (hf_37), (cl_end hf_7.2.2.2.1.symm (show cl_15 < 7 by omega) (hR_42.trans (itR_end (f := 2) hf_47 (show ¬ axx_45 < ln by omega))) (fun q => absurd q.1 (show ¬ axx_45 < ln by omega))).1, (cl_end hf_7.2.2.2.1.symm (show cl_15 < 7 by omega) (hR_42.trans (itR_end (f := 2) hf_47 (show ¬ axx_45 < ln by omega))) (fun q => absurd q.1 (show ¬ axx_45 < ln by omega))).2.1, (fun _ => ⟨(cl_end hf_7.2.2.2.1.symm (show cl_15 < 7 by omega) (hR_42.trans (itR_end (f := 2) hf_47 (show ¬ axx_45 < ln by omega))) (fun q => absurd q.1 (show ¬ axx_45 < ln by omega))).2.2, show ax < axx_45 by omega⟩)⟩⟩, by rw [htS]; exact hP9, hD9⟩, hS.F htS⟩) hS.2.2 dX4_readClause_52
            · skip
              have cn_51 : axx_45 < ln := Nat.lt_of_not_le (fun q9 => cb_49 ((nI_leI (show ln < 2 ^ 31 by omega) (show axx_45 < 2 ^ 31 by omega)).mpr q9))
              refine lv_aload_n hx hb dX4_readClause_38 rfl (lv_at hl 4 rfl) ?_
              refine va_get (D := D) (ci := 4) (v := .ref Tp) (C := RX4) (T := TX4) (N := 7) hx hb hts iX4 hown hK hP 1 rfl rfl 0 (by decide) f9 (fun _ h9 => h9) rfl dX4_readClause_39 ?_
              refine lv_aload_n hx hb dX4_readClause_42 rfl (lv_at hl 4 rfl) ?_
              refine va_get (D := D) (ci := 4) (v := .int (nI axx_45)) (C := RX4) (T := TX4) (N := 7) hx hb hts iX4 hown hK hP 1 rfl rfl 2 (by decide) f28 (fun _ h9 => h9) rfl dX4_readClause_43 ?_
              refine va_iald hx hb hK hP 2 0 rfl rfl (vp_in_nI (show axx_45 < 160 by omega) (by decide)) dX4_readClause_46 ?_
              refine lv_eqi (y := (ftp (axx_45))) (congrArg ftp (nI_clamp (show axx_45 < 2 ^ 31 by omega))) ?_
              refine lv_bipush (v := 59) hx hb dX4_readClause_47 (by decide) ?_
              refine lv_icmp_ne (tgt := 53) hx hb dX4_readClause_49 (by decide) (fun cb_52 => ?_) (fun cb_52 => ?_)
              · skip
                refine lv_iload_n hx hb dX4_readClause_53 rfl (lv_at hl 3 rfl) ?_
                refine ky_Si (As := [.int (nI cl_15)]) (rest := []) ⟨hx, hb, hml, hown, hts⟩ ⟨hK, hN⟩ hZ hP hD hS hA [] [0, 1, 2] (wc := []) (wr := [(Rv, .inl (g 0, 21, .inl fvalx_35)), (Rd, .inr (4, [.ref Tp, .int (nI ln), .int (nI axx_45), .int (-1), .int (nI htx_4), .int (nI ctx_5), .ref Rv])), (Tp, .inl (g 0, 160, .inl ftp))]) rfl rfl rfl rfl (by decide) (r_X4_kindOf l D g H.size cl_15 (show cl_15 < 7 by omega)) (va_cwS 1 hts gX4_readClause_X4_kindOf rfl rfl rfl (by decide +kernel) ⟨(Nat.le_of_ble_eq_true rfl), (Nat.le_of_ble_eq_true rfl)⟩) rfl hl.1 rfl (Nat.le_of_ble_eq_true rfl) dX4_readClause_54 ⟨(Nat.le_of_ble_eq_true rfl), (Nat.le_of_ble_eq_true rfl)⟩ (fun r_53 u H locs hw hP2 hD2 hS2 => ?_)
                clear hP hD hS
                obtain ⟨rfl, rfl⟩ := hw
                have hPD : PD D A [(Rv, .inl (g 0, 21, .inl fvalx_35)), (Rd, .inr (4, [.ref Tp, .int (nI ln), .int (nI axx_45), .int (-1), .int (nI htx_4), .int (nI ctx_5), .ref Rv])), (Tp, .inl (g 0, 160, .inl ftp))] H := ⟨hP2, hD2⟩
                have hS := hS2; clear hP2 hD2 hS2; have hP := hPD.1; have hD := hPD.2; clear hPD
                refine W.widen (k := 0) (n := 0) (Nat.le_of_ble_eq_true rfl) (Nat.le_of_ble_eq_true rfl) ?_
                refine lv_aload_n hx hb dX4_readClause_57 rfl (lv_at hl 4 rfl) ?_
                refine va_get (D := D) (ci := 4) (v := .ref Tp) (C := RX4) (T := TX4) (N := 7) hx hb hts iX4 hown hK hP 1 rfl rfl 0 (by decide) f9 (fun _ h9 => h9) rfl dX4_readClause_58 ?_
                refine lv_aload_n hx hb dX4_readClause_61 rfl (lv_at hl 4 rfl) ?_
                refine va_get (D := D) (ci := 4) (v := .int (nI axx_45)) (C := RX4) (T := TX4) (N := 7) hx hb hts iX4 hown hK hP 1 rfl rfl 2 (by decide) f28 (fun _ h9 => h9) rfl dX4_readClause_62 ?_
                refine va_iald hx hb hK hP 2 0 rfl rfl (vp_in_nI (show axx_45 < 160 by omega) (by decide)) dX4_readClause_65 ?_
                refine lv_eqi (y := (ftp (axx_45))) (congrArg ftp (nI_clamp (show axx_45 < 2 ^ 31 by omega))) ?_
                refine ky_Si (As := [.int (nI (kdN cl_15)), .int (ftp (axx_45))]) (rest := []) ⟨hx, hb, hml, hown, hts⟩ ⟨hK, hN⟩ hZ hP hD hS hA [] [0, 1, 2] (wc := []) (wr := [(Rv, .inl (g 0, 21, .inl fvalx_35)), (Rd, .inr (4, [.ref Tp, .int (nI ln), .int (nI axx_45), .int (-1), .int (nI htx_4), .int (nI ctx_5), .ref Rv])), (Tp, .inl (g 0, 160, .inl ftp))]) rfl rfl rfl rfl (by decide) (r_X4_itemOf l D g H.size (kdN cl_15) (ftp (axx_45)) (show (kdN cl_15) < 3 by omega)) (va_cwS 2 hts gX4_readClause_X4_itemOf rfl rfl rfl (by decide +kernel) ⟨(Nat.le_of_ble_eq_true rfl), (Nat.le_of_ble_eq_true rfl)⟩) rfl hl.1 rfl (Nat.le_of_ble_eq_true rfl) dX4_readClause_66 ⟨(Nat.le_of_ble_eq_true rfl), (Nat.le_of_ble_eq_true rfl)⟩ (fun r_54 u H locs hw hP2 hD2 hS2 => ?_)
                clear hP hD hS
                obtain ⟨rfl, rfl⟩ := hw
                have hPD : PD D A [(Rv, .inl (g 0, 21, .inl fvalx_35)), (Rd, .inr (4, [.ref Tp, .int (nI ln), .int (nI axx_45), .int (-1), .int (nI htx_4), .int (nI ctx_5), .ref Rv])), (Tp, .inl (g 0, 160, .inl ftp))] H := ⟨hP2, hD2⟩
                have hS := hS2; clear hP2 hD2 hS2; have hP := hPD.1; have hD := hPD.2; clear hPD
                refine W.widen (k := 0) (n := 0) (Nat.le_of_ble_eq_true rfl) (Nat.le_of_ble_eq_true rfl) ?_
                rcases itK_c (kdN cl_15) (ftp (axx_45)) with qi_55 | qi_55 | qi_55 | qi_55
                · skip
                  refine lv_eqi (y := (-1)) (qi_55) ?_
                  refine lv_istore (lv' := [(5, .int (-1)), (4, .int 1), (3, .int 1), (2, .int (nI cl_15)), (0, .ref Rd), (1, .int zf)]) hx hb dX4_readClause_69 hl (by decide) rfl (fun ls hl => ?_)
                  refine lv_iload hx hb dX4_readClause_71 (lv_at hl 0 rfl) ?_
                  refine lv_iconst (v := (-1)) hx hb dX4_readClause_73 (by decide) ?_
                  refine lv_icmp_eq (tgt := 86) hx hb dX4_readClause_74 (by decide) (fun _ => ?_) (fun cb => absurd (by decide) cb)
                  refine lv_aload_n hx hb dX4_readClause_86 rfl (lv_at hl 4 rfl) ?_
                  refine lv_aload_n hx hb dX4_readClause_87 rfl (lv_at hl 4 rfl) ?_
                  refine va_get (D := D) (ci := 4) (v := .int (nI axx_45)) (C := RX4) (T := TX4) (N := 7) hx hb hts iX4 hown hK hP 1 rfl rfl 2 (by decide) f28 (fun _ h9 => h9) rfl dX4_readClause_88 ?_
                  refine va_put (D := D) (ci := 4) (v := .int (nI axx_45)) (ty := .int) (C := RX4) (T := TX4) (N := 7) hx hb hts iX4 tyX4 tyX4_ok nmX4 hown hK hP hD hS 1 rfl rfl 3 (by decide) f31 (fun _ h9 => h9) rfl (by decide +kernel) (rfl) (rfl) (Nat.le_of_ble_eq_true rfl) dX4_readClause_91 (fun H locs hP2 hD2 hS2 => ?_)
                  clear hP hD hS
                  have hPD : PD D A [(Rv, .inl (g 0, 21, .inl fvalx_35)), (Rd, .inr (4, [.ref Tp, .int (nI ln), .int (nI axx_45), .int (nI axx_45), .int (nI htx_4), .int (nI ctx_5), .ref Rv])), (Tp, .inl (g 0, 160, .inl ftp))] H := ⟨hP2, hD2⟩
                  have hS := hS2; clear hP2 hD2 hS2; have hP := hPD.1; have hD := hPD.2; clear hPD
                  have hPD9 : PD D A [(Rd, .inr (4, [.ref Tp, .int (nI ln), .int (nI axx_45), .int (nI axx_45), .int (nI htx_4), .int (nI ctx_5), .ref Rv])), (Tp, .inl (g 0, 160, .inl ftp)), (Rv, .inl (g 0, 21, .inl fvalx_35))] H := ⟨hP.sub [1, 2, 0] rfl, hD.sub [1, 2, 0] (by decide) rfl⟩
                  have hP9 := hPD9.1; have hD9 := hPD9.2
                  subst hQ
                  refine W.widen (k := 0) (n := 0) (Nat.le_of_ble_eq_true rfl) (Nat.le_of_ble_eq_true rfl) ?_
                  exact W.vret hx hb hr (fun tS htS _ => ⟨⟨_, rfl, ⟨axx_45, (nI axx_45), htx_4, ctx_5, fvalx_35, rfl, ⟨(show axx_45 ≤ ln by omega), (show htx_4 ≤ 3 by omega), (show ctx_5 ≤ 3 by omega), (hf_37), (cl_bad hf_7.2.2.2.1.symm (show cl_15 < 7 by omega) (hR_42.trans (itR_no (f := 2) hf_47 qi_55)) (show axx_45 < ln by omega) cb_52).1, (cl_bad hf_7.2.2.2.1.symm (show cl_15 < 7 by omega) (hR_42.trans (itR_no (f := 2) hf_47 qi_55)) (show axx_45 < ln by omega) cb_52).2, (fun q => absurd q (m1_ne (show axx_45 < 2 ^ 31 by omega)))⟩⟩, by rw [htS]; exact hP9, hD9⟩, hS.F htS⟩) hS.2.2 dX4_readClause_94
                · skip
                  refine lv_eqi (y := 0) (qi_55) ?_
                  refine lv_istore (lv' := [(5, .int 0), (4, .int 1), (3, .int 1), (2, .int (nI cl_15)), (0, .ref Rd), (1, .int zf)]) hx hb dX4_readClause_69 hl (by decide) rfl (fun ls hl => ?_)
                  refine lv_iload hx hb dX4_readClause_71 (lv_at hl 0 rfl) ?_
                  refine lv_iconst (v := (-1)) hx hb dX4_readClause_73 (by decide) ?_
                  refine lv_icmp_eq (tgt := 86) hx hb dX4_readClause_74 (by decide) (fun cb => absurd cb (by decide)) (fun _ => ?_)
                  refine lv_iload_n hx hb dX4_readClause_77 rfl (lv_at hl 2 rfl) ?_
                  refine lv_iconst (v := 1) hx hb dX4_readClause_78 (by decide) ?_
                  refine lv_iload hx hb dX4_readClause_79 (lv_at hl 0 rfl) ?_
                  refine lv_ishl hx hb dX4_readClause_81 ?_
                  refine lv_eqi (y := 1) (by decide) ?_
                  refine lv_iand hx hb dX4_readClause_82 ?_
                  refine lv_eqi (y := 1) (by decide) ?_
                  refine lv_if_eq (tgt := 95) hx hb dX4_readClause_83 (by decide) (fun cb => absurd cb (by decide)) (fun _ => ?_)
                  refine lv_aload_n hx hb dX4_readClause_86 rfl (lv_at hl 4 rfl) ?_
                  refine lv_aload_n hx hb dX4_readClause_87 rfl (lv_at hl 4 rfl) ?_
                  refine va_get (D := D) (ci := 4) (v := .int (nI axx_45)) (C := RX4) (T := TX4) (N := 7) hx hb hts iX4 hown hK hP 1 rfl rfl 2 (by decide) f28 (fun _ h9 => h9) rfl dX4_readClause_88 ?_
                  refine va_put (D := D) (ci := 4) (v := .int (nI axx_45)) (ty := .int) (C := RX4) (T := TX4) (N := 7) hx hb hts iX4 tyX4 tyX4_ok nmX4 hown hK hP hD hS 1 rfl rfl 3 (by decide) f31 (fun _ h9 => h9) rfl (by decide +kernel) (rfl) (rfl) (Nat.le_of_ble_eq_true rfl) dX4_readClause_91 (fun H locs hP2 hD2 hS2 => ?_)
                  clear hP hD hS
                  have hPD : PD D A [(Rv, .inl (g 0, 21, .inl fvalx_35)), (Rd, .inr (4, [.ref Tp, .int (nI ln), .int (nI axx_45), .int (nI axx_45), .int (nI htx_4), .int (nI ctx_5), .ref Rv])), (Tp, .inl (g 0, 160, .inl ftp))] H := ⟨hP2, hD2⟩
                  have hS := hS2; clear hP2 hD2 hS2; have hP := hPD.1; have hD := hPD.2; clear hPD
                  have hPD9 : PD D A [(Rd, .inr (4, [.ref Tp, .int (nI ln), .int (nI axx_45), .int (nI axx_45), .int (nI htx_4), .int (nI ctx_5), .ref Rv])), (Tp, .inl (g 0, 160, .inl ftp)), (Rv, .inl (g 0, 21, .inl fvalx_35))] H := ⟨hP.sub [1, 2, 0] rfl, hD.sub [1, 2, 0] (by decide) rfl⟩
                  have hP9 := hPD9.1; have hD9 := hPD9.2
                  subst hQ
                  refine W.widen (k := 0) (n := 0) (Nat.le_of_ble_eq_true rfl) (Nat.le_of_ble_eq_true rfl) ?_
                  exact W.vret hx hb hr (fun tS htS _ => ⟨⟨_, rfl, ⟨axx_45, (nI axx_45), htx_4, ctx_5, fvalx_35, rfl, ⟨(show axx_45 ≤ ln by omega), (show htx_4 ≤ 3 by omega), (show ctx_5 ≤ 3 by omega), (hf_37), (cl_bad hf_7.2.2.2.1.symm (show cl_15 < 7 by omega) (hR_42.trans (itR_again (f := 2) (q := 0) hf_47 qi_55 (by decide) (by decide))) (show axx_45 < ln by omega) cb_52).1, (cl_bad hf_7.2.2.2.1.symm (show cl_15 < 7 by omega) (hR_42.trans (itR_again (f := 2) (q := 0) hf_47 qi_55 (by decide) (by decide))) (show axx_45 < ln by omega) cb_52).2, (fun q => absurd q (m1_ne (show axx_45 < 2 ^ 31 by omega)))⟩⟩, by rw [htS]; exact hP9, hD9⟩, hS.F htS⟩) hS.2.2 dX4_readClause_94
                · skip
                  refine lv_eqi (y := 1) (qi_55) ?_
                  refine lv_istore (lv' := [(5, .int 1), (4, .int 1), (3, .int 1), (2, .int (nI cl_15)), (0, .ref Rd), (1, .int zf)]) hx hb dX4_readClause_69 hl (by decide) rfl (fun ls hl => ?_)
                  refine lv_iload hx hb dX4_readClause_71 (lv_at hl 0 rfl) ?_
                  refine lv_iconst (v := (-1)) hx hb dX4_readClause_73 (by decide) ?_
                  refine lv_icmp_eq (tgt := 86) hx hb dX4_readClause_74 (by decide) (fun cb => absurd cb (by decide)) (fun _ => ?_)
                  refine lv_iload_n hx hb dX4_readClause_77 rfl (lv_at hl 2 rfl) ?_
                  refine lv_iconst (v := 1) hx hb dX4_readClause_78 (by decide) ?_
                  refine lv_iload hx hb dX4_readClause_79 (lv_at hl 0 rfl) ?_
                  refine lv_ishl hx hb dX4_readClause_81 ?_
                  refine lv_eqi (y := 2) (by decide) ?_
                  refine lv_iand hx hb dX4_readClause_82 ?_
                  refine lv_eqi (y := 0) (by decide) ?_
                  refine lv_if_eq (tgt := 95) hx hb dX4_readClause_83 (by decide) (fun _ => ?_) (fun cb => absurd (by decide) cb)
                  refine lv_iload_n hx hb dX4_readClause_95 rfl (lv_at hl 2 rfl) ?_
                  refine lv_iconst (v := 1) hx hb dX4_readClause_96 (by decide) ?_
                  refine lv_iload hx hb dX4_readClause_97 (lv_at hl 0 rfl) ?_
                  refine lv_ishl hx hb dX4_readClause_99 ?_
                  refine lv_eqi (y := 2) (by decide) ?_
                  refine lv_ior hx hb dX4_readClause_100 ?_
                  refine lv_eqi (y := 3) (by decide) ?_
                  refine lv_istore_n (lv' := [(3, .int 3), (5, .int 1), (4, .int 1), (2, .int (nI cl_15)), (0, .ref Rd), (1, .int zf)]) hx hb dX4_readClause_101 rfl hl (by decide) rfl (fun ls hl => ?_)
                  refine lv_aload_n hx hb dX4_readClause_102 rfl (lv_at hl 4 rfl) ?_
                  refine lv_dup hx hb dX4_readClause_103 rfl ?_
                  refine va_get (D := D) (ci := 4) (v := .int (nI axx_45)) (C := RX4) (T := TX4) (N := 7) hx hb hts iX4 hown hK hP 1 rfl rfl 2 (by decide) f28 (fun _ h9 => h9) rfl dX4_readClause_104 ?_
                  refine lv_iconst (v := 1) hx hb dX4_readClause_107 (by decide) ?_
                  refine lv_iadd hx hb dX4_readClause_108 ?_
                  refine lv_eqi (y := (nI (axx_45 + 1))) (nI_add (axx_45) (1)) ?_
                  refine va_put (D := D) (ci := 4) (v := .int (nI (axx_45 + 1))) (ty := .int) (C := RX4) (T := TX4) (N := 7) hx hb hts iX4 tyX4 tyX4_ok nmX4 hown hK hP hD hS 1 rfl rfl 2 (by decide) f28 (fun _ h9 => h9) rfl (by decide +kernel) (rfl) (rfl) (Nat.le_of_ble_eq_true rfl) dX4_readClause_109 (fun H locs hP2 hD2 hS2 => ?_)
                  clear hP hD hS
                  have hPD : PD D A [(Rv, .inl (g 0, 21, .inl fvalx_35)), (Rd, .inr (4, [.ref Tp, .int (nI ln), .int (nI (axx_45 + 1)), .int (-1), .int (nI htx_4), .int (nI ctx_5), .ref Rv])), (Tp, .inl (g 0, 160, .inl ftp))] H := ⟨hP2, hD2⟩
                  have hS := hS2; clear hP2 hD2 hS2; have hP := hPD.1; have hD := hPD.2; clear hPD
                  refine lv_aload_n hx hb dX4_readClause_112 rfl (lv_at hl 4 rfl) ?_
                  refine lv_iload_n hx hb dX4_readClause_113 rfl (lv_at hl 3 rfl) ?_
                  refine lv_iload hx hb dX4_readClause_114 (lv_at hl 1 rfl) ?_
                  refine ky_Vv (As := [.int (nI cl_15), .int 1]) (rest := []) ⟨hx, hb, hml, hown, hts⟩ ⟨hK, hN⟩ hZ hP hD hS hA [1, 2, 0] [] (wc := [(Rd, .inr (4, [.ref Tp, .int (nI ln), .int (nI (axx_45 + 1)), .int (-1), .int (nI htx_4), .int (nI ctx_5), .ref Rv])), (Tp, .inl (g 0, 160, .inl ftp)), (Rv, .inl (g 0, 21, .inl fvalx_35))]) (wr := []) rfl rfl rfl rfl (by decide) (r_X4_readNumber l D g H.size Rd cl_15 1 Tp ln (axx_45 + 1) htx_4 ctx_5 Rv ftp fvalx_35 (show ln ≤ 160 by omega) (show (axx_45 + 1) ≤ ln by omega) (hf_37) (show cl_15 < 7 by omega) (show 1 < 3 by omega)) (cwV 2 hts gX4_readClause_X4_readNumber rfl rfl rfl (by decide +kernel) ⟨(Nat.le_of_ble_eq_true rfl), (Nat.le_of_ble_eq_true rfl)⟩) 1 4 rfl rfl rfl rfl hl.1 rfl (Nat.le_of_ble_eq_true rfl) dX4_readClause_116 ⟨(Nat.le_of_ble_eq_true rfl), (Nat.le_of_ble_eq_true rfl)⟩ (fun u H locs hw hP2 hD2 hS2 => ?_)
                  clear hP hD hS
                  obtain ⟨axx_57, zfax_58, fvalx_59, rfl, hf_60, hf_61, hf_62, hf_63⟩ := hw
                  have hPD : PD D A [(Rd, .inr (4, [.ref Tp, .int (nI ln), .int (nI axx_57), .int zfax_58, .int (nI htx_4), .int (nI ctx_5), .ref Rv])), (Tp, .inl (g 0, 160, .inl ftp)), (Rv, .inl (g 0, 21, .inl fvalx_59))] H := ⟨hP2, hD2⟩
                  have hS := hS2; clear hP2 hD2 hS2; have hP := hPD.1; have hD := hPD.2; clear hPD
                  refine W.widen (k := 0) (n := 0) (Nat.le_of_ble_eq_true rfl) (Nat.le_of_ble_eq_true rfl) ?_
                  refine lv_aload_n hx hb dX4_readClause_119 rfl (lv_at hl 4 rfl) ?_
                  refine va_get (D := D) (ci := 4) (v := .int zfax_58) (C := RX4) (T := TX4) (N := 7) hx hb hts iX4 hown hK hP 0 rfl rfl 3 (by decide) f31 (fun _ h9 => h9) rfl dX4_readClause_120 ?_
                  refine lv_iconst (v := (-1)) hx hb dX4_readClause_123 (by decide) ?_
                  refine lv_icmp_eq (tgt := 128) hx hb dX4_readClause_124 (by decide) (fun cb_64 => ?_) (fun cb_64 => ?_)
                  · skip
                    have hPq_65 := hP; have hDq_65 := hD; have hSq_65 := hS; have hlq_65 := hl; clear hP hD hS hl
                    subst cb_64
                    have hP := hPq_65; have hD := hDq_65; have hS := hSq_65; have hl := hlq_65; clear hPq_65 hDq_65 hSq_65 hlq_65
                    have hne_67 := (hf_63 rfl).1
                    have hne_67g := nmE_gt (T := ftp) (n := ln) (i := axx_45 + 1) (by omega)
                    have hR_66 : itR ftp ln (kdN cl_15) 4 0 (sB ftp ln ax + 1) = itR ftp ln (kdN cl_15) 2 3 axx_57 := hR_42.trans ((itR_go (f := 2) (m := 1) (q := 1) hf_47 (show axx_45 < ln by omega) qi_55 (by decide) (by decide) hf_62.symm).trans (by rw [hne_67]))
                    refine lv_iinc (v := 2) (lv' := [(4, .int 2), (3, .int 3), (5, .int 1), (2, .int (nI cl_15)), (0, .ref Rd), (1, .int zf)]) hx hb dX4_readClause_128 hl (k := 2) rfl (by decide) (by decide) rfl (fun ls hl => ?_)
                    refine lv_goto (tgt := 17) hx hb dX4_readClause_131 (by decide) ?_
                    refine lv_iload hx hb dX4_readClause_17 (lv_at hl 0 rfl) ?_
                    refine lv_iconst (v := 3) hx hb dX4_readClause_19 (by decide) ?_
                    refine lv_icmp_gt (tgt := 134) hx hb dX4_readClause_20 (by decide) (fun cb => absurd cb (by decide)) (fun _ => ?_)
                    refine lv_aload_n hx hb dX4_readClause_23 rfl (lv_at hl 4 rfl) ?_
                    refine ky_Vv (As := []) (rest := []) ⟨hx, hb, hml, hown, hts⟩ ⟨hK, hN⟩ hZ hP hD hS hA [0, 1] [2] (wc := [(Rd, .inr (4, [.ref Tp, .int (nI ln), .int (nI axx_57), .int (-1), .int (nI htx_4), .int (nI ctx_5), .ref Rv])), (Tp, .inl (g 0, 160, .inl ftp))]) (wr := [(Rv, .inl (g 0, 21, .inl fvalx_59))]) rfl rfl rfl rfl (by decide) (r_X4_passBlanks l D g H.size Rd Tp ln axx_57 (-1) htx_4 ctx_5 Rv ftp (show ln ≤ 160 by omega) (show axx_57 ≤ ln by omega)) (cwV 0 hts gX4_readClause_X4_passBlanks rfl rfl rfl (by decide +kernel) ⟨(Nat.le_of_ble_eq_true rfl), (Nat.le_of_ble_eq_true rfl)⟩) 0 4 rfl rfl rfl rfl hl.1 rfl (Nat.le_of_ble_eq_true rfl) dX4_readClause_24 ⟨(Nat.le_of_ble_eq_true rfl), (Nat.le_of_ble_eq_true rfl)⟩ (fun u H locs hw hP2 hD2 hS2 => ?_)
                    clear hP hD hS
                    obtain ⟨axx_69, rfl, hf_70, hf_71⟩ := hw
                    have hPD : PD D A [(Rv, .inl (g 0, 21, .inl fvalx_59)), (Rd, .inr (4, [.ref Tp, .int (nI ln), .int (nI axx_69), .int (-1), .int (nI htx_4), .int (nI ctx_5), .ref Rv])), (Tp, .inl (g 0, 160, .inl ftp))] H := ⟨hP2, hD2⟩
                    have hS := hS2; clear hP2 hD2 hS2; have hP := hPD.1; have hD := hPD.2; clear hPD
                    refine W.widen (k := 0) (n := 0) (Nat.le_of_ble_eq_true rfl) (Nat.le_of_ble_eq_true rfl) ?_
                    have hge_72 := sB_ge (T := ftp) (n := ln) (i := axx_57) (by omega)
                    refine lv_aload_n hx hb dX4_readClause_27 rfl (lv_at hl 4 rfl) ?_
                    refine va_get (D := D) (ci := 4) (v := .int (nI axx_69)) (C := RX4) (T := TX4) (N := 7) hx hb hts iX4 hown hK hP 1 rfl rfl 2 (by decide) f28 (fun _ h9 => h9) rfl dX4_readClause_28 ?_
                    refine lv_aload_n hx hb dX4_readClause_31 rfl (lv_at hl 4 rfl) ?_
                    refine va_get (D := D) (ci := 4) (v := .int (nI ln)) (C := RX4) (T := TX4) (N := 7) hx hb hts iX4 hown hK hP 1 rfl rfl 1 (by decide) f24 (fun _ h9 => h9) rfl dX4_readClause_32 ?_
                    refine lv_icmp_ge (tgt := 52) hx hb dX4_readClause_35 (by decide) (fun cb_73 => ?_) (fun cb_73 => ?_)
                    · skip
                      have cn_74 : ln ≤ axx_69 := (nI_leI (show ln < 2 ^ 31 by omega) (show axx_69 < 2 ^ 31 by omega)).mp cb_73
                      have hPD9 : PD D A [(Rd, .inr (4, [.ref Tp, .int (nI ln), .int (nI axx_69), .int (-1), .int (nI htx_4), .int (nI ctx_5), .ref Rv])), (Tp, .inl (g 0, 160, .inl ftp)), (Rv, .inl (g 0, 21, .inl fvalx_59))] H := ⟨hP.sub [1, 2, 0] rfl, hD.sub [1, 2, 0] (by decide) rfl⟩
                      have hP9 := hPD9.1; have hD9 := hPD9.2
                      subst hQ
                      refine W.widen (k := 0) (n := 0) (Nat.le_of_ble_eq_true rfl) (Nat.le_of_ble_eq_true rfl) ?_
                      exact W.vret hx hb hr (fun tS htS _ => ⟨⟨_, rfl, ⟨axx_69, (-1), htx_4, ctx_5, fvalx_59, rfl, ⟨(show axx_69 ≤ ln by omega), (show htx_4 ≤ 3 by omega), (show ctx_5 ≤ 3 by omega), (hf_61), (cl_end hf_7.2.2.2.1.symm (show cl_15 < 7 by omega) (hR_66.trans (itR_end (f := 1) hf_71 (show ¬ axx_69 < ln by omega))) (fun q => absurd q.1 (show ¬ axx_69 < ln by omega))).1, (cl_end hf_7.2.2.2.1.symm (show cl_15 < 7 by omega) (hR_66.trans (itR_end (f := 1) hf_71 (show ¬ axx_69 < ln by omega))) (fun q => absurd q.1 (show ¬ axx_69 < ln by omega))).2.1, (fun _ => ⟨(cl_end hf_7.2.2.2.1.symm (show cl_15 < 7 by omega) (hR_66.trans (itR_end (f := 1) hf_71 (show ¬ axx_69 < ln by omega))) (fun q => absurd q.1 (show ¬ axx_69 < ln by omega))).2.2, show ax < axx_69 by omega⟩)⟩⟩, by rw [htS]; exact hP9, hD9⟩, hS.F htS⟩) hS.2.2 dX4_readClause_52
                    · skip
                      have cn_75 : axx_69 < ln := Nat.lt_of_not_le (fun q9 => cb_73 ((nI_leI (show ln < 2 ^ 31 by omega) (show axx_69 < 2 ^ 31 by omega)).mpr q9))
                      refine lv_aload_n hx hb dX4_readClause_38 rfl (lv_at hl 4 rfl) ?_
                      refine va_get (D := D) (ci := 4) (v := .ref Tp) (C := RX4) (T := TX4) (N := 7) hx hb hts iX4 hown hK hP 1 rfl rfl 0 (by decide) f9 (fun _ h9 => h9) rfl dX4_readClause_39 ?_
                      refine lv_aload_n hx hb dX4_readClause_42 rfl (lv_at hl 4 rfl) ?_
                      refine va_get (D := D) (ci := 4) (v := .int (nI axx_69)) (C := RX4) (T := TX4) (N := 7) hx hb hts iX4 hown hK hP 1 rfl rfl 2 (by decide) f28 (fun _ h9 => h9) rfl dX4_readClause_43 ?_
                      refine va_iald hx hb hK hP 2 0 rfl rfl (vp_in_nI (show axx_69 < 160 by omega) (by decide)) dX4_readClause_46 ?_
                      refine lv_eqi (y := (ftp (axx_69))) (congrArg ftp (nI_clamp (show axx_69 < 2 ^ 31 by omega))) ?_
                      refine lv_bipush (v := 59) hx hb dX4_readClause_47 (by decide) ?_
                      refine lv_icmp_ne (tgt := 53) hx hb dX4_readClause_49 (by decide) (fun cb_76 => ?_) (fun cb_76 => ?_)
                      · skip
                        refine lv_iload_n hx hb dX4_readClause_53 rfl (lv_at hl 3 rfl) ?_
                        refine ky_Si (As := [.int (nI cl_15)]) (rest := []) ⟨hx, hb, hml, hown, hts⟩ ⟨hK, hN⟩ hZ hP hD hS hA [] [0, 1, 2] (wc := []) (wr := [(Rv, .inl (g 0, 21, .inl fvalx_59)), (Rd, .inr (4, [.ref Tp, .int (nI ln), .int (nI axx_69), .int (-1), .int (nI htx_4), .int (nI ctx_5), .ref Rv])), (Tp, .inl (g 0, 160, .inl ftp))]) rfl rfl rfl rfl (by decide) (r_X4_kindOf l D g H.size cl_15 (show cl_15 < 7 by omega)) (va_cwS 1 hts gX4_readClause_X4_kindOf rfl rfl rfl (by decide +kernel) ⟨(Nat.le_of_ble_eq_true rfl), (Nat.le_of_ble_eq_true rfl)⟩) rfl hl.1 rfl (Nat.le_of_ble_eq_true rfl) dX4_readClause_54 ⟨(Nat.le_of_ble_eq_true rfl), (Nat.le_of_ble_eq_true rfl)⟩ (fun r_77 u H locs hw hP2 hD2 hS2 => ?_)
                        clear hP hD hS
                        obtain ⟨rfl, rfl⟩ := hw
                        have hPD : PD D A [(Rv, .inl (g 0, 21, .inl fvalx_59)), (Rd, .inr (4, [.ref Tp, .int (nI ln), .int (nI axx_69), .int (-1), .int (nI htx_4), .int (nI ctx_5), .ref Rv])), (Tp, .inl (g 0, 160, .inl ftp))] H := ⟨hP2, hD2⟩
                        have hS := hS2; clear hP2 hD2 hS2; have hP := hPD.1; have hD := hPD.2; clear hPD
                        refine W.widen (k := 0) (n := 0) (Nat.le_of_ble_eq_true rfl) (Nat.le_of_ble_eq_true rfl) ?_
                        refine lv_aload_n hx hb dX4_readClause_57 rfl (lv_at hl 4 rfl) ?_
                        refine va_get (D := D) (ci := 4) (v := .ref Tp) (C := RX4) (T := TX4) (N := 7) hx hb hts iX4 hown hK hP 1 rfl rfl 0 (by decide) f9 (fun _ h9 => h9) rfl dX4_readClause_58 ?_
                        refine lv_aload_n hx hb dX4_readClause_61 rfl (lv_at hl 4 rfl) ?_
                        refine va_get (D := D) (ci := 4) (v := .int (nI axx_69)) (C := RX4) (T := TX4) (N := 7) hx hb hts iX4 hown hK hP 1 rfl rfl 2 (by decide) f28 (fun _ h9 => h9) rfl dX4_readClause_62 ?_
                        refine va_iald hx hb hK hP 2 0 rfl rfl (vp_in_nI (show axx_69 < 160 by omega) (by decide)) dX4_readClause_65 ?_
                        refine lv_eqi (y := (ftp (axx_69))) (congrArg ftp (nI_clamp (show axx_69 < 2 ^ 31 by omega))) ?_
                        refine ky_Si (As := [.int (nI (kdN cl_15)), .int (ftp (axx_69))]) (rest := []) ⟨hx, hb, hml, hown, hts⟩ ⟨hK, hN⟩ hZ hP hD hS hA [] [0, 1, 2] (wc := []) (wr := [(Rv, .inl (g 0, 21, .inl fvalx_59)), (Rd, .inr (4, [.ref Tp, .int (nI ln), .int (nI axx_69), .int (-1), .int (nI htx_4), .int (nI ctx_5), .ref Rv])), (Tp, .inl (g 0, 160, .inl ftp))]) rfl rfl rfl rfl (by decide) (r_X4_itemOf l D g H.size (kdN cl_15) (ftp (axx_69)) (show (kdN cl_15) < 3 by omega)) (va_cwS 2 hts gX4_readClause_X4_itemOf rfl rfl rfl (by decide +kernel) ⟨(Nat.le_of_ble_eq_true rfl), (Nat.le_of_ble_eq_true rfl)⟩) rfl hl.1 rfl (Nat.le_of_ble_eq_true rfl) dX4_readClause_66 ⟨(Nat.le_of_ble_eq_true rfl), (Nat.le_of_ble_eq_true rfl)⟩ (fun r_78 u H locs hw hP2 hD2 hS2 => ?_)
                        clear hP hD hS
                        obtain ⟨rfl, rfl⟩ := hw
                        have hPD : PD D A [(Rv, .inl (g 0, 21, .inl fvalx_59)), (Rd, .inr (4, [.ref Tp, .int (nI ln), .int (nI axx_69), .int (-1), .int (nI htx_4), .int (nI ctx_5), .ref Rv])), (Tp, .inl (g 0, 160, .inl ftp))] H := ⟨hP2, hD2⟩
                        have hS := hS2; clear hP2 hD2 hS2; have hP := hPD.1; have hD := hPD.2; clear hPD
                        refine W.widen (k := 0) (n := 0) (Nat.le_of_ble_eq_true rfl) (Nat.le_of_ble_eq_true rfl) ?_
                        rcases itK_c (kdN cl_15) (ftp (axx_69)) with qi_79 | qi_79 | qi_79 | qi_79
                        · skip
                          refine lv_eqi (y := (-1)) (qi_79) ?_
                          refine lv_istore (lv' := [(5, .int (-1)), (4, .int 2), (3, .int 3), (2, .int (nI cl_15)), (0, .ref Rd), (1, .int zf)]) hx hb dX4_readClause_69 hl (by decide) rfl (fun ls hl => ?_)
                          refine lv_iload hx hb dX4_readClause_71 (lv_at hl 0 rfl) ?_
                          refine lv_iconst (v := (-1)) hx hb dX4_readClause_73 (by decide) ?_
                          refine lv_icmp_eq (tgt := 86) hx hb dX4_readClause_74 (by decide) (fun _ => ?_) (fun cb => absurd (by decide) cb)
                          refine lv_aload_n hx hb dX4_readClause_86 rfl (lv_at hl 4 rfl) ?_
                          refine lv_aload_n hx hb dX4_readClause_87 rfl (lv_at hl 4 rfl) ?_
                          refine va_get (D := D) (ci := 4) (v := .int (nI axx_69)) (C := RX4) (T := TX4) (N := 7) hx hb hts iX4 hown hK hP 1 rfl rfl 2 (by decide) f28 (fun _ h9 => h9) rfl dX4_readClause_88 ?_
                          refine va_put (D := D) (ci := 4) (v := .int (nI axx_69)) (ty := .int) (C := RX4) (T := TX4) (N := 7) hx hb hts iX4 tyX4 tyX4_ok nmX4 hown hK hP hD hS 1 rfl rfl 3 (by decide) f31 (fun _ h9 => h9) rfl (by decide +kernel) (rfl) (rfl) (Nat.le_of_ble_eq_true rfl) dX4_readClause_91 (fun H locs hP2 hD2 hS2 => ?_)
                          clear hP hD hS
                          have hPD : PD D A [(Rv, .inl (g 0, 21, .inl fvalx_59)), (Rd, .inr (4, [.ref Tp, .int (nI ln), .int (nI axx_69), .int (nI axx_69), .int (nI htx_4), .int (nI ctx_5), .ref Rv])), (Tp, .inl (g 0, 160, .inl ftp))] H := ⟨hP2, hD2⟩
                          have hS := hS2; clear hP2 hD2 hS2; have hP := hPD.1; have hD := hPD.2; clear hPD
                          have hPD9 : PD D A [(Rd, .inr (4, [.ref Tp, .int (nI ln), .int (nI axx_69), .int (nI axx_69), .int (nI htx_4), .int (nI ctx_5), .ref Rv])), (Tp, .inl (g 0, 160, .inl ftp)), (Rv, .inl (g 0, 21, .inl fvalx_59))] H := ⟨hP.sub [1, 2, 0] rfl, hD.sub [1, 2, 0] (by decide) rfl⟩
                          have hP9 := hPD9.1; have hD9 := hPD9.2
                          subst hQ
                          refine W.widen (k := 0) (n := 0) (Nat.le_of_ble_eq_true rfl) (Nat.le_of_ble_eq_true rfl) ?_
                          exact W.vret hx hb hr (fun tS htS _ => ⟨⟨_, rfl, ⟨axx_69, (nI axx_69), htx_4, ctx_5, fvalx_59, rfl, ⟨(show axx_69 ≤ ln by omega), (show htx_4 ≤ 3 by omega), (show ctx_5 ≤ 3 by omega), (hf_61), (cl_bad hf_7.2.2.2.1.symm (show cl_15 < 7 by omega) (hR_66.trans (itR_no (f := 1) hf_71 qi_79)) (show axx_69 < ln by omega) cb_76).1, (cl_bad hf_7.2.2.2.1.symm (show cl_15 < 7 by omega) (hR_66.trans (itR_no (f := 1) hf_71 qi_79)) (show axx_69 < ln by omega) cb_76).2, (fun q => absurd q (m1_ne (show axx_69 < 2 ^ 31 by omega)))⟩⟩, by rw [htS]; exact hP9, hD9⟩, hS.F htS⟩) hS.2.2 dX4_readClause_94
                        · skip
                          refine lv_eqi (y := 0) (qi_79) ?_
                          refine lv_istore (lv' := [(5, .int 0), (4, .int 2), (3, .int 3), (2, .int (nI cl_15)), (0, .ref Rd), (1, .int zf)]) hx hb dX4_readClause_69 hl (by decide) rfl (fun ls hl => ?_)
                          refine lv_iload hx hb dX4_readClause_71 (lv_at hl 0 rfl) ?_
                          refine lv_iconst (v := (-1)) hx hb dX4_readClause_73 (by decide) ?_
                          refine lv_icmp_eq (tgt := 86) hx hb dX4_readClause_74 (by decide) (fun cb => absurd cb (by decide)) (fun _ => ?_)
                          refine lv_iload_n hx hb dX4_readClause_77 rfl (lv_at hl 2 rfl) ?_
                          refine lv_iconst (v := 1) hx hb dX4_readClause_78 (by decide) ?_
                          refine lv_iload hx hb dX4_readClause_79 (lv_at hl 0 rfl) ?_
                          refine lv_ishl hx hb dX4_readClause_81 ?_
                          refine lv_eqi (y := 1) (by decide) ?_
                          refine lv_iand hx hb dX4_readClause_82 ?_
                          refine lv_eqi (y := 1) (by decide) ?_
                          refine lv_if_eq (tgt := 95) hx hb dX4_readClause_83 (by decide) (fun cb => absurd cb (by decide)) (fun _ => ?_)
                          refine lv_aload_n hx hb dX4_readClause_86 rfl (lv_at hl 4 rfl) ?_
                          refine lv_aload_n hx hb dX4_readClause_87 rfl (lv_at hl 4 rfl) ?_
                          refine va_get (D := D) (ci := 4) (v := .int (nI axx_69)) (C := RX4) (T := TX4) (N := 7) hx hb hts iX4 hown hK hP 1 rfl rfl 2 (by decide) f28 (fun _ h9 => h9) rfl dX4_readClause_88 ?_
                          refine va_put (D := D) (ci := 4) (v := .int (nI axx_69)) (ty := .int) (C := RX4) (T := TX4) (N := 7) hx hb hts iX4 tyX4 tyX4_ok nmX4 hown hK hP hD hS 1 rfl rfl 3 (by decide) f31 (fun _ h9 => h9) rfl (by decide +kernel) (rfl) (rfl) (Nat.le_of_ble_eq_true rfl) dX4_readClause_91 (fun H locs hP2 hD2 hS2 => ?_)
                          clear hP hD hS
                          have hPD : PD D A [(Rv, .inl (g 0, 21, .inl fvalx_59)), (Rd, .inr (4, [.ref Tp, .int (nI ln), .int (nI axx_69), .int (nI axx_69), .int (nI htx_4), .int (nI ctx_5), .ref Rv])), (Tp, .inl (g 0, 160, .inl ftp))] H := ⟨hP2, hD2⟩
                          have hS := hS2; clear hP2 hD2 hS2; have hP := hPD.1; have hD := hPD.2; clear hPD
                          have hPD9 : PD D A [(Rd, .inr (4, [.ref Tp, .int (nI ln), .int (nI axx_69), .int (nI axx_69), .int (nI htx_4), .int (nI ctx_5), .ref Rv])), (Tp, .inl (g 0, 160, .inl ftp)), (Rv, .inl (g 0, 21, .inl fvalx_59))] H := ⟨hP.sub [1, 2, 0] rfl, hD.sub [1, 2, 0] (by decide) rfl⟩
                          have hP9 := hPD9.1; have hD9 := hPD9.2
                          subst hQ
                          refine W.widen (k := 0) (n := 0) (Nat.le_of_ble_eq_true rfl) (Nat.le_of_ble_eq_true rfl) ?_
                          exact W.vret hx hb hr (fun tS htS _ => ⟨⟨_, rfl, ⟨axx_69, (nI axx_69), htx_4, ctx_5, fvalx_59, rfl, ⟨(show axx_69 ≤ ln by omega), (show htx_4 ≤ 3 by omega), (show ctx_5 ≤ 3 by omega), (hf_61), (cl_bad hf_7.2.2.2.1.symm (show cl_15 < 7 by omega) (hR_66.trans (itR_again (f := 1) (q := 0) hf_71 qi_79 (by decide) (by decide))) (show axx_69 < ln by omega) cb_76).1, (cl_bad hf_7.2.2.2.1.symm (show cl_15 < 7 by omega) (hR_66.trans (itR_again (f := 1) (q := 0) hf_71 qi_79 (by decide) (by decide))) (show axx_69 < ln by omega) cb_76).2, (fun q => absurd q (m1_ne (show axx_69 < 2 ^ 31 by omega)))⟩⟩, by rw [htS]; exact hP9, hD9⟩, hS.F htS⟩) hS.2.2 dX4_readClause_94
                        · skip
                          refine lv_eqi (y := 1) (qi_79) ?_
                          refine lv_istore (lv' := [(5, .int 1), (4, .int 2), (3, .int 3), (2, .int (nI cl_15)), (0, .ref Rd), (1, .int zf)]) hx hb dX4_readClause_69 hl (by decide) rfl (fun ls hl => ?_)
                          refine lv_iload hx hb dX4_readClause_71 (lv_at hl 0 rfl) ?_
                          refine lv_iconst (v := (-1)) hx hb dX4_readClause_73 (by decide) ?_
                          refine lv_icmp_eq (tgt := 86) hx hb dX4_readClause_74 (by decide) (fun cb => absurd cb (by decide)) (fun _ => ?_)
                          refine lv_iload_n hx hb dX4_readClause_77 rfl (lv_at hl 2 rfl) ?_
                          refine lv_iconst (v := 1) hx hb dX4_readClause_78 (by decide) ?_
                          refine lv_iload hx hb dX4_readClause_79 (lv_at hl 0 rfl) ?_
                          refine lv_ishl hx hb dX4_readClause_81 ?_
                          refine lv_eqi (y := 2) (by decide) ?_
                          refine lv_iand hx hb dX4_readClause_82 ?_
                          refine lv_eqi (y := 2) (by decide) ?_
                          refine lv_if_eq (tgt := 95) hx hb dX4_readClause_83 (by decide) (fun cb => absurd cb (by decide)) (fun _ => ?_)
                          refine lv_aload_n hx hb dX4_readClause_86 rfl (lv_at hl 4 rfl) ?_
                          refine lv_aload_n hx hb dX4_readClause_87 rfl (lv_at hl 4 rfl) ?_
                          refine va_get (D := D) (ci := 4) (v := .int (nI axx_69)) (C := RX4) (T := TX4) (N := 7) hx hb hts iX4 hown hK hP 1 rfl rfl 2 (by decide) f28 (fun _ h9 => h9) rfl dX4_readClause_88 ?_
                          refine va_put (D := D) (ci := 4) (v := .int (nI axx_69)) (ty := .int) (C := RX4) (T := TX4) (N := 7) hx hb hts iX4 tyX4 tyX4_ok nmX4 hown hK hP hD hS 1 rfl rfl 3 (by decide) f31 (fun _ h9 => h9) rfl (by decide +kernel) (rfl) (rfl) (Nat.le_of_ble_eq_true rfl) dX4_readClause_91 (fun H locs hP2 hD2 hS2 => ?_)
                          clear hP hD hS
                          have hPD : PD D A [(Rv, .inl (g 0, 21, .inl fvalx_59)), (Rd, .inr (4, [.ref Tp, .int (nI ln), .int (nI axx_69), .int (nI axx_69), .int (nI htx_4), .int (nI ctx_5), .ref Rv])), (Tp, .inl (g 0, 160, .inl ftp))] H := ⟨hP2, hD2⟩
                          have hS := hS2; clear hP2 hD2 hS2; have hP := hPD.1; have hD := hPD.2; clear hPD
                          have hPD9 : PD D A [(Rd, .inr (4, [.ref Tp, .int (nI ln), .int (nI axx_69), .int (nI axx_69), .int (nI htx_4), .int (nI ctx_5), .ref Rv])), (Tp, .inl (g 0, 160, .inl ftp)), (Rv, .inl (g 0, 21, .inl fvalx_59))] H := ⟨hP.sub [1, 2, 0] rfl, hD.sub [1, 2, 0] (by decide) rfl⟩
                          have hP9 := hPD9.1; have hD9 := hPD9.2
                          subst hQ
                          refine W.widen (k := 0) (n := 0) (Nat.le_of_ble_eq_true rfl) (Nat.le_of_ble_eq_true rfl) ?_
                          exact W.vret hx hb hr (fun tS htS _ => ⟨⟨_, rfl, ⟨axx_69, (nI axx_69), htx_4, ctx_5, fvalx_59, rfl, ⟨(show axx_69 ≤ ln by omega), (show htx_4 ≤ 3 by omega), (show ctx_5 ≤ 3 by omega), (hf_61), (cl_bad hf_7.2.2.2.1.symm (show cl_15 < 7 by omega) (hR_66.trans (itR_again (f := 1) (q := 1) hf_71 qi_79 (by decide) (by decide))) (show axx_69 < ln by omega) cb_76).1, (cl_bad hf_7.2.2.2.1.symm (show cl_15 < 7 by omega) (hR_66.trans (itR_again (f := 1) (q := 1) hf_71 qi_79 (by decide) (by decide))) (show axx_69 < ln by omega) cb_76).2, (fun q => absurd q (m1_ne (show axx_69 < 2 ^ 31 by omega)))⟩⟩, by rw [htS]; exact hP9, hD9⟩, hS.F htS⟩) hS.2.2 dX4_readClause_94
                        · skip
                          refine lv_eqi (y := 2) (qi_79) ?_
                          refine lv_istore (lv' := [(5, .int 2), (4, .int 2), (3, .int 3), (2, .int (nI cl_15)), (0, .ref Rd), (1, .int zf)]) hx hb dX4_readClause_69 hl (by decide) rfl (fun ls hl => ?_)
                          refine lv_iload hx hb dX4_readClause_71 (lv_at hl 0 rfl) ?_
                          refine lv_iconst (v := (-1)) hx hb dX4_readClause_73 (by decide) ?_
                          refine lv_icmp_eq (tgt := 86) hx hb dX4_readClause_74 (by decide) (fun cb => absurd cb (by decide)) (fun _ => ?_)
                          refine lv_iload_n hx hb dX4_readClause_77 rfl (lv_at hl 2 rfl) ?_
                          refine lv_iconst (v := 1) hx hb dX4_readClause_78 (by decide) ?_
                          refine lv_iload hx hb dX4_readClause_79 (lv_at hl 0 rfl) ?_
                          refine lv_ishl hx hb dX4_readClause_81 ?_
                          refine lv_eqi (y := 4) (by decide) ?_
                          refine lv_iand hx hb dX4_readClause_82 ?_
                          refine lv_eqi (y := 0) (by decide) ?_
                          refine lv_if_eq (tgt := 95) hx hb dX4_readClause_83 (by decide) (fun _ => ?_) (fun cb => absurd (by decide) cb)
                          refine lv_iload_n hx hb dX4_readClause_95 rfl (lv_at hl 2 rfl) ?_
                          refine lv_iconst (v := 1) hx hb dX4_readClause_96 (by decide) ?_
                          refine lv_iload hx hb dX4_readClause_97 (lv_at hl 0 rfl) ?_
                          refine lv_ishl hx hb dX4_readClause_99 ?_
                          refine lv_eqi (y := 4) (by decide) ?_
                          refine lv_ior hx hb dX4_readClause_100 ?_
                          refine lv_eqi (y := 7) (by decide) ?_
                          refine lv_istore_n (lv' := [(3, .int 7), (5, .int 2), (4, .int 2), (2, .int (nI cl_15)), (0, .ref Rd), (1, .int zf)]) hx hb dX4_readClause_101 rfl hl (by decide) rfl (fun ls hl => ?_)
                          refine lv_aload_n hx hb dX4_readClause_102 rfl (lv_at hl 4 rfl) ?_
                          refine lv_dup hx hb dX4_readClause_103 rfl ?_
                          refine va_get (D := D) (ci := 4) (v := .int (nI axx_69)) (C := RX4) (T := TX4) (N := 7) hx hb hts iX4 hown hK hP 1 rfl rfl 2 (by decide) f28 (fun _ h9 => h9) rfl dX4_readClause_104 ?_
                          refine lv_iconst (v := 1) hx hb dX4_readClause_107 (by decide) ?_
                          refine lv_iadd hx hb dX4_readClause_108 ?_
                          refine lv_eqi (y := (nI (axx_69 + 1))) (nI_add (axx_69) (1)) ?_
                          refine va_put (D := D) (ci := 4) (v := .int (nI (axx_69 + 1))) (ty := .int) (C := RX4) (T := TX4) (N := 7) hx hb hts iX4 tyX4 tyX4_ok nmX4 hown hK hP hD hS 1 rfl rfl 2 (by decide) f28 (fun _ h9 => h9) rfl (by decide +kernel) (rfl) (rfl) (Nat.le_of_ble_eq_true rfl) dX4_readClause_109 (fun H locs hP2 hD2 hS2 => ?_)
                          clear hP hD hS
                          have hPD : PD D A [(Rv, .inl (g 0, 21, .inl fvalx_59)), (Rd, .inr (4, [.ref Tp, .int (nI ln), .int (nI (axx_69 + 1)), .int (-1), .int (nI htx_4), .int (nI ctx_5), .ref Rv])), (Tp, .inl (g 0, 160, .inl ftp))] H := ⟨hP2, hD2⟩
                          have hS := hS2; clear hP2 hD2 hS2; have hP := hPD.1; have hD := hPD.2; clear hPD
                          refine lv_aload_n hx hb dX4_readClause_112 rfl (lv_at hl 4 rfl) ?_
                          refine lv_iload_n hx hb dX4_readClause_113 rfl (lv_at hl 3 rfl) ?_
                          refine lv_iload hx hb dX4_readClause_114 (lv_at hl 1 rfl) ?_
                          refine ky_Vv (As := [.int (nI cl_15), .int 2]) (rest := []) ⟨hx, hb, hml, hown, hts⟩ ⟨hK, hN⟩ hZ hP hD hS hA [1, 2, 0] [] (wc := [(Rd, .inr (4, [.ref Tp, .int (nI ln), .int (nI (axx_69 + 1)), .int (-1), .int (nI htx_4), .int (nI ctx_5), .ref Rv])), (Tp, .inl (g 0, 160, .inl ftp)), (Rv, .inl (g 0, 21, .inl fvalx_59))]) (wr := []) rfl rfl rfl rfl (by decide) (r_X4_readNumber l D g H.size Rd cl_15 2 Tp ln (axx_69 + 1) htx_4 ctx_5 Rv ftp fvalx_59 (show ln ≤ 160 by omega) (show (axx_69 + 1) ≤ ln by omega) (hf_61) (show cl_15 < 7 by omega) (show 2 < 3 by omega)) (cwV 2 hts gX4_readClause_X4_readNumber rfl rfl rfl (by decide +kernel) ⟨(Nat.le_of_ble_eq_true rfl), (Nat.le_of_ble_eq_true rfl)⟩) 1 4 rfl rfl rfl rfl hl.1 rfl (Nat.le_of_ble_eq_true rfl) dX4_readClause_116 ⟨(Nat.le_of_ble_eq_true rfl), (Nat.le_of_ble_eq_true rfl)⟩ (fun u H locs hw hP2 hD2 hS2 => ?_)
                          clear hP hD hS
                          obtain ⟨axx_81, zfax_82, fvalx_83, rfl, hf_84, hf_85, hf_86, hf_87⟩ := hw
                          have hPD : PD D A [(Rd, .inr (4, [.ref Tp, .int (nI ln), .int (nI axx_81), .int zfax_82, .int (nI htx_4), .int (nI ctx_5), .ref Rv])), (Tp, .inl (g 0, 160, .inl ftp)), (Rv, .inl (g 0, 21, .inl fvalx_83))] H := ⟨hP2, hD2⟩
                          have hS := hS2; clear hP2 hD2 hS2; have hP := hPD.1; have hD := hPD.2; clear hPD
                          refine W.widen (k := 0) (n := 0) (Nat.le_of_ble_eq_true rfl) (Nat.le_of_ble_eq_true rfl) ?_
                          refine lv_aload_n hx hb dX4_readClause_119 rfl (lv_at hl 4 rfl) ?_
                          refine va_get (D := D) (ci := 4) (v := .int zfax_82) (C := RX4) (T := TX4) (N := 7) hx hb hts iX4 hown hK hP 0 rfl rfl 3 (by decide) f31 (fun _ h9 => h9) rfl dX4_readClause_120 ?_
                          refine lv_iconst (v := (-1)) hx hb dX4_readClause_123 (by decide) ?_
                          refine lv_icmp_eq (tgt := 128) hx hb dX4_readClause_124 (by decide) (fun cb_88 => ?_) (fun cb_88 => ?_)
                          · skip
                            have hPq_89 := hP; have hDq_89 := hD; have hSq_89 := hS; have hlq_89 := hl; clear hP hD hS hl
                            subst cb_88
                            have hP := hPq_89; have hD := hDq_89; have hS := hSq_89; have hl := hlq_89; clear hPq_89 hDq_89 hSq_89 hlq_89
                            have hne_91 := (hf_87 rfl).1
                            have hne_91g := nmE_gt (T := ftp) (n := ln) (i := axx_69 + 1) (by omega)
                            have hR_90 : itR ftp ln (kdN cl_15) 4 0 (sB ftp ln ax + 1) = itR ftp ln (kdN cl_15) 1 7 axx_81 := hR_66.trans ((itR_go (f := 1) (m := 3) (q := 2) hf_71 (show axx_69 < ln by omega) qi_79 (by decide) (by decide) hf_86.symm).trans (by rw [hne_91]))
                            refine lv_iinc (v := 3) (lv' := [(4, .int 3), (3, .int 7), (5, .int 2), (2, .int (nI cl_15)), (0, .ref Rd), (1, .int zf)]) hx hb dX4_readClause_128 hl (k := 2) rfl (by decide) (by decide) rfl (fun ls hl => ?_)
                            refine lv_goto (tgt := 17) hx hb dX4_readClause_131 (by decide) ?_
                            refine lv_iload hx hb dX4_readClause_17 (lv_at hl 0 rfl) ?_
                            refine lv_iconst (v := 3) hx hb dX4_readClause_19 (by decide) ?_
                            refine lv_icmp_gt (tgt := 134) hx hb dX4_readClause_20 (by decide) (fun cb => absurd cb (by decide)) (fun _ => ?_)
                            refine lv_aload_n hx hb dX4_readClause_23 rfl (lv_at hl 4 rfl) ?_
                            refine ky_Vv (As := []) (rest := []) ⟨hx, hb, hml, hown, hts⟩ ⟨hK, hN⟩ hZ hP hD hS hA [0, 1] [2] (wc := [(Rd, .inr (4, [.ref Tp, .int (nI ln), .int (nI axx_81), .int (-1), .int (nI htx_4), .int (nI ctx_5), .ref Rv])), (Tp, .inl (g 0, 160, .inl ftp))]) (wr := [(Rv, .inl (g 0, 21, .inl fvalx_83))]) rfl rfl rfl rfl (by decide) (r_X4_passBlanks l D g H.size Rd Tp ln axx_81 (-1) htx_4 ctx_5 Rv ftp (show ln ≤ 160 by omega) (show axx_81 ≤ ln by omega)) (cwV 0 hts gX4_readClause_X4_passBlanks rfl rfl rfl (by decide +kernel) ⟨(Nat.le_of_ble_eq_true rfl), (Nat.le_of_ble_eq_true rfl)⟩) 0 4 rfl rfl rfl rfl hl.1 rfl (Nat.le_of_ble_eq_true rfl) dX4_readClause_24 ⟨(Nat.le_of_ble_eq_true rfl), (Nat.le_of_ble_eq_true rfl)⟩ (fun u H locs hw hP2 hD2 hS2 => ?_)
                            clear hP hD hS
                            obtain ⟨axx_93, rfl, hf_94, hf_95⟩ := hw
                            have hPD : PD D A [(Rv, .inl (g 0, 21, .inl fvalx_83)), (Rd, .inr (4, [.ref Tp, .int (nI ln), .int (nI axx_93), .int (-1), .int (nI htx_4), .int (nI ctx_5), .ref Rv])), (Tp, .inl (g 0, 160, .inl ftp))] H := ⟨hP2, hD2⟩
                            have hS := hS2; clear hP2 hD2 hS2; have hP := hPD.1; have hD := hPD.2; clear hPD
                            refine W.widen (k := 0) (n := 0) (Nat.le_of_ble_eq_true rfl) (Nat.le_of_ble_eq_true rfl) ?_
                            have hge_96 := sB_ge (T := ftp) (n := ln) (i := axx_81) (by omega)
                            refine lv_aload_n hx hb dX4_readClause_27 rfl (lv_at hl 4 rfl) ?_
                            refine va_get (D := D) (ci := 4) (v := .int (nI axx_93)) (C := RX4) (T := TX4) (N := 7) hx hb hts iX4 hown hK hP 1 rfl rfl 2 (by decide) f28 (fun _ h9 => h9) rfl dX4_readClause_28 ?_
                            refine lv_aload_n hx hb dX4_readClause_31 rfl (lv_at hl 4 rfl) ?_
                            refine va_get (D := D) (ci := 4) (v := .int (nI ln)) (C := RX4) (T := TX4) (N := 7) hx hb hts iX4 hown hK hP 1 rfl rfl 1 (by decide) f24 (fun _ h9 => h9) rfl dX4_readClause_32 ?_
                            refine lv_icmp_ge (tgt := 52) hx hb dX4_readClause_35 (by decide) (fun cb_97 => ?_) (fun cb_97 => ?_)
                            · skip
                              have cn_98 : ln ≤ axx_93 := (nI_leI (show ln < 2 ^ 31 by omega) (show axx_93 < 2 ^ 31 by omega)).mp cb_97
                              have hPD9 : PD D A [(Rd, .inr (4, [.ref Tp, .int (nI ln), .int (nI axx_93), .int (-1), .int (nI htx_4), .int (nI ctx_5), .ref Rv])), (Tp, .inl (g 0, 160, .inl ftp)), (Rv, .inl (g 0, 21, .inl fvalx_83))] H := ⟨hP.sub [1, 2, 0] rfl, hD.sub [1, 2, 0] (by decide) rfl⟩
                              have hP9 := hPD9.1; have hD9 := hPD9.2
                              subst hQ
                              refine W.widen (k := 0) (n := 0) (Nat.le_of_ble_eq_true rfl) (Nat.le_of_ble_eq_true rfl) ?_
                              exact W.vret hx hb hr (fun tS htS _ => ⟨⟨_, rfl, ⟨axx_93, (-1), htx_4, ctx_5, fvalx_83, rfl, ⟨(show axx_93 ≤ ln by omega), (show htx_4 ≤ 3 by omega), (show ctx_5 ≤ 3 by omega), (hf_85), (cl_end hf_7.2.2.2.1.symm (show cl_15 < 7 by omega) (hR_90.trans (itR_end (f := 0) hf_95 (show ¬ axx_93 < ln by omega))) (fun q => absurd q.1 (show ¬ axx_93 < ln by omega))).1, (cl_end hf_7.2.2.2.1.symm (show cl_15 < 7 by omega) (hR_90.trans (itR_end (f := 0) hf_95 (show ¬ axx_93 < ln by omega))) (fun q => absurd q.1 (show ¬ axx_93 < ln by omega))).2.1, (fun _ => ⟨(cl_end hf_7.2.2.2.1.symm (show cl_15 < 7 by omega) (hR_90.trans (itR_end (f := 0) hf_95 (show ¬ axx_93 < ln by omega))) (fun q => absurd q.1 (show ¬ axx_93 < ln by omega))).2.2, show ax < axx_93 by omega⟩)⟩⟩, by rw [htS]; exact hP9, hD9⟩, hS.F htS⟩) hS.2.2 dX4_readClause_52
                            · skip
                              have cn_99 : axx_93 < ln := Nat.lt_of_not_le (fun q9 => cb_97 ((nI_leI (show ln < 2 ^ 31 by omega) (show axx_93 < 2 ^ 31 by omega)).mpr q9))
                              refine lv_aload_n hx hb dX4_readClause_38 rfl (lv_at hl 4 rfl) ?_
                              refine va_get (D := D) (ci := 4) (v := .ref Tp) (C := RX4) (T := TX4) (N := 7) hx hb hts iX4 hown hK hP 1 rfl rfl 0 (by decide) f9 (fun _ h9 => h9) rfl dX4_readClause_39 ?_
                              refine lv_aload_n hx hb dX4_readClause_42 rfl (lv_at hl 4 rfl) ?_
                              refine va_get (D := D) (ci := 4) (v := .int (nI axx_93)) (C := RX4) (T := TX4) (N := 7) hx hb hts iX4 hown hK hP 1 rfl rfl 2 (by decide) f28 (fun _ h9 => h9) rfl dX4_readClause_43 ?_
                              refine va_iald hx hb hK hP 2 0 rfl rfl (vp_in_nI (show axx_93 < 160 by omega) (by decide)) dX4_readClause_46 ?_
                              refine lv_eqi (y := (ftp (axx_93))) (congrArg ftp (nI_clamp (show axx_93 < 2 ^ 31 by omega))) ?_
                              refine lv_bipush (v := 59) hx hb dX4_readClause_47 (by decide) ?_
                              refine lv_icmp_ne (tgt := 53) hx hb dX4_readClause_49 (by decide) (fun cb_100 => ?_) (fun cb_100 => ?_)
                              · skip
                                refine lv_iload_n hx hb dX4_readClause_53 rfl (lv_at hl 3 rfl) ?_
                                refine ky_Si (As := [.int (nI cl_15)]) (rest := []) ⟨hx, hb, hml, hown, hts⟩ ⟨hK, hN⟩ hZ hP hD hS hA [] [0, 1, 2] (wc := []) (wr := [(Rv, .inl (g 0, 21, .inl fvalx_83)), (Rd, .inr (4, [.ref Tp, .int (nI ln), .int (nI axx_93), .int (-1), .int (nI htx_4), .int (nI ctx_5), .ref Rv])), (Tp, .inl (g 0, 160, .inl ftp))]) rfl rfl rfl rfl (by decide) (r_X4_kindOf l D g H.size cl_15 (show cl_15 < 7 by omega)) (va_cwS 1 hts gX4_readClause_X4_kindOf rfl rfl rfl (by decide +kernel) ⟨(Nat.le_of_ble_eq_true rfl), (Nat.le_of_ble_eq_true rfl)⟩) rfl hl.1 rfl (Nat.le_of_ble_eq_true rfl) dX4_readClause_54 ⟨(Nat.le_of_ble_eq_true rfl), (Nat.le_of_ble_eq_true rfl)⟩ (fun r_101 u H locs hw hP2 hD2 hS2 => ?_)
                                clear hP hD hS
                                obtain ⟨rfl, rfl⟩ := hw
                                have hPD : PD D A [(Rv, .inl (g 0, 21, .inl fvalx_83)), (Rd, .inr (4, [.ref Tp, .int (nI ln), .int (nI axx_93), .int (-1), .int (nI htx_4), .int (nI ctx_5), .ref Rv])), (Tp, .inl (g 0, 160, .inl ftp))] H := ⟨hP2, hD2⟩
                                have hS := hS2; clear hP2 hD2 hS2; have hP := hPD.1; have hD := hPD.2; clear hPD
                                refine W.widen (k := 0) (n := 0) (Nat.le_of_ble_eq_true rfl) (Nat.le_of_ble_eq_true rfl) ?_
                                refine lv_aload_n hx hb dX4_readClause_57 rfl (lv_at hl 4 rfl) ?_
                                refine va_get (D := D) (ci := 4) (v := .ref Tp) (C := RX4) (T := TX4) (N := 7) hx hb hts iX4 hown hK hP 1 rfl rfl 0 (by decide) f9 (fun _ h9 => h9) rfl dX4_readClause_58 ?_
                                refine lv_aload_n hx hb dX4_readClause_61 rfl (lv_at hl 4 rfl) ?_
                                refine va_get (D := D) (ci := 4) (v := .int (nI axx_93)) (C := RX4) (T := TX4) (N := 7) hx hb hts iX4 hown hK hP 1 rfl rfl 2 (by decide) f28 (fun _ h9 => h9) rfl dX4_readClause_62 ?_
                                refine va_iald hx hb hK hP 2 0 rfl rfl (vp_in_nI (show axx_93 < 160 by omega) (by decide)) dX4_readClause_65 ?_
                                refine lv_eqi (y := (ftp (axx_93))) (congrArg ftp (nI_clamp (show axx_93 < 2 ^ 31 by omega))) ?_
                                refine ky_Si (As := [.int (nI (kdN cl_15)), .int (ftp (axx_93))]) (rest := []) ⟨hx, hb, hml, hown, hts⟩ ⟨hK, hN⟩ hZ hP hD hS hA [] [0, 1, 2] (wc := []) (wr := [(Rv, .inl (g 0, 21, .inl fvalx_83)), (Rd, .inr (4, [.ref Tp, .int (nI ln), .int (nI axx_93), .int (-1), .int (nI htx_4), .int (nI ctx_5), .ref Rv])), (Tp, .inl (g 0, 160, .inl ftp))]) rfl rfl rfl rfl (by decide) (r_X4_itemOf l D g H.size (kdN cl_15) (ftp (axx_93)) (show (kdN cl_15) < 3 by omega)) (va_cwS 2 hts gX4_readClause_X4_itemOf rfl rfl rfl (by decide +kernel) ⟨(Nat.le_of_ble_eq_true rfl), (Nat.le_of_ble_eq_true rfl)⟩) rfl hl.1 rfl (Nat.le_of_ble_eq_true rfl) dX4_readClause_66 ⟨(Nat.le_of_ble_eq_true rfl), (Nat.le_of_ble_eq_true rfl)⟩ (fun r_102 u H locs hw hP2 hD2 hS2 => ?_)
                                clear hP hD hS
                                obtain ⟨rfl, rfl⟩ := hw
                                have hPD : PD D A [(Rv, .inl (g 0, 21, .inl fvalx_83)), (Rd, .inr (4, [.ref Tp, .int (nI ln), .int (nI axx_93), .int (-1), .int (nI htx_4), .int (nI ctx_5), .ref Rv])), (Tp, .inl (g 0, 160, .inl ftp))] H := ⟨hP2, hD2⟩
                                have hS := hS2; clear hP2 hD2 hS2; have hP := hPD.1; have hD := hPD.2; clear hPD
                                refine W.widen (k := 0) (n := 0) (Nat.le_of_ble_eq_true rfl) (Nat.le_of_ble_eq_true rfl) ?_
                                rcases itK_c (kdN cl_15) (ftp (axx_93)) with qi_103 | qi_103 | qi_103 | qi_103
                                · skip
                                  refine lv_eqi (y := (-1)) (qi_103) ?_
                                  refine lv_istore (lv' := [(5, .int (-1)), (4, .int 3), (3, .int 7), (2, .int (nI cl_15)), (0, .ref Rd), (1, .int zf)]) hx hb dX4_readClause_69 hl (by decide) rfl (fun ls hl => ?_)
                                  refine lv_iload hx hb dX4_readClause_71 (lv_at hl 0 rfl) ?_
                                  refine lv_iconst (v := (-1)) hx hb dX4_readClause_73 (by decide) ?_
                                  refine lv_icmp_eq (tgt := 86) hx hb dX4_readClause_74 (by decide) (fun _ => ?_) (fun cb => absurd (by decide) cb)
                                  refine lv_aload_n hx hb dX4_readClause_86 rfl (lv_at hl 4 rfl) ?_
                                  refine lv_aload_n hx hb dX4_readClause_87 rfl (lv_at hl 4 rfl) ?_
                                  refine va_get (D := D) (ci := 4) (v := .int (nI axx_93)) (C := RX4) (T := TX4) (N := 7) hx hb hts iX4 hown hK hP 1 rfl rfl 2 (by decide) f28 (fun _ h9 => h9) rfl dX4_readClause_88 ?_
                                  refine va_put (D := D) (ci := 4) (v := .int (nI axx_93)) (ty := .int) (C := RX4) (T := TX4) (N := 7) hx hb hts iX4 tyX4 tyX4_ok nmX4 hown hK hP hD hS 1 rfl rfl 3 (by decide) f31 (fun _ h9 => h9) rfl (by decide +kernel) (rfl) (rfl) (Nat.le_of_ble_eq_true rfl) dX4_readClause_91 (fun H locs hP2 hD2 hS2 => ?_)
                                  clear hP hD hS
                                  have hPD : PD D A [(Rv, .inl (g 0, 21, .inl fvalx_83)), (Rd, .inr (4, [.ref Tp, .int (nI ln), .int (nI axx_93), .int (nI axx_93), .int (nI htx_4), .int (nI ctx_5), .ref Rv])), (Tp, .inl (g 0, 160, .inl ftp))] H := ⟨hP2, hD2⟩
                                  have hS := hS2; clear hP2 hD2 hS2; have hP := hPD.1; have hD := hPD.2; clear hPD
                                  have hPD9 : PD D A [(Rd, .inr (4, [.ref Tp, .int (nI ln), .int (nI axx_93), .int (nI axx_93), .int (nI htx_4), .int (nI ctx_5), .ref Rv])), (Tp, .inl (g 0, 160, .inl ftp)), (Rv, .inl (g 0, 21, .inl fvalx_83))] H := ⟨hP.sub [1, 2, 0] rfl, hD.sub [1, 2, 0] (by decide) rfl⟩
                                  have hP9 := hPD9.1; have hD9 := hPD9.2
                                  subst hQ
                                  refine W.widen (k := 0) (n := 0) (Nat.le_of_ble_eq_true rfl) (Nat.le_of_ble_eq_true rfl) ?_
                                  exact W.vret hx hb hr (fun tS htS _ => ⟨⟨_, rfl, ⟨axx_93, (nI axx_93), htx_4, ctx_5, fvalx_83, rfl, ⟨(show axx_93 ≤ ln by omega), (show htx_4 ≤ 3 by omega), (show ctx_5 ≤ 3 by omega), (hf_85), (cl_bad hf_7.2.2.2.1.symm (show cl_15 < 7 by omega) (hR_90.trans (itR_no (f := 0) hf_95 qi_103)) (show axx_93 < ln by omega) cb_100).1, (cl_bad hf_7.2.2.2.1.symm (show cl_15 < 7 by omega) (hR_90.trans (itR_no (f := 0) hf_95 qi_103)) (show axx_93 < ln by omega) cb_100).2, (fun q => absurd q (m1_ne (show axx_93 < 2 ^ 31 by omega)))⟩⟩, by rw [htS]; exact hP9, hD9⟩, hS.F htS⟩) hS.2.2 dX4_readClause_94
                                · skip
                                  refine lv_eqi (y := 0) (qi_103) ?_
                                  refine lv_istore (lv' := [(5, .int 0), (4, .int 3), (3, .int 7), (2, .int (nI cl_15)), (0, .ref Rd), (1, .int zf)]) hx hb dX4_readClause_69 hl (by decide) rfl (fun ls hl => ?_)
                                  refine lv_iload hx hb dX4_readClause_71 (lv_at hl 0 rfl) ?_
                                  refine lv_iconst (v := (-1)) hx hb dX4_readClause_73 (by decide) ?_
                                  refine lv_icmp_eq (tgt := 86) hx hb dX4_readClause_74 (by decide) (fun cb => absurd cb (by decide)) (fun _ => ?_)
                                  refine lv_iload_n hx hb dX4_readClause_77 rfl (lv_at hl 2 rfl) ?_
                                  refine lv_iconst (v := 1) hx hb dX4_readClause_78 (by decide) ?_
                                  refine lv_iload hx hb dX4_readClause_79 (lv_at hl 0 rfl) ?_
                                  refine lv_ishl hx hb dX4_readClause_81 ?_
                                  refine lv_eqi (y := 1) (by decide) ?_
                                  refine lv_iand hx hb dX4_readClause_82 ?_
                                  refine lv_eqi (y := 1) (by decide) ?_
                                  refine lv_if_eq (tgt := 95) hx hb dX4_readClause_83 (by decide) (fun cb => absurd cb (by decide)) (fun _ => ?_)
                                  refine lv_aload_n hx hb dX4_readClause_86 rfl (lv_at hl 4 rfl) ?_
                                  refine lv_aload_n hx hb dX4_readClause_87 rfl (lv_at hl 4 rfl) ?_
                                  refine va_get (D := D) (ci := 4) (v := .int (nI axx_93)) (C := RX4) (T := TX4) (N := 7) hx hb hts iX4 hown hK hP 1 rfl rfl 2 (by decide) f28 (fun _ h9 => h9) rfl dX4_readClause_88 ?_
                                  refine va_put (D := D) (ci := 4) (v := .int (nI axx_93)) (ty := .int) (C := RX4) (T := TX4) (N := 7) hx hb hts iX4 tyX4 tyX4_ok nmX4 hown hK hP hD hS 1 rfl rfl 3 (by decide) f31 (fun _ h9 => h9) rfl (by decide +kernel) (rfl) (rfl) (Nat.le_of_ble_eq_true rfl) dX4_readClause_91 (fun H locs hP2 hD2 hS2 => ?_)
                                  clear hP hD hS
                                  have hPD : PD D A [(Rv, .inl (g 0, 21, .inl fvalx_83)), (Rd, .inr (4, [.ref Tp, .int (nI ln), .int (nI axx_93), .int (nI axx_93), .int (nI htx_4), .int (nI ctx_5), .ref Rv])), (Tp, .inl (g 0, 160, .inl ftp))] H := ⟨hP2, hD2⟩
                                  have hS := hS2; clear hP2 hD2 hS2; have hP := hPD.1; have hD := hPD.2; clear hPD
                                  have hPD9 : PD D A [(Rd, .inr (4, [.ref Tp, .int (nI ln), .int (nI axx_93), .int (nI axx_93), .int (nI htx_4), .int (nI ctx_5), .ref Rv])), (Tp, .inl (g 0, 160, .inl ftp)), (Rv, .inl (g 0, 21, .inl fvalx_83))] H := ⟨hP.sub [1, 2, 0] rfl, hD.sub [1, 2, 0] (by decide) rfl⟩
                                  have hP9 := hPD9.1; have hD9 := hPD9.2
                                  subst hQ
                                  refine W.widen (k := 0) (n := 0) (Nat.le_of_ble_eq_true rfl) (Nat.le_of_ble_eq_true rfl) ?_
                                  exact W.vret hx hb hr (fun tS htS _ => ⟨⟨_, rfl, ⟨axx_93, (nI axx_93), htx_4, ctx_5, fvalx_83, rfl, ⟨(show axx_93 ≤ ln by omega), (show htx_4 ≤ 3 by omega), (show ctx_5 ≤ 3 by omega), (hf_85), (cl_bad hf_7.2.2.2.1.symm (show cl_15 < 7 by omega) (hR_90.trans (itR_again (f := 0) (q := 0) hf_95 qi_103 (by decide) (by decide))) (show axx_93 < ln by omega) cb_100).1, (cl_bad hf_7.2.2.2.1.symm (show cl_15 < 7 by omega) (hR_90.trans (itR_again (f := 0) (q := 0) hf_95 qi_103 (by decide) (by decide))) (show axx_93 < ln by omega) cb_100).2, (fun q => absurd q (m1_ne (show axx_93 < 2 ^ 31 by omega)))⟩⟩, by rw [htS]; exact hP9, hD9⟩, hS.F htS⟩) hS.2.2 dX4_readClause_94
                                · skip
                                  refine lv_eqi (y := 1) (qi_103) ?_
                                  refine lv_istore (lv' := [(5, .int 1), (4, .int 3), (3, .int 7), (2, .int (nI cl_15)), (0, .ref Rd), (1, .int zf)]) hx hb dX4_readClause_69 hl (by decide) rfl (fun ls hl => ?_)
                                  refine lv_iload hx hb dX4_readClause_71 (lv_at hl 0 rfl) ?_
                                  refine lv_iconst (v := (-1)) hx hb dX4_readClause_73 (by decide) ?_
                                  refine lv_icmp_eq (tgt := 86) hx hb dX4_readClause_74 (by decide) (fun cb => absurd cb (by decide)) (fun _ => ?_)
                                  refine lv_iload_n hx hb dX4_readClause_77 rfl (lv_at hl 2 rfl) ?_
                                  refine lv_iconst (v := 1) hx hb dX4_readClause_78 (by decide) ?_
                                  refine lv_iload hx hb dX4_readClause_79 (lv_at hl 0 rfl) ?_
                                  refine lv_ishl hx hb dX4_readClause_81 ?_
                                  refine lv_eqi (y := 2) (by decide) ?_
                                  refine lv_iand hx hb dX4_readClause_82 ?_
                                  refine lv_eqi (y := 2) (by decide) ?_
                                  refine lv_if_eq (tgt := 95) hx hb dX4_readClause_83 (by decide) (fun cb => absurd cb (by decide)) (fun _ => ?_)
                                  refine lv_aload_n hx hb dX4_readClause_86 rfl (lv_at hl 4 rfl) ?_
                                  refine lv_aload_n hx hb dX4_readClause_87 rfl (lv_at hl 4 rfl) ?_
                                  refine va_get (D := D) (ci := 4) (v := .int (nI axx_93)) (C := RX4) (T := TX4) (N := 7) hx hb hts iX4 hown hK hP 1 rfl rfl 2 (by decide) f28 (fun _ h9 => h9) rfl dX4_readClause_88 ?_
                                  refine va_put (D := D) (ci := 4) (v := .int (nI axx_93)) (ty := .int) (C := RX4) (T := TX4) (N := 7) hx hb hts iX4 tyX4 tyX4_ok nmX4 hown hK hP hD hS 1 rfl rfl 3 (by decide) f31 (fun _ h9 => h9) rfl (by decide +kernel) (rfl) (rfl) (Nat.le_of_ble_eq_true rfl) dX4_readClause_91 (fun H locs hP2 hD2 hS2 => ?_)
                                  clear hP hD hS
                                  have hPD : PD D A [(Rv, .inl (g 0, 21, .inl fvalx_83)), (Rd, .inr (4, [.ref Tp, .int (nI ln), .int (nI axx_93), .int (nI axx_93), .int (nI htx_4), .int (nI ctx_5), .ref Rv])), (Tp, .inl (g 0, 160, .inl ftp))] H := ⟨hP2, hD2⟩
                                  have hS := hS2; clear hP2 hD2 hS2; have hP := hPD.1; have hD := hPD.2; clear hPD
                                  have hPD9 : PD D A [(Rd, .inr (4, [.ref Tp, .int (nI ln), .int (nI axx_93), .int (nI axx_93), .int (nI htx_4), .int (nI ctx_5), .ref Rv])), (Tp, .inl (g 0, 160, .inl ftp)), (Rv, .inl (g 0, 21, .inl fvalx_83))] H := ⟨hP.sub [1, 2, 0] rfl, hD.sub [1, 2, 0] (by decide) rfl⟩
                                  have hP9 := hPD9.1; have hD9 := hPD9.2
                                  subst hQ
                                  refine W.widen (k := 0) (n := 0) (Nat.le_of_ble_eq_true rfl) (Nat.le_of_ble_eq_true rfl) ?_
                                  exact W.vret hx hb hr (fun tS htS _ => ⟨⟨_, rfl, ⟨axx_93, (nI axx_93), htx_4, ctx_5, fvalx_83, rfl, ⟨(show axx_93 ≤ ln by omega), (show htx_4 ≤ 3 by omega), (show ctx_5 ≤ 3 by omega), (hf_85), (cl_bad hf_7.2.2.2.1.symm (show cl_15 < 7 by omega) (hR_90.trans (itR_again (f := 0) (q := 1) hf_95 qi_103 (by decide) (by decide))) (show axx_93 < ln by omega) cb_100).1, (cl_bad hf_7.2.2.2.1.symm (show cl_15 < 7 by omega) (hR_90.trans (itR_again (f := 0) (q := 1) hf_95 qi_103 (by decide) (by decide))) (show axx_93 < ln by omega) cb_100).2, (fun q => absurd q (m1_ne (show axx_93 < 2 ^ 31 by omega)))⟩⟩, by rw [htS]; exact hP9, hD9⟩, hS.F htS⟩) hS.2.2 dX4_readClause_94
                                · skip
                                  refine lv_eqi (y := 2) (qi_103) ?_
                                  refine lv_istore (lv' := [(5, .int 2), (4, .int 3), (3, .int 7), (2, .int (nI cl_15)), (0, .ref Rd), (1, .int zf)]) hx hb dX4_readClause_69 hl (by decide) rfl (fun ls hl => ?_)
                                  refine lv_iload hx hb dX4_readClause_71 (lv_at hl 0 rfl) ?_
                                  refine lv_iconst (v := (-1)) hx hb dX4_readClause_73 (by decide) ?_
                                  refine lv_icmp_eq (tgt := 86) hx hb dX4_readClause_74 (by decide) (fun cb => absurd cb (by decide)) (fun _ => ?_)
                                  refine lv_iload_n hx hb dX4_readClause_77 rfl (lv_at hl 2 rfl) ?_
                                  refine lv_iconst (v := 1) hx hb dX4_readClause_78 (by decide) ?_
                                  refine lv_iload hx hb dX4_readClause_79 (lv_at hl 0 rfl) ?_
                                  refine lv_ishl hx hb dX4_readClause_81 ?_
                                  refine lv_eqi (y := 4) (by decide) ?_
                                  refine lv_iand hx hb dX4_readClause_82 ?_
                                  refine lv_eqi (y := 4) (by decide) ?_
                                  refine lv_if_eq (tgt := 95) hx hb dX4_readClause_83 (by decide) (fun cb => absurd cb (by decide)) (fun _ => ?_)
                                  refine lv_aload_n hx hb dX4_readClause_86 rfl (lv_at hl 4 rfl) ?_
                                  refine lv_aload_n hx hb dX4_readClause_87 rfl (lv_at hl 4 rfl) ?_
                                  refine va_get (D := D) (ci := 4) (v := .int (nI axx_93)) (C := RX4) (T := TX4) (N := 7) hx hb hts iX4 hown hK hP 1 rfl rfl 2 (by decide) f28 (fun _ h9 => h9) rfl dX4_readClause_88 ?_
                                  refine va_put (D := D) (ci := 4) (v := .int (nI axx_93)) (ty := .int) (C := RX4) (T := TX4) (N := 7) hx hb hts iX4 tyX4 tyX4_ok nmX4 hown hK hP hD hS 1 rfl rfl 3 (by decide) f31 (fun _ h9 => h9) rfl (by decide +kernel) (rfl) (rfl) (Nat.le_of_ble_eq_true rfl) dX4_readClause_91 (fun H locs hP2 hD2 hS2 => ?_)
                                  clear hP hD hS
                                  have hPD : PD D A [(Rv, .inl (g 0, 21, .inl fvalx_83)), (Rd, .inr (4, [.ref Tp, .int (nI ln), .int (nI axx_93), .int (nI axx_93), .int (nI htx_4), .int (nI ctx_5), .ref Rv])), (Tp, .inl (g 0, 160, .inl ftp))] H := ⟨hP2, hD2⟩
                                  have hS := hS2; clear hP2 hD2 hS2; have hP := hPD.1; have hD := hPD.2; clear hPD
                                  have hPD9 : PD D A [(Rd, .inr (4, [.ref Tp, .int (nI ln), .int (nI axx_93), .int (nI axx_93), .int (nI htx_4), .int (nI ctx_5), .ref Rv])), (Tp, .inl (g 0, 160, .inl ftp)), (Rv, .inl (g 0, 21, .inl fvalx_83))] H := ⟨hP.sub [1, 2, 0] rfl, hD.sub [1, 2, 0] (by decide) rfl⟩
                                  have hP9 := hPD9.1; have hD9 := hPD9.2
                                  subst hQ
                                  refine W.widen (k := 0) (n := 0) (Nat.le_of_ble_eq_true rfl) (Nat.le_of_ble_eq_true rfl) ?_
                                  exact W.vret hx hb hr (fun tS htS _ => ⟨⟨_, rfl, ⟨axx_93, (nI axx_93), htx_4, ctx_5, fvalx_83, rfl, ⟨(show axx_93 ≤ ln by omega), (show htx_4 ≤ 3 by omega), (show ctx_5 ≤ 3 by omega), (hf_85), (cl_bad hf_7.2.2.2.1.symm (show cl_15 < 7 by omega) (hR_90.trans (itR_again (f := 0) (q := 2) hf_95 qi_103 (by decide) (by decide))) (show axx_93 < ln by omega) cb_100).1, (cl_bad hf_7.2.2.2.1.symm (show cl_15 < 7 by omega) (hR_90.trans (itR_again (f := 0) (q := 2) hf_95 qi_103 (by decide) (by decide))) (show axx_93 < ln by omega) cb_100).2, (fun q => absurd q (m1_ne (show axx_93 < 2 ^ 31 by omega)))⟩⟩, by rw [htS]; exact hP9, hD9⟩, hS.F htS⟩) hS.2.2 dX4_readClause_94
                              · skip
                                have hPD9 : PD D A [(Rd, .inr (4, [.ref Tp, .int (nI ln), .int (nI axx_93), .int (-1), .int (nI htx_4), .int (nI ctx_5), .ref Rv])), (Tp, .inl (g 0, 160, .inl ftp)), (Rv, .inl (g 0, 21, .inl fvalx_83))] H := ⟨hP.sub [1, 2, 0] rfl, hD.sub [1, 2, 0] (by decide) rfl⟩
                                have hP9 := hPD9.1; have hD9 := hPD9.2
                                subst hQ
                                refine W.widen (k := 0) (n := 0) (Nat.le_of_ble_eq_true rfl) (Nat.le_of_ble_eq_true rfl) ?_
                                exact W.vret hx hb hr (fun tS htS _ => ⟨⟨_, rfl, ⟨axx_93, (-1), htx_4, ctx_5, fvalx_83, rfl, ⟨(show axx_93 ≤ ln by omega), (show htx_4 ≤ 3 by omega), (show ctx_5 ≤ 3 by omega), (hf_85), (cl_end hf_7.2.2.2.1.symm (show cl_15 < 7 by omega) (hR_90.trans (itR_no (f := 0) hf_95 (by rw [cb_100]; exact itK_59 _))) (fun q => q.2 cb_100)).1, (cl_end hf_7.2.2.2.1.symm (show cl_15 < 7 by omega) (hR_90.trans (itR_no (f := 0) hf_95 (by rw [cb_100]; exact itK_59 _))) (fun q => q.2 cb_100)).2.1, (fun _ => ⟨(cl_end hf_7.2.2.2.1.symm (show cl_15 < 7 by omega) (hR_90.trans (itR_no (f := 0) hf_95 (by rw [cb_100]; exact itK_59 _))) (fun q => q.2 cb_100)).2.2, show ax < axx_93 by omega⟩)⟩⟩, by rw [htS]; exact hP9, hD9⟩, hS.F htS⟩) hS.2.2 dX4_readClause_52
                          · skip
                            have hP9 := hP; have hD9 := hD
                            subst hQ
                            refine W.widen (k := 0) (n := 0) (Nat.le_of_ble_eq_true rfl) (Nat.le_of_ble_eq_true rfl) ?_
                            exact W.vret hx hb hr (fun tS htS _ => ⟨⟨_, rfl, ⟨axx_81, zfax_82, htx_4, ctx_5, fvalx_83, rfl, ⟨(show axx_81 ≤ ln by omega), (show htx_4 ≤ 3 by omega), (show ctx_5 ≤ 3 by omega), (hf_85), (cl_num hf_7.2.2.2.1.symm (show cl_15 < 7 by omega) ((congrArg Prod.fst hR_66).trans ((itR_w (f := 1) (q := 2) hf_71 (show axx_69 < ln by omega) qi_79 (by decide) (by decide) (fun q => cb_88 (hf_86.trans q))).trans hf_86.symm)) cb_88).1, (cl_num hf_7.2.2.2.1.symm (show cl_15 < 7 by omega) ((congrArg Prod.fst hR_66).trans ((itR_w (f := 1) (q := 2) hf_71 (show axx_69 < ln by omega) qi_79 (by decide) (by decide) (fun q => cb_88 (hf_86.trans q))).trans hf_86.symm)) cb_88).2, (fun q => absurd q cb_88)⟩⟩, by rw [htS]; exact hP9, hD9⟩, hS.F htS⟩) hS.2.2 dX4_readClause_127
                      · skip
                        have hPD9 : PD D A [(Rd, .inr (4, [.ref Tp, .int (nI ln), .int (nI axx_69), .int (-1), .int (nI htx_4), .int (nI ctx_5), .ref Rv])), (Tp, .inl (g 0, 160, .inl ftp)), (Rv, .inl (g 0, 21, .inl fvalx_59))] H := ⟨hP.sub [1, 2, 0] rfl, hD.sub [1, 2, 0] (by decide) rfl⟩
                        have hP9 := hPD9.1; have hD9 := hPD9.2
                        subst hQ
                        refine W.widen (k := 0) (n := 0) (Nat.le_of_ble_eq_true rfl) (Nat.le_of_ble_eq_true rfl) ?_
                        exact W.vret hx hb hr (fun tS htS _ => ⟨⟨_, rfl, ⟨axx_69, (-1), htx_4, ctx_5, fvalx_59, rfl, ⟨(show axx_69 ≤ ln by omega), (show htx_4 ≤ 3 by omega), (show ctx_5 ≤ 3 by omega), (hf_61), (cl_end hf_7.2.2.2.1.symm (show cl_15 < 7 by omega) (hR_66.trans (itR_no (f := 1) hf_71 (by rw [cb_76]; exact itK_59 _))) (fun q => q.2 cb_76)).1, (cl_end hf_7.2.2.2.1.symm (show cl_15 < 7 by omega) (hR_66.trans (itR_no (f := 1) hf_71 (by rw [cb_76]; exact itK_59 _))) (fun q => q.2 cb_76)).2.1, (fun _ => ⟨(cl_end hf_7.2.2.2.1.symm (show cl_15 < 7 by omega) (hR_66.trans (itR_no (f := 1) hf_71 (by rw [cb_76]; exact itK_59 _))) (fun q => q.2 cb_76)).2.2, show ax < axx_69 by omega⟩)⟩⟩, by rw [htS]; exact hP9, hD9⟩, hS.F htS⟩) hS.2.2 dX4_readClause_52
                  · skip
                    have hP9 := hP; have hD9 := hD
                    subst hQ
                    refine W.widen (k := 0) (n := 0) (Nat.le_of_ble_eq_true rfl) (Nat.le_of_ble_eq_true rfl) ?_
                    exact W.vret hx hb hr (fun tS htS _ => ⟨⟨_, rfl, ⟨axx_57, zfax_58, htx_4, ctx_5, fvalx_59, rfl, ⟨(show axx_57 ≤ ln by omega), (show htx_4 ≤ 3 by omega), (show ctx_5 ≤ 3 by omega), (hf_61), (cl_num hf_7.2.2.2.1.symm (show cl_15 < 7 by omega) ((congrArg Prod.fst hR_42).trans ((itR_w (f := 2) (q := 1) hf_47 (show axx_45 < ln by omega) qi_55 (by decide) (by decide) (fun q => cb_64 (hf_62.trans q))).trans hf_62.symm)) cb_64).1, (cl_num hf_7.2.2.2.1.symm (show cl_15 < 7 by omega) ((congrArg Prod.fst hR_42).trans ((itR_w (f := 2) (q := 1) hf_47 (show axx_45 < ln by omega) qi_55 (by decide) (by decide) (fun q => cb_64 (hf_62.trans q))).trans hf_62.symm)) cb_64).2, (fun q => absurd q cb_64)⟩⟩, by rw [htS]; exact hP9, hD9⟩, hS.F htS⟩) hS.2.2 dX4_readClause_127
                · skip
                  refine lv_eqi (y := 2) (qi_55) ?_
                  refine lv_istore (lv' := [(5, .int 2), (4, .int 1), (3, .int 1), (2, .int (nI cl_15)), (0, .ref Rd), (1, .int zf)]) hx hb dX4_readClause_69 hl (by decide) rfl (fun ls hl => ?_)
                  refine lv_iload hx hb dX4_readClause_71 (lv_at hl 0 rfl) ?_
                  refine lv_iconst (v := (-1)) hx hb dX4_readClause_73 (by decide) ?_
                  refine lv_icmp_eq (tgt := 86) hx hb dX4_readClause_74 (by decide) (fun cb => absurd cb (by decide)) (fun _ => ?_)
                  refine lv_iload_n hx hb dX4_readClause_77 rfl (lv_at hl 2 rfl) ?_
                  refine lv_iconst (v := 1) hx hb dX4_readClause_78 (by decide) ?_
                  refine lv_iload hx hb dX4_readClause_79 (lv_at hl 0 rfl) ?_
                  refine lv_ishl hx hb dX4_readClause_81 ?_
                  refine lv_eqi (y := 4) (by decide) ?_
                  refine lv_iand hx hb dX4_readClause_82 ?_
                  refine lv_eqi (y := 0) (by decide) ?_
                  refine lv_if_eq (tgt := 95) hx hb dX4_readClause_83 (by decide) (fun _ => ?_) (fun cb => absurd (by decide) cb)
                  refine lv_iload_n hx hb dX4_readClause_95 rfl (lv_at hl 2 rfl) ?_
                  refine lv_iconst (v := 1) hx hb dX4_readClause_96 (by decide) ?_
                  refine lv_iload hx hb dX4_readClause_97 (lv_at hl 0 rfl) ?_
                  refine lv_ishl hx hb dX4_readClause_99 ?_
                  refine lv_eqi (y := 4) (by decide) ?_
                  refine lv_ior hx hb dX4_readClause_100 ?_
                  refine lv_eqi (y := 5) (by decide) ?_
                  refine lv_istore_n (lv' := [(3, .int 5), (5, .int 2), (4, .int 1), (2, .int (nI cl_15)), (0, .ref Rd), (1, .int zf)]) hx hb dX4_readClause_101 rfl hl (by decide) rfl (fun ls hl => ?_)
                  refine lv_aload_n hx hb dX4_readClause_102 rfl (lv_at hl 4 rfl) ?_
                  refine lv_dup hx hb dX4_readClause_103 rfl ?_
                  refine va_get (D := D) (ci := 4) (v := .int (nI axx_45)) (C := RX4) (T := TX4) (N := 7) hx hb hts iX4 hown hK hP 1 rfl rfl 2 (by decide) f28 (fun _ h9 => h9) rfl dX4_readClause_104 ?_
                  refine lv_iconst (v := 1) hx hb dX4_readClause_107 (by decide) ?_
                  refine lv_iadd hx hb dX4_readClause_108 ?_
                  refine lv_eqi (y := (nI (axx_45 + 1))) (nI_add (axx_45) (1)) ?_
                  refine va_put (D := D) (ci := 4) (v := .int (nI (axx_45 + 1))) (ty := .int) (C := RX4) (T := TX4) (N := 7) hx hb hts iX4 tyX4 tyX4_ok nmX4 hown hK hP hD hS 1 rfl rfl 2 (by decide) f28 (fun _ h9 => h9) rfl (by decide +kernel) (rfl) (rfl) (Nat.le_of_ble_eq_true rfl) dX4_readClause_109 (fun H locs hP2 hD2 hS2 => ?_)
                  clear hP hD hS
                  have hPD : PD D A [(Rv, .inl (g 0, 21, .inl fvalx_35)), (Rd, .inr (4, [.ref Tp, .int (nI ln), .int (nI (axx_45 + 1)), .int (-1), .int (nI htx_4), .int (nI ctx_5), .ref Rv])), (Tp, .inl (g 0, 160, .inl ftp))] H := ⟨hP2, hD2⟩
                  have hS := hS2; clear hP2 hD2 hS2; have hP := hPD.1; have hD := hPD.2; clear hPD
                  refine lv_aload_n hx hb dX4_readClause_112 rfl (lv_at hl 4 rfl) ?_
                  refine lv_iload_n hx hb dX4_readClause_113 rfl (lv_at hl 3 rfl) ?_
                  refine lv_iload hx hb dX4_readClause_114 (lv_at hl 1 rfl) ?_
                  refine ky_Vv (As := [.int (nI cl_15), .int 2]) (rest := []) ⟨hx, hb, hml, hown, hts⟩ ⟨hK, hN⟩ hZ hP hD hS hA [1, 2, 0] [] (wc := [(Rd, .inr (4, [.ref Tp, .int (nI ln), .int (nI (axx_45 + 1)), .int (-1), .int (nI htx_4), .int (nI ctx_5), .ref Rv])), (Tp, .inl (g 0, 160, .inl ftp)), (Rv, .inl (g 0, 21, .inl fvalx_35))]) (wr := []) rfl rfl rfl rfl (by decide) (r_X4_readNumber l D g H.size Rd cl_15 2 Tp ln (axx_45 + 1) htx_4 ctx_5 Rv ftp fvalx_35 (show ln ≤ 160 by omega) (show (axx_45 + 1) ≤ ln by omega) (hf_37) (show cl_15 < 7 by omega) (show 2 < 3 by omega)) (cwV 2 hts gX4_readClause_X4_readNumber rfl rfl rfl (by decide +kernel) ⟨(Nat.le_of_ble_eq_true rfl), (Nat.le_of_ble_eq_true rfl)⟩) 1 4 rfl rfl rfl rfl hl.1 rfl (Nat.le_of_ble_eq_true rfl) dX4_readClause_116 ⟨(Nat.le_of_ble_eq_true rfl), (Nat.le_of_ble_eq_true rfl)⟩ (fun u H locs hw hP2 hD2 hS2 => ?_)
                  clear hP hD hS
                  obtain ⟨axx_105, zfax_106, fvalx_107, rfl, hf_108, hf_109, hf_110, hf_111⟩ := hw
                  have hPD : PD D A [(Rd, .inr (4, [.ref Tp, .int (nI ln), .int (nI axx_105), .int zfax_106, .int (nI htx_4), .int (nI ctx_5), .ref Rv])), (Tp, .inl (g 0, 160, .inl ftp)), (Rv, .inl (g 0, 21, .inl fvalx_107))] H := ⟨hP2, hD2⟩
                  have hS := hS2; clear hP2 hD2 hS2; have hP := hPD.1; have hD := hPD.2; clear hPD
                  refine W.widen (k := 0) (n := 0) (Nat.le_of_ble_eq_true rfl) (Nat.le_of_ble_eq_true rfl) ?_
                  refine lv_aload_n hx hb dX4_readClause_119 rfl (lv_at hl 4 rfl) ?_
                  refine va_get (D := D) (ci := 4) (v := .int zfax_106) (C := RX4) (T := TX4) (N := 7) hx hb hts iX4 hown hK hP 0 rfl rfl 3 (by decide) f31 (fun _ h9 => h9) rfl dX4_readClause_120 ?_
                  refine lv_iconst (v := (-1)) hx hb dX4_readClause_123 (by decide) ?_
                  refine lv_icmp_eq (tgt := 128) hx hb dX4_readClause_124 (by decide) (fun cb_112 => ?_) (fun cb_112 => ?_)
                  · skip
                    have hPq_113 := hP; have hDq_113 := hD; have hSq_113 := hS; have hlq_113 := hl; clear hP hD hS hl
                    subst cb_112
                    have hP := hPq_113; have hD := hDq_113; have hS := hSq_113; have hl := hlq_113; clear hPq_113 hDq_113 hSq_113 hlq_113
                    have hne_115 := (hf_111 rfl).1
                    have hne_115g := nmE_gt (T := ftp) (n := ln) (i := axx_45 + 1) (by omega)
                    have hR_114 : itR ftp ln (kdN cl_15) 4 0 (sB ftp ln ax + 1) = itR ftp ln (kdN cl_15) 2 5 axx_105 := hR_42.trans ((itR_go (f := 2) (m := 1) (q := 2) hf_47 (show axx_45 < ln by omega) qi_55 (by decide) (by decide) hf_110.symm).trans (by rw [hne_115]))
                    refine lv_iinc (v := 2) (lv' := [(4, .int 2), (3, .int 5), (5, .int 2), (2, .int (nI cl_15)), (0, .ref Rd), (1, .int zf)]) hx hb dX4_readClause_128 hl (k := 2) rfl (by decide) (by decide) rfl (fun ls hl => ?_)
                    refine lv_goto (tgt := 17) hx hb dX4_readClause_131 (by decide) ?_
                    refine lv_iload hx hb dX4_readClause_17 (lv_at hl 0 rfl) ?_
                    refine lv_iconst (v := 3) hx hb dX4_readClause_19 (by decide) ?_
                    refine lv_icmp_gt (tgt := 134) hx hb dX4_readClause_20 (by decide) (fun cb => absurd cb (by decide)) (fun _ => ?_)
                    refine lv_aload_n hx hb dX4_readClause_23 rfl (lv_at hl 4 rfl) ?_
                    refine ky_Vv (As := []) (rest := []) ⟨hx, hb, hml, hown, hts⟩ ⟨hK, hN⟩ hZ hP hD hS hA [0, 1] [2] (wc := [(Rd, .inr (4, [.ref Tp, .int (nI ln), .int (nI axx_105), .int (-1), .int (nI htx_4), .int (nI ctx_5), .ref Rv])), (Tp, .inl (g 0, 160, .inl ftp))]) (wr := [(Rv, .inl (g 0, 21, .inl fvalx_107))]) rfl rfl rfl rfl (by decide) (r_X4_passBlanks l D g H.size Rd Tp ln axx_105 (-1) htx_4 ctx_5 Rv ftp (show ln ≤ 160 by omega) (show axx_105 ≤ ln by omega)) (cwV 0 hts gX4_readClause_X4_passBlanks rfl rfl rfl (by decide +kernel) ⟨(Nat.le_of_ble_eq_true rfl), (Nat.le_of_ble_eq_true rfl)⟩) 0 4 rfl rfl rfl rfl hl.1 rfl (Nat.le_of_ble_eq_true rfl) dX4_readClause_24 ⟨(Nat.le_of_ble_eq_true rfl), (Nat.le_of_ble_eq_true rfl)⟩ (fun u H locs hw hP2 hD2 hS2 => ?_)
                    clear hP hD hS
                    obtain ⟨axx_117, rfl, hf_118, hf_119⟩ := hw
                    have hPD : PD D A [(Rv, .inl (g 0, 21, .inl fvalx_107)), (Rd, .inr (4, [.ref Tp, .int (nI ln), .int (nI axx_117), .int (-1), .int (nI htx_4), .int (nI ctx_5), .ref Rv])), (Tp, .inl (g 0, 160, .inl ftp))] H := ⟨hP2, hD2⟩
                    have hS := hS2; clear hP2 hD2 hS2; have hP := hPD.1; have hD := hPD.2; clear hPD
                    refine W.widen (k := 0) (n := 0) (Nat.le_of_ble_eq_true rfl) (Nat.le_of_ble_eq_true rfl) ?_
                    have hge_120 := sB_ge (T := ftp) (n := ln) (i := axx_105) (by omega)
                    refine lv_aload_n hx hb dX4_readClause_27 rfl (lv_at hl 4 rfl) ?_
                    refine va_get (D := D) (ci := 4) (v := .int (nI axx_117)) (C := RX4) (T := TX4) (N := 7) hx hb hts iX4 hown hK hP 1 rfl rfl 2 (by decide) f28 (fun _ h9 => h9) rfl dX4_readClause_28 ?_
                    refine lv_aload_n hx hb dX4_readClause_31 rfl (lv_at hl 4 rfl) ?_
                    refine va_get (D := D) (ci := 4) (v := .int (nI ln)) (C := RX4) (T := TX4) (N := 7) hx hb hts iX4 hown hK hP 1 rfl rfl 1 (by decide) f24 (fun _ h9 => h9) rfl dX4_readClause_32 ?_
                    refine lv_icmp_ge (tgt := 52) hx hb dX4_readClause_35 (by decide) (fun cb_121 => ?_) (fun cb_121 => ?_)
                    · skip
                      have cn_122 : ln ≤ axx_117 := (nI_leI (show ln < 2 ^ 31 by omega) (show axx_117 < 2 ^ 31 by omega)).mp cb_121
                      have hPD9 : PD D A [(Rd, .inr (4, [.ref Tp, .int (nI ln), .int (nI axx_117), .int (-1), .int (nI htx_4), .int (nI ctx_5), .ref Rv])), (Tp, .inl (g 0, 160, .inl ftp)), (Rv, .inl (g 0, 21, .inl fvalx_107))] H := ⟨hP.sub [1, 2, 0] rfl, hD.sub [1, 2, 0] (by decide) rfl⟩
                      have hP9 := hPD9.1; have hD9 := hPD9.2
                      subst hQ
                      refine W.widen (k := 0) (n := 0) (Nat.le_of_ble_eq_true rfl) (Nat.le_of_ble_eq_true rfl) ?_
                      exact W.vret hx hb hr (fun tS htS _ => ⟨⟨_, rfl, ⟨axx_117, (-1), htx_4, ctx_5, fvalx_107, rfl, ⟨(show axx_117 ≤ ln by omega), (show htx_4 ≤ 3 by omega), (show ctx_5 ≤ 3 by omega), (hf_109), (cl_end hf_7.2.2.2.1.symm (show cl_15 < 7 by omega) (hR_114.trans (itR_end (f := 1) hf_119 (show ¬ axx_117 < ln by omega))) (fun q => absurd q.1 (show ¬ axx_117 < ln by omega))).1, (cl_end hf_7.2.2.2.1.symm (show cl_15 < 7 by omega) (hR_114.trans (itR_end (f := 1) hf_119 (show ¬ axx_117 < ln by omega))) (fun q => absurd q.1 (show ¬ axx_117 < ln by omega))).2.1, (fun _ => ⟨(cl_end hf_7.2.2.2.1.symm (show cl_15 < 7 by omega) (hR_114.trans (itR_end (f := 1) hf_119 (show ¬ axx_117 < ln by omega))) (fun q => absurd q.1 (show ¬ axx_117 < ln by omega))).2.2, show ax < axx_117 by omega⟩)⟩⟩, by rw [htS]; exact hP9, hD9⟩, hS.F htS⟩) hS.2.2 dX4_readClause_52
                    · skip
                      have cn_123 : axx_117 < ln := Nat.lt_of_not_le (fun q9 => cb_121 ((nI_leI (show ln < 2 ^ 31 by omega) (show axx_117 < 2 ^ 31 by omega)).mpr q9))
                      refine lv_aload_n hx hb dX4_readClause_38 rfl (lv_at hl 4 rfl) ?_
                      refine va_get (D := D) (ci := 4) (v := .ref Tp) (C := RX4) (T := TX4) (N := 7) hx hb hts iX4 hown hK hP 1 rfl rfl 0 (by decide) f9 (fun _ h9 => h9) rfl dX4_readClause_39 ?_
                      refine lv_aload_n hx hb dX4_readClause_42 rfl (lv_at hl 4 rfl) ?_
                      refine va_get (D := D) (ci := 4) (v := .int (nI axx_117)) (C := RX4) (T := TX4) (N := 7) hx hb hts iX4 hown hK hP 1 rfl rfl 2 (by decide) f28 (fun _ h9 => h9) rfl dX4_readClause_43 ?_
                      refine va_iald hx hb hK hP 2 0 rfl rfl (vp_in_nI (show axx_117 < 160 by omega) (by decide)) dX4_readClause_46 ?_
                      refine lv_eqi (y := (ftp (axx_117))) (congrArg ftp (nI_clamp (show axx_117 < 2 ^ 31 by omega))) ?_
                      refine lv_bipush (v := 59) hx hb dX4_readClause_47 (by decide) ?_
                      refine lv_icmp_ne (tgt := 53) hx hb dX4_readClause_49 (by decide) (fun cb_124 => ?_) (fun cb_124 => ?_)
                      · skip
                        refine lv_iload_n hx hb dX4_readClause_53 rfl (lv_at hl 3 rfl) ?_
                        refine ky_Si (As := [.int (nI cl_15)]) (rest := []) ⟨hx, hb, hml, hown, hts⟩ ⟨hK, hN⟩ hZ hP hD hS hA [] [0, 1, 2] (wc := []) (wr := [(Rv, .inl (g 0, 21, .inl fvalx_107)), (Rd, .inr (4, [.ref Tp, .int (nI ln), .int (nI axx_117), .int (-1), .int (nI htx_4), .int (nI ctx_5), .ref Rv])), (Tp, .inl (g 0, 160, .inl ftp))]) rfl rfl rfl rfl (by decide) (r_X4_kindOf l D g H.size cl_15 (show cl_15 < 7 by omega)) (va_cwS 1 hts gX4_readClause_X4_kindOf rfl rfl rfl (by decide +kernel) ⟨(Nat.le_of_ble_eq_true rfl), (Nat.le_of_ble_eq_true rfl)⟩) rfl hl.1 rfl (Nat.le_of_ble_eq_true rfl) dX4_readClause_54 ⟨(Nat.le_of_ble_eq_true rfl), (Nat.le_of_ble_eq_true rfl)⟩ (fun r_125 u H locs hw hP2 hD2 hS2 => ?_)
                        clear hP hD hS
                        obtain ⟨rfl, rfl⟩ := hw
                        have hPD : PD D A [(Rv, .inl (g 0, 21, .inl fvalx_107)), (Rd, .inr (4, [.ref Tp, .int (nI ln), .int (nI axx_117), .int (-1), .int (nI htx_4), .int (nI ctx_5), .ref Rv])), (Tp, .inl (g 0, 160, .inl ftp))] H := ⟨hP2, hD2⟩
                        have hS := hS2; clear hP2 hD2 hS2; have hP := hPD.1; have hD := hPD.2; clear hPD
                        refine W.widen (k := 0) (n := 0) (Nat.le_of_ble_eq_true rfl) (Nat.le_of_ble_eq_true rfl) ?_
                        refine lv_aload_n hx hb dX4_readClause_57 rfl (lv_at hl 4 rfl) ?_
                        refine va_get (D := D) (ci := 4) (v := .ref Tp) (C := RX4) (T := TX4) (N := 7) hx hb hts iX4 hown hK hP 1 rfl rfl 0 (by decide) f9 (fun _ h9 => h9) rfl dX4_readClause_58 ?_
                        refine lv_aload_n hx hb dX4_readClause_61 rfl (lv_at hl 4 rfl) ?_
                        refine va_get (D := D) (ci := 4) (v := .int (nI axx_117)) (C := RX4) (T := TX4) (N := 7) hx hb hts iX4 hown hK hP 1 rfl rfl 2 (by decide) f28 (fun _ h9 => h9) rfl dX4_readClause_62 ?_
                        refine va_iald hx hb hK hP 2 0 rfl rfl (vp_in_nI (show axx_117 < 160 by omega) (by decide)) dX4_readClause_65 ?_
                        refine lv_eqi (y := (ftp (axx_117))) (congrArg ftp (nI_clamp (show axx_117 < 2 ^ 31 by omega))) ?_
                        refine ky_Si (As := [.int (nI (kdN cl_15)), .int (ftp (axx_117))]) (rest := []) ⟨hx, hb, hml, hown, hts⟩ ⟨hK, hN⟩ hZ hP hD hS hA [] [0, 1, 2] (wc := []) (wr := [(Rv, .inl (g 0, 21, .inl fvalx_107)), (Rd, .inr (4, [.ref Tp, .int (nI ln), .int (nI axx_117), .int (-1), .int (nI htx_4), .int (nI ctx_5), .ref Rv])), (Tp, .inl (g 0, 160, .inl ftp))]) rfl rfl rfl rfl (by decide) (r_X4_itemOf l D g H.size (kdN cl_15) (ftp (axx_117)) (show (kdN cl_15) < 3 by omega)) (va_cwS 2 hts gX4_readClause_X4_itemOf rfl rfl rfl (by decide +kernel) ⟨(Nat.le_of_ble_eq_true rfl), (Nat.le_of_ble_eq_true rfl)⟩) rfl hl.1 rfl (Nat.le_of_ble_eq_true rfl) dX4_readClause_66 ⟨(Nat.le_of_ble_eq_true rfl), (Nat.le_of_ble_eq_true rfl)⟩ (fun r_126 u H locs hw hP2 hD2 hS2 => ?_)
                        clear hP hD hS
                        obtain ⟨rfl, rfl⟩ := hw
                        have hPD : PD D A [(Rv, .inl (g 0, 21, .inl fvalx_107)), (Rd, .inr (4, [.ref Tp, .int (nI ln), .int (nI axx_117), .int (-1), .int (nI htx_4), .int (nI ctx_5), .ref Rv])), (Tp, .inl (g 0, 160, .inl ftp))] H := ⟨hP2, hD2⟩
                        have hS := hS2; clear hP2 hD2 hS2; have hP := hPD.1; have hD := hPD.2; clear hPD
                        refine W.widen (k := 0) (n := 0) (Nat.le_of_ble_eq_true rfl) (Nat.le_of_ble_eq_true rfl) ?_
                        rcases itK_c (kdN cl_15) (ftp (axx_117)) with qi_127 | qi_127 | qi_127 | qi_127
                        · skip
                          refine lv_eqi (y := (-1)) (qi_127) ?_
                          refine lv_istore (lv' := [(5, .int (-1)), (4, .int 2), (3, .int 5), (2, .int (nI cl_15)), (0, .ref Rd), (1, .int zf)]) hx hb dX4_readClause_69 hl (by decide) rfl (fun ls hl => ?_)
                          refine lv_iload hx hb dX4_readClause_71 (lv_at hl 0 rfl) ?_
                          refine lv_iconst (v := (-1)) hx hb dX4_readClause_73 (by decide) ?_
                          refine lv_icmp_eq (tgt := 86) hx hb dX4_readClause_74 (by decide) (fun _ => ?_) (fun cb => absurd (by decide) cb)
                          refine lv_aload_n hx hb dX4_readClause_86 rfl (lv_at hl 4 rfl) ?_
                          refine lv_aload_n hx hb dX4_readClause_87 rfl (lv_at hl 4 rfl) ?_
                          refine va_get (D := D) (ci := 4) (v := .int (nI axx_117)) (C := RX4) (T := TX4) (N := 7) hx hb hts iX4 hown hK hP 1 rfl rfl 2 (by decide) f28 (fun _ h9 => h9) rfl dX4_readClause_88 ?_
                          refine va_put (D := D) (ci := 4) (v := .int (nI axx_117)) (ty := .int) (C := RX4) (T := TX4) (N := 7) hx hb hts iX4 tyX4 tyX4_ok nmX4 hown hK hP hD hS 1 rfl rfl 3 (by decide) f31 (fun _ h9 => h9) rfl (by decide +kernel) (rfl) (rfl) (Nat.le_of_ble_eq_true rfl) dX4_readClause_91 (fun H locs hP2 hD2 hS2 => ?_)
                          clear hP hD hS
                          have hPD : PD D A [(Rv, .inl (g 0, 21, .inl fvalx_107)), (Rd, .inr (4, [.ref Tp, .int (nI ln), .int (nI axx_117), .int (nI axx_117), .int (nI htx_4), .int (nI ctx_5), .ref Rv])), (Tp, .inl (g 0, 160, .inl ftp))] H := ⟨hP2, hD2⟩
                          have hS := hS2; clear hP2 hD2 hS2; have hP := hPD.1; have hD := hPD.2; clear hPD
                          have hPD9 : PD D A [(Rd, .inr (4, [.ref Tp, .int (nI ln), .int (nI axx_117), .int (nI axx_117), .int (nI htx_4), .int (nI ctx_5), .ref Rv])), (Tp, .inl (g 0, 160, .inl ftp)), (Rv, .inl (g 0, 21, .inl fvalx_107))] H := ⟨hP.sub [1, 2, 0] rfl, hD.sub [1, 2, 0] (by decide) rfl⟩
                          have hP9 := hPD9.1; have hD9 := hPD9.2
                          subst hQ
                          refine W.widen (k := 0) (n := 0) (Nat.le_of_ble_eq_true rfl) (Nat.le_of_ble_eq_true rfl) ?_
                          exact W.vret hx hb hr (fun tS htS _ => ⟨⟨_, rfl, ⟨axx_117, (nI axx_117), htx_4, ctx_5, fvalx_107, rfl, ⟨(show axx_117 ≤ ln by omega), (show htx_4 ≤ 3 by omega), (show ctx_5 ≤ 3 by omega), (hf_109), (cl_bad hf_7.2.2.2.1.symm (show cl_15 < 7 by omega) (hR_114.trans (itR_no (f := 1) hf_119 qi_127)) (show axx_117 < ln by omega) cb_124).1, (cl_bad hf_7.2.2.2.1.symm (show cl_15 < 7 by omega) (hR_114.trans (itR_no (f := 1) hf_119 qi_127)) (show axx_117 < ln by omega) cb_124).2, (fun q => absurd q (m1_ne (show axx_117 < 2 ^ 31 by omega)))⟩⟩, by rw [htS]; exact hP9, hD9⟩, hS.F htS⟩) hS.2.2 dX4_readClause_94
                        · skip
                          refine lv_eqi (y := 0) (qi_127) ?_
                          refine lv_istore (lv' := [(5, .int 0), (4, .int 2), (3, .int 5), (2, .int (nI cl_15)), (0, .ref Rd), (1, .int zf)]) hx hb dX4_readClause_69 hl (by decide) rfl (fun ls hl => ?_)
                          refine lv_iload hx hb dX4_readClause_71 (lv_at hl 0 rfl) ?_
                          refine lv_iconst (v := (-1)) hx hb dX4_readClause_73 (by decide) ?_
                          refine lv_icmp_eq (tgt := 86) hx hb dX4_readClause_74 (by decide) (fun cb => absurd cb (by decide)) (fun _ => ?_)
                          refine lv_iload_n hx hb dX4_readClause_77 rfl (lv_at hl 2 rfl) ?_
                          refine lv_iconst (v := 1) hx hb dX4_readClause_78 (by decide) ?_
                          refine lv_iload hx hb dX4_readClause_79 (lv_at hl 0 rfl) ?_
                          refine lv_ishl hx hb dX4_readClause_81 ?_
                          refine lv_eqi (y := 1) (by decide) ?_
                          refine lv_iand hx hb dX4_readClause_82 ?_
                          refine lv_eqi (y := 1) (by decide) ?_
                          refine lv_if_eq (tgt := 95) hx hb dX4_readClause_83 (by decide) (fun cb => absurd cb (by decide)) (fun _ => ?_)
                          refine lv_aload_n hx hb dX4_readClause_86 rfl (lv_at hl 4 rfl) ?_
                          refine lv_aload_n hx hb dX4_readClause_87 rfl (lv_at hl 4 rfl) ?_
                          refine va_get (D := D) (ci := 4) (v := .int (nI axx_117)) (C := RX4) (T := TX4) (N := 7) hx hb hts iX4 hown hK hP 1 rfl rfl 2 (by decide) f28 (fun _ h9 => h9) rfl dX4_readClause_88 ?_
                          refine va_put (D := D) (ci := 4) (v := .int (nI axx_117)) (ty := .int) (C := RX4) (T := TX4) (N := 7) hx hb hts iX4 tyX4 tyX4_ok nmX4 hown hK hP hD hS 1 rfl rfl 3 (by decide) f31 (fun _ h9 => h9) rfl (by decide +kernel) (rfl) (rfl) (Nat.le_of_ble_eq_true rfl) dX4_readClause_91 (fun H locs hP2 hD2 hS2 => ?_)
                          clear hP hD hS
                          have hPD : PD D A [(Rv, .inl (g 0, 21, .inl fvalx_107)), (Rd, .inr (4, [.ref Tp, .int (nI ln), .int (nI axx_117), .int (nI axx_117), .int (nI htx_4), .int (nI ctx_5), .ref Rv])), (Tp, .inl (g 0, 160, .inl ftp))] H := ⟨hP2, hD2⟩
                          have hS := hS2; clear hP2 hD2 hS2; have hP := hPD.1; have hD := hPD.2; clear hPD
                          have hPD9 : PD D A [(Rd, .inr (4, [.ref Tp, .int (nI ln), .int (nI axx_117), .int (nI axx_117), .int (nI htx_4), .int (nI ctx_5), .ref Rv])), (Tp, .inl (g 0, 160, .inl ftp)), (Rv, .inl (g 0, 21, .inl fvalx_107))] H := ⟨hP.sub [1, 2, 0] rfl, hD.sub [1, 2, 0] (by decide) rfl⟩
                          have hP9 := hPD9.1; have hD9 := hPD9.2
                          subst hQ
                          refine W.widen (k := 0) (n := 0) (Nat.le_of_ble_eq_true rfl) (Nat.le_of_ble_eq_true rfl) ?_
                          exact W.vret hx hb hr (fun tS htS _ => ⟨⟨_, rfl, ⟨axx_117, (nI axx_117), htx_4, ctx_5, fvalx_107, rfl, ⟨(show axx_117 ≤ ln by omega), (show htx_4 ≤ 3 by omega), (show ctx_5 ≤ 3 by omega), (hf_109), (cl_bad hf_7.2.2.2.1.symm (show cl_15 < 7 by omega) (hR_114.trans (itR_again (f := 1) (q := 0) hf_119 qi_127 (by decide) (by decide))) (show axx_117 < ln by omega) cb_124).1, (cl_bad hf_7.2.2.2.1.symm (show cl_15 < 7 by omega) (hR_114.trans (itR_again (f := 1) (q := 0) hf_119 qi_127 (by decide) (by decide))) (show axx_117 < ln by omega) cb_124).2, (fun q => absurd q (m1_ne (show axx_117 < 2 ^ 31 by omega)))⟩⟩, by rw [htS]; exact hP9, hD9⟩, hS.F htS⟩) hS.2.2 dX4_readClause_94
                        · skip
                          refine lv_eqi (y := 1) (qi_127) ?_
                          refine lv_istore (lv' := [(5, .int 1), (4, .int 2), (3, .int 5), (2, .int (nI cl_15)), (0, .ref Rd), (1, .int zf)]) hx hb dX4_readClause_69 hl (by decide) rfl (fun ls hl => ?_)
                          refine lv_iload hx hb dX4_readClause_71 (lv_at hl 0 rfl) ?_
                          refine lv_iconst (v := (-1)) hx hb dX4_readClause_73 (by decide) ?_
                          refine lv_icmp_eq (tgt := 86) hx hb dX4_readClause_74 (by decide) (fun cb => absurd cb (by decide)) (fun _ => ?_)
                          refine lv_iload_n hx hb dX4_readClause_77 rfl (lv_at hl 2 rfl) ?_
                          refine lv_iconst (v := 1) hx hb dX4_readClause_78 (by decide) ?_
                          refine lv_iload hx hb dX4_readClause_79 (lv_at hl 0 rfl) ?_
                          refine lv_ishl hx hb dX4_readClause_81 ?_
                          refine lv_eqi (y := 2) (by decide) ?_
                          refine lv_iand hx hb dX4_readClause_82 ?_
                          refine lv_eqi (y := 0) (by decide) ?_
                          refine lv_if_eq (tgt := 95) hx hb dX4_readClause_83 (by decide) (fun _ => ?_) (fun cb => absurd (by decide) cb)
                          refine lv_iload_n hx hb dX4_readClause_95 rfl (lv_at hl 2 rfl) ?_
                          refine lv_iconst (v := 1) hx hb dX4_readClause_96 (by decide) ?_
                          refine lv_iload hx hb dX4_readClause_97 (lv_at hl 0 rfl) ?_
                          refine lv_ishl hx hb dX4_readClause_99 ?_
                          refine lv_eqi (y := 2) (by decide) ?_
                          refine lv_ior hx hb dX4_readClause_100 ?_
                          refine lv_eqi (y := 7) (by decide) ?_
                          refine lv_istore_n (lv' := [(3, .int 7), (5, .int 1), (4, .int 2), (2, .int (nI cl_15)), (0, .ref Rd), (1, .int zf)]) hx hb dX4_readClause_101 rfl hl (by decide) rfl (fun ls hl => ?_)
                          refine lv_aload_n hx hb dX4_readClause_102 rfl (lv_at hl 4 rfl) ?_
                          refine lv_dup hx hb dX4_readClause_103 rfl ?_
                          refine va_get (D := D) (ci := 4) (v := .int (nI axx_117)) (C := RX4) (T := TX4) (N := 7) hx hb hts iX4 hown hK hP 1 rfl rfl 2 (by decide) f28 (fun _ h9 => h9) rfl dX4_readClause_104 ?_
                          refine lv_iconst (v := 1) hx hb dX4_readClause_107 (by decide) ?_
                          refine lv_iadd hx hb dX4_readClause_108 ?_
                          refine lv_eqi (y := (nI (axx_117 + 1))) (nI_add (axx_117) (1)) ?_
                          refine va_put (D := D) (ci := 4) (v := .int (nI (axx_117 + 1))) (ty := .int) (C := RX4) (T := TX4) (N := 7) hx hb hts iX4 tyX4 tyX4_ok nmX4 hown hK hP hD hS 1 rfl rfl 2 (by decide) f28 (fun _ h9 => h9) rfl (by decide +kernel) (rfl) (rfl) (Nat.le_of_ble_eq_true rfl) dX4_readClause_109 (fun H locs hP2 hD2 hS2 => ?_)
                          clear hP hD hS
                          have hPD : PD D A [(Rv, .inl (g 0, 21, .inl fvalx_107)), (Rd, .inr (4, [.ref Tp, .int (nI ln), .int (nI (axx_117 + 1)), .int (-1), .int (nI htx_4), .int (nI ctx_5), .ref Rv])), (Tp, .inl (g 0, 160, .inl ftp))] H := ⟨hP2, hD2⟩
                          have hS := hS2; clear hP2 hD2 hS2; have hP := hPD.1; have hD := hPD.2; clear hPD
                          refine lv_aload_n hx hb dX4_readClause_112 rfl (lv_at hl 4 rfl) ?_
                          refine lv_iload_n hx hb dX4_readClause_113 rfl (lv_at hl 3 rfl) ?_
                          refine lv_iload hx hb dX4_readClause_114 (lv_at hl 1 rfl) ?_
                          refine ky_Vv (As := [.int (nI cl_15), .int 1]) (rest := []) ⟨hx, hb, hml, hown, hts⟩ ⟨hK, hN⟩ hZ hP hD hS hA [1, 2, 0] [] (wc := [(Rd, .inr (4, [.ref Tp, .int (nI ln), .int (nI (axx_117 + 1)), .int (-1), .int (nI htx_4), .int (nI ctx_5), .ref Rv])), (Tp, .inl (g 0, 160, .inl ftp)), (Rv, .inl (g 0, 21, .inl fvalx_107))]) (wr := []) rfl rfl rfl rfl (by decide) (r_X4_readNumber l D g H.size Rd cl_15 1 Tp ln (axx_117 + 1) htx_4 ctx_5 Rv ftp fvalx_107 (show ln ≤ 160 by omega) (show (axx_117 + 1) ≤ ln by omega) (hf_109) (show cl_15 < 7 by omega) (show 1 < 3 by omega)) (cwV 2 hts gX4_readClause_X4_readNumber rfl rfl rfl (by decide +kernel) ⟨(Nat.le_of_ble_eq_true rfl), (Nat.le_of_ble_eq_true rfl)⟩) 1 4 rfl rfl rfl rfl hl.1 rfl (Nat.le_of_ble_eq_true rfl) dX4_readClause_116 ⟨(Nat.le_of_ble_eq_true rfl), (Nat.le_of_ble_eq_true rfl)⟩ (fun u H locs hw hP2 hD2 hS2 => ?_)
                          clear hP hD hS
                          obtain ⟨axx_129, zfax_130, fvalx_131, rfl, hf_132, hf_133, hf_134, hf_135⟩ := hw
                          have hPD : PD D A [(Rd, .inr (4, [.ref Tp, .int (nI ln), .int (nI axx_129), .int zfax_130, .int (nI htx_4), .int (nI ctx_5), .ref Rv])), (Tp, .inl (g 0, 160, .inl ftp)), (Rv, .inl (g 0, 21, .inl fvalx_131))] H := ⟨hP2, hD2⟩
                          have hS := hS2; clear hP2 hD2 hS2; have hP := hPD.1; have hD := hPD.2; clear hPD
                          refine W.widen (k := 0) (n := 0) (Nat.le_of_ble_eq_true rfl) (Nat.le_of_ble_eq_true rfl) ?_
                          refine lv_aload_n hx hb dX4_readClause_119 rfl (lv_at hl 4 rfl) ?_
                          refine va_get (D := D) (ci := 4) (v := .int zfax_130) (C := RX4) (T := TX4) (N := 7) hx hb hts iX4 hown hK hP 0 rfl rfl 3 (by decide) f31 (fun _ h9 => h9) rfl dX4_readClause_120 ?_
                          refine lv_iconst (v := (-1)) hx hb dX4_readClause_123 (by decide) ?_
                          refine lv_icmp_eq (tgt := 128) hx hb dX4_readClause_124 (by decide) (fun cb_136 => ?_) (fun cb_136 => ?_)
                          · skip
                            have hPq_137 := hP; have hDq_137 := hD; have hSq_137 := hS; have hlq_137 := hl; clear hP hD hS hl
                            subst cb_136
                            have hP := hPq_137; have hD := hDq_137; have hS := hSq_137; have hl := hlq_137; clear hPq_137 hDq_137 hSq_137 hlq_137
                            have hne_139 := (hf_135 rfl).1
                            have hne_139g := nmE_gt (T := ftp) (n := ln) (i := axx_117 + 1) (by omega)
                            have hR_138 : itR ftp ln (kdN cl_15) 4 0 (sB ftp ln ax + 1) = itR ftp ln (kdN cl_15) 1 7 axx_129 := hR_114.trans ((itR_go (f := 1) (m := 5) (q := 1) hf_119 (show axx_117 < ln by omega) qi_127 (by decide) (by decide) hf_134.symm).trans (by rw [hne_139]))
                            refine lv_iinc (v := 3) (lv' := [(4, .int 3), (3, .int 7), (5, .int 1), (2, .int (nI cl_15)), (0, .ref Rd), (1, .int zf)]) hx hb dX4_readClause_128 hl (k := 2) rfl (by decide) (by decide) rfl (fun ls hl => ?_)
                            refine lv_goto (tgt := 17) hx hb dX4_readClause_131 (by decide) ?_
                            refine lv_iload hx hb dX4_readClause_17 (lv_at hl 0 rfl) ?_
                            refine lv_iconst (v := 3) hx hb dX4_readClause_19 (by decide) ?_
                            refine lv_icmp_gt (tgt := 134) hx hb dX4_readClause_20 (by decide) (fun cb => absurd cb (by decide)) (fun _ => ?_)
                            refine lv_aload_n hx hb dX4_readClause_23 rfl (lv_at hl 4 rfl) ?_
                            refine ky_Vv (As := []) (rest := []) ⟨hx, hb, hml, hown, hts⟩ ⟨hK, hN⟩ hZ hP hD hS hA [0, 1] [2] (wc := [(Rd, .inr (4, [.ref Tp, .int (nI ln), .int (nI axx_129), .int (-1), .int (nI htx_4), .int (nI ctx_5), .ref Rv])), (Tp, .inl (g 0, 160, .inl ftp))]) (wr := [(Rv, .inl (g 0, 21, .inl fvalx_131))]) rfl rfl rfl rfl (by decide) (r_X4_passBlanks l D g H.size Rd Tp ln axx_129 (-1) htx_4 ctx_5 Rv ftp (show ln ≤ 160 by omega) (show axx_129 ≤ ln by omega)) (cwV 0 hts gX4_readClause_X4_passBlanks rfl rfl rfl (by decide +kernel) ⟨(Nat.le_of_ble_eq_true rfl), (Nat.le_of_ble_eq_true rfl)⟩) 0 4 rfl rfl rfl rfl hl.1 rfl (Nat.le_of_ble_eq_true rfl) dX4_readClause_24 ⟨(Nat.le_of_ble_eq_true rfl), (Nat.le_of_ble_eq_true rfl)⟩ (fun u H locs hw hP2 hD2 hS2 => ?_)
                            clear hP hD hS
                            obtain ⟨axx_141, rfl, hf_142, hf_143⟩ := hw
                            have hPD : PD D A [(Rv, .inl (g 0, 21, .inl fvalx_131)), (Rd, .inr (4, [.ref Tp, .int (nI ln), .int (nI axx_141), .int (-1), .int (nI htx_4), .int (nI ctx_5), .ref Rv])), (Tp, .inl (g 0, 160, .inl ftp))] H := ⟨hP2, hD2⟩
                            have hS := hS2; clear hP2 hD2 hS2; have hP := hPD.1; have hD := hPD.2; clear hPD
                            refine W.widen (k := 0) (n := 0) (Nat.le_of_ble_eq_true rfl) (Nat.le_of_ble_eq_true rfl) ?_
                            have hge_144 := sB_ge (T := ftp) (n := ln) (i := axx_129) (by omega)
                            refine lv_aload_n hx hb dX4_readClause_27 rfl (lv_at hl 4 rfl) ?_
                            refine va_get (D := D) (ci := 4) (v := .int (nI axx_141)) (C := RX4) (T := TX4) (N := 7) hx hb hts iX4 hown hK hP 1 rfl rfl 2 (by decide) f28 (fun _ h9 => h9) rfl dX4_readClause_28 ?_
                            refine lv_aload_n hx hb dX4_readClause_31 rfl (lv_at hl 4 rfl) ?_
                            refine va_get (D := D) (ci := 4) (v := .int (nI ln)) (C := RX4) (T := TX4) (N := 7) hx hb hts iX4 hown hK hP 1 rfl rfl 1 (by decide) f24 (fun _ h9 => h9) rfl dX4_readClause_32 ?_
                            refine lv_icmp_ge (tgt := 52) hx hb dX4_readClause_35 (by decide) (fun cb_145 => ?_) (fun cb_145 => ?_)
                            · skip
                              have cn_146 : ln ≤ axx_141 := (nI_leI (show ln < 2 ^ 31 by omega) (show axx_141 < 2 ^ 31 by omega)).mp cb_145
                              have hPD9 : PD D A [(Rd, .inr (4, [.ref Tp, .int (nI ln), .int (nI axx_141), .int (-1), .int (nI htx_4), .int (nI ctx_5), .ref Rv])), (Tp, .inl (g 0, 160, .inl ftp)), (Rv, .inl (g 0, 21, .inl fvalx_131))] H := ⟨hP.sub [1, 2, 0] rfl, hD.sub [1, 2, 0] (by decide) rfl⟩
                              have hP9 := hPD9.1; have hD9 := hPD9.2
                              subst hQ
                              refine W.widen (k := 0) (n := 0) (Nat.le_of_ble_eq_true rfl) (Nat.le_of_ble_eq_true rfl) ?_
                              exact W.vret hx hb hr (fun tS htS _ => ⟨⟨_, rfl, ⟨axx_141, (-1), htx_4, ctx_5, fvalx_131, rfl, ⟨(show axx_141 ≤ ln by omega), (show htx_4 ≤ 3 by omega), (show ctx_5 ≤ 3 by omega), (hf_133), (cl_end hf_7.2.2.2.1.symm (show cl_15 < 7 by omega) (hR_138.trans (itR_end (f := 0) hf_143 (show ¬ axx_141 < ln by omega))) (fun q => absurd q.1 (show ¬ axx_141 < ln by omega))).1, (cl_end hf_7.2.2.2.1.symm (show cl_15 < 7 by omega) (hR_138.trans (itR_end (f := 0) hf_143 (show ¬ axx_141 < ln by omega))) (fun q => absurd q.1 (show ¬ axx_141 < ln by omega))).2.1, (fun _ => ⟨(cl_end hf_7.2.2.2.1.symm (show cl_15 < 7 by omega) (hR_138.trans (itR_end (f := 0) hf_143 (show ¬ axx_141 < ln by omega))) (fun q => absurd q.1 (show ¬ axx_141 < ln by omega))).2.2, show ax < axx_141 by omega⟩)⟩⟩, by rw [htS]; exact hP9, hD9⟩, hS.F htS⟩) hS.2.2 dX4_readClause_52
                            · skip
                              have cn_147 : axx_141 < ln := Nat.lt_of_not_le (fun q9 => cb_145 ((nI_leI (show ln < 2 ^ 31 by omega) (show axx_141 < 2 ^ 31 by omega)).mpr q9))
                              refine lv_aload_n hx hb dX4_readClause_38 rfl (lv_at hl 4 rfl) ?_
                              refine va_get (D := D) (ci := 4) (v := .ref Tp) (C := RX4) (T := TX4) (N := 7) hx hb hts iX4 hown hK hP 1 rfl rfl 0 (by decide) f9 (fun _ h9 => h9) rfl dX4_readClause_39 ?_
                              refine lv_aload_n hx hb dX4_readClause_42 rfl (lv_at hl 4 rfl) ?_
                              refine va_get (D := D) (ci := 4) (v := .int (nI axx_141)) (C := RX4) (T := TX4) (N := 7) hx hb hts iX4 hown hK hP 1 rfl rfl 2 (by decide) f28 (fun _ h9 => h9) rfl dX4_readClause_43 ?_
                              refine va_iald hx hb hK hP 2 0 rfl rfl (vp_in_nI (show axx_141 < 160 by omega) (by decide)) dX4_readClause_46 ?_
                              refine lv_eqi (y := (ftp (axx_141))) (congrArg ftp (nI_clamp (show axx_141 < 2 ^ 31 by omega))) ?_
                              refine lv_bipush (v := 59) hx hb dX4_readClause_47 (by decide) ?_
                              refine lv_icmp_ne (tgt := 53) hx hb dX4_readClause_49 (by decide) (fun cb_148 => ?_) (fun cb_148 => ?_)
                              · skip
                                refine lv_iload_n hx hb dX4_readClause_53 rfl (lv_at hl 3 rfl) ?_
                                refine ky_Si (As := [.int (nI cl_15)]) (rest := []) ⟨hx, hb, hml, hown, hts⟩ ⟨hK, hN⟩ hZ hP hD hS hA [] [0, 1, 2] (wc := []) (wr := [(Rv, .inl (g 0, 21, .inl fvalx_131)), (Rd, .inr (4, [.ref Tp, .int (nI ln), .int (nI axx_141), .int (-1), .int (nI htx_4), .int (nI ctx_5), .ref Rv])), (Tp, .inl (g 0, 160, .inl ftp))]) rfl rfl rfl rfl (by decide) (r_X4_kindOf l D g H.size cl_15 (show cl_15 < 7 by omega)) (va_cwS 1 hts gX4_readClause_X4_kindOf rfl rfl rfl (by decide +kernel) ⟨(Nat.le_of_ble_eq_true rfl), (Nat.le_of_ble_eq_true rfl)⟩) rfl hl.1 rfl (Nat.le_of_ble_eq_true rfl) dX4_readClause_54 ⟨(Nat.le_of_ble_eq_true rfl), (Nat.le_of_ble_eq_true rfl)⟩ (fun r_149 u H locs hw hP2 hD2 hS2 => ?_)
                                clear hP hD hS
                                obtain ⟨rfl, rfl⟩ := hw
                                have hPD : PD D A [(Rv, .inl (g 0, 21, .inl fvalx_131)), (Rd, .inr (4, [.ref Tp, .int (nI ln), .int (nI axx_141), .int (-1), .int (nI htx_4), .int (nI ctx_5), .ref Rv])), (Tp, .inl (g 0, 160, .inl ftp))] H := ⟨hP2, hD2⟩
                                have hS := hS2; clear hP2 hD2 hS2; have hP := hPD.1; have hD := hPD.2; clear hPD
                                refine W.widen (k := 0) (n := 0) (Nat.le_of_ble_eq_true rfl) (Nat.le_of_ble_eq_true rfl) ?_
                                refine lv_aload_n hx hb dX4_readClause_57 rfl (lv_at hl 4 rfl) ?_
                                refine va_get (D := D) (ci := 4) (v := .ref Tp) (C := RX4) (T := TX4) (N := 7) hx hb hts iX4 hown hK hP 1 rfl rfl 0 (by decide) f9 (fun _ h9 => h9) rfl dX4_readClause_58 ?_
                                refine lv_aload_n hx hb dX4_readClause_61 rfl (lv_at hl 4 rfl) ?_
                                refine va_get (D := D) (ci := 4) (v := .int (nI axx_141)) (C := RX4) (T := TX4) (N := 7) hx hb hts iX4 hown hK hP 1 rfl rfl 2 (by decide) f28 (fun _ h9 => h9) rfl dX4_readClause_62 ?_
                                refine va_iald hx hb hK hP 2 0 rfl rfl (vp_in_nI (show axx_141 < 160 by omega) (by decide)) dX4_readClause_65 ?_
                                refine lv_eqi (y := (ftp (axx_141))) (congrArg ftp (nI_clamp (show axx_141 < 2 ^ 31 by omega))) ?_
                                refine ky_Si (As := [.int (nI (kdN cl_15)), .int (ftp (axx_141))]) (rest := []) ⟨hx, hb, hml, hown, hts⟩ ⟨hK, hN⟩ hZ hP hD hS hA [] [0, 1, 2] (wc := []) (wr := [(Rv, .inl (g 0, 21, .inl fvalx_131)), (Rd, .inr (4, [.ref Tp, .int (nI ln), .int (nI axx_141), .int (-1), .int (nI htx_4), .int (nI ctx_5), .ref Rv])), (Tp, .inl (g 0, 160, .inl ftp))]) rfl rfl rfl rfl (by decide) (r_X4_itemOf l D g H.size (kdN cl_15) (ftp (axx_141)) (show (kdN cl_15) < 3 by omega)) (va_cwS 2 hts gX4_readClause_X4_itemOf rfl rfl rfl (by decide +kernel) ⟨(Nat.le_of_ble_eq_true rfl), (Nat.le_of_ble_eq_true rfl)⟩) rfl hl.1 rfl (Nat.le_of_ble_eq_true rfl) dX4_readClause_66 ⟨(Nat.le_of_ble_eq_true rfl), (Nat.le_of_ble_eq_true rfl)⟩ (fun r_150 u H locs hw hP2 hD2 hS2 => ?_)
                                clear hP hD hS
                                obtain ⟨rfl, rfl⟩ := hw
                                have hPD : PD D A [(Rv, .inl (g 0, 21, .inl fvalx_131)), (Rd, .inr (4, [.ref Tp, .int (nI ln), .int (nI axx_141), .int (-1), .int (nI htx_4), .int (nI ctx_5), .ref Rv])), (Tp, .inl (g 0, 160, .inl ftp))] H := ⟨hP2, hD2⟩
                                have hS := hS2; clear hP2 hD2 hS2; have hP := hPD.1; have hD := hPD.2; clear hPD
                                refine W.widen (k := 0) (n := 0) (Nat.le_of_ble_eq_true rfl) (Nat.le_of_ble_eq_true rfl) ?_
                                rcases itK_c (kdN cl_15) (ftp (axx_141)) with qi_151 | qi_151 | qi_151 | qi_151
                                · skip
                                  refine lv_eqi (y := (-1)) (qi_151) ?_
                                  refine lv_istore (lv' := [(5, .int (-1)), (4, .int 3), (3, .int 7), (2, .int (nI cl_15)), (0, .ref Rd), (1, .int zf)]) hx hb dX4_readClause_69 hl (by decide) rfl (fun ls hl => ?_)
                                  refine lv_iload hx hb dX4_readClause_71 (lv_at hl 0 rfl) ?_
                                  refine lv_iconst (v := (-1)) hx hb dX4_readClause_73 (by decide) ?_
                                  refine lv_icmp_eq (tgt := 86) hx hb dX4_readClause_74 (by decide) (fun _ => ?_) (fun cb => absurd (by decide) cb)
                                  refine lv_aload_n hx hb dX4_readClause_86 rfl (lv_at hl 4 rfl) ?_
                                  refine lv_aload_n hx hb dX4_readClause_87 rfl (lv_at hl 4 rfl) ?_
                                  refine va_get (D := D) (ci := 4) (v := .int (nI axx_141)) (C := RX4) (T := TX4) (N := 7) hx hb hts iX4 hown hK hP 1 rfl rfl 2 (by decide) f28 (fun _ h9 => h9) rfl dX4_readClause_88 ?_
                                  refine va_put (D := D) (ci := 4) (v := .int (nI axx_141)) (ty := .int) (C := RX4) (T := TX4) (N := 7) hx hb hts iX4 tyX4 tyX4_ok nmX4 hown hK hP hD hS 1 rfl rfl 3 (by decide) f31 (fun _ h9 => h9) rfl (by decide +kernel) (rfl) (rfl) (Nat.le_of_ble_eq_true rfl) dX4_readClause_91 (fun H locs hP2 hD2 hS2 => ?_)
                                  clear hP hD hS
                                  have hPD : PD D A [(Rv, .inl (g 0, 21, .inl fvalx_131)), (Rd, .inr (4, [.ref Tp, .int (nI ln), .int (nI axx_141), .int (nI axx_141), .int (nI htx_4), .int (nI ctx_5), .ref Rv])), (Tp, .inl (g 0, 160, .inl ftp))] H := ⟨hP2, hD2⟩
                                  have hS := hS2; clear hP2 hD2 hS2; have hP := hPD.1; have hD := hPD.2; clear hPD
                                  have hPD9 : PD D A [(Rd, .inr (4, [.ref Tp, .int (nI ln), .int (nI axx_141), .int (nI axx_141), .int (nI htx_4), .int (nI ctx_5), .ref Rv])), (Tp, .inl (g 0, 160, .inl ftp)), (Rv, .inl (g 0, 21, .inl fvalx_131))] H := ⟨hP.sub [1, 2, 0] rfl, hD.sub [1, 2, 0] (by decide) rfl⟩
                                  have hP9 := hPD9.1; have hD9 := hPD9.2
                                  subst hQ
                                  refine W.widen (k := 0) (n := 0) (Nat.le_of_ble_eq_true rfl) (Nat.le_of_ble_eq_true rfl) ?_
                                  exact W.vret hx hb hr (fun tS htS _ => ⟨⟨_, rfl, ⟨axx_141, (nI axx_141), htx_4, ctx_5, fvalx_131, rfl, ⟨(show axx_141 ≤ ln by omega), (show htx_4 ≤ 3 by omega), (show ctx_5 ≤ 3 by omega), (hf_133), (cl_bad hf_7.2.2.2.1.symm (show cl_15 < 7 by omega) (hR_138.trans (itR_no (f := 0) hf_143 qi_151)) (show axx_141 < ln by omega) cb_148).1, (cl_bad hf_7.2.2.2.1.symm (show cl_15 < 7 by omega) (hR_138.trans (itR_no (f := 0) hf_143 qi_151)) (show axx_141 < ln by omega) cb_148).2, (fun q => absurd q (m1_ne (show axx_141 < 2 ^ 31 by omega)))⟩⟩, by rw [htS]; exact hP9, hD9⟩, hS.F htS⟩) hS.2.2 dX4_readClause_94
                                · skip
                                  refine lv_eqi (y := 0) (qi_151) ?_
                                  refine lv_istore (lv' := [(5, .int 0), (4, .int 3), (3, .int 7), (2, .int (nI cl_15)), (0, .ref Rd), (1, .int zf)]) hx hb dX4_readClause_69 hl (by decide) rfl (fun ls hl => ?_)
                                  refine lv_iload hx hb dX4_readClause_71 (lv_at hl 0 rfl) ?_
                                  refine lv_iconst (v := (-1)) hx hb dX4_readClause_73 (by decide) ?_
                                  refine lv_icmp_eq (tgt := 86) hx hb dX4_readClause_74 (by decide) (fun cb => absurd cb (by decide)) (fun _ => ?_)
                                  refine lv_iload_n hx hb dX4_readClause_77 rfl (lv_at hl 2 rfl) ?_
                                  refine lv_iconst (v := 1) hx hb dX4_readClause_78 (by decide) ?_
                                  refine lv_iload hx hb dX4_readClause_79 (lv_at hl 0 rfl) ?_
                                  refine lv_ishl hx hb dX4_readClause_81 ?_
                                  refine lv_eqi (y := 1) (by decide) ?_
                                  refine lv_iand hx hb dX4_readClause_82 ?_
                                  refine lv_eqi (y := 1) (by decide) ?_
                                  refine lv_if_eq (tgt := 95) hx hb dX4_readClause_83 (by decide) (fun cb => absurd cb (by decide)) (fun _ => ?_)
                                  refine lv_aload_n hx hb dX4_readClause_86 rfl (lv_at hl 4 rfl) ?_
                                  refine lv_aload_n hx hb dX4_readClause_87 rfl (lv_at hl 4 rfl) ?_
                                  refine va_get (D := D) (ci := 4) (v := .int (nI axx_141)) (C := RX4) (T := TX4) (N := 7) hx hb hts iX4 hown hK hP 1 rfl rfl 2 (by decide) f28 (fun _ h9 => h9) rfl dX4_readClause_88 ?_
                                  refine va_put (D := D) (ci := 4) (v := .int (nI axx_141)) (ty := .int) (C := RX4) (T := TX4) (N := 7) hx hb hts iX4 tyX4 tyX4_ok nmX4 hown hK hP hD hS 1 rfl rfl 3 (by decide) f31 (fun _ h9 => h9) rfl (by decide +kernel) (rfl) (rfl) (Nat.le_of_ble_eq_true rfl) dX4_readClause_91 (fun H locs hP2 hD2 hS2 => ?_)
                                  clear hP hD hS
                                  have hPD : PD D A [(Rv, .inl (g 0, 21, .inl fvalx_131)), (Rd, .inr (4, [.ref Tp, .int (nI ln), .int (nI axx_141), .int (nI axx_141), .int (nI htx_4), .int (nI ctx_5), .ref Rv])), (Tp, .inl (g 0, 160, .inl ftp))] H := ⟨hP2, hD2⟩
                                  have hS := hS2; clear hP2 hD2 hS2; have hP := hPD.1; have hD := hPD.2; clear hPD
                                  have hPD9 : PD D A [(Rd, .inr (4, [.ref Tp, .int (nI ln), .int (nI axx_141), .int (nI axx_141), .int (nI htx_4), .int (nI ctx_5), .ref Rv])), (Tp, .inl (g 0, 160, .inl ftp)), (Rv, .inl (g 0, 21, .inl fvalx_131))] H := ⟨hP.sub [1, 2, 0] rfl, hD.sub [1, 2, 0] (by decide) rfl⟩
                                  have hP9 := hPD9.1; have hD9 := hPD9.2
                                  subst hQ
                                  refine W.widen (k := 0) (n := 0) (Nat.le_of_ble_eq_true rfl) (Nat.le_of_ble_eq_true rfl) ?_
                                  exact W.vret hx hb hr (fun tS htS _ => ⟨⟨_, rfl, ⟨axx_141, (nI axx_141), htx_4, ctx_5, fvalx_131, rfl, ⟨(show axx_141 ≤ ln by omega), (show htx_4 ≤ 3 by omega), (show ctx_5 ≤ 3 by omega), (hf_133), (cl_bad hf_7.2.2.2.1.symm (show cl_15 < 7 by omega) (hR_138.trans (itR_again (f := 0) (q := 0) hf_143 qi_151 (by decide) (by decide))) (show axx_141 < ln by omega) cb_148).1, (cl_bad hf_7.2.2.2.1.symm (show cl_15 < 7 by omega) (hR_138.trans (itR_again (f := 0) (q := 0) hf_143 qi_151 (by decide) (by decide))) (show axx_141 < ln by omega) cb_148).2, (fun q => absurd q (m1_ne (show axx_141 < 2 ^ 31 by omega)))⟩⟩, by rw [htS]; exact hP9, hD9⟩, hS.F htS⟩) hS.2.2 dX4_readClause_94
                                · skip
                                  refine lv_eqi (y := 1) (qi_151) ?_
                                  refine lv_istore (lv' := [(5, .int 1), (4, .int 3), (3, .int 7), (2, .int (nI cl_15)), (0, .ref Rd), (1, .int zf)]) hx hb dX4_readClause_69 hl (by decide) rfl (fun ls hl => ?_)
                                  refine lv_iload hx hb dX4_readClause_71 (lv_at hl 0 rfl) ?_
                                  refine lv_iconst (v := (-1)) hx hb dX4_readClause_73 (by decide) ?_
                                  refine lv_icmp_eq (tgt := 86) hx hb dX4_readClause_74 (by decide) (fun cb => absurd cb (by decide)) (fun _ => ?_)
                                  refine lv_iload_n hx hb dX4_readClause_77 rfl (lv_at hl 2 rfl) ?_
                                  refine lv_iconst (v := 1) hx hb dX4_readClause_78 (by decide) ?_
                                  refine lv_iload hx hb dX4_readClause_79 (lv_at hl 0 rfl) ?_
                                  refine lv_ishl hx hb dX4_readClause_81 ?_
                                  refine lv_eqi (y := 2) (by decide) ?_
                                  refine lv_iand hx hb dX4_readClause_82 ?_
                                  refine lv_eqi (y := 2) (by decide) ?_
                                  refine lv_if_eq (tgt := 95) hx hb dX4_readClause_83 (by decide) (fun cb => absurd cb (by decide)) (fun _ => ?_)
                                  refine lv_aload_n hx hb dX4_readClause_86 rfl (lv_at hl 4 rfl) ?_
                                  refine lv_aload_n hx hb dX4_readClause_87 rfl (lv_at hl 4 rfl) ?_
                                  refine va_get (D := D) (ci := 4) (v := .int (nI axx_141)) (C := RX4) (T := TX4) (N := 7) hx hb hts iX4 hown hK hP 1 rfl rfl 2 (by decide) f28 (fun _ h9 => h9) rfl dX4_readClause_88 ?_
                                  refine va_put (D := D) (ci := 4) (v := .int (nI axx_141)) (ty := .int) (C := RX4) (T := TX4) (N := 7) hx hb hts iX4 tyX4 tyX4_ok nmX4 hown hK hP hD hS 1 rfl rfl 3 (by decide) f31 (fun _ h9 => h9) rfl (by decide +kernel) (rfl) (rfl) (Nat.le_of_ble_eq_true rfl) dX4_readClause_91 (fun H locs hP2 hD2 hS2 => ?_)
                                  clear hP hD hS
                                  have hPD : PD D A [(Rv, .inl (g 0, 21, .inl fvalx_131)), (Rd, .inr (4, [.ref Tp, .int (nI ln), .int (nI axx_141), .int (nI axx_141), .int (nI htx_4), .int (nI ctx_5), .ref Rv])), (Tp, .inl (g 0, 160, .inl ftp))] H := ⟨hP2, hD2⟩
                                  have hS := hS2; clear hP2 hD2 hS2; have hP := hPD.1; have hD := hPD.2; clear hPD
                                  have hPD9 : PD D A [(Rd, .inr (4, [.ref Tp, .int (nI ln), .int (nI axx_141), .int (nI axx_141), .int (nI htx_4), .int (nI ctx_5), .ref Rv])), (Tp, .inl (g 0, 160, .inl ftp)), (Rv, .inl (g 0, 21, .inl fvalx_131))] H := ⟨hP.sub [1, 2, 0] rfl, hD.sub [1, 2, 0] (by decide) rfl⟩
                                  have hP9 := hPD9.1; have hD9 := hPD9.2
                                  subst hQ
                                  refine W.widen (k := 0) (n := 0) (Nat.le_of_ble_eq_true rfl) (Nat.le_of_ble_eq_true rfl) ?_
                                  exact W.vret hx hb hr (fun tS htS _ => ⟨⟨_, rfl, ⟨axx_141, (nI axx_141), htx_4, ctx_5, fvalx_131, rfl, ⟨(show axx_141 ≤ ln by omega), (show htx_4 ≤ 3 by omega), (show ctx_5 ≤ 3 by omega), (hf_133), (cl_bad hf_7.2.2.2.1.symm (show cl_15 < 7 by omega) (hR_138.trans (itR_again (f := 0) (q := 1) hf_143 qi_151 (by decide) (by decide))) (show axx_141 < ln by omega) cb_148).1, (cl_bad hf_7.2.2.2.1.symm (show cl_15 < 7 by omega) (hR_138.trans (itR_again (f := 0) (q := 1) hf_143 qi_151 (by decide) (by decide))) (show axx_141 < ln by omega) cb_148).2, (fun q => absurd q (m1_ne (show axx_141 < 2 ^ 31 by omega)))⟩⟩, by rw [htS]; exact hP9, hD9⟩, hS.F htS⟩) hS.2.2 dX4_readClause_94
                                · skip
                                  refine lv_eqi (y := 2) (qi_151) ?_
                                  refine lv_istore (lv' := [(5, .int 2), (4, .int 3), (3, .int 7), (2, .int (nI cl_15)), (0, .ref Rd), (1, .int zf)]) hx hb dX4_readClause_69 hl (by decide) rfl (fun ls hl => ?_)
                                  refine lv_iload hx hb dX4_readClause_71 (lv_at hl 0 rfl) ?_
                                  refine lv_iconst (v := (-1)) hx hb dX4_readClause_73 (by decide) ?_
                                  refine lv_icmp_eq (tgt := 86) hx hb dX4_readClause_74 (by decide) (fun cb => absurd cb (by decide)) (fun _ => ?_)
                                  refine lv_iload_n hx hb dX4_readClause_77 rfl (lv_at hl 2 rfl) ?_
                                  refine lv_iconst (v := 1) hx hb dX4_readClause_78 (by decide) ?_
                                  refine lv_iload hx hb dX4_readClause_79 (lv_at hl 0 rfl) ?_
                                  refine lv_ishl hx hb dX4_readClause_81 ?_
                                  refine lv_eqi (y := 4) (by decide) ?_
                                  refine lv_iand hx hb dX4_readClause_82 ?_
                                  refine lv_eqi (y := 4) (by decide) ?_
                                  refine lv_if_eq (tgt := 95) hx hb dX4_readClause_83 (by decide) (fun cb => absurd cb (by decide)) (fun _ => ?_)
                                  refine lv_aload_n hx hb dX4_readClause_86 rfl (lv_at hl 4 rfl) ?_
                                  refine lv_aload_n hx hb dX4_readClause_87 rfl (lv_at hl 4 rfl) ?_
                                  refine va_get (D := D) (ci := 4) (v := .int (nI axx_141)) (C := RX4) (T := TX4) (N := 7) hx hb hts iX4 hown hK hP 1 rfl rfl 2 (by decide) f28 (fun _ h9 => h9) rfl dX4_readClause_88 ?_
                                  refine va_put (D := D) (ci := 4) (v := .int (nI axx_141)) (ty := .int) (C := RX4) (T := TX4) (N := 7) hx hb hts iX4 tyX4 tyX4_ok nmX4 hown hK hP hD hS 1 rfl rfl 3 (by decide) f31 (fun _ h9 => h9) rfl (by decide +kernel) (rfl) (rfl) (Nat.le_of_ble_eq_true rfl) dX4_readClause_91 (fun H locs hP2 hD2 hS2 => ?_)
                                  clear hP hD hS
                                  have hPD : PD D A [(Rv, .inl (g 0, 21, .inl fvalx_131)), (Rd, .inr (4, [.ref Tp, .int (nI ln), .int (nI axx_141), .int (nI axx_141), .int (nI htx_4), .int (nI ctx_5), .ref Rv])), (Tp, .inl (g 0, 160, .inl ftp))] H := ⟨hP2, hD2⟩
                                  have hS := hS2; clear hP2 hD2 hS2; have hP := hPD.1; have hD := hPD.2; clear hPD
                                  have hPD9 : PD D A [(Rd, .inr (4, [.ref Tp, .int (nI ln), .int (nI axx_141), .int (nI axx_141), .int (nI htx_4), .int (nI ctx_5), .ref Rv])), (Tp, .inl (g 0, 160, .inl ftp)), (Rv, .inl (g 0, 21, .inl fvalx_131))] H := ⟨hP.sub [1, 2, 0] rfl, hD.sub [1, 2, 0] (by decide) rfl⟩
                                  have hP9 := hPD9.1; have hD9 := hPD9.2
                                  subst hQ
                                  refine W.widen (k := 0) (n := 0) (Nat.le_of_ble_eq_true rfl) (Nat.le_of_ble_eq_true rfl) ?_
                                  exact W.vret hx hb hr (fun tS htS _ => ⟨⟨_, rfl, ⟨axx_141, (nI axx_141), htx_4, ctx_5, fvalx_131, rfl, ⟨(show axx_141 ≤ ln by omega), (show htx_4 ≤ 3 by omega), (show ctx_5 ≤ 3 by omega), (hf_133), (cl_bad hf_7.2.2.2.1.symm (show cl_15 < 7 by omega) (hR_138.trans (itR_again (f := 0) (q := 2) hf_143 qi_151 (by decide) (by decide))) (show axx_141 < ln by omega) cb_148).1, (cl_bad hf_7.2.2.2.1.symm (show cl_15 < 7 by omega) (hR_138.trans (itR_again (f := 0) (q := 2) hf_143 qi_151 (by decide) (by decide))) (show axx_141 < ln by omega) cb_148).2, (fun q => absurd q (m1_ne (show axx_141 < 2 ^ 31 by omega)))⟩⟩, by rw [htS]; exact hP9, hD9⟩, hS.F htS⟩) hS.2.2 dX4_readClause_94
                              · skip
                                have hPD9 : PD D A [(Rd, .inr (4, [.ref Tp, .int (nI ln), .int (nI axx_141), .int (-1), .int (nI htx_4), .int (nI ctx_5), .ref Rv])), (Tp, .inl (g 0, 160, .inl ftp)), (Rv, .inl (g 0, 21, .inl fvalx_131))] H := ⟨hP.sub [1, 2, 0] rfl, hD.sub [1, 2, 0] (by decide) rfl⟩
                                have hP9 := hPD9.1; have hD9 := hPD9.2
                                subst hQ
                                refine W.widen (k := 0) (n := 0) (Nat.le_of_ble_eq_true rfl) (Nat.le_of_ble_eq_true rfl) ?_
                                exact W.vret hx hb hr (fun tS htS _ => ⟨⟨_, rfl, ⟨axx_141, (-1), htx_4, ctx_5, fvalx_131, rfl, ⟨(show axx_141 ≤ ln by omega), (show htx_4 ≤ 3 by omega), (show ctx_5 ≤ 3 by omega), (hf_133), (cl_end hf_7.2.2.2.1.symm (show cl_15 < 7 by omega) (hR_138.trans (itR_no (f := 0) hf_143 (by rw [cb_148]; exact itK_59 _))) (fun q => q.2 cb_148)).1, (cl_end hf_7.2.2.2.1.symm (show cl_15 < 7 by omega) (hR_138.trans (itR_no (f := 0) hf_143 (by rw [cb_148]; exact itK_59 _))) (fun q => q.2 cb_148)).2.1, (fun _ => ⟨(cl_end hf_7.2.2.2.1.symm (show cl_15 < 7 by omega) (hR_138.trans (itR_no (f := 0) hf_143 (by rw [cb_148]; exact itK_59 _))) (fun q => q.2 cb_148)).2.2, show ax < axx_141 by omega⟩)⟩⟩, by rw [htS]; exact hP9, hD9⟩, hS.F htS⟩) hS.2.2 dX4_readClause_52
                          · skip
                            have hP9 := hP; have hD9 := hD
                            subst hQ
                            refine W.widen (k := 0) (n := 0) (Nat.le_of_ble_eq_true rfl) (Nat.le_of_ble_eq_true rfl) ?_
                            exact W.vret hx hb hr (fun tS htS _ => ⟨⟨_, rfl, ⟨axx_129, zfax_130, htx_4, ctx_5, fvalx_131, rfl, ⟨(show axx_129 ≤ ln by omega), (show htx_4 ≤ 3 by omega), (show ctx_5 ≤ 3 by omega), (hf_133), (cl_num hf_7.2.2.2.1.symm (show cl_15 < 7 by omega) ((congrArg Prod.fst hR_114).trans ((itR_w (f := 1) (q := 1) hf_119 (show axx_117 < ln by omega) qi_127 (by decide) (by decide) (fun q => cb_136 (hf_134.trans q))).trans hf_134.symm)) cb_136).1, (cl_num hf_7.2.2.2.1.symm (show cl_15 < 7 by omega) ((congrArg Prod.fst hR_114).trans ((itR_w (f := 1) (q := 1) hf_119 (show axx_117 < ln by omega) qi_127 (by decide) (by decide) (fun q => cb_136 (hf_134.trans q))).trans hf_134.symm)) cb_136).2, (fun q => absurd q cb_136)⟩⟩, by rw [htS]; exact hP9, hD9⟩, hS.F htS⟩) hS.2.2 dX4_readClause_127
                        · skip
                          refine lv_eqi (y := 2) (qi_127) ?_
                          refine lv_istore (lv' := [(5, .int 2), (4, .int 2), (3, .int 5), (2, .int (nI cl_15)), (0, .ref Rd), (1, .int zf)]) hx hb dX4_readClause_69 hl (by decide) rfl (fun ls hl => ?_)
                          refine lv_iload hx hb dX4_readClause_71 (lv_at hl 0 rfl) ?_
                          refine lv_iconst (v := (-1)) hx hb dX4_readClause_73 (by decide) ?_
                          refine lv_icmp_eq (tgt := 86) hx hb dX4_readClause_74 (by decide) (fun cb => absurd cb (by decide)) (fun _ => ?_)
                          refine lv_iload_n hx hb dX4_readClause_77 rfl (lv_at hl 2 rfl) ?_
                          refine lv_iconst (v := 1) hx hb dX4_readClause_78 (by decide) ?_
                          refine lv_iload hx hb dX4_readClause_79 (lv_at hl 0 rfl) ?_
                          refine lv_ishl hx hb dX4_readClause_81 ?_
                          refine lv_eqi (y := 4) (by decide) ?_
                          refine lv_iand hx hb dX4_readClause_82 ?_
                          refine lv_eqi (y := 4) (by decide) ?_
                          refine lv_if_eq (tgt := 95) hx hb dX4_readClause_83 (by decide) (fun cb => absurd cb (by decide)) (fun _ => ?_)
                          refine lv_aload_n hx hb dX4_readClause_86 rfl (lv_at hl 4 rfl) ?_
                          refine lv_aload_n hx hb dX4_readClause_87 rfl (lv_at hl 4 rfl) ?_
                          refine va_get (D := D) (ci := 4) (v := .int (nI axx_117)) (C := RX4) (T := TX4) (N := 7) hx hb hts iX4 hown hK hP 1 rfl rfl 2 (by decide) f28 (fun _ h9 => h9) rfl dX4_readClause_88 ?_
                          refine va_put (D := D) (ci := 4) (v := .int (nI axx_117)) (ty := .int) (C := RX4) (T := TX4) (N := 7) hx hb hts iX4 tyX4 tyX4_ok nmX4 hown hK hP hD hS 1 rfl rfl 3 (by decide) f31 (fun _ h9 => h9) rfl (by decide +kernel) (rfl) (rfl) (Nat.le_of_ble_eq_true rfl) dX4_readClause_91 (fun H locs hP2 hD2 hS2 => ?_)
                          clear hP hD hS
                          have hPD : PD D A [(Rv, .inl (g 0, 21, .inl fvalx_107)), (Rd, .inr (4, [.ref Tp, .int (nI ln), .int (nI axx_117), .int (nI axx_117), .int (nI htx_4), .int (nI ctx_5), .ref Rv])), (Tp, .inl (g 0, 160, .inl ftp))] H := ⟨hP2, hD2⟩
                          have hS := hS2; clear hP2 hD2 hS2; have hP := hPD.1; have hD := hPD.2; clear hPD
                          have hPD9 : PD D A [(Rd, .inr (4, [.ref Tp, .int (nI ln), .int (nI axx_117), .int (nI axx_117), .int (nI htx_4), .int (nI ctx_5), .ref Rv])), (Tp, .inl (g 0, 160, .inl ftp)), (Rv, .inl (g 0, 21, .inl fvalx_107))] H := ⟨hP.sub [1, 2, 0] rfl, hD.sub [1, 2, 0] (by decide) rfl⟩
                          have hP9 := hPD9.1; have hD9 := hPD9.2
                          subst hQ
                          refine W.widen (k := 0) (n := 0) (Nat.le_of_ble_eq_true rfl) (Nat.le_of_ble_eq_true rfl) ?_
                          exact W.vret hx hb hr (fun tS htS _ => ⟨⟨_, rfl, ⟨axx_117, (nI axx_117), htx_4, ctx_5, fvalx_107, rfl, ⟨(show axx_117 ≤ ln by omega), (show htx_4 ≤ 3 by omega), (show ctx_5 ≤ 3 by omega), (hf_109), (cl_bad hf_7.2.2.2.1.symm (show cl_15 < 7 by omega) (hR_114.trans (itR_again (f := 1) (q := 2) hf_119 qi_127 (by decide) (by decide))) (show axx_117 < ln by omega) cb_124).1, (cl_bad hf_7.2.2.2.1.symm (show cl_15 < 7 by omega) (hR_114.trans (itR_again (f := 1) (q := 2) hf_119 qi_127 (by decide) (by decide))) (show axx_117 < ln by omega) cb_124).2, (fun q => absurd q (m1_ne (show axx_117 < 2 ^ 31 by omega)))⟩⟩, by rw [htS]; exact hP9, hD9⟩, hS.F htS⟩) hS.2.2 dX4_readClause_94
                      · skip
                        have hPD9 : PD D A [(Rd, .inr (4, [.ref Tp, .int (nI ln), .int (nI axx_117), .int (-1), .int (nI htx_4), .int (nI ctx_5), .ref Rv])), (Tp, .inl (g 0, 160, .inl ftp)), (Rv, .inl (g 0, 21, .inl fvalx_107))] H := ⟨hP.sub [1, 2, 0] rfl, hD.sub [1, 2, 0] (by decide) rfl⟩
                        have hP9 := hPD9.1; have hD9 := hPD9.2
                        subst hQ
                        refine W.widen (k := 0) (n := 0) (Nat.le_of_ble_eq_true rfl) (Nat.le_of_ble_eq_true rfl) ?_
                        exact W.vret hx hb hr (fun tS htS _ => ⟨⟨_, rfl, ⟨axx_117, (-1), htx_4, ctx_5, fvalx_107, rfl, ⟨(show axx_117 ≤ ln by omega), (show htx_4 ≤ 3 by omega), (show ctx_5 ≤ 3 by omega), (hf_109), (cl_end hf_7.2.2.2.1.symm (show cl_15 < 7 by omega) (hR_114.trans (itR_no (f := 1) hf_119 (by rw [cb_124]; exact itK_59 _))) (fun q => q.2 cb_124)).1, (cl_end hf_7.2.2.2.1.symm (show cl_15 < 7 by omega) (hR_114.trans (itR_no (f := 1) hf_119 (by rw [cb_124]; exact itK_59 _))) (fun q => q.2 cb_124)).2.1, (fun _ => ⟨(cl_end hf_7.2.2.2.1.symm (show cl_15 < 7 by omega) (hR_114.trans (itR_no (f := 1) hf_119 (by rw [cb_124]; exact itK_59 _))) (fun q => q.2 cb_124)).2.2, show ax < axx_117 by omega⟩)⟩⟩, by rw [htS]; exact hP9, hD9⟩, hS.F htS⟩) hS.2.2 dX4_readClause_52
                  · skip
                    have hP9 := hP; have hD9 := hD
                    subst hQ
                    refine W.widen (k := 0) (n := 0) (Nat.le_of_ble_eq_true rfl) (Nat.le_of_ble_eq_true rfl) ?_
                    exact W.vret hx hb hr (fun tS htS _ => ⟨⟨_, rfl, ⟨axx_105, zfax_106, htx_4, ctx_5, fvalx_107, rfl, ⟨(show axx_105 ≤ ln by omega), (show htx_4 ≤ 3 by omega), (show ctx_5 ≤ 3 by omega), (hf_109), (cl_num hf_7.2.2.2.1.symm (show cl_15 < 7 by omega) ((congrArg Prod.fst hR_42).trans ((itR_w (f := 2) (q := 2) hf_47 (show axx_45 < ln by omega) qi_55 (by decide) (by decide) (fun q => cb_112 (hf_110.trans q))).trans hf_110.symm)) cb_112).1, (cl_num hf_7.2.2.2.1.symm (show cl_15 < 7 by omega) ((congrArg Prod.fst hR_42).trans ((itR_w (f := 2) (q := 2) hf_47 (show axx_45 < ln by omega) qi_55 (by decide) (by decide) (fun q => cb_112 (hf_110.trans q))).trans hf_110.symm)) cb_112).2, (fun q => absurd q cb_112)⟩⟩, by rw [htS]; exact hP9, hD9⟩, hS.F htS⟩) hS.2.2 dX4_readClause_127
              · skip
                have hPD9 : PD D A [(Rd, .inr (4, [.ref Tp, .int (nI ln), .int (nI axx_45), .int (-1), .int (nI htx_4), .int (nI ctx_5), .ref Rv])), (Tp, .inl (g 0, 160, .inl ftp)), (Rv, .inl (g 0, 21, .inl fvalx_35))] H := ⟨hP.sub [1, 2, 0] rfl, hD.sub [1, 2, 0] (by decide) rfl⟩
                have hP9 := hPD9.1; have hD9 := hPD9.2
                subst hQ
                refine W.widen (k := 0) (n := 0) (Nat.le_of_ble_eq_true rfl) (Nat.le_of_ble_eq_true rfl) ?_
                exact W.vret hx hb hr (fun tS htS _ => ⟨⟨_, rfl, ⟨axx_45, (-1), htx_4, ctx_5, fvalx_35, rfl, ⟨(show axx_45 ≤ ln by omega), (show htx_4 ≤ 3 by omega), (show ctx_5 ≤ 3 by omega), (hf_37), (cl_end hf_7.2.2.2.1.symm (show cl_15 < 7 by omega) (hR_42.trans (itR_no (f := 2) hf_47 (by rw [cb_52]; exact itK_59 _))) (fun q => q.2 cb_52)).1, (cl_end hf_7.2.2.2.1.symm (show cl_15 < 7 by omega) (hR_42.trans (itR_no (f := 2) hf_47 (by rw [cb_52]; exact itK_59 _))) (fun q => q.2 cb_52)).2.1, (fun _ => ⟨(cl_end hf_7.2.2.2.1.symm (show cl_15 < 7 by omega) (hR_42.trans (itR_no (f := 2) hf_47 (by rw [cb_52]; exact itK_59 _))) (fun q => q.2 cb_52)).2.2, show ax < axx_45 by omega⟩)⟩⟩, by rw [htS]; exact hP9, hD9⟩, hS.F htS⟩) hS.2.2 dX4_readClause_52
          · skip
            have hP9 := hP; have hD9 := hD
            subst hQ
            refine W.widen (k := 0) (n := 0) (Nat.le_of_ble_eq_true rfl) (Nat.le_of_ble_eq_true rfl) ?_
            exact W.vret hx hb hr (fun tS htS _ => ⟨⟨_, rfl, ⟨axx_33, zfax_34, htx_4, ctx_5, fvalx_35, rfl, ⟨(show axx_33 ≤ ln by omega), (show htx_4 ≤ 3 by omega), (show ctx_5 ≤ 3 by omega), (hf_37), (cl_num hf_7.2.2.2.1.symm (show cl_15 < 7 by omega) ((congrArg Prod.fst hR_19).trans ((itR_w (f := 3) (q := 0) hf_23 (show axx_21 < ln by omega) qi_31 (by decide) (by decide) (fun q => cb_40 (hf_38.trans q))).trans hf_38.symm)) cb_40).1, (cl_num hf_7.2.2.2.1.symm (show cl_15 < 7 by omega) ((congrArg Prod.fst hR_19).trans ((itR_w (f := 3) (q := 0) hf_23 (show axx_21 < ln by omega) qi_31 (by decide) (by decide) (fun q => cb_40 (hf_38.trans q))).trans hf_38.symm)) cb_40).2, (fun q => absurd q cb_40)⟩⟩, by rw [htS]; exact hP9, hD9⟩, hS.F htS⟩) hS.2.2 dX4_readClause_127
        · skip
          refine lv_eqi (y := 1) (qi_31) ?_
          refine lv_istore (lv' := [(5, .int 1), (4, .int 0), (3, .int 0), (2, .int (nI cl_15)), (0, .ref Rd), (1, .int zf)]) hx hb dX4_readClause_69 hl (by decide) rfl (fun ls hl => ?_)
          refine lv_iload hx hb dX4_readClause_71 (lv_at hl 0 rfl) ?_
          refine lv_iconst (v := (-1)) hx hb dX4_readClause_73 (by decide) ?_
          refine lv_icmp_eq (tgt := 86) hx hb dX4_readClause_74 (by decide) (fun cb => absurd cb (by decide)) (fun _ => ?_)
          refine lv_iload_n hx hb dX4_readClause_77 rfl (lv_at hl 2 rfl) ?_
          refine lv_iconst (v := 1) hx hb dX4_readClause_78 (by decide) ?_
          refine lv_iload hx hb dX4_readClause_79 (lv_at hl 0 rfl) ?_
          refine lv_ishl hx hb dX4_readClause_81 ?_
          refine lv_eqi (y := 2) (by decide) ?_
          refine lv_iand hx hb dX4_readClause_82 ?_
          refine lv_eqi (y := 0) (by decide) ?_
          refine lv_if_eq (tgt := 95) hx hb dX4_readClause_83 (by decide) (fun _ => ?_) (fun cb => absurd (by decide) cb)
          refine lv_iload_n hx hb dX4_readClause_95 rfl (lv_at hl 2 rfl) ?_
          refine lv_iconst (v := 1) hx hb dX4_readClause_96 (by decide) ?_
          refine lv_iload hx hb dX4_readClause_97 (lv_at hl 0 rfl) ?_
          refine lv_ishl hx hb dX4_readClause_99 ?_
          refine lv_eqi (y := 2) (by decide) ?_
          refine lv_ior hx hb dX4_readClause_100 ?_
          refine lv_eqi (y := 2) (by decide) ?_
          refine lv_istore_n (lv' := [(3, .int 2), (5, .int 1), (4, .int 0), (2, .int (nI cl_15)), (0, .ref Rd), (1, .int zf)]) hx hb dX4_readClause_101 rfl hl (by decide) rfl (fun ls hl => ?_)
          refine lv_aload_n hx hb dX4_readClause_102 rfl (lv_at hl 4 rfl) ?_
          refine lv_dup hx hb dX4_readClause_103 rfl ?_
          refine va_get (D := D) (ci := 4) (v := .int (nI axx_21)) (C := RX4) (T := TX4) (N := 7) hx hb hts iX4 hown hK hP 1 rfl rfl 2 (by decide) f28 (fun _ h9 => h9) rfl dX4_readClause_104 ?_
          refine lv_iconst (v := 1) hx hb dX4_readClause_107 (by decide) ?_
          refine lv_iadd hx hb dX4_readClause_108 ?_
          refine lv_eqi (y := (nI (axx_21 + 1))) (nI_add (axx_21) (1)) ?_
          refine va_put (D := D) (ci := 4) (v := .int (nI (axx_21 + 1))) (ty := .int) (C := RX4) (T := TX4) (N := 7) hx hb hts iX4 tyX4 tyX4_ok nmX4 hown hK hP hD hS 1 rfl rfl 2 (by decide) f28 (fun _ h9 => h9) rfl (by decide +kernel) (rfl) (rfl) (Nat.le_of_ble_eq_true rfl) dX4_readClause_109 (fun H locs hP2 hD2 hS2 => ?_)
          clear hP hD hS
          have hPD : PD D A [(Rv, .inl (g 0, 21, .inl fval)), (Rd, .inr (4, [.ref Tp, .int (nI ln), .int (nI (axx_21 + 1)), .int (-1), .int (nI htx_4), .int (nI ctx_5), .ref Rv])), (Tp, .inl (g 0, 160, .inl ftp))] H := ⟨hP2, hD2⟩
          have hS := hS2; clear hP2 hD2 hS2; have hP := hPD.1; have hD := hPD.2; clear hPD
          refine lv_aload_n hx hb dX4_readClause_112 rfl (lv_at hl 4 rfl) ?_
          refine lv_iload_n hx hb dX4_readClause_113 rfl (lv_at hl 3 rfl) ?_
          refine lv_iload hx hb dX4_readClause_114 (lv_at hl 1 rfl) ?_
          refine ky_Vv (As := [.int (nI cl_15), .int 1]) (rest := []) ⟨hx, hb, hml, hown, hts⟩ ⟨hK, hN⟩ hZ hP hD hS hA [1, 2, 0] [] (wc := [(Rd, .inr (4, [.ref Tp, .int (nI ln), .int (nI (axx_21 + 1)), .int (-1), .int (nI htx_4), .int (nI ctx_5), .ref Rv])), (Tp, .inl (g 0, 160, .inl ftp)), (Rv, .inl (g 0, 21, .inl fval))]) (wr := []) rfl rfl rfl rfl (by decide) (r_X4_readNumber l D g H.size Rd cl_15 1 Tp ln (axx_21 + 1) htx_4 ctx_5 Rv ftp fval (show ln ≤ 160 by omega) (show (axx_21 + 1) ≤ ln by omega) (h4) (show cl_15 < 7 by omega) (show 1 < 3 by omega)) (cwV 2 hts gX4_readClause_X4_readNumber rfl rfl rfl (by decide +kernel) ⟨(Nat.le_of_ble_eq_true rfl), (Nat.le_of_ble_eq_true rfl)⟩) 1 4 rfl rfl rfl rfl hl.1 rfl (Nat.le_of_ble_eq_true rfl) dX4_readClause_116 ⟨(Nat.le_of_ble_eq_true rfl), (Nat.le_of_ble_eq_true rfl)⟩ (fun u H locs hw hP2 hD2 hS2 => ?_)
          clear hP hD hS
          obtain ⟨axx_153, zfax_154, fvalx_155, rfl, hf_156, hf_157, hf_158, hf_159⟩ := hw
          have hPD : PD D A [(Rd, .inr (4, [.ref Tp, .int (nI ln), .int (nI axx_153), .int zfax_154, .int (nI htx_4), .int (nI ctx_5), .ref Rv])), (Tp, .inl (g 0, 160, .inl ftp)), (Rv, .inl (g 0, 21, .inl fvalx_155))] H := ⟨hP2, hD2⟩
          have hS := hS2; clear hP2 hD2 hS2; have hP := hPD.1; have hD := hPD.2; clear hPD
          refine W.widen (k := 0) (n := 0) (Nat.le_of_ble_eq_true rfl) (Nat.le_of_ble_eq_true rfl) ?_
          refine lv_aload_n hx hb dX4_readClause_119 rfl (lv_at hl 4 rfl) ?_
          refine va_get (D := D) (ci := 4) (v := .int zfax_154) (C := RX4) (T := TX4) (N := 7) hx hb hts iX4 hown hK hP 0 rfl rfl 3 (by decide) f31 (fun _ h9 => h9) rfl dX4_readClause_120 ?_
          refine lv_iconst (v := (-1)) hx hb dX4_readClause_123 (by decide) ?_
          refine lv_icmp_eq (tgt := 128) hx hb dX4_readClause_124 (by decide) (fun cb_160 => ?_) (fun cb_160 => ?_)
          · skip
            have hPq_161 := hP; have hDq_161 := hD; have hSq_161 := hS; have hlq_161 := hl; clear hP hD hS hl
            subst cb_160
            have hP := hPq_161; have hD := hDq_161; have hS := hSq_161; have hl := hlq_161; clear hPq_161 hDq_161 hSq_161 hlq_161
            have hne_163 := (hf_159 rfl).1
            have hne_163g := nmE_gt (T := ftp) (n := ln) (i := axx_21 + 1) (by omega)
            have hR_162 : itR ftp ln (kdN cl_15) 4 0 (sB ftp ln ax + 1) = itR ftp ln (kdN cl_15) 3 2 axx_153 := hR_19.trans ((itR_go (f := 3) (m := 0) (q := 1) hf_23 (show axx_21 < ln by omega) qi_31 (by decide) (by decide) hf_158.symm).trans (by rw [hne_163]))
            refine lv_iinc (v := 1) (lv' := [(4, .int 1), (3, .int 2), (5, .int 1), (2, .int (nI cl_15)), (0, .ref Rd), (1, .int zf)]) hx hb dX4_readClause_128 hl (k := 2) rfl (by decide) (by decide) rfl (fun ls hl => ?_)
            refine lv_goto (tgt := 17) hx hb dX4_readClause_131 (by decide) ?_
            refine lv_iload hx hb dX4_readClause_17 (lv_at hl 0 rfl) ?_
            refine lv_iconst (v := 3) hx hb dX4_readClause_19 (by decide) ?_
            refine lv_icmp_gt (tgt := 134) hx hb dX4_readClause_20 (by decide) (fun cb => absurd cb (by decide)) (fun _ => ?_)
            refine lv_aload_n hx hb dX4_readClause_23 rfl (lv_at hl 4 rfl) ?_
            refine ky_Vv (As := []) (rest := []) ⟨hx, hb, hml, hown, hts⟩ ⟨hK, hN⟩ hZ hP hD hS hA [0, 1] [2] (wc := [(Rd, .inr (4, [.ref Tp, .int (nI ln), .int (nI axx_153), .int (-1), .int (nI htx_4), .int (nI ctx_5), .ref Rv])), (Tp, .inl (g 0, 160, .inl ftp))]) (wr := [(Rv, .inl (g 0, 21, .inl fvalx_155))]) rfl rfl rfl rfl (by decide) (r_X4_passBlanks l D g H.size Rd Tp ln axx_153 (-1) htx_4 ctx_5 Rv ftp (show ln ≤ 160 by omega) (show axx_153 ≤ ln by omega)) (cwV 0 hts gX4_readClause_X4_passBlanks rfl rfl rfl (by decide +kernel) ⟨(Nat.le_of_ble_eq_true rfl), (Nat.le_of_ble_eq_true rfl)⟩) 0 4 rfl rfl rfl rfl hl.1 rfl (Nat.le_of_ble_eq_true rfl) dX4_readClause_24 ⟨(Nat.le_of_ble_eq_true rfl), (Nat.le_of_ble_eq_true rfl)⟩ (fun u H locs hw hP2 hD2 hS2 => ?_)
            clear hP hD hS
            obtain ⟨axx_165, rfl, hf_166, hf_167⟩ := hw
            have hPD : PD D A [(Rv, .inl (g 0, 21, .inl fvalx_155)), (Rd, .inr (4, [.ref Tp, .int (nI ln), .int (nI axx_165), .int (-1), .int (nI htx_4), .int (nI ctx_5), .ref Rv])), (Tp, .inl (g 0, 160, .inl ftp))] H := ⟨hP2, hD2⟩
            have hS := hS2; clear hP2 hD2 hS2; have hP := hPD.1; have hD := hPD.2; clear hPD
            refine W.widen (k := 0) (n := 0) (Nat.le_of_ble_eq_true rfl) (Nat.le_of_ble_eq_true rfl) ?_
            have hge_168 := sB_ge (T := ftp) (n := ln) (i := axx_153) (by omega)
            refine lv_aload_n hx hb dX4_readClause_27 rfl (lv_at hl 4 rfl) ?_
            refine va_get (D := D) (ci := 4) (v := .int (nI axx_165)) (C := RX4) (T := TX4) (N := 7) hx hb hts iX4 hown hK hP 1 rfl rfl 2 (by decide) f28 (fun _ h9 => h9) rfl dX4_readClause_28 ?_
            refine lv_aload_n hx hb dX4_readClause_31 rfl (lv_at hl 4 rfl) ?_
            refine va_get (D := D) (ci := 4) (v := .int (nI ln)) (C := RX4) (T := TX4) (N := 7) hx hb hts iX4 hown hK hP 1 rfl rfl 1 (by decide) f24 (fun _ h9 => h9) rfl dX4_readClause_32 ?_
            refine lv_icmp_ge (tgt := 52) hx hb dX4_readClause_35 (by decide) (fun cb_169 => ?_) (fun cb_169 => ?_)
            · skip
              have cn_170 : ln ≤ axx_165 := (nI_leI (show ln < 2 ^ 31 by omega) (show axx_165 < 2 ^ 31 by omega)).mp cb_169
              have hPD9 : PD D A [(Rd, .inr (4, [.ref Tp, .int (nI ln), .int (nI axx_165), .int (-1), .int (nI htx_4), .int (nI ctx_5), .ref Rv])), (Tp, .inl (g 0, 160, .inl ftp)), (Rv, .inl (g 0, 21, .inl fvalx_155))] H := ⟨hP.sub [1, 2, 0] rfl, hD.sub [1, 2, 0] (by decide) rfl⟩
              have hP9 := hPD9.1; have hD9 := hPD9.2
              subst hQ
              refine W.widen (k := 0) (n := 0) (Nat.le_of_ble_eq_true rfl) (Nat.le_of_ble_eq_true rfl) ?_
              exact W.vret hx hb hr (fun tS htS _ => ⟨⟨_, rfl, ⟨axx_165, (-1), htx_4, ctx_5, fvalx_155, rfl, ⟨(show axx_165 ≤ ln by omega), (show htx_4 ≤ 3 by omega), (show ctx_5 ≤ 3 by omega), (hf_157), (cl_end hf_7.2.2.2.1.symm (show cl_15 < 7 by omega) (hR_162.trans (itR_end (f := 2) hf_167 (show ¬ axx_165 < ln by omega))) (fun q => absurd q.1 (show ¬ axx_165 < ln by omega))).1, (cl_end hf_7.2.2.2.1.symm (show cl_15 < 7 by omega) (hR_162.trans (itR_end (f := 2) hf_167 (show ¬ axx_165 < ln by omega))) (fun q => absurd q.1 (show ¬ axx_165 < ln by omega))).2.1, (fun _ => ⟨(cl_end hf_7.2.2.2.1.symm (show cl_15 < 7 by omega) (hR_162.trans (itR_end (f := 2) hf_167 (show ¬ axx_165 < ln by omega))) (fun q => absurd q.1 (show ¬ axx_165 < ln by omega))).2.2, show ax < axx_165 by omega⟩)⟩⟩, by rw [htS]; exact hP9, hD9⟩, hS.F htS⟩) hS.2.2 dX4_readClause_52
            · skip
              have cn_171 : axx_165 < ln := Nat.lt_of_not_le (fun q9 => cb_169 ((nI_leI (show ln < 2 ^ 31 by omega) (show axx_165 < 2 ^ 31 by omega)).mpr q9))
              refine lv_aload_n hx hb dX4_readClause_38 rfl (lv_at hl 4 rfl) ?_
              refine va_get (D := D) (ci := 4) (v := .ref Tp) (C := RX4) (T := TX4) (N := 7) hx hb hts iX4 hown hK hP 1 rfl rfl 0 (by decide) f9 (fun _ h9 => h9) rfl dX4_readClause_39 ?_
              refine lv_aload_n hx hb dX4_readClause_42 rfl (lv_at hl 4 rfl) ?_
              refine va_get (D := D) (ci := 4) (v := .int (nI axx_165)) (C := RX4) (T := TX4) (N := 7) hx hb hts iX4 hown hK hP 1 rfl rfl 2 (by decide) f28 (fun _ h9 => h9) rfl dX4_readClause_43 ?_
              refine va_iald hx hb hK hP 2 0 rfl rfl (vp_in_nI (show axx_165 < 160 by omega) (by decide)) dX4_readClause_46 ?_
              refine lv_eqi (y := (ftp (axx_165))) (congrArg ftp (nI_clamp (show axx_165 < 2 ^ 31 by omega))) ?_
              refine lv_bipush (v := 59) hx hb dX4_readClause_47 (by decide) ?_
              refine lv_icmp_ne (tgt := 53) hx hb dX4_readClause_49 (by decide) (fun cb_172 => ?_) (fun cb_172 => ?_)
              · skip
                refine lv_iload_n hx hb dX4_readClause_53 rfl (lv_at hl 3 rfl) ?_
                refine ky_Si (As := [.int (nI cl_15)]) (rest := []) ⟨hx, hb, hml, hown, hts⟩ ⟨hK, hN⟩ hZ hP hD hS hA [] [0, 1, 2] (wc := []) (wr := [(Rv, .inl (g 0, 21, .inl fvalx_155)), (Rd, .inr (4, [.ref Tp, .int (nI ln), .int (nI axx_165), .int (-1), .int (nI htx_4), .int (nI ctx_5), .ref Rv])), (Tp, .inl (g 0, 160, .inl ftp))]) rfl rfl rfl rfl (by decide) (r_X4_kindOf l D g H.size cl_15 (show cl_15 < 7 by omega)) (va_cwS 1 hts gX4_readClause_X4_kindOf rfl rfl rfl (by decide +kernel) ⟨(Nat.le_of_ble_eq_true rfl), (Nat.le_of_ble_eq_true rfl)⟩) rfl hl.1 rfl (Nat.le_of_ble_eq_true rfl) dX4_readClause_54 ⟨(Nat.le_of_ble_eq_true rfl), (Nat.le_of_ble_eq_true rfl)⟩ (fun r_173 u H locs hw hP2 hD2 hS2 => ?_)
                clear hP hD hS
                obtain ⟨rfl, rfl⟩ := hw
                have hPD : PD D A [(Rv, .inl (g 0, 21, .inl fvalx_155)), (Rd, .inr (4, [.ref Tp, .int (nI ln), .int (nI axx_165), .int (-1), .int (nI htx_4), .int (nI ctx_5), .ref Rv])), (Tp, .inl (g 0, 160, .inl ftp))] H := ⟨hP2, hD2⟩
                have hS := hS2; clear hP2 hD2 hS2; have hP := hPD.1; have hD := hPD.2; clear hPD
                refine W.widen (k := 0) (n := 0) (Nat.le_of_ble_eq_true rfl) (Nat.le_of_ble_eq_true rfl) ?_
                refine lv_aload_n hx hb dX4_readClause_57 rfl (lv_at hl 4 rfl) ?_
                refine va_get (D := D) (ci := 4) (v := .ref Tp) (C := RX4) (T := TX4) (N := 7) hx hb hts iX4 hown hK hP 1 rfl rfl 0 (by decide) f9 (fun _ h9 => h9) rfl dX4_readClause_58 ?_
                refine lv_aload_n hx hb dX4_readClause_61 rfl (lv_at hl 4 rfl) ?_
                refine va_get (D := D) (ci := 4) (v := .int (nI axx_165)) (C := RX4) (T := TX4) (N := 7) hx hb hts iX4 hown hK hP 1 rfl rfl 2 (by decide) f28 (fun _ h9 => h9) rfl dX4_readClause_62 ?_
                refine va_iald hx hb hK hP 2 0 rfl rfl (vp_in_nI (show axx_165 < 160 by omega) (by decide)) dX4_readClause_65 ?_
                refine lv_eqi (y := (ftp (axx_165))) (congrArg ftp (nI_clamp (show axx_165 < 2 ^ 31 by omega))) ?_
                refine ky_Si (As := [.int (nI (kdN cl_15)), .int (ftp (axx_165))]) (rest := []) ⟨hx, hb, hml, hown, hts⟩ ⟨hK, hN⟩ hZ hP hD hS hA [] [0, 1, 2] (wc := []) (wr := [(Rv, .inl (g 0, 21, .inl fvalx_155)), (Rd, .inr (4, [.ref Tp, .int (nI ln), .int (nI axx_165), .int (-1), .int (nI htx_4), .int (nI ctx_5), .ref Rv])), (Tp, .inl (g 0, 160, .inl ftp))]) rfl rfl rfl rfl (by decide) (r_X4_itemOf l D g H.size (kdN cl_15) (ftp (axx_165)) (show (kdN cl_15) < 3 by omega)) (va_cwS 2 hts gX4_readClause_X4_itemOf rfl rfl rfl (by decide +kernel) ⟨(Nat.le_of_ble_eq_true rfl), (Nat.le_of_ble_eq_true rfl)⟩) rfl hl.1 rfl (Nat.le_of_ble_eq_true rfl) dX4_readClause_66 ⟨(Nat.le_of_ble_eq_true rfl), (Nat.le_of_ble_eq_true rfl)⟩ (fun r_174 u H locs hw hP2 hD2 hS2 => ?_)
                clear hP hD hS
                obtain ⟨rfl, rfl⟩ := hw
                have hPD : PD D A [(Rv, .inl (g 0, 21, .inl fvalx_155)), (Rd, .inr (4, [.ref Tp, .int (nI ln), .int (nI axx_165), .int (-1), .int (nI htx_4), .int (nI ctx_5), .ref Rv])), (Tp, .inl (g 0, 160, .inl ftp))] H := ⟨hP2, hD2⟩
                have hS := hS2; clear hP2 hD2 hS2; have hP := hPD.1; have hD := hPD.2; clear hPD
                refine W.widen (k := 0) (n := 0) (Nat.le_of_ble_eq_true rfl) (Nat.le_of_ble_eq_true rfl) ?_
                rcases itK_c (kdN cl_15) (ftp (axx_165)) with qi_175 | qi_175 | qi_175 | qi_175
                · skip
                  refine lv_eqi (y := (-1)) (qi_175) ?_
                  refine lv_istore (lv' := [(5, .int (-1)), (4, .int 1), (3, .int 2), (2, .int (nI cl_15)), (0, .ref Rd), (1, .int zf)]) hx hb dX4_readClause_69 hl (by decide) rfl (fun ls hl => ?_)
                  refine lv_iload hx hb dX4_readClause_71 (lv_at hl 0 rfl) ?_
                  refine lv_iconst (v := (-1)) hx hb dX4_readClause_73 (by decide) ?_
                  refine lv_icmp_eq (tgt := 86) hx hb dX4_readClause_74 (by decide) (fun _ => ?_) (fun cb => absurd (by decide) cb)
                  refine lv_aload_n hx hb dX4_readClause_86 rfl (lv_at hl 4 rfl) ?_
                  refine lv_aload_n hx hb dX4_readClause_87 rfl (lv_at hl 4 rfl) ?_
                  refine va_get (D := D) (ci := 4) (v := .int (nI axx_165)) (C := RX4) (T := TX4) (N := 7) hx hb hts iX4 hown hK hP 1 rfl rfl 2 (by decide) f28 (fun _ h9 => h9) rfl dX4_readClause_88 ?_
                  refine va_put (D := D) (ci := 4) (v := .int (nI axx_165)) (ty := .int) (C := RX4) (T := TX4) (N := 7) hx hb hts iX4 tyX4 tyX4_ok nmX4 hown hK hP hD hS 1 rfl rfl 3 (by decide) f31 (fun _ h9 => h9) rfl (by decide +kernel) (rfl) (rfl) (Nat.le_of_ble_eq_true rfl) dX4_readClause_91 (fun H locs hP2 hD2 hS2 => ?_)
                  clear hP hD hS
                  have hPD : PD D A [(Rv, .inl (g 0, 21, .inl fvalx_155)), (Rd, .inr (4, [.ref Tp, .int (nI ln), .int (nI axx_165), .int (nI axx_165), .int (nI htx_4), .int (nI ctx_5), .ref Rv])), (Tp, .inl (g 0, 160, .inl ftp))] H := ⟨hP2, hD2⟩
                  have hS := hS2; clear hP2 hD2 hS2; have hP := hPD.1; have hD := hPD.2; clear hPD
                  have hPD9 : PD D A [(Rd, .inr (4, [.ref Tp, .int (nI ln), .int (nI axx_165), .int (nI axx_165), .int (nI htx_4), .int (nI ctx_5), .ref Rv])), (Tp, .inl (g 0, 160, .inl ftp)), (Rv, .inl (g 0, 21, .inl fvalx_155))] H := ⟨hP.sub [1, 2, 0] rfl, hD.sub [1, 2, 0] (by decide) rfl⟩
                  have hP9 := hPD9.1; have hD9 := hPD9.2
                  subst hQ
                  refine W.widen (k := 0) (n := 0) (Nat.le_of_ble_eq_true rfl) (Nat.le_of_ble_eq_true rfl) ?_
                  exact W.vret hx hb hr (fun tS htS _ => ⟨⟨_, rfl, ⟨axx_165, (nI axx_165), htx_4, ctx_5, fvalx_155, rfl, ⟨(show axx_165 ≤ ln by omega), (show htx_4 ≤ 3 by omega), (show ctx_5 ≤ 3 by omega), (hf_157), (cl_bad hf_7.2.2.2.1.symm (show cl_15 < 7 by omega) (hR_162.trans (itR_no (f := 2) hf_167 qi_175)) (show axx_165 < ln by omega) cb_172).1, (cl_bad hf_7.2.2.2.1.symm (show cl_15 < 7 by omega) (hR_162.trans (itR_no (f := 2) hf_167 qi_175)) (show axx_165 < ln by omega) cb_172).2, (fun q => absurd q (m1_ne (show axx_165 < 2 ^ 31 by omega)))⟩⟩, by rw [htS]; exact hP9, hD9⟩, hS.F htS⟩) hS.2.2 dX4_readClause_94
                · skip
                  refine lv_eqi (y := 0) (qi_175) ?_
                  refine lv_istore (lv' := [(5, .int 0), (4, .int 1), (3, .int 2), (2, .int (nI cl_15)), (0, .ref Rd), (1, .int zf)]) hx hb dX4_readClause_69 hl (by decide) rfl (fun ls hl => ?_)
                  refine lv_iload hx hb dX4_readClause_71 (lv_at hl 0 rfl) ?_
                  refine lv_iconst (v := (-1)) hx hb dX4_readClause_73 (by decide) ?_
                  refine lv_icmp_eq (tgt := 86) hx hb dX4_readClause_74 (by decide) (fun cb => absurd cb (by decide)) (fun _ => ?_)
                  refine lv_iload_n hx hb dX4_readClause_77 rfl (lv_at hl 2 rfl) ?_
                  refine lv_iconst (v := 1) hx hb dX4_readClause_78 (by decide) ?_
                  refine lv_iload hx hb dX4_readClause_79 (lv_at hl 0 rfl) ?_
                  refine lv_ishl hx hb dX4_readClause_81 ?_
                  refine lv_eqi (y := 1) (by decide) ?_
                  refine lv_iand hx hb dX4_readClause_82 ?_
                  refine lv_eqi (y := 0) (by decide) ?_
                  refine lv_if_eq (tgt := 95) hx hb dX4_readClause_83 (by decide) (fun _ => ?_) (fun cb => absurd (by decide) cb)
                  refine lv_iload_n hx hb dX4_readClause_95 rfl (lv_at hl 2 rfl) ?_
                  refine lv_iconst (v := 1) hx hb dX4_readClause_96 (by decide) ?_
                  refine lv_iload hx hb dX4_readClause_97 (lv_at hl 0 rfl) ?_
                  refine lv_ishl hx hb dX4_readClause_99 ?_
                  refine lv_eqi (y := 1) (by decide) ?_
                  refine lv_ior hx hb dX4_readClause_100 ?_
                  refine lv_eqi (y := 3) (by decide) ?_
                  refine lv_istore_n (lv' := [(3, .int 3), (5, .int 0), (4, .int 1), (2, .int (nI cl_15)), (0, .ref Rd), (1, .int zf)]) hx hb dX4_readClause_101 rfl hl (by decide) rfl (fun ls hl => ?_)
                  refine lv_aload_n hx hb dX4_readClause_102 rfl (lv_at hl 4 rfl) ?_
                  refine lv_dup hx hb dX4_readClause_103 rfl ?_
                  refine va_get (D := D) (ci := 4) (v := .int (nI axx_165)) (C := RX4) (T := TX4) (N := 7) hx hb hts iX4 hown hK hP 1 rfl rfl 2 (by decide) f28 (fun _ h9 => h9) rfl dX4_readClause_104 ?_
                  refine lv_iconst (v := 1) hx hb dX4_readClause_107 (by decide) ?_
                  refine lv_iadd hx hb dX4_readClause_108 ?_
                  refine lv_eqi (y := (nI (axx_165 + 1))) (nI_add (axx_165) (1)) ?_
                  refine va_put (D := D) (ci := 4) (v := .int (nI (axx_165 + 1))) (ty := .int) (C := RX4) (T := TX4) (N := 7) hx hb hts iX4 tyX4 tyX4_ok nmX4 hown hK hP hD hS 1 rfl rfl 2 (by decide) f28 (fun _ h9 => h9) rfl (by decide +kernel) (rfl) (rfl) (Nat.le_of_ble_eq_true rfl) dX4_readClause_109 (fun H locs hP2 hD2 hS2 => ?_)
                  clear hP hD hS
                  have hPD : PD D A [(Rv, .inl (g 0, 21, .inl fvalx_155)), (Rd, .inr (4, [.ref Tp, .int (nI ln), .int (nI (axx_165 + 1)), .int (-1), .int (nI htx_4), .int (nI ctx_5), .ref Rv])), (Tp, .inl (g 0, 160, .inl ftp))] H := ⟨hP2, hD2⟩
                  have hS := hS2; clear hP2 hD2 hS2; have hP := hPD.1; have hD := hPD.2; clear hPD
                  refine lv_aload_n hx hb dX4_readClause_112 rfl (lv_at hl 4 rfl) ?_
                  refine lv_iload_n hx hb dX4_readClause_113 rfl (lv_at hl 3 rfl) ?_
                  refine lv_iload hx hb dX4_readClause_114 (lv_at hl 1 rfl) ?_
                  refine ky_Vv (As := [.int (nI cl_15), .int 0]) (rest := []) ⟨hx, hb, hml, hown, hts⟩ ⟨hK, hN⟩ hZ hP hD hS hA [1, 2, 0] [] (wc := [(Rd, .inr (4, [.ref Tp, .int (nI ln), .int (nI (axx_165 + 1)), .int (-1), .int (nI htx_4), .int (nI ctx_5), .ref Rv])), (Tp, .inl (g 0, 160, .inl ftp)), (Rv, .inl (g 0, 21, .inl fvalx_155))]) (wr := []) rfl rfl rfl rfl (by decide) (r_X4_readNumber l D g H.size Rd cl_15 0 Tp ln (axx_165 + 1) htx_4 ctx_5 Rv ftp fvalx_155 (show ln ≤ 160 by omega) (show (axx_165 + 1) ≤ ln by omega) (hf_157) (show cl_15 < 7 by omega) (show 0 < 3 by omega)) (cwV 2 hts gX4_readClause_X4_readNumber rfl rfl rfl (by decide +kernel) ⟨(Nat.le_of_ble_eq_true rfl), (Nat.le_of_ble_eq_true rfl)⟩) 1 4 rfl rfl rfl rfl hl.1 rfl (Nat.le_of_ble_eq_true rfl) dX4_readClause_116 ⟨(Nat.le_of_ble_eq_true rfl), (Nat.le_of_ble_eq_true rfl)⟩ (fun u H locs hw hP2 hD2 hS2 => ?_)
                  clear hP hD hS
                  obtain ⟨axx_177, zfax_178, fvalx_179, rfl, hf_180, hf_181, hf_182, hf_183⟩ := hw
                  have hPD : PD D A [(Rd, .inr (4, [.ref Tp, .int (nI ln), .int (nI axx_177), .int zfax_178, .int (nI htx_4), .int (nI ctx_5), .ref Rv])), (Tp, .inl (g 0, 160, .inl ftp)), (Rv, .inl (g 0, 21, .inl fvalx_179))] H := ⟨hP2, hD2⟩
                  have hS := hS2; clear hP2 hD2 hS2; have hP := hPD.1; have hD := hPD.2; clear hPD
                  refine W.widen (k := 0) (n := 0) (Nat.le_of_ble_eq_true rfl) (Nat.le_of_ble_eq_true rfl) ?_
                  refine lv_aload_n hx hb dX4_readClause_119 rfl (lv_at hl 4 rfl) ?_
                  refine va_get (D := D) (ci := 4) (v := .int zfax_178) (C := RX4) (T := TX4) (N := 7) hx hb hts iX4 hown hK hP 0 rfl rfl 3 (by decide) f31 (fun _ h9 => h9) rfl dX4_readClause_120 ?_
                  refine lv_iconst (v := (-1)) hx hb dX4_readClause_123 (by decide) ?_
                  refine lv_icmp_eq (tgt := 128) hx hb dX4_readClause_124 (by decide) (fun cb_184 => ?_) (fun cb_184 => ?_)
                  · skip
                    have hPq_185 := hP; have hDq_185 := hD; have hSq_185 := hS; have hlq_185 := hl; clear hP hD hS hl
                    subst cb_184
                    have hP := hPq_185; have hD := hDq_185; have hS := hSq_185; have hl := hlq_185; clear hPq_185 hDq_185 hSq_185 hlq_185
                    have hne_187 := (hf_183 rfl).1
                    have hne_187g := nmE_gt (T := ftp) (n := ln) (i := axx_165 + 1) (by omega)
                    have hR_186 : itR ftp ln (kdN cl_15) 4 0 (sB ftp ln ax + 1) = itR ftp ln (kdN cl_15) 2 3 axx_177 := hR_162.trans ((itR_go (f := 2) (m := 2) (q := 0) hf_167 (show axx_165 < ln by omega) qi_175 (by decide) (by decide) hf_182.symm).trans (by rw [hne_187]))
                    refine lv_iinc (v := 2) (lv' := [(4, .int 2), (3, .int 3), (5, .int 0), (2, .int (nI cl_15)), (0, .ref Rd), (1, .int zf)]) hx hb dX4_readClause_128 hl (k := 2) rfl (by decide) (by decide) rfl (fun ls hl => ?_)
                    refine lv_goto (tgt := 17) hx hb dX4_readClause_131 (by decide) ?_
                    refine lv_iload hx hb dX4_readClause_17 (lv_at hl 0 rfl) ?_
                    refine lv_iconst (v := 3) hx hb dX4_readClause_19 (by decide) ?_
                    refine lv_icmp_gt (tgt := 134) hx hb dX4_readClause_20 (by decide) (fun cb => absurd cb (by decide)) (fun _ => ?_)
                    refine lv_aload_n hx hb dX4_readClause_23 rfl (lv_at hl 4 rfl) ?_
                    refine ky_Vv (As := []) (rest := []) ⟨hx, hb, hml, hown, hts⟩ ⟨hK, hN⟩ hZ hP hD hS hA [0, 1] [2] (wc := [(Rd, .inr (4, [.ref Tp, .int (nI ln), .int (nI axx_177), .int (-1), .int (nI htx_4), .int (nI ctx_5), .ref Rv])), (Tp, .inl (g 0, 160, .inl ftp))]) (wr := [(Rv, .inl (g 0, 21, .inl fvalx_179))]) rfl rfl rfl rfl (by decide) (r_X4_passBlanks l D g H.size Rd Tp ln axx_177 (-1) htx_4 ctx_5 Rv ftp (show ln ≤ 160 by omega) (show axx_177 ≤ ln by omega)) (cwV 0 hts gX4_readClause_X4_passBlanks rfl rfl rfl (by decide +kernel) ⟨(Nat.le_of_ble_eq_true rfl), (Nat.le_of_ble_eq_true rfl)⟩) 0 4 rfl rfl rfl rfl hl.1 rfl (Nat.le_of_ble_eq_true rfl) dX4_readClause_24 ⟨(Nat.le_of_ble_eq_true rfl), (Nat.le_of_ble_eq_true rfl)⟩ (fun u H locs hw hP2 hD2 hS2 => ?_)
                    clear hP hD hS
                    obtain ⟨axx_189, rfl, hf_190, hf_191⟩ := hw
                    have hPD : PD D A [(Rv, .inl (g 0, 21, .inl fvalx_179)), (Rd, .inr (4, [.ref Tp, .int (nI ln), .int (nI axx_189), .int (-1), .int (nI htx_4), .int (nI ctx_5), .ref Rv])), (Tp, .inl (g 0, 160, .inl ftp))] H := ⟨hP2, hD2⟩
                    have hS := hS2; clear hP2 hD2 hS2; have hP := hPD.1; have hD := hPD.2; clear hPD
                    refine W.widen (k := 0) (n := 0) (Nat.le_of_ble_eq_true rfl) (Nat.le_of_ble_eq_true rfl) ?_
                    have hge_192 := sB_ge (T := ftp) (n := ln) (i := axx_177) (by omega)
                    refine lv_aload_n hx hb dX4_readClause_27 rfl (lv_at hl 4 rfl) ?_
                    refine va_get (D := D) (ci := 4) (v := .int (nI axx_189)) (C := RX4) (T := TX4) (N := 7) hx hb hts iX4 hown hK hP 1 rfl rfl 2 (by decide) f28 (fun _ h9 => h9) rfl dX4_readClause_28 ?_
                    refine lv_aload_n hx hb dX4_readClause_31 rfl (lv_at hl 4 rfl) ?_
                    refine va_get (D := D) (ci := 4) (v := .int (nI ln)) (C := RX4) (T := TX4) (N := 7) hx hb hts iX4 hown hK hP 1 rfl rfl 1 (by decide) f24 (fun _ h9 => h9) rfl dX4_readClause_32 ?_
                    refine lv_icmp_ge (tgt := 52) hx hb dX4_readClause_35 (by decide) (fun cb_193 => ?_) (fun cb_193 => ?_)
                    · skip
                      have cn_194 : ln ≤ axx_189 := (nI_leI (show ln < 2 ^ 31 by omega) (show axx_189 < 2 ^ 31 by omega)).mp cb_193
                      have hPD9 : PD D A [(Rd, .inr (4, [.ref Tp, .int (nI ln), .int (nI axx_189), .int (-1), .int (nI htx_4), .int (nI ctx_5), .ref Rv])), (Tp, .inl (g 0, 160, .inl ftp)), (Rv, .inl (g 0, 21, .inl fvalx_179))] H := ⟨hP.sub [1, 2, 0] rfl, hD.sub [1, 2, 0] (by decide) rfl⟩
                      have hP9 := hPD9.1; have hD9 := hPD9.2
                      subst hQ
                      refine W.widen (k := 0) (n := 0) (Nat.le_of_ble_eq_true rfl) (Nat.le_of_ble_eq_true rfl) ?_
                      exact W.vret hx hb hr (fun tS htS _ => ⟨⟨_, rfl, ⟨axx_189, (-1), htx_4, ctx_5, fvalx_179, rfl, ⟨(show axx_189 ≤ ln by omega), (show htx_4 ≤ 3 by omega), (show ctx_5 ≤ 3 by omega), (hf_181), (cl_end hf_7.2.2.2.1.symm (show cl_15 < 7 by omega) (hR_186.trans (itR_end (f := 1) hf_191 (show ¬ axx_189 < ln by omega))) (fun q => absurd q.1 (show ¬ axx_189 < ln by omega))).1, (cl_end hf_7.2.2.2.1.symm (show cl_15 < 7 by omega) (hR_186.trans (itR_end (f := 1) hf_191 (show ¬ axx_189 < ln by omega))) (fun q => absurd q.1 (show ¬ axx_189 < ln by omega))).2.1, (fun _ => ⟨(cl_end hf_7.2.2.2.1.symm (show cl_15 < 7 by omega) (hR_186.trans (itR_end (f := 1) hf_191 (show ¬ axx_189 < ln by omega))) (fun q => absurd q.1 (show ¬ axx_189 < ln by omega))).2.2, show ax < axx_189 by omega⟩)⟩⟩, by rw [htS]; exact hP9, hD9⟩, hS.F htS⟩) hS.2.2 dX4_readClause_52
                    · skip
                      have cn_195 : axx_189 < ln := Nat.lt_of_not_le (fun q9 => cb_193 ((nI_leI (show ln < 2 ^ 31 by omega) (show axx_189 < 2 ^ 31 by omega)).mpr q9))
                      refine lv_aload_n hx hb dX4_readClause_38 rfl (lv_at hl 4 rfl) ?_
                      refine va_get (D := D) (ci := 4) (v := .ref Tp) (C := RX4) (T := TX4) (N := 7) hx hb hts iX4 hown hK hP 1 rfl rfl 0 (by decide) f9 (fun _ h9 => h9) rfl dX4_readClause_39 ?_
                      refine lv_aload_n hx hb dX4_readClause_42 rfl (lv_at hl 4 rfl) ?_
                      refine va_get (D := D) (ci := 4) (v := .int (nI axx_189)) (C := RX4) (T := TX4) (N := 7) hx hb hts iX4 hown hK hP 1 rfl rfl 2 (by decide) f28 (fun _ h9 => h9) rfl dX4_readClause_43 ?_
                      refine va_iald hx hb hK hP 2 0 rfl rfl (vp_in_nI (show axx_189 < 160 by omega) (by decide)) dX4_readClause_46 ?_
                      refine lv_eqi (y := (ftp (axx_189))) (congrArg ftp (nI_clamp (show axx_189 < 2 ^ 31 by omega))) ?_
                      refine lv_bipush (v := 59) hx hb dX4_readClause_47 (by decide) ?_
                      refine lv_icmp_ne (tgt := 53) hx hb dX4_readClause_49 (by decide) (fun cb_196 => ?_) (fun cb_196 => ?_)
                      · skip
                        refine lv_iload_n hx hb dX4_readClause_53 rfl (lv_at hl 3 rfl) ?_
                        refine ky_Si (As := [.int (nI cl_15)]) (rest := []) ⟨hx, hb, hml, hown, hts⟩ ⟨hK, hN⟩ hZ hP hD hS hA [] [0, 1, 2] (wc := []) (wr := [(Rv, .inl (g 0, 21, .inl fvalx_179)), (Rd, .inr (4, [.ref Tp, .int (nI ln), .int (nI axx_189), .int (-1), .int (nI htx_4), .int (nI ctx_5), .ref Rv])), (Tp, .inl (g 0, 160, .inl ftp))]) rfl rfl rfl rfl (by decide) (r_X4_kindOf l D g H.size cl_15 (show cl_15 < 7 by omega)) (va_cwS 1 hts gX4_readClause_X4_kindOf rfl rfl rfl (by decide +kernel) ⟨(Nat.le_of_ble_eq_true rfl), (Nat.le_of_ble_eq_true rfl)⟩) rfl hl.1 rfl (Nat.le_of_ble_eq_true rfl) dX4_readClause_54 ⟨(Nat.le_of_ble_eq_true rfl), (Nat.le_of_ble_eq_true rfl)⟩ (fun r_197 u H locs hw hP2 hD2 hS2 => ?_)
                        clear hP hD hS
                        obtain ⟨rfl, rfl⟩ := hw
                        have hPD : PD D A [(Rv, .inl (g 0, 21, .inl fvalx_179)), (Rd, .inr (4, [.ref Tp, .int (nI ln), .int (nI axx_189), .int (-1), .int (nI htx_4), .int (nI ctx_5), .ref Rv])), (Tp, .inl (g 0, 160, .inl ftp))] H := ⟨hP2, hD2⟩
                        have hS := hS2; clear hP2 hD2 hS2; have hP := hPD.1; have hD := hPD.2; clear hPD
                        refine W.widen (k := 0) (n := 0) (Nat.le_of_ble_eq_true rfl) (Nat.le_of_ble_eq_true rfl) ?_
                        refine lv_aload_n hx hb dX4_readClause_57 rfl (lv_at hl 4 rfl) ?_
                        refine va_get (D := D) (ci := 4) (v := .ref Tp) (C := RX4) (T := TX4) (N := 7) hx hb hts iX4 hown hK hP 1 rfl rfl 0 (by decide) f9 (fun _ h9 => h9) rfl dX4_readClause_58 ?_
                        refine lv_aload_n hx hb dX4_readClause_61 rfl (lv_at hl 4 rfl) ?_
                        refine va_get (D := D) (ci := 4) (v := .int (nI axx_189)) (C := RX4) (T := TX4) (N := 7) hx hb hts iX4 hown hK hP 1 rfl rfl 2 (by decide) f28 (fun _ h9 => h9) rfl dX4_readClause_62 ?_
                        refine va_iald hx hb hK hP 2 0 rfl rfl (vp_in_nI (show axx_189 < 160 by omega) (by decide)) dX4_readClause_65 ?_
                        refine lv_eqi (y := (ftp (axx_189))) (congrArg ftp (nI_clamp (show axx_189 < 2 ^ 31 by omega))) ?_
                        refine ky_Si (As := [.int (nI (kdN cl_15)), .int (ftp (axx_189))]) (rest := []) ⟨hx, hb, hml, hown, hts⟩ ⟨hK, hN⟩ hZ hP hD hS hA [] [0, 1, 2] (wc := []) (wr := [(Rv, .inl (g 0, 21, .inl fvalx_179)), (Rd, .inr (4, [.ref Tp, .int (nI ln), .int (nI axx_189), .int (-1), .int (nI htx_4), .int (nI ctx_5), .ref Rv])), (Tp, .inl (g 0, 160, .inl ftp))]) rfl rfl rfl rfl (by decide) (r_X4_itemOf l D g H.size (kdN cl_15) (ftp (axx_189)) (show (kdN cl_15) < 3 by omega)) (va_cwS 2 hts gX4_readClause_X4_itemOf rfl rfl rfl (by decide +kernel) ⟨(Nat.le_of_ble_eq_true rfl), (Nat.le_of_ble_eq_true rfl)⟩) rfl hl.1 rfl (Nat.le_of_ble_eq_true rfl) dX4_readClause_66 ⟨(Nat.le_of_ble_eq_true rfl), (Nat.le_of_ble_eq_true rfl)⟩ (fun r_198 u H locs hw hP2 hD2 hS2 => ?_)
                        clear hP hD hS
                        obtain ⟨rfl, rfl⟩ := hw
                        have hPD : PD D A [(Rv, .inl (g 0, 21, .inl fvalx_179)), (Rd, .inr (4, [.ref Tp, .int (nI ln), .int (nI axx_189), .int (-1), .int (nI htx_4), .int (nI ctx_5), .ref Rv])), (Tp, .inl (g 0, 160, .inl ftp))] H := ⟨hP2, hD2⟩
                        have hS := hS2; clear hP2 hD2 hS2; have hP := hPD.1; have hD := hPD.2; clear hPD
                        refine W.widen (k := 0) (n := 0) (Nat.le_of_ble_eq_true rfl) (Nat.le_of_ble_eq_true rfl) ?_
                        rcases itK_c (kdN cl_15) (ftp (axx_189)) with qi_199 | qi_199 | qi_199 | qi_199
                        · skip
                          refine lv_eqi (y := (-1)) (qi_199) ?_
                          refine lv_istore (lv' := [(5, .int (-1)), (4, .int 2), (3, .int 3), (2, .int (nI cl_15)), (0, .ref Rd), (1, .int zf)]) hx hb dX4_readClause_69 hl (by decide) rfl (fun ls hl => ?_)
                          refine lv_iload hx hb dX4_readClause_71 (lv_at hl 0 rfl) ?_
                          refine lv_iconst (v := (-1)) hx hb dX4_readClause_73 (by decide) ?_
                          refine lv_icmp_eq (tgt := 86) hx hb dX4_readClause_74 (by decide) (fun _ => ?_) (fun cb => absurd (by decide) cb)
                          refine lv_aload_n hx hb dX4_readClause_86 rfl (lv_at hl 4 rfl) ?_
                          refine lv_aload_n hx hb dX4_readClause_87 rfl (lv_at hl 4 rfl) ?_
                          refine va_get (D := D) (ci := 4) (v := .int (nI axx_189)) (C := RX4) (T := TX4) (N := 7) hx hb hts iX4 hown hK hP 1 rfl rfl 2 (by decide) f28 (fun _ h9 => h9) rfl dX4_readClause_88 ?_
                          refine va_put (D := D) (ci := 4) (v := .int (nI axx_189)) (ty := .int) (C := RX4) (T := TX4) (N := 7) hx hb hts iX4 tyX4 tyX4_ok nmX4 hown hK hP hD hS 1 rfl rfl 3 (by decide) f31 (fun _ h9 => h9) rfl (by decide +kernel) (rfl) (rfl) (Nat.le_of_ble_eq_true rfl) dX4_readClause_91 (fun H locs hP2 hD2 hS2 => ?_)
                          clear hP hD hS
                          have hPD : PD D A [(Rv, .inl (g 0, 21, .inl fvalx_179)), (Rd, .inr (4, [.ref Tp, .int (nI ln), .int (nI axx_189), .int (nI axx_189), .int (nI htx_4), .int (nI ctx_5), .ref Rv])), (Tp, .inl (g 0, 160, .inl ftp))] H := ⟨hP2, hD2⟩
                          have hS := hS2; clear hP2 hD2 hS2; have hP := hPD.1; have hD := hPD.2; clear hPD
                          have hPD9 : PD D A [(Rd, .inr (4, [.ref Tp, .int (nI ln), .int (nI axx_189), .int (nI axx_189), .int (nI htx_4), .int (nI ctx_5), .ref Rv])), (Tp, .inl (g 0, 160, .inl ftp)), (Rv, .inl (g 0, 21, .inl fvalx_179))] H := ⟨hP.sub [1, 2, 0] rfl, hD.sub [1, 2, 0] (by decide) rfl⟩
                          have hP9 := hPD9.1; have hD9 := hPD9.2
                          subst hQ
                          refine W.widen (k := 0) (n := 0) (Nat.le_of_ble_eq_true rfl) (Nat.le_of_ble_eq_true rfl) ?_
                          exact W.vret hx hb hr (fun tS htS _ => ⟨⟨_, rfl, ⟨axx_189, (nI axx_189), htx_4, ctx_5, fvalx_179, rfl, ⟨(show axx_189 ≤ ln by omega), (show htx_4 ≤ 3 by omega), (show ctx_5 ≤ 3 by omega), (hf_181), (cl_bad hf_7.2.2.2.1.symm (show cl_15 < 7 by omega) (hR_186.trans (itR_no (f := 1) hf_191 qi_199)) (show axx_189 < ln by omega) cb_196).1, (cl_bad hf_7.2.2.2.1.symm (show cl_15 < 7 by omega) (hR_186.trans (itR_no (f := 1) hf_191 qi_199)) (show axx_189 < ln by omega) cb_196).2, (fun q => absurd q (m1_ne (show axx_189 < 2 ^ 31 by omega)))⟩⟩, by rw [htS]; exact hP9, hD9⟩, hS.F htS⟩) hS.2.2 dX4_readClause_94
                        · skip
                          refine lv_eqi (y := 0) (qi_199) ?_
                          refine lv_istore (lv' := [(5, .int 0), (4, .int 2), (3, .int 3), (2, .int (nI cl_15)), (0, .ref Rd), (1, .int zf)]) hx hb dX4_readClause_69 hl (by decide) rfl (fun ls hl => ?_)
                          refine lv_iload hx hb dX4_readClause_71 (lv_at hl 0 rfl) ?_
                          refine lv_iconst (v := (-1)) hx hb dX4_readClause_73 (by decide) ?_
                          refine lv_icmp_eq (tgt := 86) hx hb dX4_readClause_74 (by decide) (fun cb => absurd cb (by decide)) (fun _ => ?_)
                          refine lv_iload_n hx hb dX4_readClause_77 rfl (lv_at hl 2 rfl) ?_
                          refine lv_iconst (v := 1) hx hb dX4_readClause_78 (by decide) ?_
                          refine lv_iload hx hb dX4_readClause_79 (lv_at hl 0 rfl) ?_
                          refine lv_ishl hx hb dX4_readClause_81 ?_
                          refine lv_eqi (y := 1) (by decide) ?_
                          refine lv_iand hx hb dX4_readClause_82 ?_
                          refine lv_eqi (y := 1) (by decide) ?_
                          refine lv_if_eq (tgt := 95) hx hb dX4_readClause_83 (by decide) (fun cb => absurd cb (by decide)) (fun _ => ?_)
                          refine lv_aload_n hx hb dX4_readClause_86 rfl (lv_at hl 4 rfl) ?_
                          refine lv_aload_n hx hb dX4_readClause_87 rfl (lv_at hl 4 rfl) ?_
                          refine va_get (D := D) (ci := 4) (v := .int (nI axx_189)) (C := RX4) (T := TX4) (N := 7) hx hb hts iX4 hown hK hP 1 rfl rfl 2 (by decide) f28 (fun _ h9 => h9) rfl dX4_readClause_88 ?_
                          refine va_put (D := D) (ci := 4) (v := .int (nI axx_189)) (ty := .int) (C := RX4) (T := TX4) (N := 7) hx hb hts iX4 tyX4 tyX4_ok nmX4 hown hK hP hD hS 1 rfl rfl 3 (by decide) f31 (fun _ h9 => h9) rfl (by decide +kernel) (rfl) (rfl) (Nat.le_of_ble_eq_true rfl) dX4_readClause_91 (fun H locs hP2 hD2 hS2 => ?_)
                          clear hP hD hS
                          have hPD : PD D A [(Rv, .inl (g 0, 21, .inl fvalx_179)), (Rd, .inr (4, [.ref Tp, .int (nI ln), .int (nI axx_189), .int (nI axx_189), .int (nI htx_4), .int (nI ctx_5), .ref Rv])), (Tp, .inl (g 0, 160, .inl ftp))] H := ⟨hP2, hD2⟩
                          have hS := hS2; clear hP2 hD2 hS2; have hP := hPD.1; have hD := hPD.2; clear hPD
                          have hPD9 : PD D A [(Rd, .inr (4, [.ref Tp, .int (nI ln), .int (nI axx_189), .int (nI axx_189), .int (nI htx_4), .int (nI ctx_5), .ref Rv])), (Tp, .inl (g 0, 160, .inl ftp)), (Rv, .inl (g 0, 21, .inl fvalx_179))] H := ⟨hP.sub [1, 2, 0] rfl, hD.sub [1, 2, 0] (by decide) rfl⟩
                          have hP9 := hPD9.1; have hD9 := hPD9.2
                          subst hQ
                          refine W.widen (k := 0) (n := 0) (Nat.le_of_ble_eq_true rfl) (Nat.le_of_ble_eq_true rfl) ?_
                          exact W.vret hx hb hr (fun tS htS _ => ⟨⟨_, rfl, ⟨axx_189, (nI axx_189), htx_4, ctx_5, fvalx_179, rfl, ⟨(show axx_189 ≤ ln by omega), (show htx_4 ≤ 3 by omega), (show ctx_5 ≤ 3 by omega), (hf_181), (cl_bad hf_7.2.2.2.1.symm (show cl_15 < 7 by omega) (hR_186.trans (itR_again (f := 1) (q := 0) hf_191 qi_199 (by decide) (by decide))) (show axx_189 < ln by omega) cb_196).1, (cl_bad hf_7.2.2.2.1.symm (show cl_15 < 7 by omega) (hR_186.trans (itR_again (f := 1) (q := 0) hf_191 qi_199 (by decide) (by decide))) (show axx_189 < ln by omega) cb_196).2, (fun q => absurd q (m1_ne (show axx_189 < 2 ^ 31 by omega)))⟩⟩, by rw [htS]; exact hP9, hD9⟩, hS.F htS⟩) hS.2.2 dX4_readClause_94
                        · skip
                          refine lv_eqi (y := 1) (qi_199) ?_
                          refine lv_istore (lv' := [(5, .int 1), (4, .int 2), (3, .int 3), (2, .int (nI cl_15)), (0, .ref Rd), (1, .int zf)]) hx hb dX4_readClause_69 hl (by decide) rfl (fun ls hl => ?_)
                          refine lv_iload hx hb dX4_readClause_71 (lv_at hl 0 rfl) ?_
                          refine lv_iconst (v := (-1)) hx hb dX4_readClause_73 (by decide) ?_
                          refine lv_icmp_eq (tgt := 86) hx hb dX4_readClause_74 (by decide) (fun cb => absurd cb (by decide)) (fun _ => ?_)
                          refine lv_iload_n hx hb dX4_readClause_77 rfl (lv_at hl 2 rfl) ?_
                          refine lv_iconst (v := 1) hx hb dX4_readClause_78 (by decide) ?_
                          refine lv_iload hx hb dX4_readClause_79 (lv_at hl 0 rfl) ?_
                          refine lv_ishl hx hb dX4_readClause_81 ?_
                          refine lv_eqi (y := 2) (by decide) ?_
                          refine lv_iand hx hb dX4_readClause_82 ?_
                          refine lv_eqi (y := 2) (by decide) ?_
                          refine lv_if_eq (tgt := 95) hx hb dX4_readClause_83 (by decide) (fun cb => absurd cb (by decide)) (fun _ => ?_)
                          refine lv_aload_n hx hb dX4_readClause_86 rfl (lv_at hl 4 rfl) ?_
                          refine lv_aload_n hx hb dX4_readClause_87 rfl (lv_at hl 4 rfl) ?_
                          refine va_get (D := D) (ci := 4) (v := .int (nI axx_189)) (C := RX4) (T := TX4) (N := 7) hx hb hts iX4 hown hK hP 1 rfl rfl 2 (by decide) f28 (fun _ h9 => h9) rfl dX4_readClause_88 ?_
                          refine va_put (D := D) (ci := 4) (v := .int (nI axx_189)) (ty := .int) (C := RX4) (T := TX4) (N := 7) hx hb hts iX4 tyX4 tyX4_ok nmX4 hown hK hP hD hS 1 rfl rfl 3 (by decide) f31 (fun _ h9 => h9) rfl (by decide +kernel) (rfl) (rfl) (Nat.le_of_ble_eq_true rfl) dX4_readClause_91 (fun H locs hP2 hD2 hS2 => ?_)
                          clear hP hD hS
                          have hPD : PD D A [(Rv, .inl (g 0, 21, .inl fvalx_179)), (Rd, .inr (4, [.ref Tp, .int (nI ln), .int (nI axx_189), .int (nI axx_189), .int (nI htx_4), .int (nI ctx_5), .ref Rv])), (Tp, .inl (g 0, 160, .inl ftp))] H := ⟨hP2, hD2⟩
                          have hS := hS2; clear hP2 hD2 hS2; have hP := hPD.1; have hD := hPD.2; clear hPD
                          have hPD9 : PD D A [(Rd, .inr (4, [.ref Tp, .int (nI ln), .int (nI axx_189), .int (nI axx_189), .int (nI htx_4), .int (nI ctx_5), .ref Rv])), (Tp, .inl (g 0, 160, .inl ftp)), (Rv, .inl (g 0, 21, .inl fvalx_179))] H := ⟨hP.sub [1, 2, 0] rfl, hD.sub [1, 2, 0] (by decide) rfl⟩
                          have hP9 := hPD9.1; have hD9 := hPD9.2
                          subst hQ
                          refine W.widen (k := 0) (n := 0) (Nat.le_of_ble_eq_true rfl) (Nat.le_of_ble_eq_true rfl) ?_
                          exact W.vret hx hb hr (fun tS htS _ => ⟨⟨_, rfl, ⟨axx_189, (nI axx_189), htx_4, ctx_5, fvalx_179, rfl, ⟨(show axx_189 ≤ ln by omega), (show htx_4 ≤ 3 by omega), (show ctx_5 ≤ 3 by omega), (hf_181), (cl_bad hf_7.2.2.2.1.symm (show cl_15 < 7 by omega) (hR_186.trans (itR_again (f := 1) (q := 1) hf_191 qi_199 (by decide) (by decide))) (show axx_189 < ln by omega) cb_196).1, (cl_bad hf_7.2.2.2.1.symm (show cl_15 < 7 by omega) (hR_186.trans (itR_again (f := 1) (q := 1) hf_191 qi_199 (by decide) (by decide))) (show axx_189 < ln by omega) cb_196).2, (fun q => absurd q (m1_ne (show axx_189 < 2 ^ 31 by omega)))⟩⟩, by rw [htS]; exact hP9, hD9⟩, hS.F htS⟩) hS.2.2 dX4_readClause_94
                        · skip
                          refine lv_eqi (y := 2) (qi_199) ?_
                          refine lv_istore (lv' := [(5, .int 2), (4, .int 2), (3, .int 3), (2, .int (nI cl_15)), (0, .ref Rd), (1, .int zf)]) hx hb dX4_readClause_69 hl (by decide) rfl (fun ls hl => ?_)
                          refine lv_iload hx hb dX4_readClause_71 (lv_at hl 0 rfl) ?_
                          refine lv_iconst (v := (-1)) hx hb dX4_readClause_73 (by decide) ?_
                          refine lv_icmp_eq (tgt := 86) hx hb dX4_readClause_74 (by decide) (fun cb => absurd cb (by decide)) (fun _ => ?_)
                          refine lv_iload_n hx hb dX4_readClause_77 rfl (lv_at hl 2 rfl) ?_
                          refine lv_iconst (v := 1) hx hb dX4_readClause_78 (by decide) ?_
                          refine lv_iload hx hb dX4_readClause_79 (lv_at hl 0 rfl) ?_
                          refine lv_ishl hx hb dX4_readClause_81 ?_
                          refine lv_eqi (y := 4) (by decide) ?_
                          refine lv_iand hx hb dX4_readClause_82 ?_
                          refine lv_eqi (y := 0) (by decide) ?_
                          refine lv_if_eq (tgt := 95) hx hb dX4_readClause_83 (by decide) (fun _ => ?_) (fun cb => absurd (by decide) cb)
                          refine lv_iload_n hx hb dX4_readClause_95 rfl (lv_at hl 2 rfl) ?_
                          refine lv_iconst (v := 1) hx hb dX4_readClause_96 (by decide) ?_
                          refine lv_iload hx hb dX4_readClause_97 (lv_at hl 0 rfl) ?_
                          refine lv_ishl hx hb dX4_readClause_99 ?_
                          refine lv_eqi (y := 4) (by decide) ?_
                          refine lv_ior hx hb dX4_readClause_100 ?_
                          refine lv_eqi (y := 7) (by decide) ?_
                          refine lv_istore_n (lv' := [(3, .int 7), (5, .int 2), (4, .int 2), (2, .int (nI cl_15)), (0, .ref Rd), (1, .int zf)]) hx hb dX4_readClause_101 rfl hl (by decide) rfl (fun ls hl => ?_)
                          refine lv_aload_n hx hb dX4_readClause_102 rfl (lv_at hl 4 rfl) ?_
                          refine lv_dup hx hb dX4_readClause_103 rfl ?_
                          refine va_get (D := D) (ci := 4) (v := .int (nI axx_189)) (C := RX4) (T := TX4) (N := 7) hx hb hts iX4 hown hK hP 1 rfl rfl 2 (by decide) f28 (fun _ h9 => h9) rfl dX4_readClause_104 ?_
                          refine lv_iconst (v := 1) hx hb dX4_readClause_107 (by decide) ?_
                          refine lv_iadd hx hb dX4_readClause_108 ?_
                          refine lv_eqi (y := (nI (axx_189 + 1))) (nI_add (axx_189) (1)) ?_
                          refine va_put (D := D) (ci := 4) (v := .int (nI (axx_189 + 1))) (ty := .int) (C := RX4) (T := TX4) (N := 7) hx hb hts iX4 tyX4 tyX4_ok nmX4 hown hK hP hD hS 1 rfl rfl 2 (by decide) f28 (fun _ h9 => h9) rfl (by decide +kernel) (rfl) (rfl) (Nat.le_of_ble_eq_true rfl) dX4_readClause_109 (fun H locs hP2 hD2 hS2 => ?_)
                          clear hP hD hS
                          have hPD : PD D A [(Rv, .inl (g 0, 21, .inl fvalx_179)), (Rd, .inr (4, [.ref Tp, .int (nI ln), .int (nI (axx_189 + 1)), .int (-1), .int (nI htx_4), .int (nI ctx_5), .ref Rv])), (Tp, .inl (g 0, 160, .inl ftp))] H := ⟨hP2, hD2⟩
                          have hS := hS2; clear hP2 hD2 hS2; have hP := hPD.1; have hD := hPD.2; clear hPD
                          refine lv_aload_n hx hb dX4_readClause_112 rfl (lv_at hl 4 rfl) ?_
                          refine lv_iload_n hx hb dX4_readClause_113 rfl (lv_at hl 3 rfl) ?_
                          refine lv_iload hx hb dX4_readClause_114 (lv_at hl 1 rfl) ?_
                          refine ky_Vv (As := [.int (nI cl_15), .int 2]) (rest := []) ⟨hx, hb, hml, hown, hts⟩ ⟨hK, hN⟩ hZ hP hD hS hA [1, 2, 0] [] (wc := [(Rd, .inr (4, [.ref Tp, .int (nI ln), .int (nI (axx_189 + 1)), .int (-1), .int (nI htx_4), .int (nI ctx_5), .ref Rv])), (Tp, .inl (g 0, 160, .inl ftp)), (Rv, .inl (g 0, 21, .inl fvalx_179))]) (wr := []) rfl rfl rfl rfl (by decide) (r_X4_readNumber l D g H.size Rd cl_15 2 Tp ln (axx_189 + 1) htx_4 ctx_5 Rv ftp fvalx_179 (show ln ≤ 160 by omega) (show (axx_189 + 1) ≤ ln by omega) (hf_181) (show cl_15 < 7 by omega) (show 2 < 3 by omega)) (cwV 2 hts gX4_readClause_X4_readNumber rfl rfl rfl (by decide +kernel) ⟨(Nat.le_of_ble_eq_true rfl), (Nat.le_of_ble_eq_true rfl)⟩) 1 4 rfl rfl rfl rfl hl.1 rfl (Nat.le_of_ble_eq_true rfl) dX4_readClause_116 ⟨(Nat.le_of_ble_eq_true rfl), (Nat.le_of_ble_eq_true rfl)⟩ (fun u H locs hw hP2 hD2 hS2 => ?_)
                          clear hP hD hS
                          obtain ⟨axx_201, zfax_202, fvalx_203, rfl, hf_204, hf_205, hf_206, hf_207⟩ := hw
                          have hPD : PD D A [(Rd, .inr (4, [.ref Tp, .int (nI ln), .int (nI axx_201), .int zfax_202, .int (nI htx_4), .int (nI ctx_5), .ref Rv])), (Tp, .inl (g 0, 160, .inl ftp)), (Rv, .inl (g 0, 21, .inl fvalx_203))] H := ⟨hP2, hD2⟩
                          have hS := hS2; clear hP2 hD2 hS2; have hP := hPD.1; have hD := hPD.2; clear hPD
                          refine W.widen (k := 0) (n := 0) (Nat.le_of_ble_eq_true rfl) (Nat.le_of_ble_eq_true rfl) ?_
                          refine lv_aload_n hx hb dX4_readClause_119 rfl (lv_at hl 4 rfl) ?_
                          refine va_get (D := D) (ci := 4) (v := .int zfax_202) (C := RX4) (T := TX4) (N := 7) hx hb hts iX4 hown hK hP 0 rfl rfl 3 (by decide) f31 (fun _ h9 => h9) rfl dX4_readClause_120 ?_
                          refine lv_iconst (v := (-1)) hx hb dX4_readClause_123 (by decide) ?_
                          refine lv_icmp_eq (tgt := 128) hx hb dX4_readClause_124 (by decide) (fun cb_208 => ?_) (fun cb_208 => ?_)
                          · skip
                            have hPq_209 := hP; have hDq_209 := hD; have hSq_209 := hS; have hlq_209 := hl; clear hP hD hS hl
                            subst cb_208
                            have hP := hPq_209; have hD := hDq_209; have hS := hSq_209; have hl := hlq_209; clear hPq_209 hDq_209 hSq_209 hlq_209
                            have hne_211 := (hf_207 rfl).1
                            have hne_211g := nmE_gt (T := ftp) (n := ln) (i := axx_189 + 1) (by omega)
                            have hR_210 : itR ftp ln (kdN cl_15) 4 0 (sB ftp ln ax + 1) = itR ftp ln (kdN cl_15) 1 7 axx_201 := hR_186.trans ((itR_go (f := 1) (m := 3) (q := 2) hf_191 (show axx_189 < ln by omega) qi_199 (by decide) (by decide) hf_206.symm).trans (by rw [hne_211]))
                            refine lv_iinc (v := 3) (lv' := [(4, .int 3), (3, .int 7), (5, .int 2), (2, .int (nI cl_15)), (0, .ref Rd), (1, .int zf)]) hx hb dX4_readClause_128 hl (k := 2) rfl (by decide) (by decide) rfl (fun ls hl => ?_)
                            refine lv_goto (tgt := 17) hx hb dX4_readClause_131 (by decide) ?_
                            refine lv_iload hx hb dX4_readClause_17 (lv_at hl 0 rfl) ?_
                            refine lv_iconst (v := 3) hx hb dX4_readClause_19 (by decide) ?_
                            refine lv_icmp_gt (tgt := 134) hx hb dX4_readClause_20 (by decide) (fun cb => absurd cb (by decide)) (fun _ => ?_)
                            refine lv_aload_n hx hb dX4_readClause_23 rfl (lv_at hl 4 rfl) ?_
                            refine ky_Vv (As := []) (rest := []) ⟨hx, hb, hml, hown, hts⟩ ⟨hK, hN⟩ hZ hP hD hS hA [0, 1] [2] (wc := [(Rd, .inr (4, [.ref Tp, .int (nI ln), .int (nI axx_201), .int (-1), .int (nI htx_4), .int (nI ctx_5), .ref Rv])), (Tp, .inl (g 0, 160, .inl ftp))]) (wr := [(Rv, .inl (g 0, 21, .inl fvalx_203))]) rfl rfl rfl rfl (by decide) (r_X4_passBlanks l D g H.size Rd Tp ln axx_201 (-1) htx_4 ctx_5 Rv ftp (show ln ≤ 160 by omega) (show axx_201 ≤ ln by omega)) (cwV 0 hts gX4_readClause_X4_passBlanks rfl rfl rfl (by decide +kernel) ⟨(Nat.le_of_ble_eq_true rfl), (Nat.le_of_ble_eq_true rfl)⟩) 0 4 rfl rfl rfl rfl hl.1 rfl (Nat.le_of_ble_eq_true rfl) dX4_readClause_24 ⟨(Nat.le_of_ble_eq_true rfl), (Nat.le_of_ble_eq_true rfl)⟩ (fun u H locs hw hP2 hD2 hS2 => ?_)
                            clear hP hD hS
                            obtain ⟨axx_213, rfl, hf_214, hf_215⟩ := hw
                            have hPD : PD D A [(Rv, .inl (g 0, 21, .inl fvalx_203)), (Rd, .inr (4, [.ref Tp, .int (nI ln), .int (nI axx_213), .int (-1), .int (nI htx_4), .int (nI ctx_5), .ref Rv])), (Tp, .inl (g 0, 160, .inl ftp))] H := ⟨hP2, hD2⟩
                            have hS := hS2; clear hP2 hD2 hS2; have hP := hPD.1; have hD := hPD.2; clear hPD
                            refine W.widen (k := 0) (n := 0) (Nat.le_of_ble_eq_true rfl) (Nat.le_of_ble_eq_true rfl) ?_
                            have hge_216 := sB_ge (T := ftp) (n := ln) (i := axx_201) (by omega)
                            refine lv_aload_n hx hb dX4_readClause_27 rfl (lv_at hl 4 rfl) ?_
                            refine va_get (D := D) (ci := 4) (v := .int (nI axx_213)) (C := RX4) (T := TX4) (N := 7) hx hb hts iX4 hown hK hP 1 rfl rfl 2 (by decide) f28 (fun _ h9 => h9) rfl dX4_readClause_28 ?_
                            refine lv_aload_n hx hb dX4_readClause_31 rfl (lv_at hl 4 rfl) ?_
                            refine va_get (D := D) (ci := 4) (v := .int (nI ln)) (C := RX4) (T := TX4) (N := 7) hx hb hts iX4 hown hK hP 1 rfl rfl 1 (by decide) f24 (fun _ h9 => h9) rfl dX4_readClause_32 ?_
                            refine lv_icmp_ge (tgt := 52) hx hb dX4_readClause_35 (by decide) (fun cb_217 => ?_) (fun cb_217 => ?_)
                            · skip
                              have cn_218 : ln ≤ axx_213 := (nI_leI (show ln < 2 ^ 31 by omega) (show axx_213 < 2 ^ 31 by omega)).mp cb_217
                              have hPD9 : PD D A [(Rd, .inr (4, [.ref Tp, .int (nI ln), .int (nI axx_213), .int (-1), .int (nI htx_4), .int (nI ctx_5), .ref Rv])), (Tp, .inl (g 0, 160, .inl ftp)), (Rv, .inl (g 0, 21, .inl fvalx_203))] H := ⟨hP.sub [1, 2, 0] rfl, hD.sub [1, 2, 0] (by decide) rfl⟩
                              have hP9 := hPD9.1; have hD9 := hPD9.2
                              subst hQ
                              refine W.widen (k := 0) (n := 0) (Nat.le_of_ble_eq_true rfl) (Nat.le_of_ble_eq_true rfl) ?_
                              exact W.vret hx hb hr (fun tS htS _ => ⟨⟨_, rfl, ⟨axx_213, (-1), htx_4, ctx_5, fvalx_203, rfl, ⟨(show axx_213 ≤ ln by omega), (show htx_4 ≤ 3 by omega), (show ctx_5 ≤ 3 by omega), (hf_205), (cl_end hf_7.2.2.2.1.symm (show cl_15 < 7 by omega) (hR_210.trans (itR_end (f := 0) hf_215 (show ¬ axx_213 < ln by omega))) (fun q => absurd q.1 (show ¬ axx_213 < ln by omega))).1, (cl_end hf_7.2.2.2.1.symm (show cl_15 < 7 by omega) (hR_210.trans (itR_end (f := 0) hf_215 (show ¬ axx_213 < ln by omega))) (fun q => absurd q.1 (show ¬ axx_213 < ln by omega))).2.1, (fun _ => ⟨(cl_end hf_7.2.2.2.1.symm (show cl_15 < 7 by omega) (hR_210.trans (itR_end (f := 0) hf_215 (show ¬ axx_213 < ln by omega))) (fun q => absurd q.1 (show ¬ axx_213 < ln by omega))).2.2, show ax < axx_213 by omega⟩)⟩⟩, by rw [htS]; exact hP9, hD9⟩, hS.F htS⟩) hS.2.2 dX4_readClause_52
                            · skip
                              have cn_219 : axx_213 < ln := Nat.lt_of_not_le (fun q9 => cb_217 ((nI_leI (show ln < 2 ^ 31 by omega) (show axx_213 < 2 ^ 31 by omega)).mpr q9))
                              refine lv_aload_n hx hb dX4_readClause_38 rfl (lv_at hl 4 rfl) ?_
                              refine va_get (D := D) (ci := 4) (v := .ref Tp) (C := RX4) (T := TX4) (N := 7) hx hb hts iX4 hown hK hP 1 rfl rfl 0 (by decide) f9 (fun _ h9 => h9) rfl dX4_readClause_39 ?_
                              refine lv_aload_n hx hb dX4_readClause_42 rfl (lv_at hl 4 rfl) ?_
                              refine va_get (D := D) (ci := 4) (v := .int (nI axx_213)) (C := RX4) (T := TX4) (N := 7) hx hb hts iX4 hown hK hP 1 rfl rfl 2 (by decide) f28 (fun _ h9 => h9) rfl dX4_readClause_43 ?_
                              refine va_iald hx hb hK hP 2 0 rfl rfl (vp_in_nI (show axx_213 < 160 by omega) (by decide)) dX4_readClause_46 ?_
                              refine lv_eqi (y := (ftp (axx_213))) (congrArg ftp (nI_clamp (show axx_213 < 2 ^ 31 by omega))) ?_
                              refine lv_bipush (v := 59) hx hb dX4_readClause_47 (by decide) ?_
                              refine lv_icmp_ne (tgt := 53) hx hb dX4_readClause_49 (by decide) (fun cb_220 => ?_) (fun cb_220 => ?_)
                              · skip
                                refine lv_iload_n hx hb dX4_readClause_53 rfl (lv_at hl 3 rfl) ?_
                                refine ky_Si (As := [.int (nI cl_15)]) (rest := []) ⟨hx, hb, hml, hown, hts⟩ ⟨hK, hN⟩ hZ hP hD hS hA [] [0, 1, 2] (wc := []) (wr := [(Rv, .inl (g 0, 21, .inl fvalx_203)), (Rd, .inr (4, [.ref Tp, .int (nI ln), .int (nI axx_213), .int (-1), .int (nI htx_4), .int (nI ctx_5), .ref Rv])), (Tp, .inl (g 0, 160, .inl ftp))]) rfl rfl rfl rfl (by decide) (r_X4_kindOf l D g H.size cl_15 (show cl_15 < 7 by omega)) (va_cwS 1 hts gX4_readClause_X4_kindOf rfl rfl rfl (by decide +kernel) ⟨(Nat.le_of_ble_eq_true rfl), (Nat.le_of_ble_eq_true rfl)⟩) rfl hl.1 rfl (Nat.le_of_ble_eq_true rfl) dX4_readClause_54 ⟨(Nat.le_of_ble_eq_true rfl), (Nat.le_of_ble_eq_true rfl)⟩ (fun r_221 u H locs hw hP2 hD2 hS2 => ?_)
                                clear hP hD hS
                                obtain ⟨rfl, rfl⟩ := hw
                                have hPD : PD D A [(Rv, .inl (g 0, 21, .inl fvalx_203)), (Rd, .inr (4, [.ref Tp, .int (nI ln), .int (nI axx_213), .int (-1), .int (nI htx_4), .int (nI ctx_5), .ref Rv])), (Tp, .inl (g 0, 160, .inl ftp))] H := ⟨hP2, hD2⟩
                                have hS := hS2; clear hP2 hD2 hS2; have hP := hPD.1; have hD := hPD.2; clear hPD
                                refine W.widen (k := 0) (n := 0) (Nat.le_of_ble_eq_true rfl) (Nat.le_of_ble_eq_true rfl) ?_
                                refine lv_aload_n hx hb dX4_readClause_57 rfl (lv_at hl 4 rfl) ?_
                                refine va_get (D := D) (ci := 4) (v := .ref Tp) (C := RX4) (T := TX4) (N := 7) hx hb hts iX4 hown hK hP 1 rfl rfl 0 (by decide) f9 (fun _ h9 => h9) rfl dX4_readClause_58 ?_
                                refine lv_aload_n hx hb dX4_readClause_61 rfl (lv_at hl 4 rfl) ?_
                                refine va_get (D := D) (ci := 4) (v := .int (nI axx_213)) (C := RX4) (T := TX4) (N := 7) hx hb hts iX4 hown hK hP 1 rfl rfl 2 (by decide) f28 (fun _ h9 => h9) rfl dX4_readClause_62 ?_
                                refine va_iald hx hb hK hP 2 0 rfl rfl (vp_in_nI (show axx_213 < 160 by omega) (by decide)) dX4_readClause_65 ?_
                                refine lv_eqi (y := (ftp (axx_213))) (congrArg ftp (nI_clamp (show axx_213 < 2 ^ 31 by omega))) ?_
                                refine ky_Si (As := [.int (nI (kdN cl_15)), .int (ftp (axx_213))]) (rest := []) ⟨hx, hb, hml, hown, hts⟩ ⟨hK, hN⟩ hZ hP hD hS hA [] [0, 1, 2] (wc := []) (wr := [(Rv, .inl (g 0, 21, .inl fvalx_203)), (Rd, .inr (4, [.ref Tp, .int (nI ln), .int (nI axx_213), .int (-1), .int (nI htx_4), .int (nI ctx_5), .ref Rv])), (Tp, .inl (g 0, 160, .inl ftp))]) rfl rfl rfl rfl (by decide) (r_X4_itemOf l D g H.size (kdN cl_15) (ftp (axx_213)) (show (kdN cl_15) < 3 by omega)) (va_cwS 2 hts gX4_readClause_X4_itemOf rfl rfl rfl (by decide +kernel) ⟨(Nat.le_of_ble_eq_true rfl), (Nat.le_of_ble_eq_true rfl)⟩) rfl hl.1 rfl (Nat.le_of_ble_eq_true rfl) dX4_readClause_66 ⟨(Nat.le_of_ble_eq_true rfl), (Nat.le_of_ble_eq_true rfl)⟩ (fun r_222 u H locs hw hP2 hD2 hS2 => ?_)
                                clear hP hD hS
                                obtain ⟨rfl, rfl⟩ := hw
                                have hPD : PD D A [(Rv, .inl (g 0, 21, .inl fvalx_203)), (Rd, .inr (4, [.ref Tp, .int (nI ln), .int (nI axx_213), .int (-1), .int (nI htx_4), .int (nI ctx_5), .ref Rv])), (Tp, .inl (g 0, 160, .inl ftp))] H := ⟨hP2, hD2⟩
                                have hS := hS2; clear hP2 hD2 hS2; have hP := hPD.1; have hD := hPD.2; clear hPD
                                refine W.widen (k := 0) (n := 0) (Nat.le_of_ble_eq_true rfl) (Nat.le_of_ble_eq_true rfl) ?_
                                rcases itK_c (kdN cl_15) (ftp (axx_213)) with qi_223 | qi_223 | qi_223 | qi_223
                                · skip
                                  refine lv_eqi (y := (-1)) (qi_223) ?_
                                  refine lv_istore (lv' := [(5, .int (-1)), (4, .int 3), (3, .int 7), (2, .int (nI cl_15)), (0, .ref Rd), (1, .int zf)]) hx hb dX4_readClause_69 hl (by decide) rfl (fun ls hl => ?_)
                                  refine lv_iload hx hb dX4_readClause_71 (lv_at hl 0 rfl) ?_
                                  refine lv_iconst (v := (-1)) hx hb dX4_readClause_73 (by decide) ?_
                                  refine lv_icmp_eq (tgt := 86) hx hb dX4_readClause_74 (by decide) (fun _ => ?_) (fun cb => absurd (by decide) cb)
                                  refine lv_aload_n hx hb dX4_readClause_86 rfl (lv_at hl 4 rfl) ?_
                                  refine lv_aload_n hx hb dX4_readClause_87 rfl (lv_at hl 4 rfl) ?_
                                  refine va_get (D := D) (ci := 4) (v := .int (nI axx_213)) (C := RX4) (T := TX4) (N := 7) hx hb hts iX4 hown hK hP 1 rfl rfl 2 (by decide) f28 (fun _ h9 => h9) rfl dX4_readClause_88 ?_
                                  refine va_put (D := D) (ci := 4) (v := .int (nI axx_213)) (ty := .int) (C := RX4) (T := TX4) (N := 7) hx hb hts iX4 tyX4 tyX4_ok nmX4 hown hK hP hD hS 1 rfl rfl 3 (by decide) f31 (fun _ h9 => h9) rfl (by decide +kernel) (rfl) (rfl) (Nat.le_of_ble_eq_true rfl) dX4_readClause_91 (fun H locs hP2 hD2 hS2 => ?_)
                                  clear hP hD hS
                                  have hPD : PD D A [(Rv, .inl (g 0, 21, .inl fvalx_203)), (Rd, .inr (4, [.ref Tp, .int (nI ln), .int (nI axx_213), .int (nI axx_213), .int (nI htx_4), .int (nI ctx_5), .ref Rv])), (Tp, .inl (g 0, 160, .inl ftp))] H := ⟨hP2, hD2⟩
                                  have hS := hS2; clear hP2 hD2 hS2; have hP := hPD.1; have hD := hPD.2; clear hPD
                                  have hPD9 : PD D A [(Rd, .inr (4, [.ref Tp, .int (nI ln), .int (nI axx_213), .int (nI axx_213), .int (nI htx_4), .int (nI ctx_5), .ref Rv])), (Tp, .inl (g 0, 160, .inl ftp)), (Rv, .inl (g 0, 21, .inl fvalx_203))] H := ⟨hP.sub [1, 2, 0] rfl, hD.sub [1, 2, 0] (by decide) rfl⟩
                                  have hP9 := hPD9.1; have hD9 := hPD9.2
                                  subst hQ
                                  refine W.widen (k := 0) (n := 0) (Nat.le_of_ble_eq_true rfl) (Nat.le_of_ble_eq_true rfl) ?_
                                  exact W.vret hx hb hr (fun tS htS _ => ⟨⟨_, rfl, ⟨axx_213, (nI axx_213), htx_4, ctx_5, fvalx_203, rfl, ⟨(show axx_213 ≤ ln by omega), (show htx_4 ≤ 3 by omega), (show ctx_5 ≤ 3 by omega), (hf_205), (cl_bad hf_7.2.2.2.1.symm (show cl_15 < 7 by omega) (hR_210.trans (itR_no (f := 0) hf_215 qi_223)) (show axx_213 < ln by omega) cb_220).1, (cl_bad hf_7.2.2.2.1.symm (show cl_15 < 7 by omega) (hR_210.trans (itR_no (f := 0) hf_215 qi_223)) (show axx_213 < ln by omega) cb_220).2, (fun q => absurd q (m1_ne (show axx_213 < 2 ^ 31 by omega)))⟩⟩, by rw [htS]; exact hP9, hD9⟩, hS.F htS⟩) hS.2.2 dX4_readClause_94
                                · skip
                                  refine lv_eqi (y := 0) (qi_223) ?_
                                  refine lv_istore (lv' := [(5, .int 0), (4, .int 3), (3, .int 7), (2, .int (nI cl_15)), (0, .ref Rd), (1, .int zf)]) hx hb dX4_readClause_69 hl (by decide) rfl (fun ls hl => ?_)
                                  refine lv_iload hx hb dX4_readClause_71 (lv_at hl 0 rfl) ?_
                                  refine lv_iconst (v := (-1)) hx hb dX4_readClause_73 (by decide) ?_
                                  refine lv_icmp_eq (tgt := 86) hx hb dX4_readClause_74 (by decide) (fun cb => absurd cb (by decide)) (fun _ => ?_)
                                  refine lv_iload_n hx hb dX4_readClause_77 rfl (lv_at hl 2 rfl) ?_
                                  refine lv_iconst (v := 1) hx hb dX4_readClause_78 (by decide) ?_
                                  refine lv_iload hx hb dX4_readClause_79 (lv_at hl 0 rfl) ?_
                                  refine lv_ishl hx hb dX4_readClause_81 ?_
                                  refine lv_eqi (y := 1) (by decide) ?_
                                  refine lv_iand hx hb dX4_readClause_82 ?_
                                  refine lv_eqi (y := 1) (by decide) ?_
                                  refine lv_if_eq (tgt := 95) hx hb dX4_readClause_83 (by decide) (fun cb => absurd cb (by decide)) (fun _ => ?_)
                                  refine lv_aload_n hx hb dX4_readClause_86 rfl (lv_at hl 4 rfl) ?_
                                  refine lv_aload_n hx hb dX4_readClause_87 rfl (lv_at hl 4 rfl) ?_
                                  refine va_get (D := D) (ci := 4) (v := .int (nI axx_213)) (C := RX4) (T := TX4) (N := 7) hx hb hts iX4 hown hK hP 1 rfl rfl 2 (by decide) f28 (fun _ h9 => h9) rfl dX4_readClause_88 ?_
                                  refine va_put (D := D) (ci := 4) (v := .int (nI axx_213)) (ty := .int) (C := RX4) (T := TX4) (N := 7) hx hb hts iX4 tyX4 tyX4_ok nmX4 hown hK hP hD hS 1 rfl rfl 3 (by decide) f31 (fun _ h9 => h9) rfl (by decide +kernel) (rfl) (rfl) (Nat.le_of_ble_eq_true rfl) dX4_readClause_91 (fun H locs hP2 hD2 hS2 => ?_)
                                  clear hP hD hS
                                  have hPD : PD D A [(Rv, .inl (g 0, 21, .inl fvalx_203)), (Rd, .inr (4, [.ref Tp, .int (nI ln), .int (nI axx_213), .int (nI axx_213), .int (nI htx_4), .int (nI ctx_5), .ref Rv])), (Tp, .inl (g 0, 160, .inl ftp))] H := ⟨hP2, hD2⟩
                                  have hS := hS2; clear hP2 hD2 hS2; have hP := hPD.1; have hD := hPD.2; clear hPD
                                  have hPD9 : PD D A [(Rd, .inr (4, [.ref Tp, .int (nI ln), .int (nI axx_213), .int (nI axx_213), .int (nI htx_4), .int (nI ctx_5), .ref Rv])), (Tp, .inl (g 0, 160, .inl ftp)), (Rv, .inl (g 0, 21, .inl fvalx_203))] H := ⟨hP.sub [1, 2, 0] rfl, hD.sub [1, 2, 0] (by decide) rfl⟩
                                  have hP9 := hPD9.1; have hD9 := hPD9.2
                                  subst hQ
                                  refine W.widen (k := 0) (n := 0) (Nat.le_of_ble_eq_true rfl) (Nat.le_of_ble_eq_true rfl) ?_
                                  exact W.vret hx hb hr (fun tS htS _ => ⟨⟨_, rfl, ⟨axx_213, (nI axx_213), htx_4, ctx_5, fvalx_203, rfl, ⟨(show axx_213 ≤ ln by omega), (show htx_4 ≤ 3 by omega), (show ctx_5 ≤ 3 by omega), (hf_205), (cl_bad hf_7.2.2.2.1.symm (show cl_15 < 7 by omega) (hR_210.trans (itR_again (f := 0) (q := 0) hf_215 qi_223 (by decide) (by decide))) (show axx_213 < ln by omega) cb_220).1, (cl_bad hf_7.2.2.2.1.symm (show cl_15 < 7 by omega) (hR_210.trans (itR_again (f := 0) (q := 0) hf_215 qi_223 (by decide) (by decide))) (show axx_213 < ln by omega) cb_220).2, (fun q => absurd q (m1_ne (show axx_213 < 2 ^ 31 by omega)))⟩⟩, by rw [htS]; exact hP9, hD9⟩, hS.F htS⟩) hS.2.2 dX4_readClause_94
                                · skip
                                  refine lv_eqi (y := 1) (qi_223) ?_
                                  refine lv_istore (lv' := [(5, .int 1), (4, .int 3), (3, .int 7), (2, .int (nI cl_15)), (0, .ref Rd), (1, .int zf)]) hx hb dX4_readClause_69 hl (by decide) rfl (fun ls hl => ?_)
                                  refine lv_iload hx hb dX4_readClause_71 (lv_at hl 0 rfl) ?_
                                  refine lv_iconst (v := (-1)) hx hb dX4_readClause_73 (by decide) ?_
                                  refine lv_icmp_eq (tgt := 86) hx hb dX4_readClause_74 (by decide) (fun cb => absurd cb (by decide)) (fun _ => ?_)
                                  refine lv_iload_n hx hb dX4_readClause_77 rfl (lv_at hl 2 rfl) ?_
                                  refine lv_iconst (v := 1) hx hb dX4_readClause_78 (by decide) ?_
                                  refine lv_iload hx hb dX4_readClause_79 (lv_at hl 0 rfl) ?_
                                  refine lv_ishl hx hb dX4_readClause_81 ?_
                                  refine lv_eqi (y := 2) (by decide) ?_
                                  refine lv_iand hx hb dX4_readClause_82 ?_
                                  refine lv_eqi (y := 2) (by decide) ?_
                                  refine lv_if_eq (tgt := 95) hx hb dX4_readClause_83 (by decide) (fun cb => absurd cb (by decide)) (fun _ => ?_)
                                  refine lv_aload_n hx hb dX4_readClause_86 rfl (lv_at hl 4 rfl) ?_
                                  refine lv_aload_n hx hb dX4_readClause_87 rfl (lv_at hl 4 rfl) ?_
                                  refine va_get (D := D) (ci := 4) (v := .int (nI axx_213)) (C := RX4) (T := TX4) (N := 7) hx hb hts iX4 hown hK hP 1 rfl rfl 2 (by decide) f28 (fun _ h9 => h9) rfl dX4_readClause_88 ?_
                                  refine va_put (D := D) (ci := 4) (v := .int (nI axx_213)) (ty := .int) (C := RX4) (T := TX4) (N := 7) hx hb hts iX4 tyX4 tyX4_ok nmX4 hown hK hP hD hS 1 rfl rfl 3 (by decide) f31 (fun _ h9 => h9) rfl (by decide +kernel) (rfl) (rfl) (Nat.le_of_ble_eq_true rfl) dX4_readClause_91 (fun H locs hP2 hD2 hS2 => ?_)
                                  clear hP hD hS
                                  have hPD : PD D A [(Rv, .inl (g 0, 21, .inl fvalx_203)), (Rd, .inr (4, [.ref Tp, .int (nI ln), .int (nI axx_213), .int (nI axx_213), .int (nI htx_4), .int (nI ctx_5), .ref Rv])), (Tp, .inl (g 0, 160, .inl ftp))] H := ⟨hP2, hD2⟩
                                  have hS := hS2; clear hP2 hD2 hS2; have hP := hPD.1; have hD := hPD.2; clear hPD
                                  have hPD9 : PD D A [(Rd, .inr (4, [.ref Tp, .int (nI ln), .int (nI axx_213), .int (nI axx_213), .int (nI htx_4), .int (nI ctx_5), .ref Rv])), (Tp, .inl (g 0, 160, .inl ftp)), (Rv, .inl (g 0, 21, .inl fvalx_203))] H := ⟨hP.sub [1, 2, 0] rfl, hD.sub [1, 2, 0] (by decide) rfl⟩
                                  have hP9 := hPD9.1; have hD9 := hPD9.2
                                  subst hQ
                                  refine W.widen (k := 0) (n := 0) (Nat.le_of_ble_eq_true rfl) (Nat.le_of_ble_eq_true rfl) ?_
                                  exact W.vret hx hb hr (fun tS htS _ => ⟨⟨_, rfl, ⟨axx_213, (nI axx_213), htx_4, ctx_5, fvalx_203, rfl, ⟨(show axx_213 ≤ ln by omega), (show htx_4 ≤ 3 by omega), (show ctx_5 ≤ 3 by omega), (hf_205), (cl_bad hf_7.2.2.2.1.symm (show cl_15 < 7 by omega) (hR_210.trans (itR_again (f := 0) (q := 1) hf_215 qi_223 (by decide) (by decide))) (show axx_213 < ln by omega) cb_220).1, (cl_bad hf_7.2.2.2.1.symm (show cl_15 < 7 by omega) (hR_210.trans (itR_again (f := 0) (q := 1) hf_215 qi_223 (by decide) (by decide))) (show axx_213 < ln by omega) cb_220).2, (fun q => absurd q (m1_ne (show axx_213 < 2 ^ 31 by omega)))⟩⟩, by rw [htS]; exact hP9, hD9⟩, hS.F htS⟩) hS.2.2 dX4_readClause_94
                                · skip
                                  refine lv_eqi (y := 2) (qi_223) ?_
                                  refine lv_istore (lv' := [(5, .int 2), (4, .int 3), (3, .int 7), (2, .int (nI cl_15)), (0, .ref Rd), (1, .int zf)]) hx hb dX4_readClause_69 hl (by decide) rfl (fun ls hl => ?_)
                                  refine lv_iload hx hb dX4_readClause_71 (lv_at hl 0 rfl) ?_
                                  refine lv_iconst (v := (-1)) hx hb dX4_readClause_73 (by decide) ?_
                                  refine lv_icmp_eq (tgt := 86) hx hb dX4_readClause_74 (by decide) (fun cb => absurd cb (by decide)) (fun _ => ?_)
                                  refine lv_iload_n hx hb dX4_readClause_77 rfl (lv_at hl 2 rfl) ?_
                                  refine lv_iconst (v := 1) hx hb dX4_readClause_78 (by decide) ?_
                                  refine lv_iload hx hb dX4_readClause_79 (lv_at hl 0 rfl) ?_
                                  refine lv_ishl hx hb dX4_readClause_81 ?_
                                  refine lv_eqi (y := 4) (by decide) ?_
                                  refine lv_iand hx hb dX4_readClause_82 ?_
                                  refine lv_eqi (y := 4) (by decide) ?_
                                  refine lv_if_eq (tgt := 95) hx hb dX4_readClause_83 (by decide) (fun cb => absurd cb (by decide)) (fun _ => ?_)
                                  refine lv_aload_n hx hb dX4_readClause_86 rfl (lv_at hl 4 rfl) ?_
                                  refine lv_aload_n hx hb dX4_readClause_87 rfl (lv_at hl 4 rfl) ?_
                                  refine va_get (D := D) (ci := 4) (v := .int (nI axx_213)) (C := RX4) (T := TX4) (N := 7) hx hb hts iX4 hown hK hP 1 rfl rfl 2 (by decide) f28 (fun _ h9 => h9) rfl dX4_readClause_88 ?_
                                  refine va_put (D := D) (ci := 4) (v := .int (nI axx_213)) (ty := .int) (C := RX4) (T := TX4) (N := 7) hx hb hts iX4 tyX4 tyX4_ok nmX4 hown hK hP hD hS 1 rfl rfl 3 (by decide) f31 (fun _ h9 => h9) rfl (by decide +kernel) (rfl) (rfl) (Nat.le_of_ble_eq_true rfl) dX4_readClause_91 (fun H locs hP2 hD2 hS2 => ?_)
                                  clear hP hD hS
                                  have hPD : PD D A [(Rv, .inl (g 0, 21, .inl fvalx_203)), (Rd, .inr (4, [.ref Tp, .int (nI ln), .int (nI axx_213), .int (nI axx_213), .int (nI htx_4), .int (nI ctx_5), .ref Rv])), (Tp, .inl (g 0, 160, .inl ftp))] H := ⟨hP2, hD2⟩
                                  have hS := hS2; clear hP2 hD2 hS2; have hP := hPD.1; have hD := hPD.2; clear hPD
                                  have hPD9 : PD D A [(Rd, .inr (4, [.ref Tp, .int (nI ln), .int (nI axx_213), .int (nI axx_213), .int (nI htx_4), .int (nI ctx_5), .ref Rv])), (Tp, .inl (g 0, 160, .inl ftp)), (Rv, .inl (g 0, 21, .inl fvalx_203))] H := ⟨hP.sub [1, 2, 0] rfl, hD.sub [1, 2, 0] (by decide) rfl⟩
                                  have hP9 := hPD9.1; have hD9 := hPD9.2
                                  subst hQ
                                  refine W.widen (k := 0) (n := 0) (Nat.le_of_ble_eq_true rfl) (Nat.le_of_ble_eq_true rfl) ?_
                                  exact W.vret hx hb hr (fun tS htS _ => ⟨⟨_, rfl, ⟨axx_213, (nI axx_213), htx_4, ctx_5, fvalx_203, rfl, ⟨(show axx_213 ≤ ln by omega), (show htx_4 ≤ 3 by omega), (show ctx_5 ≤ 3 by omega), (hf_205), (cl_bad hf_7.2.2.2.1.symm (show cl_15 < 7 by omega) (hR_210.trans (itR_again (f := 0) (q := 2) hf_215 qi_223 (by decide) (by decide))) (show axx_213 < ln by omega) cb_220).1, (cl_bad hf_7.2.2.2.1.symm (show cl_15 < 7 by omega) (hR_210.trans (itR_again (f := 0) (q := 2) hf_215 qi_223 (by decide) (by decide))) (show axx_213 < ln by omega) cb_220).2, (fun q => absurd q (m1_ne (show axx_213 < 2 ^ 31 by omega)))⟩⟩, by rw [htS]; exact hP9, hD9⟩, hS.F htS⟩) hS.2.2 dX4_readClause_94
                              · skip
                                have hPD9 : PD D A [(Rd, .inr (4, [.ref Tp, .int (nI ln), .int (nI axx_213), .int (-1), .int (nI htx_4), .int (nI ctx_5), .ref Rv])), (Tp, .inl (g 0, 160, .inl ftp)), (Rv, .inl (g 0, 21, .inl fvalx_203))] H := ⟨hP.sub [1, 2, 0] rfl, hD.sub [1, 2, 0] (by decide) rfl⟩
                                have hP9 := hPD9.1; have hD9 := hPD9.2
                                subst hQ
                                refine W.widen (k := 0) (n := 0) (Nat.le_of_ble_eq_true rfl) (Nat.le_of_ble_eq_true rfl) ?_
                                exact W.vret hx hb hr (fun tS htS _ => ⟨⟨_, rfl, ⟨axx_213, (-1), htx_4, ctx_5, fvalx_203, rfl, ⟨(show axx_213 ≤ ln by omega), (show htx_4 ≤ 3 by omega), (show ctx_5 ≤ 3 by omega), (hf_205), (cl_end hf_7.2.2.2.1.symm (show cl_15 < 7 by omega) (hR_210.trans (itR_no (f := 0) hf_215 (by rw [cb_220]; exact itK_59 _))) (fun q => q.2 cb_220)).1, (cl_end hf_7.2.2.2.1.symm (show cl_15 < 7 by omega) (hR_210.trans (itR_no (f := 0) hf_215 (by rw [cb_220]; exact itK_59 _))) (fun q => q.2 cb_220)).2.1, (fun _ => ⟨(cl_end hf_7.2.2.2.1.symm (show cl_15 < 7 by omega) (hR_210.trans (itR_no (f := 0) hf_215 (by rw [cb_220]; exact itK_59 _))) (fun q => q.2 cb_220)).2.2, show ax < axx_213 by omega⟩)⟩⟩, by rw [htS]; exact hP9, hD9⟩, hS.F htS⟩) hS.2.2 dX4_readClause_52
                          · skip
                            have hP9 := hP; have hD9 := hD
                            subst hQ
                            refine W.widen (k := 0) (n := 0) (Nat.le_of_ble_eq_true rfl) (Nat.le_of_ble_eq_true rfl) ?_
                            exact W.vret hx hb hr (fun tS htS _ => ⟨⟨_, rfl, ⟨axx_201, zfax_202, htx_4, ctx_5, fvalx_203, rfl, ⟨(show axx_201 ≤ ln by omega), (show htx_4 ≤ 3 by omega), (show ctx_5 ≤ 3 by omega), (hf_205), (cl_num hf_7.2.2.2.1.symm (show cl_15 < 7 by omega) ((congrArg Prod.fst hR_186).trans ((itR_w (f := 1) (q := 2) hf_191 (show axx_189 < ln by omega) qi_199 (by decide) (by decide) (fun q => cb_208 (hf_206.trans q))).trans hf_206.symm)) cb_208).1, (cl_num hf_7.2.2.2.1.symm (show cl_15 < 7 by omega) ((congrArg Prod.fst hR_186).trans ((itR_w (f := 1) (q := 2) hf_191 (show axx_189 < ln by omega) qi_199 (by decide) (by decide) (fun q => cb_208 (hf_206.trans q))).trans hf_206.symm)) cb_208).2, (fun q => absurd q cb_208)⟩⟩, by rw [htS]; exact hP9, hD9⟩, hS.F htS⟩) hS.2.2 dX4_readClause_127
                      · skip
                        have hPD9 : PD D A [(Rd, .inr (4, [.ref Tp, .int (nI ln), .int (nI axx_189), .int (-1), .int (nI htx_4), .int (nI ctx_5), .ref Rv])), (Tp, .inl (g 0, 160, .inl ftp)), (Rv, .inl (g 0, 21, .inl fvalx_179))] H := ⟨hP.sub [1, 2, 0] rfl, hD.sub [1, 2, 0] (by decide) rfl⟩
                        have hP9 := hPD9.1; have hD9 := hPD9.2
                        subst hQ
                        refine W.widen (k := 0) (n := 0) (Nat.le_of_ble_eq_true rfl) (Nat.le_of_ble_eq_true rfl) ?_
                        exact W.vret hx hb hr (fun tS htS _ => ⟨⟨_, rfl, ⟨axx_189, (-1), htx_4, ctx_5, fvalx_179, rfl, ⟨(show axx_189 ≤ ln by omega), (show htx_4 ≤ 3 by omega), (show ctx_5 ≤ 3 by omega), (hf_181), (cl_end hf_7.2.2.2.1.symm (show cl_15 < 7 by omega) (hR_186.trans (itR_no (f := 1) hf_191 (by rw [cb_196]; exact itK_59 _))) (fun q => q.2 cb_196)).1, (cl_end hf_7.2.2.2.1.symm (show cl_15 < 7 by omega) (hR_186.trans (itR_no (f := 1) hf_191 (by rw [cb_196]; exact itK_59 _))) (fun q => q.2 cb_196)).2.1, (fun _ => ⟨(cl_end hf_7.2.2.2.1.symm (show cl_15 < 7 by omega) (hR_186.trans (itR_no (f := 1) hf_191 (by rw [cb_196]; exact itK_59 _))) (fun q => q.2 cb_196)).2.2, show ax < axx_189 by omega⟩)⟩⟩, by rw [htS]; exact hP9, hD9⟩, hS.F htS⟩) hS.2.2 dX4_readClause_52
                  · skip
                    have hP9 := hP; have hD9 := hD
                    subst hQ
                    refine W.widen (k := 0) (n := 0) (Nat.le_of_ble_eq_true rfl) (Nat.le_of_ble_eq_true rfl) ?_
                    exact W.vret hx hb hr (fun tS htS _ => ⟨⟨_, rfl, ⟨axx_177, zfax_178, htx_4, ctx_5, fvalx_179, rfl, ⟨(show axx_177 ≤ ln by omega), (show htx_4 ≤ 3 by omega), (show ctx_5 ≤ 3 by omega), (hf_181), (cl_num hf_7.2.2.2.1.symm (show cl_15 < 7 by omega) ((congrArg Prod.fst hR_162).trans ((itR_w (f := 2) (q := 0) hf_167 (show axx_165 < ln by omega) qi_175 (by decide) (by decide) (fun q => cb_184 (hf_182.trans q))).trans hf_182.symm)) cb_184).1, (cl_num hf_7.2.2.2.1.symm (show cl_15 < 7 by omega) ((congrArg Prod.fst hR_162).trans ((itR_w (f := 2) (q := 0) hf_167 (show axx_165 < ln by omega) qi_175 (by decide) (by decide) (fun q => cb_184 (hf_182.trans q))).trans hf_182.symm)) cb_184).2, (fun q => absurd q cb_184)⟩⟩, by rw [htS]; exact hP9, hD9⟩, hS.F htS⟩) hS.2.2 dX4_readClause_127
                · skip
                  refine lv_eqi (y := 1) (qi_175) ?_
                  refine lv_istore (lv' := [(5, .int 1), (4, .int 1), (3, .int 2), (2, .int (nI cl_15)), (0, .ref Rd), (1, .int zf)]) hx hb dX4_readClause_69 hl (by decide) rfl (fun ls hl => ?_)
                  refine lv_iload hx hb dX4_readClause_71 (lv_at hl 0 rfl) ?_
                  refine lv_iconst (v := (-1)) hx hb dX4_readClause_73 (by decide) ?_
                  refine lv_icmp_eq (tgt := 86) hx hb dX4_readClause_74 (by decide) (fun cb => absurd cb (by decide)) (fun _ => ?_)
                  refine lv_iload_n hx hb dX4_readClause_77 rfl (lv_at hl 2 rfl) ?_
                  refine lv_iconst (v := 1) hx hb dX4_readClause_78 (by decide) ?_
                  refine lv_iload hx hb dX4_readClause_79 (lv_at hl 0 rfl) ?_
                  refine lv_ishl hx hb dX4_readClause_81 ?_
                  refine lv_eqi (y := 2) (by decide) ?_
                  refine lv_iand hx hb dX4_readClause_82 ?_
                  refine lv_eqi (y := 2) (by decide) ?_
                  refine lv_if_eq (tgt := 95) hx hb dX4_readClause_83 (by decide) (fun cb => absurd cb (by decide)) (fun _ => ?_)
                  refine lv_aload_n hx hb dX4_readClause_86 rfl (lv_at hl 4 rfl) ?_
                  refine lv_aload_n hx hb dX4_readClause_87 rfl (lv_at hl 4 rfl) ?_
                  refine va_get (D := D) (ci := 4) (v := .int (nI axx_165)) (C := RX4) (T := TX4) (N := 7) hx hb hts iX4 hown hK hP 1 rfl rfl 2 (by decide) f28 (fun _ h9 => h9) rfl dX4_readClause_88 ?_
                  refine va_put (D := D) (ci := 4) (v := .int (nI axx_165)) (ty := .int) (C := RX4) (T := TX4) (N := 7) hx hb hts iX4 tyX4 tyX4_ok nmX4 hown hK hP hD hS 1 rfl rfl 3 (by decide) f31 (fun _ h9 => h9) rfl (by decide +kernel) (rfl) (rfl) (Nat.le_of_ble_eq_true rfl) dX4_readClause_91 (fun H locs hP2 hD2 hS2 => ?_)
                  clear hP hD hS
                  have hPD : PD D A [(Rv, .inl (g 0, 21, .inl fvalx_155)), (Rd, .inr (4, [.ref Tp, .int (nI ln), .int (nI axx_165), .int (nI axx_165), .int (nI htx_4), .int (nI ctx_5), .ref Rv])), (Tp, .inl (g 0, 160, .inl ftp))] H := ⟨hP2, hD2⟩
                  have hS := hS2; clear hP2 hD2 hS2; have hP := hPD.1; have hD := hPD.2; clear hPD
                  have hPD9 : PD D A [(Rd, .inr (4, [.ref Tp, .int (nI ln), .int (nI axx_165), .int (nI axx_165), .int (nI htx_4), .int (nI ctx_5), .ref Rv])), (Tp, .inl (g 0, 160, .inl ftp)), (Rv, .inl (g 0, 21, .inl fvalx_155))] H := ⟨hP.sub [1, 2, 0] rfl, hD.sub [1, 2, 0] (by decide) rfl⟩
                  have hP9 := hPD9.1; have hD9 := hPD9.2
                  subst hQ
                  refine W.widen (k := 0) (n := 0) (Nat.le_of_ble_eq_true rfl) (Nat.le_of_ble_eq_true rfl) ?_
                  exact W.vret hx hb hr (fun tS htS _ => ⟨⟨_, rfl, ⟨axx_165, (nI axx_165), htx_4, ctx_5, fvalx_155, rfl, ⟨(show axx_165 ≤ ln by omega), (show htx_4 ≤ 3 by omega), (show ctx_5 ≤ 3 by omega), (hf_157), (cl_bad hf_7.2.2.2.1.symm (show cl_15 < 7 by omega) (hR_162.trans (itR_again (f := 2) (q := 1) hf_167 qi_175 (by decide) (by decide))) (show axx_165 < ln by omega) cb_172).1, (cl_bad hf_7.2.2.2.1.symm (show cl_15 < 7 by omega) (hR_162.trans (itR_again (f := 2) (q := 1) hf_167 qi_175 (by decide) (by decide))) (show axx_165 < ln by omega) cb_172).2, (fun q => absurd q (m1_ne (show axx_165 < 2 ^ 31 by omega)))⟩⟩, by rw [htS]; exact hP9, hD9⟩, hS.F htS⟩) hS.2.2 dX4_readClause_94
                · skip
                  refine lv_eqi (y := 2) (qi_175) ?_
                  refine lv_istore (lv' := [(5, .int 2), (4, .int 1), (3, .int 2), (2, .int (nI cl_15)), (0, .ref Rd), (1, .int zf)]) hx hb dX4_readClause_69 hl (by decide) rfl (fun ls hl => ?_)
                  refine lv_iload hx hb dX4_readClause_71 (lv_at hl 0 rfl) ?_
                  refine lv_iconst (v := (-1)) hx hb dX4_readClause_73 (by decide) ?_
                  refine lv_icmp_eq (tgt := 86) hx hb dX4_readClause_74 (by decide) (fun cb => absurd cb (by decide)) (fun _ => ?_)
                  refine lv_iload_n hx hb dX4_readClause_77 rfl (lv_at hl 2 rfl) ?_
                  refine lv_iconst (v := 1) hx hb dX4_readClause_78 (by decide) ?_
                  refine lv_iload hx hb dX4_readClause_79 (lv_at hl 0 rfl) ?_
                  refine lv_ishl hx hb dX4_readClause_81 ?_
                  refine lv_eqi (y := 4) (by decide) ?_
                  refine lv_iand hx hb dX4_readClause_82 ?_
                  refine lv_eqi (y := 0) (by decide) ?_
                  refine lv_if_eq (tgt := 95) hx hb dX4_readClause_83 (by decide) (fun _ => ?_) (fun cb => absurd (by decide) cb)
                  refine lv_iload_n hx hb dX4_readClause_95 rfl (lv_at hl 2 rfl) ?_
                  refine lv_iconst (v := 1) hx hb dX4_readClause_96 (by decide) ?_
                  refine lv_iload hx hb dX4_readClause_97 (lv_at hl 0 rfl) ?_
                  refine lv_ishl hx hb dX4_readClause_99 ?_
                  refine lv_eqi (y := 4) (by decide) ?_
                  refine lv_ior hx hb dX4_readClause_100 ?_
                  refine lv_eqi (y := 6) (by decide) ?_
                  refine lv_istore_n (lv' := [(3, .int 6), (5, .int 2), (4, .int 1), (2, .int (nI cl_15)), (0, .ref Rd), (1, .int zf)]) hx hb dX4_readClause_101 rfl hl (by decide) rfl (fun ls hl => ?_)
                  refine lv_aload_n hx hb dX4_readClause_102 rfl (lv_at hl 4 rfl) ?_
                  refine lv_dup hx hb dX4_readClause_103 rfl ?_
                  refine va_get (D := D) (ci := 4) (v := .int (nI axx_165)) (C := RX4) (T := TX4) (N := 7) hx hb hts iX4 hown hK hP 1 rfl rfl 2 (by decide) f28 (fun _ h9 => h9) rfl dX4_readClause_104 ?_
                  refine lv_iconst (v := 1) hx hb dX4_readClause_107 (by decide) ?_
                  refine lv_iadd hx hb dX4_readClause_108 ?_
                  refine lv_eqi (y := (nI (axx_165 + 1))) (nI_add (axx_165) (1)) ?_
                  refine va_put (D := D) (ci := 4) (v := .int (nI (axx_165 + 1))) (ty := .int) (C := RX4) (T := TX4) (N := 7) hx hb hts iX4 tyX4 tyX4_ok nmX4 hown hK hP hD hS 1 rfl rfl 2 (by decide) f28 (fun _ h9 => h9) rfl (by decide +kernel) (rfl) (rfl) (Nat.le_of_ble_eq_true rfl) dX4_readClause_109 (fun H locs hP2 hD2 hS2 => ?_)
                  clear hP hD hS
                  have hPD : PD D A [(Rv, .inl (g 0, 21, .inl fvalx_155)), (Rd, .inr (4, [.ref Tp, .int (nI ln), .int (nI (axx_165 + 1)), .int (-1), .int (nI htx_4), .int (nI ctx_5), .ref Rv])), (Tp, .inl (g 0, 160, .inl ftp))] H := ⟨hP2, hD2⟩
                  have hS := hS2; clear hP2 hD2 hS2; have hP := hPD.1; have hD := hPD.2; clear hPD
                  refine lv_aload_n hx hb dX4_readClause_112 rfl (lv_at hl 4 rfl) ?_
                  refine lv_iload_n hx hb dX4_readClause_113 rfl (lv_at hl 3 rfl) ?_
                  refine lv_iload hx hb dX4_readClause_114 (lv_at hl 1 rfl) ?_
                  refine ky_Vv (As := [.int (nI cl_15), .int 2]) (rest := []) ⟨hx, hb, hml, hown, hts⟩ ⟨hK, hN⟩ hZ hP hD hS hA [1, 2, 0] [] (wc := [(Rd, .inr (4, [.ref Tp, .int (nI ln), .int (nI (axx_165 + 1)), .int (-1), .int (nI htx_4), .int (nI ctx_5), .ref Rv])), (Tp, .inl (g 0, 160, .inl ftp)), (Rv, .inl (g 0, 21, .inl fvalx_155))]) (wr := []) rfl rfl rfl rfl (by decide) (r_X4_readNumber l D g H.size Rd cl_15 2 Tp ln (axx_165 + 1) htx_4 ctx_5 Rv ftp fvalx_155 (show ln ≤ 160 by omega) (show (axx_165 + 1) ≤ ln by omega) (hf_157) (show cl_15 < 7 by omega) (show 2 < 3 by omega)) (cwV 2 hts gX4_readClause_X4_readNumber rfl rfl rfl (by decide +kernel) ⟨(Nat.le_of_ble_eq_true rfl), (Nat.le_of_ble_eq_true rfl)⟩) 1 4 rfl rfl rfl rfl hl.1 rfl (Nat.le_of_ble_eq_true rfl) dX4_readClause_116 ⟨(Nat.le_of_ble_eq_true rfl), (Nat.le_of_ble_eq_true rfl)⟩ (fun u H locs hw hP2 hD2 hS2 => ?_)
                  clear hP hD hS
                  obtain ⟨axx_225, zfax_226, fvalx_227, rfl, hf_228, hf_229, hf_230, hf_231⟩ := hw
                  have hPD : PD D A [(Rd, .inr (4, [.ref Tp, .int (nI ln), .int (nI axx_225), .int zfax_226, .int (nI htx_4), .int (nI ctx_5), .ref Rv])), (Tp, .inl (g 0, 160, .inl ftp)), (Rv, .inl (g 0, 21, .inl fvalx_227))] H := ⟨hP2, hD2⟩
                  have hS := hS2; clear hP2 hD2 hS2; have hP := hPD.1; have hD := hPD.2; clear hPD
                  refine W.widen (k := 0) (n := 0) (Nat.le_of_ble_eq_true rfl) (Nat.le_of_ble_eq_true rfl) ?_
                  refine lv_aload_n hx hb dX4_readClause_119 rfl (lv_at hl 4 rfl) ?_
                  refine va_get (D := D) (ci := 4) (v := .int zfax_226) (C := RX4) (T := TX4) (N := 7) hx hb hts iX4 hown hK hP 0 rfl rfl 3 (by decide) f31 (fun _ h9 => h9) rfl dX4_readClause_120 ?_
                  refine lv_iconst (v := (-1)) hx hb dX4_readClause_123 (by decide) ?_
                  refine lv_icmp_eq (tgt := 128) hx hb dX4_readClause_124 (by decide) (fun cb_232 => ?_) (fun cb_232 => ?_)
                  · skip
                    have hPq_233 := hP; have hDq_233 := hD; have hSq_233 := hS; have hlq_233 := hl; clear hP hD hS hl
                    subst cb_232
                    have hP := hPq_233; have hD := hDq_233; have hS := hSq_233; have hl := hlq_233; clear hPq_233 hDq_233 hSq_233 hlq_233
                    have hne_235 := (hf_231 rfl).1
                    have hne_235g := nmE_gt (T := ftp) (n := ln) (i := axx_165 + 1) (by omega)
                    have hR_234 : itR ftp ln (kdN cl_15) 4 0 (sB ftp ln ax + 1) = itR ftp ln (kdN cl_15) 2 6 axx_225 := hR_162.trans ((itR_go (f := 2) (m := 2) (q := 2) hf_167 (show axx_165 < ln by omega) qi_175 (by decide) (by decide) hf_230.symm).trans (by rw [hne_235]))
                    refine lv_iinc (v := 2) (lv' := [(4, .int 2), (3, .int 6), (5, .int 2), (2, .int (nI cl_15)), (0, .ref Rd), (1, .int zf)]) hx hb dX4_readClause_128 hl (k := 2) rfl (by decide) (by decide) rfl (fun ls hl => ?_)
                    refine lv_goto (tgt := 17) hx hb dX4_readClause_131 (by decide) ?_
                    refine lv_iload hx hb dX4_readClause_17 (lv_at hl 0 rfl) ?_
                    refine lv_iconst (v := 3) hx hb dX4_readClause_19 (by decide) ?_
                    refine lv_icmp_gt (tgt := 134) hx hb dX4_readClause_20 (by decide) (fun cb => absurd cb (by decide)) (fun _ => ?_)
                    refine lv_aload_n hx hb dX4_readClause_23 rfl (lv_at hl 4 rfl) ?_
                    refine ky_Vv (As := []) (rest := []) ⟨hx, hb, hml, hown, hts⟩ ⟨hK, hN⟩ hZ hP hD hS hA [0, 1] [2] (wc := [(Rd, .inr (4, [.ref Tp, .int (nI ln), .int (nI axx_225), .int (-1), .int (nI htx_4), .int (nI ctx_5), .ref Rv])), (Tp, .inl (g 0, 160, .inl ftp))]) (wr := [(Rv, .inl (g 0, 21, .inl fvalx_227))]) rfl rfl rfl rfl (by decide) (r_X4_passBlanks l D g H.size Rd Tp ln axx_225 (-1) htx_4 ctx_5 Rv ftp (show ln ≤ 160 by omega) (show axx_225 ≤ ln by omega)) (cwV 0 hts gX4_readClause_X4_passBlanks rfl rfl rfl (by decide +kernel) ⟨(Nat.le_of_ble_eq_true rfl), (Nat.le_of_ble_eq_true rfl)⟩) 0 4 rfl rfl rfl rfl hl.1 rfl (Nat.le_of_ble_eq_true rfl) dX4_readClause_24 ⟨(Nat.le_of_ble_eq_true rfl), (Nat.le_of_ble_eq_true rfl)⟩ (fun u H locs hw hP2 hD2 hS2 => ?_)
                    clear hP hD hS
                    obtain ⟨axx_237, rfl, hf_238, hf_239⟩ := hw
                    have hPD : PD D A [(Rv, .inl (g 0, 21, .inl fvalx_227)), (Rd, .inr (4, [.ref Tp, .int (nI ln), .int (nI axx_237), .int (-1), .int (nI htx_4), .int (nI ctx_5), .ref Rv])), (Tp, .inl (g 0, 160, .inl ftp))] H := ⟨hP2, hD2⟩
                    have hS := hS2; clear hP2 hD2 hS2; have hP := hPD.1; have hD := hPD.2; clear hPD
                    refine W.widen (k := 0) (n := 0) (Nat.le_of_ble_eq_true rfl) (Nat.le_of_ble_eq_true rfl) ?_
                    have hge_240 := sB_ge (T := ftp) (n := ln) (i := axx_225) (by omega)
                    refine lv_aload_n hx hb dX4_readClause_27 rfl (lv_at hl 4 rfl) ?_
                    refine va_get (D := D) (ci := 4) (v := .int (nI axx_237)) (C := RX4) (T := TX4) (N := 7) hx hb hts iX4 hown hK hP 1 rfl rfl 2 (by decide) f28 (fun _ h9 => h9) rfl dX4_readClause_28 ?_
                    refine lv_aload_n hx hb dX4_readClause_31 rfl (lv_at hl 4 rfl) ?_
                    refine va_get (D := D) (ci := 4) (v := .int (nI ln)) (C := RX4) (T := TX4) (N := 7) hx hb hts iX4 hown hK hP 1 rfl rfl 1 (by decide) f24 (fun _ h9 => h9) rfl dX4_readClause_32 ?_
                    refine lv_icmp_ge (tgt := 52) hx hb dX4_readClause_35 (by decide) (fun cb_241 => ?_) (fun cb_241 => ?_)
                    · skip
                      have cn_242 : ln ≤ axx_237 := (nI_leI (show ln < 2 ^ 31 by omega) (show axx_237 < 2 ^ 31 by omega)).mp cb_241
                      have hPD9 : PD D A [(Rd, .inr (4, [.ref Tp, .int (nI ln), .int (nI axx_237), .int (-1), .int (nI htx_4), .int (nI ctx_5), .ref Rv])), (Tp, .inl (g 0, 160, .inl ftp)), (Rv, .inl (g 0, 21, .inl fvalx_227))] H := ⟨hP.sub [1, 2, 0] rfl, hD.sub [1, 2, 0] (by decide) rfl⟩
                      have hP9 := hPD9.1; have hD9 := hPD9.2
                      subst hQ
                      refine W.widen (k := 0) (n := 0) (Nat.le_of_ble_eq_true rfl) (Nat.le_of_ble_eq_true rfl) ?_
                      exact W.vret hx hb hr (fun tS htS _ => ⟨⟨_, rfl, ⟨axx_237, (-1), htx_4, ctx_5, fvalx_227, rfl, ⟨(show axx_237 ≤ ln by omega), (show htx_4 ≤ 3 by omega), (show ctx_5 ≤ 3 by omega), (hf_229), (cl_end hf_7.2.2.2.1.symm (show cl_15 < 7 by omega) (hR_234.trans (itR_end (f := 1) hf_239 (show ¬ axx_237 < ln by omega))) (fun q => absurd q.1 (show ¬ axx_237 < ln by omega))).1, (cl_end hf_7.2.2.2.1.symm (show cl_15 < 7 by omega) (hR_234.trans (itR_end (f := 1) hf_239 (show ¬ axx_237 < ln by omega))) (fun q => absurd q.1 (show ¬ axx_237 < ln by omega))).2.1, (fun _ => ⟨(cl_end hf_7.2.2.2.1.symm (show cl_15 < 7 by omega) (hR_234.trans (itR_end (f := 1) hf_239 (show ¬ axx_237 < ln by omega))) (fun q => absurd q.1 (show ¬ axx_237 < ln by omega))).2.2, show ax < axx_237 by omega⟩)⟩⟩, by rw [htS]; exact hP9, hD9⟩, hS.F htS⟩) hS.2.2 dX4_readClause_52
                    · skip
                      have cn_243 : axx_237 < ln := Nat.lt_of_not_le (fun q9 => cb_241 ((nI_leI (show ln < 2 ^ 31 by omega) (show axx_237 < 2 ^ 31 by omega)).mpr q9))
                      refine lv_aload_n hx hb dX4_readClause_38 rfl (lv_at hl 4 rfl) ?_
                      refine va_get (D := D) (ci := 4) (v := .ref Tp) (C := RX4) (T := TX4) (N := 7) hx hb hts iX4 hown hK hP 1 rfl rfl 0 (by decide) f9 (fun _ h9 => h9) rfl dX4_readClause_39 ?_
                      refine lv_aload_n hx hb dX4_readClause_42 rfl (lv_at hl 4 rfl) ?_
                      refine va_get (D := D) (ci := 4) (v := .int (nI axx_237)) (C := RX4) (T := TX4) (N := 7) hx hb hts iX4 hown hK hP 1 rfl rfl 2 (by decide) f28 (fun _ h9 => h9) rfl dX4_readClause_43 ?_
                      refine va_iald hx hb hK hP 2 0 rfl rfl (vp_in_nI (show axx_237 < 160 by omega) (by decide)) dX4_readClause_46 ?_
                      refine lv_eqi (y := (ftp (axx_237))) (congrArg ftp (nI_clamp (show axx_237 < 2 ^ 31 by omega))) ?_
                      refine lv_bipush (v := 59) hx hb dX4_readClause_47 (by decide) ?_
                      refine lv_icmp_ne (tgt := 53) hx hb dX4_readClause_49 (by decide) (fun cb_244 => ?_) (fun cb_244 => ?_)
                      · skip
                        refine lv_iload_n hx hb dX4_readClause_53 rfl (lv_at hl 3 rfl) ?_
                        refine ky_Si (As := [.int (nI cl_15)]) (rest := []) ⟨hx, hb, hml, hown, hts⟩ ⟨hK, hN⟩ hZ hP hD hS hA [] [0, 1, 2] (wc := []) (wr := [(Rv, .inl (g 0, 21, .inl fvalx_227)), (Rd, .inr (4, [.ref Tp, .int (nI ln), .int (nI axx_237), .int (-1), .int (nI htx_4), .int (nI ctx_5), .ref Rv])), (Tp, .inl (g 0, 160, .inl ftp))]) rfl rfl rfl rfl (by decide) (r_X4_kindOf l D g H.size cl_15 (show cl_15 < 7 by omega)) (va_cwS 1 hts gX4_readClause_X4_kindOf rfl rfl rfl (by decide +kernel) ⟨(Nat.le_of_ble_eq_true rfl), (Nat.le_of_ble_eq_true rfl)⟩) rfl hl.1 rfl (Nat.le_of_ble_eq_true rfl) dX4_readClause_54 ⟨(Nat.le_of_ble_eq_true rfl), (Nat.le_of_ble_eq_true rfl)⟩ (fun r_245 u H locs hw hP2 hD2 hS2 => ?_)
                        clear hP hD hS
                        obtain ⟨rfl, rfl⟩ := hw
                        have hPD : PD D A [(Rv, .inl (g 0, 21, .inl fvalx_227)), (Rd, .inr (4, [.ref Tp, .int (nI ln), .int (nI axx_237), .int (-1), .int (nI htx_4), .int (nI ctx_5), .ref Rv])), (Tp, .inl (g 0, 160, .inl ftp))] H := ⟨hP2, hD2⟩
                        have hS := hS2; clear hP2 hD2 hS2; have hP := hPD.1; have hD := hPD.2; clear hPD
                        refine W.widen (k := 0) (n := 0) (Nat.le_of_ble_eq_true rfl) (Nat.le_of_ble_eq_true rfl) ?_
                        refine lv_aload_n hx hb dX4_readClause_57 rfl (lv_at hl 4 rfl) ?_
                        refine va_get (D := D) (ci := 4) (v := .ref Tp) (C := RX4) (T := TX4) (N := 7) hx hb hts iX4 hown hK hP 1 rfl rfl 0 (by decide) f9 (fun _ h9 => h9) rfl dX4_readClause_58 ?_
                        refine lv_aload_n hx hb dX4_readClause_61 rfl (lv_at hl 4 rfl) ?_
                        refine va_get (D := D) (ci := 4) (v := .int (nI axx_237)) (C := RX4) (T := TX4) (N := 7) hx hb hts iX4 hown hK hP 1 rfl rfl 2 (by decide) f28 (fun _ h9 => h9) rfl dX4_readClause_62 ?_
                        refine va_iald hx hb hK hP 2 0 rfl rfl (vp_in_nI (show axx_237 < 160 by omega) (by decide)) dX4_readClause_65 ?_
                        refine lv_eqi (y := (ftp (axx_237))) (congrArg ftp (nI_clamp (show axx_237 < 2 ^ 31 by omega))) ?_
                        refine ky_Si (As := [.int (nI (kdN cl_15)), .int (ftp (axx_237))]) (rest := []) ⟨hx, hb, hml, hown, hts⟩ ⟨hK, hN⟩ hZ hP hD hS hA [] [0, 1, 2] (wc := []) (wr := [(Rv, .inl (g 0, 21, .inl fvalx_227)), (Rd, .inr (4, [.ref Tp, .int (nI ln), .int (nI axx_237), .int (-1), .int (nI htx_4), .int (nI ctx_5), .ref Rv])), (Tp, .inl (g 0, 160, .inl ftp))]) rfl rfl rfl rfl (by decide) (r_X4_itemOf l D g H.size (kdN cl_15) (ftp (axx_237)) (show (kdN cl_15) < 3 by omega)) (va_cwS 2 hts gX4_readClause_X4_itemOf rfl rfl rfl (by decide +kernel) ⟨(Nat.le_of_ble_eq_true rfl), (Nat.le_of_ble_eq_true rfl)⟩) rfl hl.1 rfl (Nat.le_of_ble_eq_true rfl) dX4_readClause_66 ⟨(Nat.le_of_ble_eq_true rfl), (Nat.le_of_ble_eq_true rfl)⟩ (fun r_246 u H locs hw hP2 hD2 hS2 => ?_)
                        clear hP hD hS
                        obtain ⟨rfl, rfl⟩ := hw
                        have hPD : PD D A [(Rv, .inl (g 0, 21, .inl fvalx_227)), (Rd, .inr (4, [.ref Tp, .int (nI ln), .int (nI axx_237), .int (-1), .int (nI htx_4), .int (nI ctx_5), .ref Rv])), (Tp, .inl (g 0, 160, .inl ftp))] H := ⟨hP2, hD2⟩
                        have hS := hS2; clear hP2 hD2 hS2; have hP := hPD.1; have hD := hPD.2; clear hPD
                        refine W.widen (k := 0) (n := 0) (Nat.le_of_ble_eq_true rfl) (Nat.le_of_ble_eq_true rfl) ?_
                        rcases itK_c (kdN cl_15) (ftp (axx_237)) with qi_247 | qi_247 | qi_247 | qi_247
                        · skip
                          refine lv_eqi (y := (-1)) (qi_247) ?_
                          refine lv_istore (lv' := [(5, .int (-1)), (4, .int 2), (3, .int 6), (2, .int (nI cl_15)), (0, .ref Rd), (1, .int zf)]) hx hb dX4_readClause_69 hl (by decide) rfl (fun ls hl => ?_)
                          refine lv_iload hx hb dX4_readClause_71 (lv_at hl 0 rfl) ?_
                          refine lv_iconst (v := (-1)) hx hb dX4_readClause_73 (by decide) ?_
                          refine lv_icmp_eq (tgt := 86) hx hb dX4_readClause_74 (by decide) (fun _ => ?_) (fun cb => absurd (by decide) cb)
                          refine lv_aload_n hx hb dX4_readClause_86 rfl (lv_at hl 4 rfl) ?_
                          refine lv_aload_n hx hb dX4_readClause_87 rfl (lv_at hl 4 rfl) ?_
                          refine va_get (D := D) (ci := 4) (v := .int (nI axx_237)) (C := RX4) (T := TX4) (N := 7) hx hb hts iX4 hown hK hP 1 rfl rfl 2 (by decide) f28 (fun _ h9 => h9) rfl dX4_readClause_88 ?_
                          refine va_put (D := D) (ci := 4) (v := .int (nI axx_237)) (ty := .int) (C := RX4) (T := TX4) (N := 7) hx hb hts iX4 tyX4 tyX4_ok nmX4 hown hK hP hD hS 1 rfl rfl 3 (by decide) f31 (fun _ h9 => h9) rfl (by decide +kernel) (rfl) (rfl) (Nat.le_of_ble_eq_true rfl) dX4_readClause_91 (fun H locs hP2 hD2 hS2 => ?_)
                          clear hP hD hS
                          have hPD : PD D A [(Rv, .inl (g 0, 21, .inl fvalx_227)), (Rd, .inr (4, [.ref Tp, .int (nI ln), .int (nI axx_237), .int (nI axx_237), .int (nI htx_4), .int (nI ctx_5), .ref Rv])), (Tp, .inl (g 0, 160, .inl ftp))] H := ⟨hP2, hD2⟩
                          have hS := hS2; clear hP2 hD2 hS2; have hP := hPD.1; have hD := hPD.2; clear hPD
                          have hPD9 : PD D A [(Rd, .inr (4, [.ref Tp, .int (nI ln), .int (nI axx_237), .int (nI axx_237), .int (nI htx_4), .int (nI ctx_5), .ref Rv])), (Tp, .inl (g 0, 160, .inl ftp)), (Rv, .inl (g 0, 21, .inl fvalx_227))] H := ⟨hP.sub [1, 2, 0] rfl, hD.sub [1, 2, 0] (by decide) rfl⟩
                          have hP9 := hPD9.1; have hD9 := hPD9.2
                          subst hQ
                          refine W.widen (k := 0) (n := 0) (Nat.le_of_ble_eq_true rfl) (Nat.le_of_ble_eq_true rfl) ?_
                          exact W.vret hx hb hr (fun tS htS _ => ⟨⟨_, rfl, ⟨axx_237, (nI axx_237), htx_4, ctx_5, fvalx_227, rfl, ⟨(show axx_237 ≤ ln by omega), (show htx_4 ≤ 3 by omega), (show ctx_5 ≤ 3 by omega), (hf_229), (cl_bad hf_7.2.2.2.1.symm (show cl_15 < 7 by omega) (hR_234.trans (itR_no (f := 1) hf_239 qi_247)) (show axx_237 < ln by omega) cb_244).1, (cl_bad hf_7.2.2.2.1.symm (show cl_15 < 7 by omega) (hR_234.trans (itR_no (f := 1) hf_239 qi_247)) (show axx_237 < ln by omega) cb_244).2, (fun q => absurd q (m1_ne (show axx_237 < 2 ^ 31 by omega)))⟩⟩, by rw [htS]; exact hP9, hD9⟩, hS.F htS⟩) hS.2.2 dX4_readClause_94
                        · skip
                          refine lv_eqi (y := 0) (qi_247) ?_
                          refine lv_istore (lv' := [(5, .int 0), (4, .int 2), (3, .int 6), (2, .int (nI cl_15)), (0, .ref Rd), (1, .int zf)]) hx hb dX4_readClause_69 hl (by decide) rfl (fun ls hl => ?_)
                          refine lv_iload hx hb dX4_readClause_71 (lv_at hl 0 rfl) ?_
                          refine lv_iconst (v := (-1)) hx hb dX4_readClause_73 (by decide) ?_
                          refine lv_icmp_eq (tgt := 86) hx hb dX4_readClause_74 (by decide) (fun cb => absurd cb (by decide)) (fun _ => ?_)
                          refine lv_iload_n hx hb dX4_readClause_77 rfl (lv_at hl 2 rfl) ?_
                          refine lv_iconst (v := 1) hx hb dX4_readClause_78 (by decide) ?_
                          refine lv_iload hx hb dX4_readClause_79 (lv_at hl 0 rfl) ?_
                          refine lv_ishl hx hb dX4_readClause_81 ?_
                          refine lv_eqi (y := 1) (by decide) ?_
                          refine lv_iand hx hb dX4_readClause_82 ?_
                          refine lv_eqi (y := 0) (by decide) ?_
                          refine lv_if_eq (tgt := 95) hx hb dX4_readClause_83 (by decide) (fun _ => ?_) (fun cb => absurd (by decide) cb)
                          refine lv_iload_n hx hb dX4_readClause_95 rfl (lv_at hl 2 rfl) ?_
                          refine lv_iconst (v := 1) hx hb dX4_readClause_96 (by decide) ?_
                          refine lv_iload hx hb dX4_readClause_97 (lv_at hl 0 rfl) ?_
                          refine lv_ishl hx hb dX4_readClause_99 ?_
                          refine lv_eqi (y := 1) (by decide) ?_
                          refine lv_ior hx hb dX4_readClause_100 ?_
                          refine lv_eqi (y := 7) (by decide) ?_
                          refine lv_istore_n (lv' := [(3, .int 7), (5, .int 0), (4, .int 2), (2, .int (nI cl_15)), (0, .ref Rd), (1, .int zf)]) hx hb dX4_readClause_101 rfl hl (by decide) rfl (fun ls hl => ?_)
                          refine lv_aload_n hx hb dX4_readClause_102 rfl (lv_at hl 4 rfl) ?_
                          refine lv_dup hx hb dX4_readClause_103 rfl ?_
                          refine va_get (D := D) (ci := 4) (v := .int (nI axx_237)) (C := RX4) (T := TX4) (N := 7) hx hb hts iX4 hown hK hP 1 rfl rfl 2 (by decide) f28 (fun _ h9 => h9) rfl dX4_readClause_104 ?_
                          refine lv_iconst (v := 1) hx hb dX4_readClause_107 (by decide) ?_
                          refine lv_iadd hx hb dX4_readClause_108 ?_
                          refine lv_eqi (y := (nI (axx_237 + 1))) (nI_add (axx_237) (1)) ?_
                          refine va_put (D := D) (ci := 4) (v := .int (nI (axx_237 + 1))) (ty := .int) (C := RX4) (T := TX4) (N := 7) hx hb hts iX4 tyX4 tyX4_ok nmX4 hown hK hP hD hS 1 rfl rfl 2 (by decide) f28 (fun _ h9 => h9) rfl (by decide +kernel) (rfl) (rfl) (Nat.le_of_ble_eq_true rfl) dX4_readClause_109 (fun H locs hP2 hD2 hS2 => ?_)
                          clear hP hD hS
                          have hPD : PD D A [(Rv, .inl (g 0, 21, .inl fvalx_227)), (Rd, .inr (4, [.ref Tp, .int (nI ln), .int (nI (axx_237 + 1)), .int (-1), .int (nI htx_4), .int (nI ctx_5), .ref Rv])), (Tp, .inl (g 0, 160, .inl ftp))] H := ⟨hP2, hD2⟩
                          have hS := hS2; clear hP2 hD2 hS2; have hP := hPD.1; have hD := hPD.2; clear hPD
                          refine lv_aload_n hx hb dX4_readClause_112 rfl (lv_at hl 4 rfl) ?_
                          refine lv_iload_n hx hb dX4_readClause_113 rfl (lv_at hl 3 rfl) ?_
                          refine lv_iload hx hb dX4_readClause_114 (lv_at hl 1 rfl) ?_
                          refine ky_Vv (As := [.int (nI cl_15), .int 0]) (rest := []) ⟨hx, hb, hml, hown, hts⟩ ⟨hK, hN⟩ hZ hP hD hS hA [1, 2, 0] [] (wc := [(Rd, .inr (4, [.ref Tp, .int (nI ln), .int (nI (axx_237 + 1)), .int (-1), .int (nI htx_4), .int (nI ctx_5), .ref Rv])), (Tp, .inl (g 0, 160, .inl ftp)), (Rv, .inl (g 0, 21, .inl fvalx_227))]) (wr := []) rfl rfl rfl rfl (by decide) (r_X4_readNumber l D g H.size Rd cl_15 0 Tp ln (axx_237 + 1) htx_4 ctx_5 Rv ftp fvalx_227 (show ln ≤ 160 by omega) (show (axx_237 + 1) ≤ ln by omega) (hf_229) (show cl_15 < 7 by omega) (show 0 < 3 by omega)) (cwV 2 hts gX4_readClause_X4_readNumber rfl rfl rfl (by decide +kernel) ⟨(Nat.le_of_ble_eq_true rfl), (Nat.le_of_ble_eq_true rfl)⟩) 1 4 rfl rfl rfl rfl hl.1 rfl (Nat.le_of_ble_eq_true rfl) dX4_readClause_116 ⟨(Nat.le_of_ble_eq_true rfl), (Nat.le_of_ble_eq_true rfl)⟩ (fun u H locs hw hP2 hD2 hS2 => ?_)
                          clear hP hD hS
                          obtain ⟨axx_249, zfax_250, fvalx_251, rfl, hf_252, hf_253, hf_254, hf_255⟩ := hw
                          have hPD : PD D A [(Rd, .inr (4, [.ref Tp, .int (nI ln), .int (nI axx_249), .int zfax_250, .int (nI htx_4), .int (nI ctx_5), .ref Rv])), (Tp, .inl (g 0, 160, .inl ftp)), (Rv, .inl (g 0, 21, .inl fvalx_251))] H := ⟨hP2, hD2⟩
                          have hS := hS2; clear hP2 hD2 hS2; have hP := hPD.1; have hD := hPD.2; clear hPD
                          refine W.widen (k := 0) (n := 0) (Nat.le_of_ble_eq_true rfl) (Nat.le_of_ble_eq_true rfl) ?_
                          refine lv_aload_n hx hb dX4_readClause_119 rfl (lv_at hl 4 rfl) ?_
                          refine va_get (D := D) (ci := 4) (v := .int zfax_250) (C := RX4) (T := TX4) (N := 7) hx hb hts iX4 hown hK hP 0 rfl rfl 3 (by decide) f31 (fun _ h9 => h9) rfl dX4_readClause_120 ?_
                          refine lv_iconst (v := (-1)) hx hb dX4_readClause_123 (by decide) ?_
                          refine lv_icmp_eq (tgt := 128) hx hb dX4_readClause_124 (by decide) (fun cb_256 => ?_) (fun cb_256 => ?_)
                          · skip
                            have hPq_257 := hP; have hDq_257 := hD; have hSq_257 := hS; have hlq_257 := hl; clear hP hD hS hl
                            subst cb_256
                            have hP := hPq_257; have hD := hDq_257; have hS := hSq_257; have hl := hlq_257; clear hPq_257 hDq_257 hSq_257 hlq_257
                            have hne_259 := (hf_255 rfl).1
                            have hne_259g := nmE_gt (T := ftp) (n := ln) (i := axx_237 + 1) (by omega)
                            have hR_258 : itR ftp ln (kdN cl_15) 4 0 (sB ftp ln ax + 1) = itR ftp ln (kdN cl_15) 1 7 axx_249 := hR_234.trans ((itR_go (f := 1) (m := 6) (q := 0) hf_239 (show axx_237 < ln by omega) qi_247 (by decide) (by decide) hf_254.symm).trans (by rw [hne_259]))
                            refine lv_iinc (v := 3) (lv' := [(4, .int 3), (3, .int 7), (5, .int 0), (2, .int (nI cl_15)), (0, .ref Rd), (1, .int zf)]) hx hb dX4_readClause_128 hl (k := 2) rfl (by decide) (by decide) rfl (fun ls hl => ?_)
                            refine lv_goto (tgt := 17) hx hb dX4_readClause_131 (by decide) ?_
                            refine lv_iload hx hb dX4_readClause_17 (lv_at hl 0 rfl) ?_
                            refine lv_iconst (v := 3) hx hb dX4_readClause_19 (by decide) ?_
                            refine lv_icmp_gt (tgt := 134) hx hb dX4_readClause_20 (by decide) (fun cb => absurd cb (by decide)) (fun _ => ?_)
                            refine lv_aload_n hx hb dX4_readClause_23 rfl (lv_at hl 4 rfl) ?_
                            refine ky_Vv (As := []) (rest := []) ⟨hx, hb, hml, hown, hts⟩ ⟨hK, hN⟩ hZ hP hD hS hA [0, 1] [2] (wc := [(Rd, .inr (4, [.ref Tp, .int (nI ln), .int (nI axx_249), .int (-1), .int (nI htx_4), .int (nI ctx_5), .ref Rv])), (Tp, .inl (g 0, 160, .inl ftp))]) (wr := [(Rv, .inl (g 0, 21, .inl fvalx_251))]) rfl rfl rfl rfl (by decide) (r_X4_passBlanks l D g H.size Rd Tp ln axx_249 (-1) htx_4 ctx_5 Rv ftp (show ln ≤ 160 by omega) (show axx_249 ≤ ln by omega)) (cwV 0 hts gX4_readClause_X4_passBlanks rfl rfl rfl (by decide +kernel) ⟨(Nat.le_of_ble_eq_true rfl), (Nat.le_of_ble_eq_true rfl)⟩) 0 4 rfl rfl rfl rfl hl.1 rfl (Nat.le_of_ble_eq_true rfl) dX4_readClause_24 ⟨(Nat.le_of_ble_eq_true rfl), (Nat.le_of_ble_eq_true rfl)⟩ (fun u H locs hw hP2 hD2 hS2 => ?_)
                            clear hP hD hS
                            obtain ⟨axx_261, rfl, hf_262, hf_263⟩ := hw
                            have hPD : PD D A [(Rv, .inl (g 0, 21, .inl fvalx_251)), (Rd, .inr (4, [.ref Tp, .int (nI ln), .int (nI axx_261), .int (-1), .int (nI htx_4), .int (nI ctx_5), .ref Rv])), (Tp, .inl (g 0, 160, .inl ftp))] H := ⟨hP2, hD2⟩
                            have hS := hS2; clear hP2 hD2 hS2; have hP := hPD.1; have hD := hPD.2; clear hPD
                            refine W.widen (k := 0) (n := 0) (Nat.le_of_ble_eq_true rfl) (Nat.le_of_ble_eq_true rfl) ?_
                            have hge_264 := sB_ge (T := ftp) (n := ln) (i := axx_249) (by omega)
                            refine lv_aload_n hx hb dX4_readClause_27 rfl (lv_at hl 4 rfl) ?_
                            refine va_get (D := D) (ci := 4) (v := .int (nI axx_261)) (C := RX4) (T := TX4) (N := 7) hx hb hts iX4 hown hK hP 1 rfl rfl 2 (by decide) f28 (fun _ h9 => h9) rfl dX4_readClause_28 ?_
                            refine lv_aload_n hx hb dX4_readClause_31 rfl (lv_at hl 4 rfl) ?_
                            refine va_get (D := D) (ci := 4) (v := .int (nI ln)) (C := RX4) (T := TX4) (N := 7) hx hb hts iX4 hown hK hP 1 rfl rfl 1 (by decide) f24 (fun _ h9 => h9) rfl dX4_readClause_32 ?_
                            refine lv_icmp_ge (tgt := 52) hx hb dX4_readClause_35 (by decide) (fun cb_265 => ?_) (fun cb_265 => ?_)
                            · skip
                              have cn_266 : ln ≤ axx_261 := (nI_leI (show ln < 2 ^ 31 by omega) (show axx_261 < 2 ^ 31 by omega)).mp cb_265
                              have hPD9 : PD D A [(Rd, .inr (4, [.ref Tp, .int (nI ln), .int (nI axx_261), .int (-1), .int (nI htx_4), .int (nI ctx_5), .ref Rv])), (Tp, .inl (g 0, 160, .inl ftp)), (Rv, .inl (g 0, 21, .inl fvalx_251))] H := ⟨hP.sub [1, 2, 0] rfl, hD.sub [1, 2, 0] (by decide) rfl⟩
                              have hP9 := hPD9.1; have hD9 := hPD9.2
                              subst hQ
                              refine W.widen (k := 0) (n := 0) (Nat.le_of_ble_eq_true rfl) (Nat.le_of_ble_eq_true rfl) ?_
                              exact W.vret hx hb hr (fun tS htS _ => ⟨⟨_, rfl, ⟨axx_261, (-1), htx_4, ctx_5, fvalx_251, rfl, ⟨(show axx_261 ≤ ln by omega), (show htx_4 ≤ 3 by omega), (show ctx_5 ≤ 3 by omega), (hf_253), (cl_end hf_7.2.2.2.1.symm (show cl_15 < 7 by omega) (hR_258.trans (itR_end (f := 0) hf_263 (show ¬ axx_261 < ln by omega))) (fun q => absurd q.1 (show ¬ axx_261 < ln by omega))).1, (cl_end hf_7.2.2.2.1.symm (show cl_15 < 7 by omega) (hR_258.trans (itR_end (f := 0) hf_263 (show ¬ axx_261 < ln by omega))) (fun q => absurd q.1 (show ¬ axx_261 < ln by omega))).2.1, (fun _ => ⟨(cl_end hf_7.2.2.2.1.symm (show cl_15 < 7 by omega) (hR_258.trans (itR_end (f := 0) hf_263 (show ¬ axx_261 < ln by omega))) (fun q => absurd q.1 (show ¬ axx_261 < ln by omega))).2.2, show ax < axx_261 by omega⟩)⟩⟩, by rw [htS]; exact hP9, hD9⟩, hS.F htS⟩) hS.2.2 dX4_readClause_52
                            · skip
                              have cn_267 : axx_261 < ln := Nat.lt_of_not_le (fun q9 => cb_265 ((nI_leI (show ln < 2 ^ 31 by omega) (show axx_261 < 2 ^ 31 by omega)).mpr q9))
                              refine lv_aload_n hx hb dX4_readClause_38 rfl (lv_at hl 4 rfl) ?_
                              refine va_get (D := D) (ci := 4) (v := .ref Tp) (C := RX4) (T := TX4) (N := 7) hx hb hts iX4 hown hK hP 1 rfl rfl 0 (by decide) f9 (fun _ h9 => h9) rfl dX4_readClause_39 ?_
                              refine lv_aload_n hx hb dX4_readClause_42 rfl (lv_at hl 4 rfl) ?_
                              refine va_get (D := D) (ci := 4) (v := .int (nI axx_261)) (C := RX4) (T := TX4) (N := 7) hx hb hts iX4 hown hK hP 1 rfl rfl 2 (by decide) f28 (fun _ h9 => h9) rfl dX4_readClause_43 ?_
                              refine va_iald hx hb hK hP 2 0 rfl rfl (vp_in_nI (show axx_261 < 160 by omega) (by decide)) dX4_readClause_46 ?_
                              refine lv_eqi (y := (ftp (axx_261))) (congrArg ftp (nI_clamp (show axx_261 < 2 ^ 31 by omega))) ?_
                              refine lv_bipush (v := 59) hx hb dX4_readClause_47 (by decide) ?_
                              refine lv_icmp_ne (tgt := 53) hx hb dX4_readClause_49 (by decide) (fun cb_268 => ?_) (fun cb_268 => ?_)
                              · skip
                                refine lv_iload_n hx hb dX4_readClause_53 rfl (lv_at hl 3 rfl) ?_
                                refine ky_Si (As := [.int (nI cl_15)]) (rest := []) ⟨hx, hb, hml, hown, hts⟩ ⟨hK, hN⟩ hZ hP hD hS hA [] [0, 1, 2] (wc := []) (wr := [(Rv, .inl (g 0, 21, .inl fvalx_251)), (Rd, .inr (4, [.ref Tp, .int (nI ln), .int (nI axx_261), .int (-1), .int (nI htx_4), .int (nI ctx_5), .ref Rv])), (Tp, .inl (g 0, 160, .inl ftp))]) rfl rfl rfl rfl (by decide) (r_X4_kindOf l D g H.size cl_15 (show cl_15 < 7 by omega)) (va_cwS 1 hts gX4_readClause_X4_kindOf rfl rfl rfl (by decide +kernel) ⟨(Nat.le_of_ble_eq_true rfl), (Nat.le_of_ble_eq_true rfl)⟩) rfl hl.1 rfl (Nat.le_of_ble_eq_true rfl) dX4_readClause_54 ⟨(Nat.le_of_ble_eq_true rfl), (Nat.le_of_ble_eq_true rfl)⟩ (fun r_269 u H locs hw hP2 hD2 hS2 => ?_)
                                clear hP hD hS
                                obtain ⟨rfl, rfl⟩ := hw
                                have hPD : PD D A [(Rv, .inl (g 0, 21, .inl fvalx_251)), (Rd, .inr (4, [.ref Tp, .int (nI ln), .int (nI axx_261), .int (-1), .int (nI htx_4), .int (nI ctx_5), .ref Rv])), (Tp, .inl (g 0, 160, .inl ftp))] H := ⟨hP2, hD2⟩
                                have hS := hS2; clear hP2 hD2 hS2; have hP := hPD.1; have hD := hPD.2; clear hPD
                                refine W.widen (k := 0) (n := 0) (Nat.le_of_ble_eq_true rfl) (Nat.le_of_ble_eq_true rfl) ?_
                                refine lv_aload_n hx hb dX4_readClause_57 rfl (lv_at hl 4 rfl) ?_
                                refine va_get (D := D) (ci := 4) (v := .ref Tp) (C := RX4) (T := TX4) (N := 7) hx hb hts iX4 hown hK hP 1 rfl rfl 0 (by decide) f9 (fun _ h9 => h9) rfl dX4_readClause_58 ?_
                                refine lv_aload_n hx hb dX4_readClause_61 rfl (lv_at hl 4 rfl) ?_
                                refine va_get (D := D) (ci := 4) (v := .int (nI axx_261)) (C := RX4) (T := TX4) (N := 7) hx hb hts iX4 hown hK hP 1 rfl rfl 2 (by decide) f28 (fun _ h9 => h9) rfl dX4_readClause_62 ?_
                                refine va_iald hx hb hK hP 2 0 rfl rfl (vp_in_nI (show axx_261 < 160 by omega) (by decide)) dX4_readClause_65 ?_
                                refine lv_eqi (y := (ftp (axx_261))) (congrArg ftp (nI_clamp (show axx_261 < 2 ^ 31 by omega))) ?_
                                refine ky_Si (As := [.int (nI (kdN cl_15)), .int (ftp (axx_261))]) (rest := []) ⟨hx, hb, hml, hown, hts⟩ ⟨hK, hN⟩ hZ hP hD hS hA [] [0, 1, 2] (wc := []) (wr := [(Rv, .inl (g 0, 21, .inl fvalx_251)), (Rd, .inr (4, [.ref Tp, .int (nI ln), .int (nI axx_261), .int (-1), .int (nI htx_4), .int (nI ctx_5), .ref Rv])), (Tp, .inl (g 0, 160, .inl ftp))]) rfl rfl rfl rfl (by decide) (r_X4_itemOf l D g H.size (kdN cl_15) (ftp (axx_261)) (show (kdN cl_15) < 3 by omega)) (va_cwS 2 hts gX4_readClause_X4_itemOf rfl rfl rfl (by decide +kernel) ⟨(Nat.le_of_ble_eq_true rfl), (Nat.le_of_ble_eq_true rfl)⟩) rfl hl.1 rfl (Nat.le_of_ble_eq_true rfl) dX4_readClause_66 ⟨(Nat.le_of_ble_eq_true rfl), (Nat.le_of_ble_eq_true rfl)⟩ (fun r_270 u H locs hw hP2 hD2 hS2 => ?_)
                                clear hP hD hS
                                obtain ⟨rfl, rfl⟩ := hw
                                have hPD : PD D A [(Rv, .inl (g 0, 21, .inl fvalx_251)), (Rd, .inr (4, [.ref Tp, .int (nI ln), .int (nI axx_261), .int (-1), .int (nI htx_4), .int (nI ctx_5), .ref Rv])), (Tp, .inl (g 0, 160, .inl ftp))] H := ⟨hP2, hD2⟩
                                have hS := hS2; clear hP2 hD2 hS2; have hP := hPD.1; have hD := hPD.2; clear hPD
                                refine W.widen (k := 0) (n := 0) (Nat.le_of_ble_eq_true rfl) (Nat.le_of_ble_eq_true rfl) ?_
                                rcases itK_c (kdN cl_15) (ftp (axx_261)) with qi_271 | qi_271 | qi_271 | qi_271
                                · skip
                                  refine lv_eqi (y := (-1)) (qi_271) ?_
                                  refine lv_istore (lv' := [(5, .int (-1)), (4, .int 3), (3, .int 7), (2, .int (nI cl_15)), (0, .ref Rd), (1, .int zf)]) hx hb dX4_readClause_69 hl (by decide) rfl (fun ls hl => ?_)
                                  refine lv_iload hx hb dX4_readClause_71 (lv_at hl 0 rfl) ?_
                                  refine lv_iconst (v := (-1)) hx hb dX4_readClause_73 (by decide) ?_
                                  refine lv_icmp_eq (tgt := 86) hx hb dX4_readClause_74 (by decide) (fun _ => ?_) (fun cb => absurd (by decide) cb)
                                  refine lv_aload_n hx hb dX4_readClause_86 rfl (lv_at hl 4 rfl) ?_
                                  refine lv_aload_n hx hb dX4_readClause_87 rfl (lv_at hl 4 rfl) ?_
                                  refine va_get (D := D) (ci := 4) (v := .int (nI axx_261)) (C := RX4) (T := TX4) (N := 7) hx hb hts iX4 hown hK hP 1 rfl rfl 2 (by decide) f28 (fun _ h9 => h9) rfl dX4_readClause_88 ?_
                                  refine va_put (D := D) (ci := 4) (v := .int (nI axx_261)) (ty := .int) (C := RX4) (T := TX4) (N := 7) hx hb hts iX4 tyX4 tyX4_ok nmX4 hown hK hP hD hS 1 rfl rfl 3 (by decide) f31 (fun _ h9 => h9) rfl (by decide +kernel) (rfl) (rfl) (Nat.le_of_ble_eq_true rfl) dX4_readClause_91 (fun H locs hP2 hD2 hS2 => ?_)
                                  clear hP hD hS
                                  have hPD : PD D A [(Rv, .inl (g 0, 21, .inl fvalx_251)), (Rd, .inr (4, [.ref Tp, .int (nI ln), .int (nI axx_261), .int (nI axx_261), .int (nI htx_4), .int (nI ctx_5), .ref Rv])), (Tp, .inl (g 0, 160, .inl ftp))] H := ⟨hP2, hD2⟩
                                  have hS := hS2; clear hP2 hD2 hS2; have hP := hPD.1; have hD := hPD.2; clear hPD
                                  have hPD9 : PD D A [(Rd, .inr (4, [.ref Tp, .int (nI ln), .int (nI axx_261), .int (nI axx_261), .int (nI htx_4), .int (nI ctx_5), .ref Rv])), (Tp, .inl (g 0, 160, .inl ftp)), (Rv, .inl (g 0, 21, .inl fvalx_251))] H := ⟨hP.sub [1, 2, 0] rfl, hD.sub [1, 2, 0] (by decide) rfl⟩
                                  have hP9 := hPD9.1; have hD9 := hPD9.2
                                  subst hQ
                                  refine W.widen (k := 0) (n := 0) (Nat.le_of_ble_eq_true rfl) (Nat.le_of_ble_eq_true rfl) ?_
                                  exact W.vret hx hb hr (fun tS htS _ => ⟨⟨_, rfl, ⟨axx_261, (nI axx_261), htx_4, ctx_5, fvalx_251, rfl, ⟨(show axx_261 ≤ ln by omega), (show htx_4 ≤ 3 by omega), (show ctx_5 ≤ 3 by omega), (hf_253), (cl_bad hf_7.2.2.2.1.symm (show cl_15 < 7 by omega) (hR_258.trans (itR_no (f := 0) hf_263 qi_271)) (show axx_261 < ln by omega) cb_268).1, (cl_bad hf_7.2.2.2.1.symm (show cl_15 < 7 by omega) (hR_258.trans (itR_no (f := 0) hf_263 qi_271)) (show axx_261 < ln by omega) cb_268).2, (fun q => absurd q (m1_ne (show axx_261 < 2 ^ 31 by omega)))⟩⟩, by rw [htS]; exact hP9, hD9⟩, hS.F htS⟩) hS.2.2 dX4_readClause_94
                                · skip
                                  refine lv_eqi (y := 0) (qi_271) ?_
                                  refine lv_istore (lv' := [(5, .int 0), (4, .int 3), (3, .int 7), (2, .int (nI cl_15)), (0, .ref Rd), (1, .int zf)]) hx hb dX4_readClause_69 hl (by decide) rfl (fun ls hl => ?_)
                                  refine lv_iload hx hb dX4_readClause_71 (lv_at hl 0 rfl) ?_
                                  refine lv_iconst (v := (-1)) hx hb dX4_readClause_73 (by decide) ?_
                                  refine lv_icmp_eq (tgt := 86) hx hb dX4_readClause_74 (by decide) (fun cb => absurd cb (by decide)) (fun _ => ?_)
                                  refine lv_iload_n hx hb dX4_readClause_77 rfl (lv_at hl 2 rfl) ?_
                                  refine lv_iconst (v := 1) hx hb dX4_readClause_78 (by decide) ?_
                                  refine lv_iload hx hb dX4_readClause_79 (lv_at hl 0 rfl) ?_
                                  refine lv_ishl hx hb dX4_readClause_81 ?_
                                  refine lv_eqi (y := 1) (by decide) ?_
                                  refine lv_iand hx hb dX4_readClause_82 ?_
                                  refine lv_eqi (y := 1) (by decide) ?_
                                  refine lv_if_eq (tgt := 95) hx hb dX4_readClause_83 (by decide) (fun cb => absurd cb (by decide)) (fun _ => ?_)
                                  refine lv_aload_n hx hb dX4_readClause_86 rfl (lv_at hl 4 rfl) ?_
                                  refine lv_aload_n hx hb dX4_readClause_87 rfl (lv_at hl 4 rfl) ?_
                                  refine va_get (D := D) (ci := 4) (v := .int (nI axx_261)) (C := RX4) (T := TX4) (N := 7) hx hb hts iX4 hown hK hP 1 rfl rfl 2 (by decide) f28 (fun _ h9 => h9) rfl dX4_readClause_88 ?_
                                  refine va_put (D := D) (ci := 4) (v := .int (nI axx_261)) (ty := .int) (C := RX4) (T := TX4) (N := 7) hx hb hts iX4 tyX4 tyX4_ok nmX4 hown hK hP hD hS 1 rfl rfl 3 (by decide) f31 (fun _ h9 => h9) rfl (by decide +kernel) (rfl) (rfl) (Nat.le_of_ble_eq_true rfl) dX4_readClause_91 (fun H locs hP2 hD2 hS2 => ?_)
                                  clear hP hD hS
                                  have hPD : PD D A [(Rv, .inl (g 0, 21, .inl fvalx_251)), (Rd, .inr (4, [.ref Tp, .int (nI ln), .int (nI axx_261), .int (nI axx_261), .int (nI htx_4), .int (nI ctx_5), .ref Rv])), (Tp, .inl (g 0, 160, .inl ftp))] H := ⟨hP2, hD2⟩
                                  have hS := hS2; clear hP2 hD2 hS2; have hP := hPD.1; have hD := hPD.2; clear hPD
                                  have hPD9 : PD D A [(Rd, .inr (4, [.ref Tp, .int (nI ln), .int (nI axx_261), .int (nI axx_261), .int (nI htx_4), .int (nI ctx_5), .ref Rv])), (Tp, .inl (g 0, 160, .inl ftp)), (Rv, .inl (g 0, 21, .inl fvalx_251))] H := ⟨hP.sub [1, 2, 0] rfl, hD.sub [1, 2, 0] (by decide) rfl⟩
                                  have hP9 := hPD9.1; have hD9 := hPD9.2
                                  subst hQ
                                  refine W.widen (k := 0) (n := 0) (Nat.le_of_ble_eq_true rfl) (Nat.le_of_ble_eq_true rfl) ?_
                                  exact W.vret hx hb hr (fun tS htS _ => ⟨⟨_, rfl, ⟨axx_261, (nI axx_261), htx_4, ctx_5, fvalx_251, rfl, ⟨(show axx_261 ≤ ln by omega), (show htx_4 ≤ 3 by omega), (show ctx_5 ≤ 3 by omega), (hf_253), (cl_bad hf_7.2.2.2.1.symm (show cl_15 < 7 by omega) (hR_258.trans (itR_again (f := 0) (q := 0) hf_263 qi_271 (by decide) (by decide))) (show axx_261 < ln by omega) cb_268).1, (cl_bad hf_7.2.2.2.1.symm (show cl_15 < 7 by omega) (hR_258.trans (itR_again (f := 0) (q := 0) hf_263 qi_271 (by decide) (by decide))) (show axx_261 < ln by omega) cb_268).2, (fun q => absurd q (m1_ne (show axx_261 < 2 ^ 31 by omega)))⟩⟩, by rw [htS]; exact hP9, hD9⟩, hS.F htS⟩) hS.2.2 dX4_readClause_94
                                · skip
                                  refine lv_eqi (y := 1) (qi_271) ?_
                                  refine lv_istore (lv' := [(5, .int 1), (4, .int 3), (3, .int 7), (2, .int (nI cl_15)), (0, .ref Rd), (1, .int zf)]) hx hb dX4_readClause_69 hl (by decide) rfl (fun ls hl => ?_)
                                  refine lv_iload hx hb dX4_readClause_71 (lv_at hl 0 rfl) ?_
                                  refine lv_iconst (v := (-1)) hx hb dX4_readClause_73 (by decide) ?_
                                  refine lv_icmp_eq (tgt := 86) hx hb dX4_readClause_74 (by decide) (fun cb => absurd cb (by decide)) (fun _ => ?_)
                                  refine lv_iload_n hx hb dX4_readClause_77 rfl (lv_at hl 2 rfl) ?_
                                  refine lv_iconst (v := 1) hx hb dX4_readClause_78 (by decide) ?_
                                  refine lv_iload hx hb dX4_readClause_79 (lv_at hl 0 rfl) ?_
                                  refine lv_ishl hx hb dX4_readClause_81 ?_
                                  refine lv_eqi (y := 2) (by decide) ?_
                                  refine lv_iand hx hb dX4_readClause_82 ?_
                                  refine lv_eqi (y := 2) (by decide) ?_
                                  refine lv_if_eq (tgt := 95) hx hb dX4_readClause_83 (by decide) (fun cb => absurd cb (by decide)) (fun _ => ?_)
                                  refine lv_aload_n hx hb dX4_readClause_86 rfl (lv_at hl 4 rfl) ?_
                                  refine lv_aload_n hx hb dX4_readClause_87 rfl (lv_at hl 4 rfl) ?_
                                  refine va_get (D := D) (ci := 4) (v := .int (nI axx_261)) (C := RX4) (T := TX4) (N := 7) hx hb hts iX4 hown hK hP 1 rfl rfl 2 (by decide) f28 (fun _ h9 => h9) rfl dX4_readClause_88 ?_
                                  refine va_put (D := D) (ci := 4) (v := .int (nI axx_261)) (ty := .int) (C := RX4) (T := TX4) (N := 7) hx hb hts iX4 tyX4 tyX4_ok nmX4 hown hK hP hD hS 1 rfl rfl 3 (by decide) f31 (fun _ h9 => h9) rfl (by decide +kernel) (rfl) (rfl) (Nat.le_of_ble_eq_true rfl) dX4_readClause_91 (fun H locs hP2 hD2 hS2 => ?_)
                                  clear hP hD hS
                                  have hPD : PD D A [(Rv, .inl (g 0, 21, .inl fvalx_251)), (Rd, .inr (4, [.ref Tp, .int (nI ln), .int (nI axx_261), .int (nI axx_261), .int (nI htx_4), .int (nI ctx_5), .ref Rv])), (Tp, .inl (g 0, 160, .inl ftp))] H := ⟨hP2, hD2⟩
                                  have hS := hS2; clear hP2 hD2 hS2; have hP := hPD.1; have hD := hPD.2; clear hPD
                                  have hPD9 : PD D A [(Rd, .inr (4, [.ref Tp, .int (nI ln), .int (nI axx_261), .int (nI axx_261), .int (nI htx_4), .int (nI ctx_5), .ref Rv])), (Tp, .inl (g 0, 160, .inl ftp)), (Rv, .inl (g 0, 21, .inl fvalx_251))] H := ⟨hP.sub [1, 2, 0] rfl, hD.sub [1, 2, 0] (by decide) rfl⟩
                                  have hP9 := hPD9.1; have hD9 := hPD9.2
                                  subst hQ
                                  refine W.widen (k := 0) (n := 0) (Nat.le_of_ble_eq_true rfl) (Nat.le_of_ble_eq_true rfl) ?_
                                  exact W.vret hx hb hr (fun tS htS _ => ⟨⟨_, rfl, ⟨axx_261, (nI axx_261), htx_4, ctx_5, fvalx_251, rfl, ⟨(show axx_261 ≤ ln by omega), (show htx_4 ≤ 3 by omega), (show ctx_5 ≤ 3 by omega), (hf_253), (cl_bad hf_7.2.2.2.1.symm (show cl_15 < 7 by omega) (hR_258.trans (itR_again (f := 0) (q := 1) hf_263 qi_271 (by decide) (by decide))) (show axx_261 < ln by omega) cb_268).1, (cl_bad hf_7.2.2.2.1.symm (show cl_15 < 7 by omega) (hR_258.trans (itR_again (f := 0) (q := 1) hf_263 qi_271 (by decide) (by decide))) (show axx_261 < ln by omega) cb_268).2, (fun q => absurd q (m1_ne (show axx_261 < 2 ^ 31 by omega)))⟩⟩, by rw [htS]; exact hP9, hD9⟩, hS.F htS⟩) hS.2.2 dX4_readClause_94
                                · skip
                                  refine lv_eqi (y := 2) (qi_271) ?_
                                  refine lv_istore (lv' := [(5, .int 2), (4, .int 3), (3, .int 7), (2, .int (nI cl_15)), (0, .ref Rd), (1, .int zf)]) hx hb dX4_readClause_69 hl (by decide) rfl (fun ls hl => ?_)
                                  refine lv_iload hx hb dX4_readClause_71 (lv_at hl 0 rfl) ?_
                                  refine lv_iconst (v := (-1)) hx hb dX4_readClause_73 (by decide) ?_
                                  refine lv_icmp_eq (tgt := 86) hx hb dX4_readClause_74 (by decide) (fun cb => absurd cb (by decide)) (fun _ => ?_)
                                  refine lv_iload_n hx hb dX4_readClause_77 rfl (lv_at hl 2 rfl) ?_
                                  refine lv_iconst (v := 1) hx hb dX4_readClause_78 (by decide) ?_
                                  refine lv_iload hx hb dX4_readClause_79 (lv_at hl 0 rfl) ?_
                                  refine lv_ishl hx hb dX4_readClause_81 ?_
                                  refine lv_eqi (y := 4) (by decide) ?_
                                  refine lv_iand hx hb dX4_readClause_82 ?_
                                  refine lv_eqi (y := 4) (by decide) ?_
                                  refine lv_if_eq (tgt := 95) hx hb dX4_readClause_83 (by decide) (fun cb => absurd cb (by decide)) (fun _ => ?_)
                                  refine lv_aload_n hx hb dX4_readClause_86 rfl (lv_at hl 4 rfl) ?_
                                  refine lv_aload_n hx hb dX4_readClause_87 rfl (lv_at hl 4 rfl) ?_
                                  refine va_get (D := D) (ci := 4) (v := .int (nI axx_261)) (C := RX4) (T := TX4) (N := 7) hx hb hts iX4 hown hK hP 1 rfl rfl 2 (by decide) f28 (fun _ h9 => h9) rfl dX4_readClause_88 ?_
                                  refine va_put (D := D) (ci := 4) (v := .int (nI axx_261)) (ty := .int) (C := RX4) (T := TX4) (N := 7) hx hb hts iX4 tyX4 tyX4_ok nmX4 hown hK hP hD hS 1 rfl rfl 3 (by decide) f31 (fun _ h9 => h9) rfl (by decide +kernel) (rfl) (rfl) (Nat.le_of_ble_eq_true rfl) dX4_readClause_91 (fun H locs hP2 hD2 hS2 => ?_)
                                  clear hP hD hS
                                  have hPD : PD D A [(Rv, .inl (g 0, 21, .inl fvalx_251)), (Rd, .inr (4, [.ref Tp, .int (nI ln), .int (nI axx_261), .int (nI axx_261), .int (nI htx_4), .int (nI ctx_5), .ref Rv])), (Tp, .inl (g 0, 160, .inl ftp))] H := ⟨hP2, hD2⟩
                                  have hS := hS2; clear hP2 hD2 hS2; have hP := hPD.1; have hD := hPD.2; clear hPD
                                  have hPD9 : PD D A [(Rd, .inr (4, [.ref Tp, .int (nI ln), .int (nI axx_261), .int (nI axx_261), .int (nI htx_4), .int (nI ctx_5), .ref Rv])), (Tp, .inl (g 0, 160, .inl ftp)), (Rv, .inl (g 0, 21, .inl fvalx_251))] H := ⟨hP.sub [1, 2, 0] rfl, hD.sub [1, 2, 0] (by decide) rfl⟩
                                  have hP9 := hPD9.1; have hD9 := hPD9.2
                                  subst hQ
                                  refine W.widen (k := 0) (n := 0) (Nat.le_of_ble_eq_true rfl) (Nat.le_of_ble_eq_true rfl) ?_
                                  exact W.vret hx hb hr (fun tS htS _ => ⟨⟨_, rfl, ⟨axx_261, (nI axx_261), htx_4, ctx_5, fvalx_251, rfl, ⟨(show axx_261 ≤ ln by omega), (show htx_4 ≤ 3 by omega), (show ctx_5 ≤ 3 by omega), (hf_253), (cl_bad hf_7.2.2.2.1.symm (show cl_15 < 7 by omega) (hR_258.trans (itR_again (f := 0) (q := 2) hf_263 qi_271 (by decide) (by decide))) (show axx_261 < ln by omega) cb_268).1, (cl_bad hf_7.2.2.2.1.symm (show cl_15 < 7 by omega) (hR_258.trans (itR_again (f := 0) (q := 2) hf_263 qi_271 (by decide) (by decide))) (show axx_261 < ln by omega) cb_268).2, (fun q => absurd q (m1_ne (show axx_261 < 2 ^ 31 by omega)))⟩⟩, by rw [htS]; exact hP9, hD9⟩, hS.F htS⟩) hS.2.2 dX4_readClause_94
                              · skip
                                have hPD9 : PD D A [(Rd, .inr (4, [.ref Tp, .int (nI ln), .int (nI axx_261), .int (-1), .int (nI htx_4), .int (nI ctx_5), .ref Rv])), (Tp, .inl (g 0, 160, .inl ftp)), (Rv, .inl (g 0, 21, .inl fvalx_251))] H := ⟨hP.sub [1, 2, 0] rfl, hD.sub [1, 2, 0] (by decide) rfl⟩
                                have hP9 := hPD9.1; have hD9 := hPD9.2
                                subst hQ
                                refine W.widen (k := 0) (n := 0) (Nat.le_of_ble_eq_true rfl) (Nat.le_of_ble_eq_true rfl) ?_
                                exact W.vret hx hb hr (fun tS htS _ => ⟨⟨_, rfl, ⟨axx_261, (-1), htx_4, ctx_5, fvalx_251, rfl, ⟨(show axx_261 ≤ ln by omega), (show htx_4 ≤ 3 by omega), (show ctx_5 ≤ 3 by omega), (hf_253), (cl_end hf_7.2.2.2.1.symm (show cl_15 < 7 by omega) (hR_258.trans (itR_no (f := 0) hf_263 (by rw [cb_268]; exact itK_59 _))) (fun q => q.2 cb_268)).1, (cl_end hf_7.2.2.2.1.symm (show cl_15 < 7 by omega) (hR_258.trans (itR_no (f := 0) hf_263 (by rw [cb_268]; exact itK_59 _))) (fun q => q.2 cb_268)).2.1, (fun _ => ⟨(cl_end hf_7.2.2.2.1.symm (show cl_15 < 7 by omega) (hR_258.trans (itR_no (f := 0) hf_263 (by rw [cb_268]; exact itK_59 _))) (fun q => q.2 cb_268)).2.2, show ax < axx_261 by omega⟩)⟩⟩, by rw [htS]; exact hP9, hD9⟩, hS.F htS⟩) hS.2.2 dX4_readClause_52
                          · skip
                            have hP9 := hP; have hD9 := hD
                            subst hQ
                            refine W.widen (k := 0) (n := 0) (Nat.le_of_ble_eq_true rfl) (Nat.le_of_ble_eq_true rfl) ?_
                            exact W.vret hx hb hr (fun tS htS _ => ⟨⟨_, rfl, ⟨axx_249, zfax_250, htx_4, ctx_5, fvalx_251, rfl, ⟨(show axx_249 ≤ ln by omega), (show htx_4 ≤ 3 by omega), (show ctx_5 ≤ 3 by omega), (hf_253), (cl_num hf_7.2.2.2.1.symm (show cl_15 < 7 by omega) ((congrArg Prod.fst hR_234).trans ((itR_w (f := 1) (q := 0) hf_239 (show axx_237 < ln by omega) qi_247 (by decide) (by decide) (fun q => cb_256 (hf_254.trans q))).trans hf_254.symm)) cb_256).1, (cl_num hf_7.2.2.2.1.symm (show cl_15 < 7 by omega) ((congrArg Prod.fst hR_234).trans ((itR_w (f := 1) (q := 0) hf_239 (show axx_237 < ln by omega) qi_247 (by decide) (by decide) (fun q => cb_256 (hf_254.trans q))).trans hf_254.symm)) cb_256).2, (fun q => absurd q cb_256)⟩⟩, by rw [htS]; exact hP9, hD9⟩, hS.F htS⟩) hS.2.2 dX4_readClause_127
                        · skip
                          refine lv_eqi (y := 1) (qi_247) ?_
                          refine lv_istore (lv' := [(5, .int 1), (4, .int 2), (3, .int 6), (2, .int (nI cl_15)), (0, .ref Rd), (1, .int zf)]) hx hb dX4_readClause_69 hl (by decide) rfl (fun ls hl => ?_)
                          refine lv_iload hx hb dX4_readClause_71 (lv_at hl 0 rfl) ?_
                          refine lv_iconst (v := (-1)) hx hb dX4_readClause_73 (by decide) ?_
                          refine lv_icmp_eq (tgt := 86) hx hb dX4_readClause_74 (by decide) (fun cb => absurd cb (by decide)) (fun _ => ?_)
                          refine lv_iload_n hx hb dX4_readClause_77 rfl (lv_at hl 2 rfl) ?_
                          refine lv_iconst (v := 1) hx hb dX4_readClause_78 (by decide) ?_
                          refine lv_iload hx hb dX4_readClause_79 (lv_at hl 0 rfl) ?_
                          refine lv_ishl hx hb dX4_readClause_81 ?_
                          refine lv_eqi (y := 2) (by decide) ?_
                          refine lv_iand hx hb dX4_readClause_82 ?_
                          refine lv_eqi (y := 2) (by decide) ?_
                          refine lv_if_eq (tgt := 95) hx hb dX4_readClause_83 (by decide) (fun cb => absurd cb (by decide)) (fun _ => ?_)
                          refine lv_aload_n hx hb dX4_readClause_86 rfl (lv_at hl 4 rfl) ?_
                          refine lv_aload_n hx hb dX4_readClause_87 rfl (lv_at hl 4 rfl) ?_
                          refine va_get (D := D) (ci := 4) (v := .int (nI axx_237)) (C := RX4) (T := TX4) (N := 7) hx hb hts iX4 hown hK hP 1 rfl rfl 2 (by decide) f28 (fun _ h9 => h9) rfl dX4_readClause_88 ?_
                          refine va_put (D := D) (ci := 4) (v := .int (nI axx_237)) (ty := .int) (C := RX4) (T := TX4) (N := 7) hx hb hts iX4 tyX4 tyX4_ok nmX4 hown hK hP hD hS 1 rfl rfl 3 (by decide) f31 (fun _ h9 => h9) rfl (by decide +kernel) (rfl) (rfl) (Nat.le_of_ble_eq_true rfl) dX4_readClause_91 (fun H locs hP2 hD2 hS2 => ?_)
                          clear hP hD hS
                          have hPD : PD D A [(Rv, .inl (g 0, 21, .inl fvalx_227)), (Rd, .inr (4, [.ref Tp, .int (nI ln), .int (nI axx_237), .int (nI axx_237), .int (nI htx_4), .int (nI ctx_5), .ref Rv])), (Tp, .inl (g 0, 160, .inl ftp))] H := ⟨hP2, hD2⟩
                          have hS := hS2; clear hP2 hD2 hS2; have hP := hPD.1; have hD := hPD.2; clear hPD
                          have hPD9 : PD D A [(Rd, .inr (4, [.ref Tp, .int (nI ln), .int (nI axx_237), .int (nI axx_237), .int (nI htx_4), .int (nI ctx_5), .ref Rv])), (Tp, .inl (g 0, 160, .inl ftp)), (Rv, .inl (g 0, 21, .inl fvalx_227))] H := ⟨hP.sub [1, 2, 0] rfl, hD.sub [1, 2, 0] (by decide) rfl⟩
                          have hP9 := hPD9.1; have hD9 := hPD9.2
                          subst hQ
                          refine W.widen (k := 0) (n := 0) (Nat.le_of_ble_eq_true rfl) (Nat.le_of_ble_eq_true rfl) ?_
                          exact W.vret hx hb hr (fun tS htS _ => ⟨⟨_, rfl, ⟨axx_237, (nI axx_237), htx_4, ctx_5, fvalx_227, rfl, ⟨(show axx_237 ≤ ln by omega), (show htx_4 ≤ 3 by omega), (show ctx_5 ≤ 3 by omega), (hf_229), (cl_bad hf_7.2.2.2.1.symm (show cl_15 < 7 by omega) (hR_234.trans (itR_again (f := 1) (q := 1) hf_239 qi_247 (by decide) (by decide))) (show axx_237 < ln by omega) cb_244).1, (cl_bad hf_7.2.2.2.1.symm (show cl_15 < 7 by omega) (hR_234.trans (itR_again (f := 1) (q := 1) hf_239 qi_247 (by decide) (by decide))) (show axx_237 < ln by omega) cb_244).2, (fun q => absurd q (m1_ne (show axx_237 < 2 ^ 31 by omega)))⟩⟩, by rw [htS]; exact hP9, hD9⟩, hS.F htS⟩) hS.2.2 dX4_readClause_94
                        · skip
                          refine lv_eqi (y := 2) (qi_247) ?_
                          refine lv_istore (lv' := [(5, .int 2), (4, .int 2), (3, .int 6), (2, .int (nI cl_15)), (0, .ref Rd), (1, .int zf)]) hx hb dX4_readClause_69 hl (by decide) rfl (fun ls hl => ?_)
                          refine lv_iload hx hb dX4_readClause_71 (lv_at hl 0 rfl) ?_
                          refine lv_iconst (v := (-1)) hx hb dX4_readClause_73 (by decide) ?_
                          refine lv_icmp_eq (tgt := 86) hx hb dX4_readClause_74 (by decide) (fun cb => absurd cb (by decide)) (fun _ => ?_)
                          refine lv_iload_n hx hb dX4_readClause_77 rfl (lv_at hl 2 rfl) ?_
                          refine lv_iconst (v := 1) hx hb dX4_readClause_78 (by decide) ?_
                          refine lv_iload hx hb dX4_readClause_79 (lv_at hl 0 rfl) ?_
                          refine lv_ishl hx hb dX4_readClause_81 ?_
                          refine lv_eqi (y := 4) (by decide) ?_
                          refine lv_iand hx hb dX4_readClause_82 ?_
                          refine lv_eqi (y := 4) (by decide) ?_
                          refine lv_if_eq (tgt := 95) hx hb dX4_readClause_83 (by decide) (fun cb => absurd cb (by decide)) (fun _ => ?_)
                          refine lv_aload_n hx hb dX4_readClause_86 rfl (lv_at hl 4 rfl) ?_
                          refine lv_aload_n hx hb dX4_readClause_87 rfl (lv_at hl 4 rfl) ?_
                          refine va_get (D := D) (ci := 4) (v := .int (nI axx_237)) (C := RX4) (T := TX4) (N := 7) hx hb hts iX4 hown hK hP 1 rfl rfl 2 (by decide) f28 (fun _ h9 => h9) rfl dX4_readClause_88 ?_
                          refine va_put (D := D) (ci := 4) (v := .int (nI axx_237)) (ty := .int) (C := RX4) (T := TX4) (N := 7) hx hb hts iX4 tyX4 tyX4_ok nmX4 hown hK hP hD hS 1 rfl rfl 3 (by decide) f31 (fun _ h9 => h9) rfl (by decide +kernel) (rfl) (rfl) (Nat.le_of_ble_eq_true rfl) dX4_readClause_91 (fun H locs hP2 hD2 hS2 => ?_)
                          clear hP hD hS
                          have hPD : PD D A [(Rv, .inl (g 0, 21, .inl fvalx_227)), (Rd, .inr (4, [.ref Tp, .int (nI ln), .int (nI axx_237), .int (nI axx_237), .int (nI htx_4), .int (nI ctx_5), .ref Rv])), (Tp, .inl (g 0, 160, .inl ftp))] H := ⟨hP2, hD2⟩
                          have hS := hS2; clear hP2 hD2 hS2; have hP := hPD.1; have hD := hPD.2; clear hPD
                          have hPD9 : PD D A [(Rd, .inr (4, [.ref Tp, .int (nI ln), .int (nI axx_237), .int (nI axx_237), .int (nI htx_4), .int (nI ctx_5), .ref Rv])), (Tp, .inl (g 0, 160, .inl ftp)), (Rv, .inl (g 0, 21, .inl fvalx_227))] H := ⟨hP.sub [1, 2, 0] rfl, hD.sub [1, 2, 0] (by decide) rfl⟩
                          have hP9 := hPD9.1; have hD9 := hPD9.2
                          subst hQ
                          refine W.widen (k := 0) (n := 0) (Nat.le_of_ble_eq_true rfl) (Nat.le_of_ble_eq_true rfl) ?_
                          exact W.vret hx hb hr (fun tS htS _ => ⟨⟨_, rfl, ⟨axx_237, (nI axx_237), htx_4, ctx_5, fvalx_227, rfl, ⟨(show axx_237 ≤ ln by omega), (show htx_4 ≤ 3 by omega), (show ctx_5 ≤ 3 by omega), (hf_229), (cl_bad hf_7.2.2.2.1.symm (show cl_15 < 7 by omega) (hR_234.trans (itR_again (f := 1) (q := 2) hf_239 qi_247 (by decide) (by decide))) (show axx_237 < ln by omega) cb_244).1, (cl_bad hf_7.2.2.2.1.symm (show cl_15 < 7 by omega) (hR_234.trans (itR_again (f := 1) (q := 2) hf_239 qi_247 (by decide) (by decide))) (show axx_237 < ln by omega) cb_244).2, (fun q => absurd q (m1_ne (show axx_237 < 2 ^ 31 by omega)))⟩⟩, by rw [htS]; exact hP9, hD9⟩, hS.F htS⟩) hS.2.2 dX4_readClause_94
                      · skip
                        have hPD9 : PD D A [(Rd, .inr (4, [.ref Tp, .int (nI ln), .int (nI axx_237), .int (-1), .int (nI htx_4), .int (nI ctx_5), .ref Rv])), (Tp, .inl (g 0, 160, .inl ftp)), (Rv, .inl (g 0, 21, .inl fvalx_227))] H := ⟨hP.sub [1, 2, 0] rfl, hD.sub [1, 2, 0] (by decide) rfl⟩
                        have hP9 := hPD9.1; have hD9 := hPD9.2
                        subst hQ
                        refine W.widen (k := 0) (n := 0) (Nat.le_of_ble_eq_true rfl) (Nat.le_of_ble_eq_true rfl) ?_
                        exact W.vret hx hb hr (fun tS htS _ => ⟨⟨_, rfl, ⟨axx_237, (-1), htx_4, ctx_5, fvalx_227, rfl, ⟨(show axx_237 ≤ ln by omega), (show htx_4 ≤ 3 by omega), (show ctx_5 ≤ 3 by omega), (hf_229), (cl_end hf_7.2.2.2.1.symm (show cl_15 < 7 by omega) (hR_234.trans (itR_no (f := 1) hf_239 (by rw [cb_244]; exact itK_59 _))) (fun q => q.2 cb_244)).1, (cl_end hf_7.2.2.2.1.symm (show cl_15 < 7 by omega) (hR_234.trans (itR_no (f := 1) hf_239 (by rw [cb_244]; exact itK_59 _))) (fun q => q.2 cb_244)).2.1, (fun _ => ⟨(cl_end hf_7.2.2.2.1.symm (show cl_15 < 7 by omega) (hR_234.trans (itR_no (f := 1) hf_239 (by rw [cb_244]; exact itK_59 _))) (fun q => q.2 cb_244)).2.2, show ax < axx_237 by omega⟩)⟩⟩, by rw [htS]; exact hP9, hD9⟩, hS.F htS⟩) hS.2.2 dX4_readClause_52
                  · skip
                    have hP9 := hP; have hD9 := hD
                    subst hQ
                    refine W.widen (k := 0) (n := 0) (Nat.le_of_ble_eq_true rfl) (Nat.le_of_ble_eq_true rfl) ?_
                    exact W.vret hx hb hr (fun tS htS _ => ⟨⟨_, rfl, ⟨axx_225, zfax_226, htx_4, ctx_5, fvalx_227, rfl, ⟨(show axx_225 ≤ ln by omega), (show htx_4 ≤ 3 by omega), (show ctx_5 ≤ 3 by omega), (hf_229), (cl_num hf_7.2.2.2.1.symm (show cl_15 < 7 by omega) ((congrArg Prod.fst hR_162).trans ((itR_w (f := 2) (q := 2) hf_167 (show axx_165 < ln by omega) qi_175 (by decide) (by decide) (fun q => cb_232 (hf_230.trans q))).trans hf_230.symm)) cb_232).1, (cl_num hf_7.2.2.2.1.symm (show cl_15 < 7 by omega) ((congrArg Prod.fst hR_162).trans ((itR_w (f := 2) (q := 2) hf_167 (show axx_165 < ln by omega) qi_175 (by decide) (by decide) (fun q => cb_232 (hf_230.trans q))).trans hf_230.symm)) cb_232).2, (fun q => absurd q cb_232)⟩⟩, by rw [htS]; exact hP9, hD9⟩, hS.F htS⟩) hS.2.2 dX4_readClause_127
              · skip
                have hPD9 : PD D A [(Rd, .inr (4, [.ref Tp, .int (nI ln), .int (nI axx_165), .int (-1), .int (nI htx_4), .int (nI ctx_5), .ref Rv])), (Tp, .inl (g 0, 160, .inl ftp)), (Rv, .inl (g 0, 21, .inl fvalx_155))] H := ⟨hP.sub [1, 2, 0] rfl, hD.sub [1, 2, 0] (by decide) rfl⟩
                have hP9 := hPD9.1; have hD9 := hPD9.2
                subst hQ
                refine W.widen (k := 0) (n := 0) (Nat.le_of_ble_eq_true rfl) (Nat.le_of_ble_eq_true rfl) ?_
                exact W.vret hx hb hr (fun tS htS _ => ⟨⟨_, rfl, ⟨axx_165, (-1), htx_4, ctx_5, fvalx_155, rfl, ⟨(show axx_165 ≤ ln by omega), (show htx_4 ≤ 3 by omega), (show ctx_5 ≤ 3 by omega), (hf_157), (cl_end hf_7.2.2.2.1.symm (show cl_15 < 7 by omega) (hR_162.trans (itR_no (f := 2) hf_167 (by rw [cb_172]; exact itK_59 _))) (fun q => q.2 cb_172)).1, (cl_end hf_7.2.2.2.1.symm (show cl_15 < 7 by omega) (hR_162.trans (itR_no (f := 2) hf_167 (by rw [cb_172]; exact itK_59 _))) (fun q => q.2 cb_172)).2.1, (fun _ => ⟨(cl_end hf_7.2.2.2.1.symm (show cl_15 < 7 by omega) (hR_162.trans (itR_no (f := 2) hf_167 (by rw [cb_172]; exact itK_59 _))) (fun q => q.2 cb_172)).2.2, show ax < axx_165 by omega⟩)⟩⟩, by rw [htS]; exact hP9, hD9⟩, hS.F htS⟩) hS.2.2 dX4_readClause_52
          · skip
            have hP9 := hP; have hD9 := hD
            subst hQ
            refine W.widen (k := 0) (n := 0) (Nat.le_of_ble_eq_true rfl) (Nat.le_of_ble_eq_true rfl) ?_
            exact W.vret hx hb hr (fun tS htS _ => ⟨⟨_, rfl, ⟨axx_153, zfax_154, htx_4, ctx_5, fvalx_155, rfl, ⟨(show axx_153 ≤ ln by omega), (show htx_4 ≤ 3 by omega), (show ctx_5 ≤ 3 by omega), (hf_157), (cl_num hf_7.2.2.2.1.symm (show cl_15 < 7 by omega) ((congrArg Prod.fst hR_19).trans ((itR_w (f := 3) (q := 1) hf_23 (show axx_21 < ln by omega) qi_31 (by decide) (by decide) (fun q => cb_160 (hf_158.trans q))).trans hf_158.symm)) cb_160).1, (cl_num hf_7.2.2.2.1.symm (show cl_15 < 7 by omega) ((congrArg Prod.fst hR_19).trans ((itR_w (f := 3) (q := 1) hf_23 (show axx_21 < ln by omega) qi_31 (by decide) (by decide) (fun q => cb_160 (hf_158.trans q))).trans hf_158.symm)) cb_160).2, (fun q => absurd q cb_160)⟩⟩, by rw [htS]; exact hP9, hD9⟩, hS.F htS⟩) hS.2.2 dX4_readClause_127
        · skip
          refine lv_eqi (y := 2) (qi_31) ?_
          refine lv_istore (lv' := [(5, .int 2), (4, .int 0), (3, .int 0), (2, .int (nI cl_15)), (0, .ref Rd), (1, .int zf)]) hx hb dX4_readClause_69 hl (by decide) rfl (fun ls hl => ?_)
          refine lv_iload hx hb dX4_readClause_71 (lv_at hl 0 rfl) ?_
          refine lv_iconst (v := (-1)) hx hb dX4_readClause_73 (by decide) ?_
          refine lv_icmp_eq (tgt := 86) hx hb dX4_readClause_74 (by decide) (fun cb => absurd cb (by decide)) (fun _ => ?_)
          refine lv_iload_n hx hb dX4_readClause_77 rfl (lv_at hl 2 rfl) ?_
          refine lv_iconst (v := 1) hx hb dX4_readClause_78 (by decide) ?_
          refine lv_iload hx hb dX4_readClause_79 (lv_at hl 0 rfl) ?_
          refine lv_ishl hx hb dX4_readClause_81 ?_
          refine lv_eqi (y := 4) (by decide) ?_
          refine lv_iand hx hb dX4_readClause_82 ?_
          refine lv_eqi (y := 0) (by decide) ?_
          refine lv_if_eq (tgt := 95) hx hb dX4_readClause_83 (by decide) (fun _ => ?_) (fun cb => absurd (by decide) cb)
          refine lv_iload_n hx hb dX4_readClause_95 rfl (lv_at hl 2 rfl) ?_
          refine lv_iconst (v := 1) hx hb dX4_readClause_96 (by decide) ?_
          refine lv_iload hx hb dX4_readClause_97 (lv_at hl 0 rfl) ?_
          refine lv_ishl hx hb dX4_readClause_99 ?_
          refine lv_eqi (y := 4) (by decide) ?_
          refine lv_ior hx hb dX4_readClause_100 ?_
          refine lv_eqi (y := 4) (by decide) ?_
          refine lv_istore_n (lv' := [(3, .int 4), (5, .int 2), (4, .int 0), (2, .int (nI cl_15)), (0, .ref Rd), (1, .int zf)]) hx hb dX4_readClause_101 rfl hl (by decide) rfl (fun ls hl => ?_)
          refine lv_aload_n hx hb dX4_readClause_102 rfl (lv_at hl 4 rfl) ?_
          refine lv_dup hx hb dX4_readClause_103 rfl ?_
          refine va_get (D := D) (ci := 4) (v := .int (nI axx_21)) (C := RX4) (T := TX4) (N := 7) hx hb hts iX4 hown hK hP 1 rfl rfl 2 (by decide) f28 (fun _ h9 => h9) rfl dX4_readClause_104 ?_
          refine lv_iconst (v := 1) hx hb dX4_readClause_107 (by decide) ?_
          refine lv_iadd hx hb dX4_readClause_108 ?_
          refine lv_eqi (y := (nI (axx_21 + 1))) (nI_add (axx_21) (1)) ?_
          refine va_put (D := D) (ci := 4) (v := .int (nI (axx_21 + 1))) (ty := .int) (C := RX4) (T := TX4) (N := 7) hx hb hts iX4 tyX4 tyX4_ok nmX4 hown hK hP hD hS 1 rfl rfl 2 (by decide) f28 (fun _ h9 => h9) rfl (by decide +kernel) (rfl) (rfl) (Nat.le_of_ble_eq_true rfl) dX4_readClause_109 (fun H locs hP2 hD2 hS2 => ?_)
          clear hP hD hS
          have hPD : PD D A [(Rv, .inl (g 0, 21, .inl fval)), (Rd, .inr (4, [.ref Tp, .int (nI ln), .int (nI (axx_21 + 1)), .int (-1), .int (nI htx_4), .int (nI ctx_5), .ref Rv])), (Tp, .inl (g 0, 160, .inl ftp))] H := ⟨hP2, hD2⟩
          have hS := hS2; clear hP2 hD2 hS2; have hP := hPD.1; have hD := hPD.2; clear hPD
          refine lv_aload_n hx hb dX4_readClause_112 rfl (lv_at hl 4 rfl) ?_
          refine lv_iload_n hx hb dX4_readClause_113 rfl (lv_at hl 3 rfl) ?_
          refine lv_iload hx hb dX4_readClause_114 (lv_at hl 1 rfl) ?_
          refine ky_Vv (As := [.int (nI cl_15), .int 2]) (rest := []) ⟨hx, hb, hml, hown, hts⟩ ⟨hK, hN⟩ hZ hP hD hS hA [1, 2, 0] [] (wc := [(Rd, .inr (4, [.ref Tp, .int (nI ln), .int (nI (axx_21 + 1)), .int (-1), .int (nI htx_4), .int (nI ctx_5), .ref Rv])), (Tp, .inl (g 0, 160, .inl ftp)), (Rv, .inl (g 0, 21, .inl fval))]) (wr := []) rfl rfl rfl rfl (by decide) (r_X4_readNumber l D g H.size Rd cl_15 2 Tp ln (axx_21 + 1) htx_4 ctx_5 Rv ftp fval (show ln ≤ 160 by omega) (show (axx_21 + 1) ≤ ln by omega) (h4) (show cl_15 < 7 by omega) (show 2 < 3 by omega)) (cwV 2 hts gX4_readClause_X4_readNumber rfl rfl rfl (by decide +kernel) ⟨(Nat.le_of_ble_eq_true rfl), (Nat.le_of_ble_eq_true rfl)⟩) 1 4 rfl rfl rfl rfl hl.1 rfl (Nat.le_of_ble_eq_true rfl) dX4_readClause_116 ⟨(Nat.le_of_ble_eq_true rfl), (Nat.le_of_ble_eq_true rfl)⟩ (fun u H locs hw hP2 hD2 hS2 => ?_)
          clear hP hD hS
          obtain ⟨axx_273, zfax_274, fvalx_275, rfl, hf_276, hf_277, hf_278, hf_279⟩ := hw
          have hPD : PD D A [(Rd, .inr (4, [.ref Tp, .int (nI ln), .int (nI axx_273), .int zfax_274, .int (nI htx_4), .int (nI ctx_5), .ref Rv])), (Tp, .inl (g 0, 160, .inl ftp)), (Rv, .inl (g 0, 21, .inl fvalx_275))] H := ⟨hP2, hD2⟩
          have hS := hS2; clear hP2 hD2 hS2; have hP := hPD.1; have hD := hPD.2; clear hPD
          refine W.widen (k := 0) (n := 0) (Nat.le_of_ble_eq_true rfl) (Nat.le_of_ble_eq_true rfl) ?_
          refine lv_aload_n hx hb dX4_readClause_119 rfl (lv_at hl 4 rfl) ?_
          refine va_get (D := D) (ci := 4) (v := .int zfax_274) (C := RX4) (T := TX4) (N := 7) hx hb hts iX4 hown hK hP 0 rfl rfl 3 (by decide) f31 (fun _ h9 => h9) rfl dX4_readClause_120 ?_
          refine lv_iconst (v := (-1)) hx hb dX4_readClause_123 (by decide) ?_
          refine lv_icmp_eq (tgt := 128) hx hb dX4_readClause_124 (by decide) (fun cb_280 => ?_) (fun cb_280 => ?_)
          · skip
            have hPq_281 := hP; have hDq_281 := hD; have hSq_281 := hS; have hlq_281 := hl; clear hP hD hS hl
            subst cb_280
            have hP := hPq_281; have hD := hDq_281; have hS := hSq_281; have hl := hlq_281; clear hPq_281 hDq_281 hSq_281 hlq_281
            have hne_283 := (hf_279 rfl).1
            have hne_283g := nmE_gt (T := ftp) (n := ln) (i := axx_21 + 1) (by omega)
            have hR_282 : itR ftp ln (kdN cl_15) 4 0 (sB ftp ln ax + 1) = itR ftp ln (kdN cl_15) 3 4 axx_273 := hR_19.trans ((itR_go (f := 3) (m := 0) (q := 2) hf_23 (show axx_21 < ln by omega) qi_31 (by decide) (by decide) hf_278.symm).trans (by rw [hne_283]))
            refine lv_iinc (v := 1) (lv' := [(4, .int 1), (3, .int 4), (5, .int 2), (2, .int (nI cl_15)), (0, .ref Rd), (1, .int zf)]) hx hb dX4_readClause_128 hl (k := 2) rfl (by decide) (by decide) rfl (fun ls hl => ?_)
            refine lv_goto (tgt := 17) hx hb dX4_readClause_131 (by decide) ?_
            refine lv_iload hx hb dX4_readClause_17 (lv_at hl 0 rfl) ?_
            refine lv_iconst (v := 3) hx hb dX4_readClause_19 (by decide) ?_
            refine lv_icmp_gt (tgt := 134) hx hb dX4_readClause_20 (by decide) (fun cb => absurd cb (by decide)) (fun _ => ?_)
            refine lv_aload_n hx hb dX4_readClause_23 rfl (lv_at hl 4 rfl) ?_
            refine ky_Vv (As := []) (rest := []) ⟨hx, hb, hml, hown, hts⟩ ⟨hK, hN⟩ hZ hP hD hS hA [0, 1] [2] (wc := [(Rd, .inr (4, [.ref Tp, .int (nI ln), .int (nI axx_273), .int (-1), .int (nI htx_4), .int (nI ctx_5), .ref Rv])), (Tp, .inl (g 0, 160, .inl ftp))]) (wr := [(Rv, .inl (g 0, 21, .inl fvalx_275))]) rfl rfl rfl rfl (by decide) (r_X4_passBlanks l D g H.size Rd Tp ln axx_273 (-1) htx_4 ctx_5 Rv ftp (show ln ≤ 160 by omega) (show axx_273 ≤ ln by omega)) (cwV 0 hts gX4_readClause_X4_passBlanks rfl rfl rfl (by decide +kernel) ⟨(Nat.le_of_ble_eq_true rfl), (Nat.le_of_ble_eq_true rfl)⟩) 0 4 rfl rfl rfl rfl hl.1 rfl (Nat.le_of_ble_eq_true rfl) dX4_readClause_24 ⟨(Nat.le_of_ble_eq_true rfl), (Nat.le_of_ble_eq_true rfl)⟩ (fun u H locs hw hP2 hD2 hS2 => ?_)
            clear hP hD hS
            obtain ⟨axx_285, rfl, hf_286, hf_287⟩ := hw
            have hPD : PD D A [(Rv, .inl (g 0, 21, .inl fvalx_275)), (Rd, .inr (4, [.ref Tp, .int (nI ln), .int (nI axx_285), .int (-1), .int (nI htx_4), .int (nI ctx_5), .ref Rv])), (Tp, .inl (g 0, 160, .inl ftp))] H := ⟨hP2, hD2⟩
            have hS := hS2; clear hP2 hD2 hS2; have hP := hPD.1; have hD := hPD.2; clear hPD
            refine W.widen (k := 0) (n := 0) (Nat.le_of_ble_eq_true rfl) (Nat.le_of_ble_eq_true rfl) ?_
            have hge_288 := sB_ge (T := ftp) (n := ln) (i := axx_273) (by omega)
            refine lv_aload_n hx hb dX4_readClause_27 rfl (lv_at hl 4 rfl) ?_
            refine va_get (D := D) (ci := 4) (v := .int (nI axx_285)) (C := RX4) (T := TX4) (N := 7) hx hb hts iX4 hown hK hP 1 rfl rfl 2 (by decide) f28 (fun _ h9 => h9) rfl dX4_readClause_28 ?_
            refine lv_aload_n hx hb dX4_readClause_31 rfl (lv_at hl 4 rfl) ?_
            refine va_get (D := D) (ci := 4) (v := .int (nI ln)) (C := RX4) (T := TX4) (N := 7) hx hb hts iX4 hown hK hP 1 rfl rfl 1 (by decide) f24 (fun _ h9 => h9) rfl dX4_readClause_32 ?_
            refine lv_icmp_ge (tgt := 52) hx hb dX4_readClause_35 (by decide) (fun cb_289 => ?_) (fun cb_289 => ?_)
            · skip
              have cn_290 : ln ≤ axx_285 := (nI_leI (show ln < 2 ^ 31 by omega) (show axx_285 < 2 ^ 31 by omega)).mp cb_289
              have hPD9 : PD D A [(Rd, .inr (4, [.ref Tp, .int (nI ln), .int (nI axx_285), .int (-1), .int (nI htx_4), .int (nI ctx_5), .ref Rv])), (Tp, .inl (g 0, 160, .inl ftp)), (Rv, .inl (g 0, 21, .inl fvalx_275))] H := ⟨hP.sub [1, 2, 0] rfl, hD.sub [1, 2, 0] (by decide) rfl⟩
              have hP9 := hPD9.1; have hD9 := hPD9.2
              subst hQ
              refine W.widen (k := 0) (n := 0) (Nat.le_of_ble_eq_true rfl) (Nat.le_of_ble_eq_true rfl) ?_
              exact W.vret hx hb hr (fun tS htS _ => ⟨⟨_, rfl, ⟨axx_285, (-1), htx_4, ctx_5, fvalx_275, rfl, ⟨(show axx_285 ≤ ln by omega), (show htx_4 ≤ 3 by omega), (show ctx_5 ≤ 3 by omega), (hf_277), (cl_end hf_7.2.2.2.1.symm (show cl_15 < 7 by omega) (hR_282.trans (itR_end (f := 2) hf_287 (show ¬ axx_285 < ln by omega))) (fun q => absurd q.1 (show ¬ axx_285 < ln by omega))).1, (cl_end hf_7.2.2.2.1.symm (show cl_15 < 7 by omega) (hR_282.trans (itR_end (f := 2) hf_287 (show ¬ axx_285 < ln by omega))) (fun q => absurd q.1 (show ¬ axx_285 < ln by omega))).2.1, (fun _ => ⟨(cl_end hf_7.2.2.2.1.symm (show cl_15 < 7 by omega) (hR_282.trans (itR_end (f := 2) hf_287 (show ¬ axx_285 < ln by omega))) (fun q => absurd q.1 (show ¬ axx_285 < ln by omega))).2.2, show ax < axx_285 by omega⟩)⟩⟩, by rw [htS]; exact hP9, hD9⟩, hS.F htS⟩) hS.2.2 dX4_readClause_52
            · skip
              have cn_291 : axx_285 < ln := Nat.lt_of_not_le (fun q9 => cb_289 ((nI_leI (show ln < 2 ^ 31 by omega) (show axx_285 < 2 ^ 31 by omega)).mpr q9))
              refine lv_aload_n hx hb dX4_readClause_38 rfl (lv_at hl 4 rfl) ?_
              refine va_get (D := D) (ci := 4) (v := .ref Tp) (C := RX4) (T := TX4) (N := 7) hx hb hts iX4 hown hK hP 1 rfl rfl 0 (by decide) f9 (fun _ h9 => h9) rfl dX4_readClause_39 ?_
              refine lv_aload_n hx hb dX4_readClause_42 rfl (lv_at hl 4 rfl) ?_
              refine va_get (D := D) (ci := 4) (v := .int (nI axx_285)) (C := RX4) (T := TX4) (N := 7) hx hb hts iX4 hown hK hP 1 rfl rfl 2 (by decide) f28 (fun _ h9 => h9) rfl dX4_readClause_43 ?_
              refine va_iald hx hb hK hP 2 0 rfl rfl (vp_in_nI (show axx_285 < 160 by omega) (by decide)) dX4_readClause_46 ?_
              refine lv_eqi (y := (ftp (axx_285))) (congrArg ftp (nI_clamp (show axx_285 < 2 ^ 31 by omega))) ?_
              refine lv_bipush (v := 59) hx hb dX4_readClause_47 (by decide) ?_
              refine lv_icmp_ne (tgt := 53) hx hb dX4_readClause_49 (by decide) (fun cb_292 => ?_) (fun cb_292 => ?_)
              · skip
                refine lv_iload_n hx hb dX4_readClause_53 rfl (lv_at hl 3 rfl) ?_
                refine ky_Si (As := [.int (nI cl_15)]) (rest := []) ⟨hx, hb, hml, hown, hts⟩ ⟨hK, hN⟩ hZ hP hD hS hA [] [0, 1, 2] (wc := []) (wr := [(Rv, .inl (g 0, 21, .inl fvalx_275)), (Rd, .inr (4, [.ref Tp, .int (nI ln), .int (nI axx_285), .int (-1), .int (nI htx_4), .int (nI ctx_5), .ref Rv])), (Tp, .inl (g 0, 160, .inl ftp))]) rfl rfl rfl rfl (by decide) (r_X4_kindOf l D g H.size cl_15 (show cl_15 < 7 by omega)) (va_cwS 1 hts gX4_readClause_X4_kindOf rfl rfl rfl (by decide +kernel) ⟨(Nat.le_of_ble_eq_true rfl), (Nat.le_of_ble_eq_true rfl)⟩) rfl hl.1 rfl (Nat.le_of_ble_eq_true rfl) dX4_readClause_54 ⟨(Nat.le_of_ble_eq_true rfl), (Nat.le_of_ble_eq_true rfl)⟩ (fun r_293 u H locs hw hP2 hD2 hS2 => ?_)
                clear hP hD hS
                obtain ⟨rfl, rfl⟩ := hw
                have hPD : PD D A [(Rv, .inl (g 0, 21, .inl fvalx_275)), (Rd, .inr (4, [.ref Tp, .int (nI ln), .int (nI axx_285), .int (-1), .int (nI htx_4), .int (nI ctx_5), .ref Rv])), (Tp, .inl (g 0, 160, .inl ftp))] H := ⟨hP2, hD2⟩
                have hS := hS2; clear hP2 hD2 hS2; have hP := hPD.1; have hD := hPD.2; clear hPD
                refine W.widen (k := 0) (n := 0) (Nat.le_of_ble_eq_true rfl) (Nat.le_of_ble_eq_true rfl) ?_
                refine lv_aload_n hx hb dX4_readClause_57 rfl (lv_at hl 4 rfl) ?_
                refine va_get (D := D) (ci := 4) (v := .ref Tp) (C := RX4) (T := TX4) (N := 7) hx hb hts iX4 hown hK hP 1 rfl rfl 0 (by decide) f9 (fun _ h9 => h9) rfl dX4_readClause_58 ?_
                refine lv_aload_n hx hb dX4_readClause_61 rfl (lv_at hl 4 rfl) ?_
                refine va_get (D := D) (ci := 4) (v := .int (nI axx_285)) (C := RX4) (T := TX4) (N := 7) hx hb hts iX4 hown hK hP 1 rfl rfl 2 (by decide) f28 (fun _ h9 => h9) rfl dX4_readClause_62 ?_
                refine va_iald hx hb hK hP 2 0 rfl rfl (vp_in_nI (show axx_285 < 160 by omega) (by decide)) dX4_readClause_65 ?_
                refine lv_eqi (y := (ftp (axx_285))) (congrArg ftp (nI_clamp (show axx_285 < 2 ^ 31 by omega))) ?_
                refine ky_Si (As := [.int (nI (kdN cl_15)), .int (ftp (axx_285))]) (rest := []) ⟨hx, hb, hml, hown, hts⟩ ⟨hK, hN⟩ hZ hP hD hS hA [] [0, 1, 2] (wc := []) (wr := [(Rv, .inl (g 0, 21, .inl fvalx_275)), (Rd, .inr (4, [.ref Tp, .int (nI ln), .int (nI axx_285), .int (-1), .int (nI htx_4), .int (nI ctx_5), .ref Rv])), (Tp, .inl (g 0, 160, .inl ftp))]) rfl rfl rfl rfl (by decide) (r_X4_itemOf l D g H.size (kdN cl_15) (ftp (axx_285)) (show (kdN cl_15) < 3 by omega)) (va_cwS 2 hts gX4_readClause_X4_itemOf rfl rfl rfl (by decide +kernel) ⟨(Nat.le_of_ble_eq_true rfl), (Nat.le_of_ble_eq_true rfl)⟩) rfl hl.1 rfl (Nat.le_of_ble_eq_true rfl) dX4_readClause_66 ⟨(Nat.le_of_ble_eq_true rfl), (Nat.le_of_ble_eq_true rfl)⟩ (fun r_294 u H locs hw hP2 hD2 hS2 => ?_)
                clear hP hD hS
                obtain ⟨rfl, rfl⟩ := hw
                have hPD : PD D A [(Rv, .inl (g 0, 21, .inl fvalx_275)), (Rd, .inr (4, [.ref Tp, .int (nI ln), .int (nI axx_285), .int (-1), .int (nI htx_4), .int (nI ctx_5), .ref Rv])), (Tp, .inl (g 0, 160, .inl ftp))] H := ⟨hP2, hD2⟩
                have hS := hS2; clear hP2 hD2 hS2; have hP := hPD.1; have hD := hPD.2; clear hPD
                refine W.widen (k := 0) (n := 0) (Nat.le_of_ble_eq_true rfl) (Nat.le_of_ble_eq_true rfl) ?_
                rcases itK_c (kdN cl_15) (ftp (axx_285)) with qi_295 | qi_295 | qi_295 | qi_295
                · skip
                  refine lv_eqi (y := (-1)) (qi_295) ?_
                  refine lv_istore (lv' := [(5, .int (-1)), (4, .int 1), (3, .int 4), (2, .int (nI cl_15)), (0, .ref Rd), (1, .int zf)]) hx hb dX4_readClause_69 hl (by decide) rfl (fun ls hl => ?_)
                  refine lv_iload hx hb dX4_readClause_71 (lv_at hl 0 rfl) ?_
                  refine lv_iconst (v := (-1)) hx hb dX4_readClause_73 (by decide) ?_
                  refine lv_icmp_eq (tgt := 86) hx hb dX4_readClause_74 (by decide) (fun _ => ?_) (fun cb => absurd (by decide) cb)
                  refine lv_aload_n hx hb dX4_readClause_86 rfl (lv_at hl 4 rfl) ?_
                  refine lv_aload_n hx hb dX4_readClause_87 rfl (lv_at hl 4 rfl) ?_
                  refine va_get (D := D) (ci := 4) (v := .int (nI axx_285)) (C := RX4) (T := TX4) (N := 7) hx hb hts iX4 hown hK hP 1 rfl rfl 2 (by decide) f28 (fun _ h9 => h9) rfl dX4_readClause_88 ?_
                  refine va_put (D := D) (ci := 4) (v := .int (nI axx_285)) (ty := .int) (C := RX4) (T := TX4) (N := 7) hx hb hts iX4 tyX4 tyX4_ok nmX4 hown hK hP hD hS 1 rfl rfl 3 (by decide) f31 (fun _ h9 => h9) rfl (by decide +kernel) (rfl) (rfl) (Nat.le_of_ble_eq_true rfl) dX4_readClause_91 (fun H locs hP2 hD2 hS2 => ?_)
                  clear hP hD hS
                  have hPD : PD D A [(Rv, .inl (g 0, 21, .inl fvalx_275)), (Rd, .inr (4, [.ref Tp, .int (nI ln), .int (nI axx_285), .int (nI axx_285), .int (nI htx_4), .int (nI ctx_5), .ref Rv])), (Tp, .inl (g 0, 160, .inl ftp))] H := ⟨hP2, hD2⟩
                  have hS := hS2; clear hP2 hD2 hS2; have hP := hPD.1; have hD := hPD.2; clear hPD
                  have hPD9 : PD D A [(Rd, .inr (4, [.ref Tp, .int (nI ln), .int (nI axx_285), .int (nI axx_285), .int (nI htx_4), .int (nI ctx_5), .ref Rv])), (Tp, .inl (g 0, 160, .inl ftp)), (Rv, .inl (g 0, 21, .inl fvalx_275))] H := ⟨hP.sub [1, 2, 0] rfl, hD.sub [1, 2, 0] (by decide) rfl⟩
                  have hP9 := hPD9.1; have hD9 := hPD9.2
                  subst hQ
                  refine W.widen (k := 0) (n := 0) (Nat.le_of_ble_eq_true rfl) (Nat.le_of_ble_eq_true rfl) ?_
                  exact W.vret hx hb hr (fun tS htS _ => ⟨⟨_, rfl, ⟨axx_285, (nI axx_285), htx_4, ctx_5, fvalx_275, rfl, ⟨(show axx_285 ≤ ln by omega), (show htx_4 ≤ 3 by omega), (show ctx_5 ≤ 3 by omega), (hf_277), (cl_bad hf_7.2.2.2.1.symm (show cl_15 < 7 by omega) (hR_282.trans (itR_no (f := 2) hf_287 qi_295)) (show axx_285 < ln by omega) cb_292).1, (cl_bad hf_7.2.2.2.1.symm (show cl_15 < 7 by omega) (hR_282.trans (itR_no (f := 2) hf_287 qi_295)) (show axx_285 < ln by omega) cb_292).2, (fun q => absurd q (m1_ne (show axx_285 < 2 ^ 31 by omega)))⟩⟩, by rw [htS]; exact hP9, hD9⟩, hS.F htS⟩) hS.2.2 dX4_readClause_94
                · skip
                  refine lv_eqi (y := 0) (qi_295) ?_
                  refine lv_istore (lv' := [(5, .int 0), (4, .int 1), (3, .int 4), (2, .int (nI cl_15)), (0, .ref Rd), (1, .int zf)]) hx hb dX4_readClause_69 hl (by decide) rfl (fun ls hl => ?_)
                  refine lv_iload hx hb dX4_readClause_71 (lv_at hl 0 rfl) ?_
                  refine lv_iconst (v := (-1)) hx hb dX4_readClause_73 (by decide) ?_
                  refine lv_icmp_eq (tgt := 86) hx hb dX4_readClause_74 (by decide) (fun cb => absurd cb (by decide)) (fun _ => ?_)
                  refine lv_iload_n hx hb dX4_readClause_77 rfl (lv_at hl 2 rfl) ?_
                  refine lv_iconst (v := 1) hx hb dX4_readClause_78 (by decide) ?_
                  refine lv_iload hx hb dX4_readClause_79 (lv_at hl 0 rfl) ?_
                  refine lv_ishl hx hb dX4_readClause_81 ?_
                  refine lv_eqi (y := 1) (by decide) ?_
                  refine lv_iand hx hb dX4_readClause_82 ?_
                  refine lv_eqi (y := 0) (by decide) ?_
                  refine lv_if_eq (tgt := 95) hx hb dX4_readClause_83 (by decide) (fun _ => ?_) (fun cb => absurd (by decide) cb)
                  refine lv_iload_n hx hb dX4_readClause_95 rfl (lv_at hl 2 rfl) ?_
                  refine lv_iconst (v := 1) hx hb dX4_readClause_96 (by decide) ?_
                  refine lv_iload hx hb dX4_readClause_97 (lv_at hl 0 rfl) ?_
                  refine lv_ishl hx hb dX4_readClause_99 ?_
                  refine lv_eqi (y := 1) (by decide) ?_
                  refine lv_ior hx hb dX4_readClause_100 ?_
                  refine lv_eqi (y := 5) (by decide) ?_
                  refine lv_istore_n (lv' := [(3, .int 5), (5, .int 0), (4, .int 1), (2, .int (nI cl_15)), (0, .ref Rd), (1, .int zf)]) hx hb dX4_readClause_101 rfl hl (by decide) rfl (fun ls hl => ?_)
                  refine lv_aload_n hx hb dX4_readClause_102 rfl (lv_at hl 4 rfl) ?_
                  refine lv_dup hx hb dX4_readClause_103 rfl ?_
                  refine va_get (D := D) (ci := 4) (v := .int (nI axx_285)) (C := RX4) (T := TX4) (N := 7) hx hb hts iX4 hown hK hP 1 rfl rfl 2 (by decide) f28 (fun _ h9 => h9) rfl dX4_readClause_104 ?_
                  refine lv_iconst (v := 1) hx hb dX4_readClause_107 (by decide) ?_
                  refine lv_iadd hx hb dX4_readClause_108 ?_
                  refine lv_eqi (y := (nI (axx_285 + 1))) (nI_add (axx_285) (1)) ?_
                  refine va_put (D := D) (ci := 4) (v := .int (nI (axx_285 + 1))) (ty := .int) (C := RX4) (T := TX4) (N := 7) hx hb hts iX4 tyX4 tyX4_ok nmX4 hown hK hP hD hS 1 rfl rfl 2 (by decide) f28 (fun _ h9 => h9) rfl (by decide +kernel) (rfl) (rfl) (Nat.le_of_ble_eq_true rfl) dX4_readClause_109 (fun H locs hP2 hD2 hS2 => ?_)
                  clear hP hD hS
                  have hPD : PD D A [(Rv, .inl (g 0, 21, .inl fvalx_275)), (Rd, .inr (4, [.ref Tp, .int (nI ln), .int (nI (axx_285 + 1)), .int (-1), .int (nI htx_4), .int (nI ctx_5), .ref Rv])), (Tp, .inl (g 0, 160, .inl ftp))] H := ⟨hP2, hD2⟩
                  have hS := hS2; clear hP2 hD2 hS2; have hP := hPD.1; have hD := hPD.2; clear hPD
                  refine lv_aload_n hx hb dX4_readClause_112 rfl (lv_at hl 4 rfl) ?_
                  refine lv_iload_n hx hb dX4_readClause_113 rfl (lv_at hl 3 rfl) ?_
                  refine lv_iload hx hb dX4_readClause_114 (lv_at hl 1 rfl) ?_
                  refine ky_Vv (As := [.int (nI cl_15), .int 0]) (rest := []) ⟨hx, hb, hml, hown, hts⟩ ⟨hK, hN⟩ hZ hP hD hS hA [1, 2, 0] [] (wc := [(Rd, .inr (4, [.ref Tp, .int (nI ln), .int (nI (axx_285 + 1)), .int (-1), .int (nI htx_4), .int (nI ctx_5), .ref Rv])), (Tp, .inl (g 0, 160, .inl ftp)), (Rv, .inl (g 0, 21, .inl fvalx_275))]) (wr := []) rfl rfl rfl rfl (by decide) (r_X4_readNumber l D g H.size Rd cl_15 0 Tp ln (axx_285 + 1) htx_4 ctx_5 Rv ftp fvalx_275 (show ln ≤ 160 by omega) (show (axx_285 + 1) ≤ ln by omega) (hf_277) (show cl_15 < 7 by omega) (show 0 < 3 by omega)) (cwV 2 hts gX4_readClause_X4_readNumber rfl rfl rfl (by decide +kernel) ⟨(Nat.le_of_ble_eq_true rfl), (Nat.le_of_ble_eq_true rfl)⟩) 1 4 rfl rfl rfl rfl hl.1 rfl (Nat.le_of_ble_eq_true rfl) dX4_readClause_116 ⟨(Nat.le_of_ble_eq_true rfl), (Nat.le_of_ble_eq_true rfl)⟩ (fun u H locs hw hP2 hD2 hS2 => ?_)
                  clear hP hD hS
                  obtain ⟨axx_297, zfax_298, fvalx_299, rfl, hf_300, hf_301, hf_302, hf_303⟩ := hw
                  have hPD : PD D A [(Rd, .inr (4, [.ref Tp, .int (nI ln), .int (nI axx_297), .int zfax_298, .int (nI htx_4), .int (nI ctx_5), .ref Rv])), (Tp, .inl (g 0, 160, .inl ftp)), (Rv, .inl (g 0, 21, .inl fvalx_299))] H := ⟨hP2, hD2⟩
                  have hS := hS2; clear hP2 hD2 hS2; have hP := hPD.1; have hD := hPD.2; clear hPD
                  refine W.widen (k := 0) (n := 0) (Nat.le_of_ble_eq_true rfl) (Nat.le_of_ble_eq_true rfl) ?_
                  refine lv_aload_n hx hb dX4_readClause_119 rfl (lv_at hl 4 rfl) ?_
                  refine va_get (D := D) (ci := 4) (v := .int zfax_298) (C := RX4) (T := TX4) (N := 7) hx hb hts iX4 hown hK hP 0 rfl rfl 3 (by decide) f31 (fun _ h9 => h9) rfl dX4_readClause_120 ?_
                  refine lv_iconst (v := (-1)) hx hb dX4_readClause_123 (by decide) ?_
                  refine lv_icmp_eq (tgt := 128) hx hb dX4_readClause_124 (by decide) (fun cb_304 => ?_) (fun cb_304 => ?_)
                  · skip
                    have hPq_305 := hP; have hDq_305 := hD; have hSq_305 := hS; have hlq_305 := hl; clear hP hD hS hl
                    subst cb_304
                    have hP := hPq_305; have hD := hDq_305; have hS := hSq_305; have hl := hlq_305; clear hPq_305 hDq_305 hSq_305 hlq_305
                    have hne_307 := (hf_303 rfl).1
                    have hne_307g := nmE_gt (T := ftp) (n := ln) (i := axx_285 + 1) (by omega)
                    have hR_306 : itR ftp ln (kdN cl_15) 4 0 (sB ftp ln ax + 1) = itR ftp ln (kdN cl_15) 2 5 axx_297 := hR_282.trans ((itR_go (f := 2) (m := 4) (q := 0) hf_287 (show axx_285 < ln by omega) qi_295 (by decide) (by decide) hf_302.symm).trans (by rw [hne_307]))
                    refine lv_iinc (v := 2) (lv' := [(4, .int 2), (3, .int 5), (5, .int 0), (2, .int (nI cl_15)), (0, .ref Rd), (1, .int zf)]) hx hb dX4_readClause_128 hl (k := 2) rfl (by decide) (by decide) rfl (fun ls hl => ?_)
                    refine lv_goto (tgt := 17) hx hb dX4_readClause_131 (by decide) ?_
                    refine lv_iload hx hb dX4_readClause_17 (lv_at hl 0 rfl) ?_
                    refine lv_iconst (v := 3) hx hb dX4_readClause_19 (by decide) ?_
                    refine lv_icmp_gt (tgt := 134) hx hb dX4_readClause_20 (by decide) (fun cb => absurd cb (by decide)) (fun _ => ?_)
                    refine lv_aload_n hx hb dX4_readClause_23 rfl (lv_at hl 4 rfl) ?_
                    refine ky_Vv (As := []) (rest := []) ⟨hx, hb, hml, hown, hts⟩ ⟨hK, hN⟩ hZ hP hD hS hA [0, 1] [2] (wc := [(Rd, .inr (4, [.ref Tp, .int (nI ln), .int (nI axx_297), .int (-1), .int (nI htx_4), .int (nI ctx_5), .ref Rv])), (Tp, .inl (g 0, 160, .inl ftp))]) (wr := [(Rv, .inl (g 0, 21, .inl fvalx_299))]) rfl rfl rfl rfl (by decide) (r_X4_passBlanks l D g H.size Rd Tp ln axx_297 (-1) htx_4 ctx_5 Rv ftp (show ln ≤ 160 by omega) (show axx_297 ≤ ln by omega)) (cwV 0 hts gX4_readClause_X4_passBlanks rfl rfl rfl (by decide +kernel) ⟨(Nat.le_of_ble_eq_true rfl), (Nat.le_of_ble_eq_true rfl)⟩) 0 4 rfl rfl rfl rfl hl.1 rfl (Nat.le_of_ble_eq_true rfl) dX4_readClause_24 ⟨(Nat.le_of_ble_eq_true rfl), (Nat.le_of_ble_eq_true rfl)⟩ (fun u H locs hw hP2 hD2 hS2 => ?_)
                    clear hP hD hS
                    obtain ⟨axx_309, rfl, hf_310, hf_311⟩ := hw
                    have hPD : PD D A [(Rv, .inl (g 0, 21, .inl fvalx_299)), (Rd, .inr (4, [.ref Tp, .int (nI ln), .int (nI axx_309), .int (-1), .int (nI htx_4), .int (nI ctx_5), .ref Rv])), (Tp, .inl (g 0, 160, .inl ftp))] H := ⟨hP2, hD2⟩
                    have hS := hS2; clear hP2 hD2 hS2; have hP := hPD.1; have hD := hPD.2; clear hPD
                    refine W.widen (k := 0) (n := 0) (Nat.le_of_ble_eq_true rfl) (Nat.le_of_ble_eq_true rfl) ?_
                    have hge_312 := sB_ge (T := ftp) (n := ln) (i := axx_297) (by omega)
                    refine lv_aload_n hx hb dX4_readClause_27 rfl (lv_at hl 4 rfl) ?_
                    refine va_get (D := D) (ci := 4) (v := .int (nI axx_309)) (C := RX4) (T := TX4) (N := 7) hx hb hts iX4 hown hK hP 1 rfl rfl 2 (by decide) f28 (fun _ h9 => h9) rfl dX4_readClause_28 ?_
                    refine lv_aload_n hx hb dX4_readClause_31 rfl (lv_at hl 4 rfl) ?_
                    refine va_get (D := D) (ci := 4) (v := .int (nI ln)) (C := RX4) (T := TX4) (N := 7) hx hb hts iX4 hown hK hP 1 rfl rfl 1 (by decide) f24 (fun _ h9 => h9) rfl dX4_readClause_32 ?_
                    refine lv_icmp_ge (tgt := 52) hx hb dX4_readClause_35 (by decide) (fun cb_313 => ?_) (fun cb_313 => ?_)
                    · skip
                      have cn_314 : ln ≤ axx_309 := (nI_leI (show ln < 2 ^ 31 by omega) (show axx_309 < 2 ^ 31 by omega)).mp cb_313
                      have hPD9 : PD D A [(Rd, .inr (4, [.ref Tp, .int (nI ln), .int (nI axx_309), .int (-1), .int (nI htx_4), .int (nI ctx_5), .ref Rv])), (Tp, .inl (g 0, 160, .inl ftp)), (Rv, .inl (g 0, 21, .inl fvalx_299))] H := ⟨hP.sub [1, 2, 0] rfl, hD.sub [1, 2, 0] (by decide) rfl⟩
                      have hP9 := hPD9.1; have hD9 := hPD9.2
                      subst hQ
                      refine W.widen (k := 0) (n := 0) (Nat.le_of_ble_eq_true rfl) (Nat.le_of_ble_eq_true rfl) ?_
                      exact W.vret hx hb hr (fun tS htS _ => ⟨⟨_, rfl, ⟨axx_309, (-1), htx_4, ctx_5, fvalx_299, rfl, ⟨(show axx_309 ≤ ln by omega), (show htx_4 ≤ 3 by omega), (show ctx_5 ≤ 3 by omega), (hf_301), (cl_end hf_7.2.2.2.1.symm (show cl_15 < 7 by omega) (hR_306.trans (itR_end (f := 1) hf_311 (show ¬ axx_309 < ln by omega))) (fun q => absurd q.1 (show ¬ axx_309 < ln by omega))).1, (cl_end hf_7.2.2.2.1.symm (show cl_15 < 7 by omega) (hR_306.trans (itR_end (f := 1) hf_311 (show ¬ axx_309 < ln by omega))) (fun q => absurd q.1 (show ¬ axx_309 < ln by omega))).2.1, (fun _ => ⟨(cl_end hf_7.2.2.2.1.symm (show cl_15 < 7 by omega) (hR_306.trans (itR_end (f := 1) hf_311 (show ¬ axx_309 < ln by omega))) (fun q => absurd q.1 (show ¬ axx_309 < ln by omega))).2.2, show ax < axx_309 by omega⟩)⟩⟩, by rw [htS]; exact hP9, hD9⟩, hS.F htS⟩) hS.2.2 dX4_readClause_52
                    · skip
                      have cn_315 : axx_309 < ln := Nat.lt_of_not_le (fun q9 => cb_313 ((nI_leI (show ln < 2 ^ 31 by omega) (show axx_309 < 2 ^ 31 by omega)).mpr q9))
                      refine lv_aload_n hx hb dX4_readClause_38 rfl (lv_at hl 4 rfl) ?_
                      refine va_get (D := D) (ci := 4) (v := .ref Tp) (C := RX4) (T := TX4) (N := 7) hx hb hts iX4 hown hK hP 1 rfl rfl 0 (by decide) f9 (fun _ h9 => h9) rfl dX4_readClause_39 ?_
                      refine lv_aload_n hx hb dX4_readClause_42 rfl (lv_at hl 4 rfl) ?_
                      refine va_get (D := D) (ci := 4) (v := .int (nI axx_309)) (C := RX4) (T := TX4) (N := 7) hx hb hts iX4 hown hK hP 1 rfl rfl 2 (by decide) f28 (fun _ h9 => h9) rfl dX4_readClause_43 ?_
                      refine va_iald hx hb hK hP 2 0 rfl rfl (vp_in_nI (show axx_309 < 160 by omega) (by decide)) dX4_readClause_46 ?_
                      refine lv_eqi (y := (ftp (axx_309))) (congrArg ftp (nI_clamp (show axx_309 < 2 ^ 31 by omega))) ?_
                      refine lv_bipush (v := 59) hx hb dX4_readClause_47 (by decide) ?_
                      refine lv_icmp_ne (tgt := 53) hx hb dX4_readClause_49 (by decide) (fun cb_316 => ?_) (fun cb_316 => ?_)
                      · skip
                        refine lv_iload_n hx hb dX4_readClause_53 rfl (lv_at hl 3 rfl) ?_
                        refine ky_Si (As := [.int (nI cl_15)]) (rest := []) ⟨hx, hb, hml, hown, hts⟩ ⟨hK, hN⟩ hZ hP hD hS hA [] [0, 1, 2] (wc := []) (wr := [(Rv, .inl (g 0, 21, .inl fvalx_299)), (Rd, .inr (4, [.ref Tp, .int (nI ln), .int (nI axx_309), .int (-1), .int (nI htx_4), .int (nI ctx_5), .ref Rv])), (Tp, .inl (g 0, 160, .inl ftp))]) rfl rfl rfl rfl (by decide) (r_X4_kindOf l D g H.size cl_15 (show cl_15 < 7 by omega)) (va_cwS 1 hts gX4_readClause_X4_kindOf rfl rfl rfl (by decide +kernel) ⟨(Nat.le_of_ble_eq_true rfl), (Nat.le_of_ble_eq_true rfl)⟩) rfl hl.1 rfl (Nat.le_of_ble_eq_true rfl) dX4_readClause_54 ⟨(Nat.le_of_ble_eq_true rfl), (Nat.le_of_ble_eq_true rfl)⟩ (fun r_317 u H locs hw hP2 hD2 hS2 => ?_)
                        clear hP hD hS
                        obtain ⟨rfl, rfl⟩ := hw
                        have hPD : PD D A [(Rv, .inl (g 0, 21, .inl fvalx_299)), (Rd, .inr (4, [.ref Tp, .int (nI ln), .int (nI axx_309), .int (-1), .int (nI htx_4), .int (nI ctx_5), .ref Rv])), (Tp, .inl (g 0, 160, .inl ftp))] H := ⟨hP2, hD2⟩
                        have hS := hS2; clear hP2 hD2 hS2; have hP := hPD.1; have hD := hPD.2; clear hPD
                        refine W.widen (k := 0) (n := 0) (Nat.le_of_ble_eq_true rfl) (Nat.le_of_ble_eq_true rfl) ?_
                        refine lv_aload_n hx hb dX4_readClause_57 rfl (lv_at hl 4 rfl) ?_
                        refine va_get (D := D) (ci := 4) (v := .ref Tp) (C := RX4) (T := TX4) (N := 7) hx hb hts iX4 hown hK hP 1 rfl rfl 0 (by decide) f9 (fun _ h9 => h9) rfl dX4_readClause_58 ?_
                        refine lv_aload_n hx hb dX4_readClause_61 rfl (lv_at hl 4 rfl) ?_
                        refine va_get (D := D) (ci := 4) (v := .int (nI axx_309)) (C := RX4) (T := TX4) (N := 7) hx hb hts iX4 hown hK hP 1 rfl rfl 2 (by decide) f28 (fun _ h9 => h9) rfl dX4_readClause_62 ?_
                        refine va_iald hx hb hK hP 2 0 rfl rfl (vp_in_nI (show axx_309 < 160 by omega) (by decide)) dX4_readClause_65 ?_
                        refine lv_eqi (y := (ftp (axx_309))) (congrArg ftp (nI_clamp (show axx_309 < 2 ^ 31 by omega))) ?_
                        refine ky_Si (As := [.int (nI (kdN cl_15)), .int (ftp (axx_309))]) (rest := []) ⟨hx, hb, hml, hown, hts⟩ ⟨hK, hN⟩ hZ hP hD hS hA [] [0, 1, 2] (wc := []) (wr := [(Rv, .inl (g 0, 21, .inl fvalx_299)), (Rd, .inr (4, [.ref Tp, .int (nI ln), .int (nI axx_309), .int (-1), .int (nI htx_4), .int (nI ctx_5), .ref Rv])), (Tp, .inl (g 0, 160, .inl ftp))]) rfl rfl rfl rfl (by decide) (r_X4_itemOf l D g H.size (kdN cl_15) (ftp (axx_309)) (show (kdN cl_15) < 3 by omega)) (va_cwS 2 hts gX4_readClause_X4_itemOf rfl rfl rfl (by decide +kernel) ⟨(Nat.le_of_ble_eq_true rfl), (Nat.le_of_ble_eq_true rfl)⟩) rfl hl.1 rfl (Nat.le_of_ble_eq_true rfl) dX4_readClause_66 ⟨(Nat.le_of_ble_eq_true rfl), (Nat.le_of_ble_eq_true rfl)⟩ (fun r_318 u H locs hw hP2 hD2 hS2 => ?_)
                        clear hP hD hS
                        obtain ⟨rfl, rfl⟩ := hw
                        have hPD : PD D A [(Rv, .inl (g 0, 21, .inl fvalx_299)), (Rd, .inr (4, [.ref Tp, .int (nI ln), .int (nI axx_309), .int (-1), .int (nI htx_4), .int (nI ctx_5), .ref Rv])), (Tp, .inl (g 0, 160, .inl ftp))] H := ⟨hP2, hD2⟩
                        have hS := hS2; clear hP2 hD2 hS2; have hP := hPD.1; have hD := hPD.2; clear hPD
                        refine W.widen (k := 0) (n := 0) (Nat.le_of_ble_eq_true rfl) (Nat.le_of_ble_eq_true rfl) ?_
                        rcases itK_c (kdN cl_15) (ftp (axx_309)) with qi_319 | qi_319 | qi_319 | qi_319
                        · skip
                          refine lv_eqi (y := (-1)) (qi_319) ?_
                          refine lv_istore (lv' := [(5, .int (-1)), (4, .int 2), (3, .int 5), (2, .int (nI cl_15)), (0, .ref Rd), (1, .int zf)]) hx hb dX4_readClause_69 hl (by decide) rfl (fun ls hl => ?_)
                          refine lv_iload hx hb dX4_readClause_71 (lv_at hl 0 rfl) ?_
                          refine lv_iconst (v := (-1)) hx hb dX4_readClause_73 (by decide) ?_
                          refine lv_icmp_eq (tgt := 86) hx hb dX4_readClause_74 (by decide) (fun _ => ?_) (fun cb => absurd (by decide) cb)
                          refine lv_aload_n hx hb dX4_readClause_86 rfl (lv_at hl 4 rfl) ?_
                          refine lv_aload_n hx hb dX4_readClause_87 rfl (lv_at hl 4 rfl) ?_
                          refine va_get (D := D) (ci := 4) (v := .int (nI axx_309)) (C := RX4) (T := TX4) (N := 7) hx hb hts iX4 hown hK hP 1 rfl rfl 2 (by decide) f28 (fun _ h9 => h9) rfl dX4_readClause_88 ?_
                          refine va_put (D := D) (ci := 4) (v := .int (nI axx_309)) (ty := .int) (C := RX4) (T := TX4) (N := 7) hx hb hts iX4 tyX4 tyX4_ok nmX4 hown hK hP hD hS 1 rfl rfl 3 (by decide) f31 (fun _ h9 => h9) rfl (by decide +kernel) (rfl) (rfl) (Nat.le_of_ble_eq_true rfl) dX4_readClause_91 (fun H locs hP2 hD2 hS2 => ?_)
                          clear hP hD hS
                          have hPD : PD D A [(Rv, .inl (g 0, 21, .inl fvalx_299)), (Rd, .inr (4, [.ref Tp, .int (nI ln), .int (nI axx_309), .int (nI axx_309), .int (nI htx_4), .int (nI ctx_5), .ref Rv])), (Tp, .inl (g 0, 160, .inl ftp))] H := ⟨hP2, hD2⟩
                          have hS := hS2; clear hP2 hD2 hS2; have hP := hPD.1; have hD := hPD.2; clear hPD
                          have hPD9 : PD D A [(Rd, .inr (4, [.ref Tp, .int (nI ln), .int (nI axx_309), .int (nI axx_309), .int (nI htx_4), .int (nI ctx_5), .ref Rv])), (Tp, .inl (g 0, 160, .inl ftp)), (Rv, .inl (g 0, 21, .inl fvalx_299))] H := ⟨hP.sub [1, 2, 0] rfl, hD.sub [1, 2, 0] (by decide) rfl⟩
                          have hP9 := hPD9.1; have hD9 := hPD9.2
                          subst hQ
                          refine W.widen (k := 0) (n := 0) (Nat.le_of_ble_eq_true rfl) (Nat.le_of_ble_eq_true rfl) ?_
                          exact W.vret hx hb hr (fun tS htS _ => ⟨⟨_, rfl, ⟨axx_309, (nI axx_309), htx_4, ctx_5, fvalx_299, rfl, ⟨(show axx_309 ≤ ln by omega), (show htx_4 ≤ 3 by omega), (show ctx_5 ≤ 3 by omega), (hf_301), (cl_bad hf_7.2.2.2.1.symm (show cl_15 < 7 by omega) (hR_306.trans (itR_no (f := 1) hf_311 qi_319)) (show axx_309 < ln by omega) cb_316).1, (cl_bad hf_7.2.2.2.1.symm (show cl_15 < 7 by omega) (hR_306.trans (itR_no (f := 1) hf_311 qi_319)) (show axx_309 < ln by omega) cb_316).2, (fun q => absurd q (m1_ne (show axx_309 < 2 ^ 31 by omega)))⟩⟩, by rw [htS]; exact hP9, hD9⟩, hS.F htS⟩) hS.2.2 dX4_readClause_94
                        · skip
                          refine lv_eqi (y := 0) (qi_319) ?_
                          refine lv_istore (lv' := [(5, .int 0), (4, .int 2), (3, .int 5), (2, .int (nI cl_15)), (0, .ref Rd), (1, .int zf)]) hx hb dX4_readClause_69 hl (by decide) rfl (fun ls hl => ?_)
                          refine lv_iload hx hb dX4_readClause_71 (lv_at hl 0 rfl) ?_
                          refine lv_iconst (v := (-1)) hx hb dX4_readClause_73 (by decide) ?_
                          refine lv_icmp_eq (tgt := 86) hx hb dX4_readClause_74 (by decide) (fun cb => absurd cb (by decide)) (fun _ => ?_)
                          refine lv_iload_n hx hb dX4_readClause_77 rfl (lv_at hl 2 rfl) ?_
                          refine lv_iconst (v := 1) hx hb dX4_readClause_78 (by decide) ?_
                          refine lv_iload hx hb dX4_readClause_79 (lv_at hl 0 rfl) ?_
                          refine lv_ishl hx hb dX4_readClause_81 ?_
                          refine lv_eqi (y := 1) (by decide) ?_
                          refine lv_iand hx hb dX4_readClause_82 ?_
                          refine lv_eqi (y := 1) (by decide) ?_
                          refine lv_if_eq (tgt := 95) hx hb dX4_readClause_83 (by decide) (fun cb => absurd cb (by decide)) (fun _ => ?_)
                          refine lv_aload_n hx hb dX4_readClause_86 rfl (lv_at hl 4 rfl) ?_
                          refine lv_aload_n hx hb dX4_readClause_87 rfl (lv_at hl 4 rfl) ?_
                          refine va_get (D := D) (ci := 4) (v := .int (nI axx_309)) (C := RX4) (T := TX4) (N := 7) hx hb hts iX4 hown hK hP 1 rfl rfl 2 (by decide) f28 (fun _ h9 => h9) rfl dX4_readClause_88 ?_
                          refine va_put (D := D) (ci := 4) (v := .int (nI axx_309)) (ty := .int) (C := RX4) (T := TX4) (N := 7) hx hb hts iX4 tyX4 tyX4_ok nmX4 hown hK hP hD hS 1 rfl rfl 3 (by decide) f31 (fun _ h9 => h9) rfl (by decide +kernel) (rfl) (rfl) (Nat.le_of_ble_eq_true rfl) dX4_readClause_91 (fun H locs hP2 hD2 hS2 => ?_)
                          clear hP hD hS
                          have hPD : PD D A [(Rv, .inl (g 0, 21, .inl fvalx_299)), (Rd, .inr (4, [.ref Tp, .int (nI ln), .int (nI axx_309), .int (nI axx_309), .int (nI htx_4), .int (nI ctx_5), .ref Rv])), (Tp, .inl (g 0, 160, .inl ftp))] H := ⟨hP2, hD2⟩
                          have hS := hS2; clear hP2 hD2 hS2; have hP := hPD.1; have hD := hPD.2; clear hPD
                          have hPD9 : PD D A [(Rd, .inr (4, [.ref Tp, .int (nI ln), .int (nI axx_309), .int (nI axx_309), .int (nI htx_4), .int (nI ctx_5), .ref Rv])), (Tp, .inl (g 0, 160, .inl ftp)), (Rv, .inl (g 0, 21, .inl fvalx_299))] H := ⟨hP.sub [1, 2, 0] rfl, hD.sub [1, 2, 0] (by decide) rfl⟩
                          have hP9 := hPD9.1; have hD9 := hPD9.2
                          subst hQ
                          refine W.widen (k := 0) (n := 0) (Nat.le_of_ble_eq_true rfl) (Nat.le_of_ble_eq_true rfl) ?_
                          exact W.vret hx hb hr (fun tS htS _ => ⟨⟨_, rfl, ⟨axx_309, (nI axx_309), htx_4, ctx_5, fvalx_299, rfl, ⟨(show axx_309 ≤ ln by omega), (show htx_4 ≤ 3 by omega), (show ctx_5 ≤ 3 by omega), (hf_301), (cl_bad hf_7.2.2.2.1.symm (show cl_15 < 7 by omega) (hR_306.trans (itR_again (f := 1) (q := 0) hf_311 qi_319 (by decide) (by decide))) (show axx_309 < ln by omega) cb_316).1, (cl_bad hf_7.2.2.2.1.symm (show cl_15 < 7 by omega) (hR_306.trans (itR_again (f := 1) (q := 0) hf_311 qi_319 (by decide) (by decide))) (show axx_309 < ln by omega) cb_316).2, (fun q => absurd q (m1_ne (show axx_309 < 2 ^ 31 by omega)))⟩⟩, by rw [htS]; exact hP9, hD9⟩, hS.F htS⟩) hS.2.2 dX4_readClause_94
                        · skip
                          refine lv_eqi (y := 1) (qi_319) ?_
                          refine lv_istore (lv' := [(5, .int 1), (4, .int 2), (3, .int 5), (2, .int (nI cl_15)), (0, .ref Rd), (1, .int zf)]) hx hb dX4_readClause_69 hl (by decide) rfl (fun ls hl => ?_)
                          refine lv_iload hx hb dX4_readClause_71 (lv_at hl 0 rfl) ?_
                          refine lv_iconst (v := (-1)) hx hb dX4_readClause_73 (by decide) ?_
                          refine lv_icmp_eq (tgt := 86) hx hb dX4_readClause_74 (by decide) (fun cb => absurd cb (by decide)) (fun _ => ?_)
                          refine lv_iload_n hx hb dX4_readClause_77 rfl (lv_at hl 2 rfl) ?_
                          refine lv_iconst (v := 1) hx hb dX4_readClause_78 (by decide) ?_
                          refine lv_iload hx hb dX4_readClause_79 (lv_at hl 0 rfl) ?_
                          refine lv_ishl hx hb dX4_readClause_81 ?_
                          refine lv_eqi (y := 2) (by decide) ?_
                          refine lv_iand hx hb dX4_readClause_82 ?_
                          refine lv_eqi (y := 0) (by decide) ?_
                          refine lv_if_eq (tgt := 95) hx hb dX4_readClause_83 (by decide) (fun _ => ?_) (fun cb => absurd (by decide) cb)
                          refine lv_iload_n hx hb dX4_readClause_95 rfl (lv_at hl 2 rfl) ?_
                          refine lv_iconst (v := 1) hx hb dX4_readClause_96 (by decide) ?_
                          refine lv_iload hx hb dX4_readClause_97 (lv_at hl 0 rfl) ?_
                          refine lv_ishl hx hb dX4_readClause_99 ?_
                          refine lv_eqi (y := 2) (by decide) ?_
                          refine lv_ior hx hb dX4_readClause_100 ?_
                          refine lv_eqi (y := 7) (by decide) ?_
                          refine lv_istore_n (lv' := [(3, .int 7), (5, .int 1), (4, .int 2), (2, .int (nI cl_15)), (0, .ref Rd), (1, .int zf)]) hx hb dX4_readClause_101 rfl hl (by decide) rfl (fun ls hl => ?_)
                          refine lv_aload_n hx hb dX4_readClause_102 rfl (lv_at hl 4 rfl) ?_
                          refine lv_dup hx hb dX4_readClause_103 rfl ?_
                          refine va_get (D := D) (ci := 4) (v := .int (nI axx_309)) (C := RX4) (T := TX4) (N := 7) hx hb hts iX4 hown hK hP 1 rfl rfl 2 (by decide) f28 (fun _ h9 => h9) rfl dX4_readClause_104 ?_
                          refine lv_iconst (v := 1) hx hb dX4_readClause_107 (by decide) ?_
                          refine lv_iadd hx hb dX4_readClause_108 ?_
                          refine lv_eqi (y := (nI (axx_309 + 1))) (nI_add (axx_309) (1)) ?_
                          refine va_put (D := D) (ci := 4) (v := .int (nI (axx_309 + 1))) (ty := .int) (C := RX4) (T := TX4) (N := 7) hx hb hts iX4 tyX4 tyX4_ok nmX4 hown hK hP hD hS 1 rfl rfl 2 (by decide) f28 (fun _ h9 => h9) rfl (by decide +kernel) (rfl) (rfl) (Nat.le_of_ble_eq_true rfl) dX4_readClause_109 (fun H locs hP2 hD2 hS2 => ?_)
                          clear hP hD hS
                          have hPD : PD D A [(Rv, .inl (g 0, 21, .inl fvalx_299)), (Rd, .inr (4, [.ref Tp, .int (nI ln), .int (nI (axx_309 + 1)), .int (-1), .int (nI htx_4), .int (nI ctx_5), .ref Rv])), (Tp, .inl (g 0, 160, .inl ftp))] H := ⟨hP2, hD2⟩
                          have hS := hS2; clear hP2 hD2 hS2; have hP := hPD.1; have hD := hPD.2; clear hPD
                          refine lv_aload_n hx hb dX4_readClause_112 rfl (lv_at hl 4 rfl) ?_
                          refine lv_iload_n hx hb dX4_readClause_113 rfl (lv_at hl 3 rfl) ?_
                          refine lv_iload hx hb dX4_readClause_114 (lv_at hl 1 rfl) ?_
                          refine ky_Vv (As := [.int (nI cl_15), .int 1]) (rest := []) ⟨hx, hb, hml, hown, hts⟩ ⟨hK, hN⟩ hZ hP hD hS hA [1, 2, 0] [] (wc := [(Rd, .inr (4, [.ref Tp, .int (nI ln), .int (nI (axx_309 + 1)), .int (-1), .int (nI htx_4), .int (nI ctx_5), .ref Rv])), (Tp, .inl (g 0, 160, .inl ftp)), (Rv, .inl (g 0, 21, .inl fvalx_299))]) (wr := []) rfl rfl rfl rfl (by decide) (r_X4_readNumber l D g H.size Rd cl_15 1 Tp ln (axx_309 + 1) htx_4 ctx_5 Rv ftp fvalx_299 (show ln ≤ 160 by omega) (show (axx_309 + 1) ≤ ln by omega) (hf_301) (show cl_15 < 7 by omega) (show 1 < 3 by omega)) (cwV 2 hts gX4_readClause_X4_readNumber rfl rfl rfl (by decide +kernel) ⟨(Nat.le_of_ble_eq_true rfl), (Nat.le_of_ble_eq_true rfl)⟩) 1 4 rfl rfl rfl rfl hl.1 rfl (Nat.le_of_ble_eq_true rfl) dX4_readClause_116 ⟨(Nat.le_of_ble_eq_true rfl), (Nat.le_of_ble_eq_true rfl)⟩ (fun u H locs hw hP2 hD2 hS2 => ?_)
                          clear hP hD hS
                          obtain ⟨axx_321, zfax_322, fvalx_323, rfl, hf_324, hf_325, hf_326, hf_327⟩ := hw
                          have hPD : PD D A [(Rd, .inr (4, [.ref Tp, .int (nI ln), .int (nI axx_321), .int zfax_322, .int (nI htx_4), .int (nI ctx_5), .ref Rv])), (Tp, .inl (g 0, 160, .inl ftp)), (Rv, .inl (g 0, 21, .inl fvalx_323))] H := ⟨hP2, hD2⟩
                          have hS := hS2; clear hP2 hD2 hS2; have hP := hPD.1; have hD := hPD.2; clear hPD
                          refine W.widen (k := 0) (n := 0) (Nat.le_of_ble_eq_true rfl) (Nat.le_of_ble_eq_true rfl) ?_
                          refine lv_aload_n hx hb dX4_readClause_119 rfl (lv_at hl 4 rfl) ?_
                          refine va_get (D := D) (ci := 4) (v := .int zfax_322) (C := RX4) (T := TX4) (N := 7) hx hb hts iX4 hown hK hP 0 rfl rfl 3 (by decide) f31 (fun _ h9 => h9) rfl dX4_readClause_120 ?_
                          refine lv_iconst (v := (-1)) hx hb dX4_readClause_123 (by decide) ?_
                          refine lv_icmp_eq (tgt := 128) hx hb dX4_readClause_124 (by decide) (fun cb_328 => ?_) (fun cb_328 => ?_)
                          · skip
                            have hPq_329 := hP; have hDq_329 := hD; have hSq_329 := hS; have hlq_329 := hl; clear hP hD hS hl
                            subst cb_328
                            have hP := hPq_329; have hD := hDq_329; have hS := hSq_329; have hl := hlq_329; clear hPq_329 hDq_329 hSq_329 hlq_329
                            have hne_331 := (hf_327 rfl).1
                            have hne_331g := nmE_gt (T := ftp) (n := ln) (i := axx_309 + 1) (by omega)
                            have hR_330 : itR ftp ln (kdN cl_15) 4 0 (sB ftp ln ax + 1) = itR ftp ln (kdN cl_15) 1 7 axx_321 := hR_306.trans ((itR_go (f := 1) (m := 5) (q := 1) hf_311 (show axx_309 < ln by omega) qi_319 (by decide) (by decide) hf_326.symm).trans (by rw [hne_331]))
                            refine lv_iinc (v := 3) (lv' := [(4, .int 3), (3, .int 7), (5, .int 1), (2, .int (nI cl_15)), (0, .ref Rd), (1, .int zf)]) hx hb dX4_readClause_128 hl (k := 2) rfl (by decide) (by decide) rfl (fun ls hl => ?_)
                            refine lv_goto (tgt := 17) hx hb dX4_readClause_131 (by decide) ?_
                            refine lv_iload hx hb dX4_readClause_17 (lv_at hl 0 rfl) ?_
                            refine lv_iconst (v := 3) hx hb dX4_readClause_19 (by decide) ?_
                            refine lv_icmp_gt (tgt := 134) hx hb dX4_readClause_20 (by decide) (fun cb => absurd cb (by decide)) (fun _ => ?_)
                            refine lv_aload_n hx hb dX4_readClause_23 rfl (lv_at hl 4 rfl) ?_
                            refine ky_Vv (As := []) (rest := []) ⟨hx, hb, hml, hown, hts⟩ ⟨hK, hN⟩ hZ hP hD hS hA [0, 1] [2] (wc := [(Rd, .inr (4, [.ref Tp, .int (nI ln), .int (nI axx_321), .int (-1), .int (nI htx_4), .int (nI ctx_5), .ref Rv])), (Tp, .inl (g 0, 160, .inl ftp))]) (wr := [(Rv, .inl (g 0, 21, .inl fvalx_323))]) rfl rfl rfl rfl (by decide) (r_X4_passBlanks l D g H.size Rd Tp ln axx_321 (-1) htx_4 ctx_5 Rv ftp (show ln ≤ 160 by omega) (show axx_321 ≤ ln by omega)) (cwV 0 hts gX4_readClause_X4_passBlanks rfl rfl rfl (by decide +kernel) ⟨(Nat.le_of_ble_eq_true rfl), (Nat.le_of_ble_eq_true rfl)⟩) 0 4 rfl rfl rfl rfl hl.1 rfl (Nat.le_of_ble_eq_true rfl) dX4_readClause_24 ⟨(Nat.le_of_ble_eq_true rfl), (Nat.le_of_ble_eq_true rfl)⟩ (fun u H locs hw hP2 hD2 hS2 => ?_)
                            clear hP hD hS
                            obtain ⟨axx_333, rfl, hf_334, hf_335⟩ := hw
                            have hPD : PD D A [(Rv, .inl (g 0, 21, .inl fvalx_323)), (Rd, .inr (4, [.ref Tp, .int (nI ln), .int (nI axx_333), .int (-1), .int (nI htx_4), .int (nI ctx_5), .ref Rv])), (Tp, .inl (g 0, 160, .inl ftp))] H := ⟨hP2, hD2⟩
                            have hS := hS2; clear hP2 hD2 hS2; have hP := hPD.1; have hD := hPD.2; clear hPD
                            refine W.widen (k := 0) (n := 0) (Nat.le_of_ble_eq_true rfl) (Nat.le_of_ble_eq_true rfl) ?_
                            have hge_336 := sB_ge (T := ftp) (n := ln) (i := axx_321) (by omega)
                            refine lv_aload_n hx hb dX4_readClause_27 rfl (lv_at hl 4 rfl) ?_
                            refine va_get (D := D) (ci := 4) (v := .int (nI axx_333)) (C := RX4) (T := TX4) (N := 7) hx hb hts iX4 hown hK hP 1 rfl rfl 2 (by decide) f28 (fun _ h9 => h9) rfl dX4_readClause_28 ?_
                            refine lv_aload_n hx hb dX4_readClause_31 rfl (lv_at hl 4 rfl) ?_
                            refine va_get (D := D) (ci := 4) (v := .int (nI ln)) (C := RX4) (T := TX4) (N := 7) hx hb hts iX4 hown hK hP 1 rfl rfl 1 (by decide) f24 (fun _ h9 => h9) rfl dX4_readClause_32 ?_
                            refine lv_icmp_ge (tgt := 52) hx hb dX4_readClause_35 (by decide) (fun cb_337 => ?_) (fun cb_337 => ?_)
                            · skip
                              have cn_338 : ln ≤ axx_333 := (nI_leI (show ln < 2 ^ 31 by omega) (show axx_333 < 2 ^ 31 by omega)).mp cb_337
                              have hPD9 : PD D A [(Rd, .inr (4, [.ref Tp, .int (nI ln), .int (nI axx_333), .int (-1), .int (nI htx_4), .int (nI ctx_5), .ref Rv])), (Tp, .inl (g 0, 160, .inl ftp)), (Rv, .inl (g 0, 21, .inl fvalx_323))] H := ⟨hP.sub [1, 2, 0] rfl, hD.sub [1, 2, 0] (by decide) rfl⟩
                              have hP9 := hPD9.1; have hD9 := hPD9.2
                              subst hQ
                              refine W.widen (k := 0) (n := 0) (Nat.le_of_ble_eq_true rfl) (Nat.le_of_ble_eq_true rfl) ?_
                              exact W.vret hx hb hr (fun tS htS _ => ⟨⟨_, rfl, ⟨axx_333, (-1), htx_4, ctx_5, fvalx_323, rfl, ⟨(show axx_333 ≤ ln by omega), (show htx_4 ≤ 3 by omega), (show ctx_5 ≤ 3 by omega), (hf_325), (cl_end hf_7.2.2.2.1.symm (show cl_15 < 7 by omega) (hR_330.trans (itR_end (f := 0) hf_335 (show ¬ axx_333 < ln by omega))) (fun q => absurd q.1 (show ¬ axx_333 < ln by omega))).1, (cl_end hf_7.2.2.2.1.symm (show cl_15 < 7 by omega) (hR_330.trans (itR_end (f := 0) hf_335 (show ¬ axx_333 < ln by omega))) (fun q => absurd q.1 (show ¬ axx_333 < ln by omega))).2.1, (fun _ => ⟨(cl_end hf_7.2.2.2.1.symm (show cl_15 < 7 by omega) (hR_330.trans (itR_end (f := 0) hf_335 (show ¬ axx_333 < ln by omega))) (fun q => absurd q.1 (show ¬ axx_333 < ln by omega))).2.2, show ax < axx_333 by omega⟩)⟩⟩, by rw [htS]; exact hP9, hD9⟩, hS.F htS⟩) hS.2.2 dX4_readClause_52
                            · skip
                              have cn_339 : axx_333 < ln := Nat.lt_of_not_le (fun q9 => cb_337 ((nI_leI (show ln < 2 ^ 31 by omega) (show axx_333 < 2 ^ 31 by omega)).mpr q9))
                              refine lv_aload_n hx hb dX4_readClause_38 rfl (lv_at hl 4 rfl) ?_
                              refine va_get (D := D) (ci := 4) (v := .ref Tp) (C := RX4) (T := TX4) (N := 7) hx hb hts iX4 hown hK hP 1 rfl rfl 0 (by decide) f9 (fun _ h9 => h9) rfl dX4_readClause_39 ?_
                              refine lv_aload_n hx hb dX4_readClause_42 rfl (lv_at hl 4 rfl) ?_
                              refine va_get (D := D) (ci := 4) (v := .int (nI axx_333)) (C := RX4) (T := TX4) (N := 7) hx hb hts iX4 hown hK hP 1 rfl rfl 2 (by decide) f28 (fun _ h9 => h9) rfl dX4_readClause_43 ?_
                              refine va_iald hx hb hK hP 2 0 rfl rfl (vp_in_nI (show axx_333 < 160 by omega) (by decide)) dX4_readClause_46 ?_
                              refine lv_eqi (y := (ftp (axx_333))) (congrArg ftp (nI_clamp (show axx_333 < 2 ^ 31 by omega))) ?_
                              refine lv_bipush (v := 59) hx hb dX4_readClause_47 (by decide) ?_
                              refine lv_icmp_ne (tgt := 53) hx hb dX4_readClause_49 (by decide) (fun cb_340 => ?_) (fun cb_340 => ?_)
                              · skip
                                refine lv_iload_n hx hb dX4_readClause_53 rfl (lv_at hl 3 rfl) ?_
                                refine ky_Si (As := [.int (nI cl_15)]) (rest := []) ⟨hx, hb, hml, hown, hts⟩ ⟨hK, hN⟩ hZ hP hD hS hA [] [0, 1, 2] (wc := []) (wr := [(Rv, .inl (g 0, 21, .inl fvalx_323)), (Rd, .inr (4, [.ref Tp, .int (nI ln), .int (nI axx_333), .int (-1), .int (nI htx_4), .int (nI ctx_5), .ref Rv])), (Tp, .inl (g 0, 160, .inl ftp))]) rfl rfl rfl rfl (by decide) (r_X4_kindOf l D g H.size cl_15 (show cl_15 < 7 by omega)) (va_cwS 1 hts gX4_readClause_X4_kindOf rfl rfl rfl (by decide +kernel) ⟨(Nat.le_of_ble_eq_true rfl), (Nat.le_of_ble_eq_true rfl)⟩) rfl hl.1 rfl (Nat.le_of_ble_eq_true rfl) dX4_readClause_54 ⟨(Nat.le_of_ble_eq_true rfl), (Nat.le_of_ble_eq_true rfl)⟩ (fun r_341 u H locs hw hP2 hD2 hS2 => ?_)
                                clear hP hD hS
                                obtain ⟨rfl, rfl⟩ := hw
                                have hPD : PD D A [(Rv, .inl (g 0, 21, .inl fvalx_323)), (Rd, .inr (4, [.ref Tp, .int (nI ln), .int (nI axx_333), .int (-1), .int (nI htx_4), .int (nI ctx_5), .ref Rv])), (Tp, .inl (g 0, 160, .inl ftp))] H := ⟨hP2, hD2⟩
                                have hS := hS2; clear hP2 hD2 hS2; have hP := hPD.1; have hD := hPD.2; clear hPD
                                refine W.widen (k := 0) (n := 0) (Nat.le_of_ble_eq_true rfl) (Nat.le_of_ble_eq_true rfl) ?_
                                refine lv_aload_n hx hb dX4_readClause_57 rfl (lv_at hl 4 rfl) ?_
                                refine va_get (D := D) (ci := 4) (v := .ref Tp) (C := RX4) (T := TX4) (N := 7) hx hb hts iX4 hown hK hP 1 rfl rfl 0 (by decide) f9 (fun _ h9 => h9) rfl dX4_readClause_58 ?_
                                refine lv_aload_n hx hb dX4_readClause_61 rfl (lv_at hl 4 rfl) ?_
                                refine va_get (D := D) (ci := 4) (v := .int (nI axx_333)) (C := RX4) (T := TX4) (N := 7) hx hb hts iX4 hown hK hP 1 rfl rfl 2 (by decide) f28 (fun _ h9 => h9) rfl dX4_readClause_62 ?_
                                refine va_iald hx hb hK hP 2 0 rfl rfl (vp_in_nI (show axx_333 < 160 by omega) (by decide)) dX4_readClause_65 ?_
                                refine lv_eqi (y := (ftp (axx_333))) (congrArg ftp (nI_clamp (show axx_333 < 2 ^ 31 by omega))) ?_
                                refine ky_Si (As := [.int (nI (kdN cl_15)), .int (ftp (axx_333))]) (rest := []) ⟨hx, hb, hml, hown, hts⟩ ⟨hK, hN⟩ hZ hP hD hS hA [] [0, 1, 2] (wc := []) (wr := [(Rv, .inl (g 0, 21, .inl fvalx_323)), (Rd, .inr (4, [.ref Tp, .int (nI ln), .int (nI axx_333), .int (-1), .int (nI htx_4), .int (nI ctx_5), .ref Rv])), (Tp, .inl (g 0, 160, .inl ftp))]) rfl rfl rfl rfl (by decide) (r_X4_itemOf l D g H.size (kdN cl_15) (ftp (axx_333)) (show (kdN cl_15) < 3 by omega)) (va_cwS 2 hts gX4_readClause_X4_itemOf rfl rfl rfl (by decide +kernel) ⟨(Nat.le_of_ble_eq_true rfl), (Nat.le_of_ble_eq_true rfl)⟩) rfl hl.1 rfl (Nat.le_of_ble_eq_true rfl) dX4_readClause_66 ⟨(Nat.le_of_ble_eq_true rfl), (Nat.le_of_ble_eq_true rfl)⟩ (fun r_342 u H locs hw hP2 hD2 hS2 => ?_)
                                clear hP hD hS
                                obtain ⟨rfl, rfl⟩ := hw
                                have hPD : PD D A [(Rv, .inl (g 0, 21, .inl fvalx_323)), (Rd, .inr (4, [.ref Tp, .int (nI ln), .int (nI axx_333), .int (-1), .int (nI htx_4), .int (nI ctx_5), .ref Rv])), (Tp, .inl (g 0, 160, .inl ftp))] H := ⟨hP2, hD2⟩
                                have hS := hS2; clear hP2 hD2 hS2; have hP := hPD.1; have hD := hPD.2; clear hPD
                                refine W.widen (k := 0) (n := 0) (Nat.le_of_ble_eq_true rfl) (Nat.le_of_ble_eq_true rfl) ?_
                                rcases itK_c (kdN cl_15) (ftp (axx_333)) with qi_343 | qi_343 | qi_343 | qi_343
                                · skip
                                  refine lv_eqi (y := (-1)) (qi_343) ?_
                                  refine lv_istore (lv' := [(5, .int (-1)), (4, .int 3), (3, .int 7), (2, .int (nI cl_15)), (0, .ref Rd), (1, .int zf)]) hx hb dX4_readClause_69 hl (by decide) rfl (fun ls hl => ?_)
                                  refine lv_iload hx hb dX4_readClause_71 (lv_at hl 0 rfl) ?_
                                  refine lv_iconst (v := (-1)) hx hb dX4_readClause_73 (by decide) ?_
                                  refine lv_icmp_eq (tgt := 86) hx hb dX4_readClause_74 (by decide) (fun _ => ?_) (fun cb => absurd (by decide) cb)
                                  refine lv_aload_n hx hb dX4_readClause_86 rfl (lv_at hl 4 rfl) ?_
                                  refine lv_aload_n hx hb dX4_readClause_87 rfl (lv_at hl 4 rfl) ?_
                                  refine va_get (D := D) (ci := 4) (v := .int (nI axx_333)) (C := RX4) (T := TX4) (N := 7) hx hb hts iX4 hown hK hP 1 rfl rfl 2 (by decide) f28 (fun _ h9 => h9) rfl dX4_readClause_88 ?_
                                  refine va_put (D := D) (ci := 4) (v := .int (nI axx_333)) (ty := .int) (C := RX4) (T := TX4) (N := 7) hx hb hts iX4 tyX4 tyX4_ok nmX4 hown hK hP hD hS 1 rfl rfl 3 (by decide) f31 (fun _ h9 => h9) rfl (by decide +kernel) (rfl) (rfl) (Nat.le_of_ble_eq_true rfl) dX4_readClause_91 (fun H locs hP2 hD2 hS2 => ?_)
                                  clear hP hD hS
                                  have hPD : PD D A [(Rv, .inl (g 0, 21, .inl fvalx_323)), (Rd, .inr (4, [.ref Tp, .int (nI ln), .int (nI axx_333), .int (nI axx_333), .int (nI htx_4), .int (nI ctx_5), .ref Rv])), (Tp, .inl (g 0, 160, .inl ftp))] H := ⟨hP2, hD2⟩
                                  have hS := hS2; clear hP2 hD2 hS2; have hP := hPD.1; have hD := hPD.2; clear hPD
                                  have hPD9 : PD D A [(Rd, .inr (4, [.ref Tp, .int (nI ln), .int (nI axx_333), .int (nI axx_333), .int (nI htx_4), .int (nI ctx_5), .ref Rv])), (Tp, .inl (g 0, 160, .inl ftp)), (Rv, .inl (g 0, 21, .inl fvalx_323))] H := ⟨hP.sub [1, 2, 0] rfl, hD.sub [1, 2, 0] (by decide) rfl⟩
                                  have hP9 := hPD9.1; have hD9 := hPD9.2
                                  subst hQ
                                  refine W.widen (k := 0) (n := 0) (Nat.le_of_ble_eq_true rfl) (Nat.le_of_ble_eq_true rfl) ?_
                                  exact W.vret hx hb hr (fun tS htS _ => ⟨⟨_, rfl, ⟨axx_333, (nI axx_333), htx_4, ctx_5, fvalx_323, rfl, ⟨(show axx_333 ≤ ln by omega), (show htx_4 ≤ 3 by omega), (show ctx_5 ≤ 3 by omega), (hf_325), (cl_bad hf_7.2.2.2.1.symm (show cl_15 < 7 by omega) (hR_330.trans (itR_no (f := 0) hf_335 qi_343)) (show axx_333 < ln by omega) cb_340).1, (cl_bad hf_7.2.2.2.1.symm (show cl_15 < 7 by omega) (hR_330.trans (itR_no (f := 0) hf_335 qi_343)) (show axx_333 < ln by omega) cb_340).2, (fun q => absurd q (m1_ne (show axx_333 < 2 ^ 31 by omega)))⟩⟩, by rw [htS]; exact hP9, hD9⟩, hS.F htS⟩) hS.2.2 dX4_readClause_94
                                · skip
                                  refine lv_eqi (y := 0) (qi_343) ?_
                                  refine lv_istore (lv' := [(5, .int 0), (4, .int 3), (3, .int 7), (2, .int (nI cl_15)), (0, .ref Rd), (1, .int zf)]) hx hb dX4_readClause_69 hl (by decide) rfl (fun ls hl => ?_)
                                  refine lv_iload hx hb dX4_readClause_71 (lv_at hl 0 rfl) ?_
                                  refine lv_iconst (v := (-1)) hx hb dX4_readClause_73 (by decide) ?_
                                  refine lv_icmp_eq (tgt := 86) hx hb dX4_readClause_74 (by decide) (fun cb => absurd cb (by decide)) (fun _ => ?_)
                                  refine lv_iload_n hx hb dX4_readClause_77 rfl (lv_at hl 2 rfl) ?_
                                  refine lv_iconst (v := 1) hx hb dX4_readClause_78 (by decide) ?_
                                  refine lv_iload hx hb dX4_readClause_79 (lv_at hl 0 rfl) ?_
                                  refine lv_ishl hx hb dX4_readClause_81 ?_
                                  refine lv_eqi (y := 1) (by decide) ?_
                                  refine lv_iand hx hb dX4_readClause_82 ?_
                                  refine lv_eqi (y := 1) (by decide) ?_
                                  refine lv_if_eq (tgt := 95) hx hb dX4_readClause_83 (by decide) (fun cb => absurd cb (by decide)) (fun _ => ?_)
                                  refine lv_aload_n hx hb dX4_readClause_86 rfl (lv_at hl 4 rfl) ?_
                                  refine lv_aload_n hx hb dX4_readClause_87 rfl (lv_at hl 4 rfl) ?_
                                  refine va_get (D := D) (ci := 4) (v := .int (nI axx_333)) (C := RX4) (T := TX4) (N := 7) hx hb hts iX4 hown hK hP 1 rfl rfl 2 (by decide) f28 (fun _ h9 => h9) rfl dX4_readClause_88 ?_
                                  refine va_put (D := D) (ci := 4) (v := .int (nI axx_333)) (ty := .int) (C := RX4) (T := TX4) (N := 7) hx hb hts iX4 tyX4 tyX4_ok nmX4 hown hK hP hD hS 1 rfl rfl 3 (by decide) f31 (fun _ h9 => h9) rfl (by decide +kernel) (rfl) (rfl) (Nat.le_of_ble_eq_true rfl) dX4_readClause_91 (fun H locs hP2 hD2 hS2 => ?_)
                                  clear hP hD hS
                                  have hPD : PD D A [(Rv, .inl (g 0, 21, .inl fvalx_323)), (Rd, .inr (4, [.ref Tp, .int (nI ln), .int (nI axx_333), .int (nI axx_333), .int (nI htx_4), .int (nI ctx_5), .ref Rv])), (Tp, .inl (g 0, 160, .inl ftp))] H := ⟨hP2, hD2⟩
                                  have hS := hS2; clear hP2 hD2 hS2; have hP := hPD.1; have hD := hPD.2; clear hPD
                                  have hPD9 : PD D A [(Rd, .inr (4, [.ref Tp, .int (nI ln), .int (nI axx_333), .int (nI axx_333), .int (nI htx_4), .int (nI ctx_5), .ref Rv])), (Tp, .inl (g 0, 160, .inl ftp)), (Rv, .inl (g 0, 21, .inl fvalx_323))] H := ⟨hP.sub [1, 2, 0] rfl, hD.sub [1, 2, 0] (by decide) rfl⟩
                                  have hP9 := hPD9.1; have hD9 := hPD9.2
                                  subst hQ
                                  refine W.widen (k := 0) (n := 0) (Nat.le_of_ble_eq_true rfl) (Nat.le_of_ble_eq_true rfl) ?_
                                  exact W.vret hx hb hr (fun tS htS _ => ⟨⟨_, rfl, ⟨axx_333, (nI axx_333), htx_4, ctx_5, fvalx_323, rfl, ⟨(show axx_333 ≤ ln by omega), (show htx_4 ≤ 3 by omega), (show ctx_5 ≤ 3 by omega), (hf_325), (cl_bad hf_7.2.2.2.1.symm (show cl_15 < 7 by omega) (hR_330.trans (itR_again (f := 0) (q := 0) hf_335 qi_343 (by decide) (by decide))) (show axx_333 < ln by omega) cb_340).1, (cl_bad hf_7.2.2.2.1.symm (show cl_15 < 7 by omega) (hR_330.trans (itR_again (f := 0) (q := 0) hf_335 qi_343 (by decide) (by decide))) (show axx_333 < ln by omega) cb_340).2, (fun q => absurd q (m1_ne (show axx_333 < 2 ^ 31 by omega)))⟩⟩, by rw [htS]; exact hP9, hD9⟩, hS.F htS⟩) hS.2.2 dX4_readClause_94
                                · skip
                                  refine lv_eqi (y := 1) (qi_343) ?_
                                  refine lv_istore (lv' := [(5, .int 1), (4, .int 3), (3, .int 7), (2, .int (nI cl_15)), (0, .ref Rd), (1, .int zf)]) hx hb dX4_readClause_69 hl (by decide) rfl (fun ls hl => ?_)
                                  refine lv_iload hx hb dX4_readClause_71 (lv_at hl 0 rfl) ?_
                                  refine lv_iconst (v := (-1)) hx hb dX4_readClause_73 (by decide) ?_
                                  refine lv_icmp_eq (tgt := 86) hx hb dX4_readClause_74 (by decide) (fun cb => absurd cb (by decide)) (fun _ => ?_)
                                  refine lv_iload_n hx hb dX4_readClause_77 rfl (lv_at hl 2 rfl) ?_
                                  refine lv_iconst (v := 1) hx hb dX4_readClause_78 (by decide) ?_
                                  refine lv_iload hx hb dX4_readClause_79 (lv_at hl 0 rfl) ?_
                                  refine lv_ishl hx hb dX4_readClause_81 ?_
                                  refine lv_eqi (y := 2) (by decide) ?_
                                  refine lv_iand hx hb dX4_readClause_82 ?_
                                  refine lv_eqi (y := 2) (by decide) ?_
                                  refine lv_if_eq (tgt := 95) hx hb dX4_readClause_83 (by decide) (fun cb => absurd cb (by decide)) (fun _ => ?_)
                                  refine lv_aload_n hx hb dX4_readClause_86 rfl (lv_at hl 4 rfl) ?_
                                  refine lv_aload_n hx hb dX4_readClause_87 rfl (lv_at hl 4 rfl) ?_
                                  refine va_get (D := D) (ci := 4) (v := .int (nI axx_333)) (C := RX4) (T := TX4) (N := 7) hx hb hts iX4 hown hK hP 1 rfl rfl 2 (by decide) f28 (fun _ h9 => h9) rfl dX4_readClause_88 ?_
                                  refine va_put (D := D) (ci := 4) (v := .int (nI axx_333)) (ty := .int) (C := RX4) (T := TX4) (N := 7) hx hb hts iX4 tyX4 tyX4_ok nmX4 hown hK hP hD hS 1 rfl rfl 3 (by decide) f31 (fun _ h9 => h9) rfl (by decide +kernel) (rfl) (rfl) (Nat.le_of_ble_eq_true rfl) dX4_readClause_91 (fun H locs hP2 hD2 hS2 => ?_)
                                  clear hP hD hS
                                  have hPD : PD D A [(Rv, .inl (g 0, 21, .inl fvalx_323)), (Rd, .inr (4, [.ref Tp, .int (nI ln), .int (nI axx_333), .int (nI axx_333), .int (nI htx_4), .int (nI ctx_5), .ref Rv])), (Tp, .inl (g 0, 160, .inl ftp))] H := ⟨hP2, hD2⟩
                                  have hS := hS2; clear hP2 hD2 hS2; have hP := hPD.1; have hD := hPD.2; clear hPD
                                  have hPD9 : PD D A [(Rd, .inr (4, [.ref Tp, .int (nI ln), .int (nI axx_333), .int (nI axx_333), .int (nI htx_4), .int (nI ctx_5), .ref Rv])), (Tp, .inl (g 0, 160, .inl ftp)), (Rv, .inl (g 0, 21, .inl fvalx_323))] H := ⟨hP.sub [1, 2, 0] rfl, hD.sub [1, 2, 0] (by decide) rfl⟩
                                  have hP9 := hPD9.1; have hD9 := hPD9.2
                                  subst hQ
                                  refine W.widen (k := 0) (n := 0) (Nat.le_of_ble_eq_true rfl) (Nat.le_of_ble_eq_true rfl) ?_
                                  exact W.vret hx hb hr (fun tS htS _ => ⟨⟨_, rfl, ⟨axx_333, (nI axx_333), htx_4, ctx_5, fvalx_323, rfl, ⟨(show axx_333 ≤ ln by omega), (show htx_4 ≤ 3 by omega), (show ctx_5 ≤ 3 by omega), (hf_325), (cl_bad hf_7.2.2.2.1.symm (show cl_15 < 7 by omega) (hR_330.trans (itR_again (f := 0) (q := 1) hf_335 qi_343 (by decide) (by decide))) (show axx_333 < ln by omega) cb_340).1, (cl_bad hf_7.2.2.2.1.symm (show cl_15 < 7 by omega) (hR_330.trans (itR_again (f := 0) (q := 1) hf_335 qi_343 (by decide) (by decide))) (show axx_333 < ln by omega) cb_340).2, (fun q => absurd q (m1_ne (show axx_333 < 2 ^ 31 by omega)))⟩⟩, by rw [htS]; exact hP9, hD9⟩, hS.F htS⟩) hS.2.2 dX4_readClause_94
                                · skip
                                  refine lv_eqi (y := 2) (qi_343) ?_
                                  refine lv_istore (lv' := [(5, .int 2), (4, .int 3), (3, .int 7), (2, .int (nI cl_15)), (0, .ref Rd), (1, .int zf)]) hx hb dX4_readClause_69 hl (by decide) rfl (fun ls hl => ?_)
                                  refine lv_iload hx hb dX4_readClause_71 (lv_at hl 0 rfl) ?_
                                  refine lv_iconst (v := (-1)) hx hb dX4_readClause_73 (by decide) ?_
                                  refine lv_icmp_eq (tgt := 86) hx hb dX4_readClause_74 (by decide) (fun cb => absurd cb (by decide)) (fun _ => ?_)
                                  refine lv_iload_n hx hb dX4_readClause_77 rfl (lv_at hl 2 rfl) ?_
                                  refine lv_iconst (v := 1) hx hb dX4_readClause_78 (by decide) ?_
                                  refine lv_iload hx hb dX4_readClause_79 (lv_at hl 0 rfl) ?_
                                  refine lv_ishl hx hb dX4_readClause_81 ?_
                                  refine lv_eqi (y := 4) (by decide) ?_
                                  refine lv_iand hx hb dX4_readClause_82 ?_
                                  refine lv_eqi (y := 4) (by decide) ?_
                                  refine lv_if_eq (tgt := 95) hx hb dX4_readClause_83 (by decide) (fun cb => absurd cb (by decide)) (fun _ => ?_)
                                  refine lv_aload_n hx hb dX4_readClause_86 rfl (lv_at hl 4 rfl) ?_
                                  refine lv_aload_n hx hb dX4_readClause_87 rfl (lv_at hl 4 rfl) ?_
                                  refine va_get (D := D) (ci := 4) (v := .int (nI axx_333)) (C := RX4) (T := TX4) (N := 7) hx hb hts iX4 hown hK hP 1 rfl rfl 2 (by decide) f28 (fun _ h9 => h9) rfl dX4_readClause_88 ?_
                                  refine va_put (D := D) (ci := 4) (v := .int (nI axx_333)) (ty := .int) (C := RX4) (T := TX4) (N := 7) hx hb hts iX4 tyX4 tyX4_ok nmX4 hown hK hP hD hS 1 rfl rfl 3 (by decide) f31 (fun _ h9 => h9) rfl (by decide +kernel) (rfl) (rfl) (Nat.le_of_ble_eq_true rfl) dX4_readClause_91 (fun H locs hP2 hD2 hS2 => ?_)
                                  clear hP hD hS
                                  have hPD : PD D A [(Rv, .inl (g 0, 21, .inl fvalx_323)), (Rd, .inr (4, [.ref Tp, .int (nI ln), .int (nI axx_333), .int (nI axx_333), .int (nI htx_4), .int (nI ctx_5), .ref Rv])), (Tp, .inl (g 0, 160, .inl ftp))] H := ⟨hP2, hD2⟩
                                  have hS := hS2; clear hP2 hD2 hS2; have hP := hPD.1; have hD := hPD.2; clear hPD
                                  have hPD9 : PD D A [(Rd, .inr (4, [.ref Tp, .int (nI ln), .int (nI axx_333), .int (nI axx_333), .int (nI htx_4), .int (nI ctx_5), .ref Rv])), (Tp, .inl (g 0, 160, .inl ftp)), (Rv, .inl (g 0, 21, .inl fvalx_323))] H := ⟨hP.sub [1, 2, 0] rfl, hD.sub [1, 2, 0] (by decide) rfl⟩
                                  have hP9 := hPD9.1; have hD9 := hPD9.2
                                  subst hQ
                                  refine W.widen (k := 0) (n := 0) (Nat.le_of_ble_eq_true rfl) (Nat.le_of_ble_eq_true rfl) ?_
                                  exact W.vret hx hb hr (fun tS htS _ => ⟨⟨_, rfl, ⟨axx_333, (nI axx_333), htx_4, ctx_5, fvalx_323, rfl, ⟨(show axx_333 ≤ ln by omega), (show htx_4 ≤ 3 by omega), (show ctx_5 ≤ 3 by omega), (hf_325), (cl_bad hf_7.2.2.2.1.symm (show cl_15 < 7 by omega) (hR_330.trans (itR_again (f := 0) (q := 2) hf_335 qi_343 (by decide) (by decide))) (show axx_333 < ln by omega) cb_340).1, (cl_bad hf_7.2.2.2.1.symm (show cl_15 < 7 by omega) (hR_330.trans (itR_again (f := 0) (q := 2) hf_335 qi_343 (by decide) (by decide))) (show axx_333 < ln by omega) cb_340).2, (fun q => absurd q (m1_ne (show axx_333 < 2 ^ 31 by omega)))⟩⟩, by rw [htS]; exact hP9, hD9⟩, hS.F htS⟩) hS.2.2 dX4_readClause_94
                              · skip
                                have hPD9 : PD D A [(Rd, .inr (4, [.ref Tp, .int (nI ln), .int (nI axx_333), .int (-1), .int (nI htx_4), .int (nI ctx_5), .ref Rv])), (Tp, .inl (g 0, 160, .inl ftp)), (Rv, .inl (g 0, 21, .inl fvalx_323))] H := ⟨hP.sub [1, 2, 0] rfl, hD.sub [1, 2, 0] (by decide) rfl⟩
                                have hP9 := hPD9.1; have hD9 := hPD9.2
                                subst hQ
                                refine W.widen (k := 0) (n := 0) (Nat.le_of_ble_eq_true rfl) (Nat.le_of_ble_eq_true rfl) ?_
                                exact W.vret hx hb hr (fun tS htS _ => ⟨⟨_, rfl, ⟨axx_333, (-1), htx_4, ctx_5, fvalx_323, rfl, ⟨(show axx_333 ≤ ln by omega), (show htx_4 ≤ 3 by omega), (show ctx_5 ≤ 3 by omega), (hf_325), (cl_end hf_7.2.2.2.1.symm (show cl_15 < 7 by omega) (hR_330.trans (itR_no (f := 0) hf_335 (by rw [cb_340]; exact itK_59 _))) (fun q => q.2 cb_340)).1, (cl_end hf_7.2.2.2.1.symm (show cl_15 < 7 by omega) (hR_330.trans (itR_no (f := 0) hf_335 (by rw [cb_340]; exact itK_59 _))) (fun q => q.2 cb_340)).2.1, (fun _ => ⟨(cl_end hf_7.2.2.2.1.symm (show cl_15 < 7 by omega) (hR_330.trans (itR_no (f := 0) hf_335 (by rw [cb_340]; exact itK_59 _))) (fun q => q.2 cb_340)).2.2, show ax < axx_333 by omega⟩)⟩⟩, by rw [htS]; exact hP9, hD9⟩, hS.F htS⟩) hS.2.2 dX4_readClause_52
                          · skip
                            have hP9 := hP; have hD9 := hD
                            subst hQ
                            refine W.widen (k := 0) (n := 0) (Nat.le_of_ble_eq_true rfl) (Nat.le_of_ble_eq_true rfl) ?_
                            exact W.vret hx hb hr (fun tS htS _ => ⟨⟨_, rfl, ⟨axx_321, zfax_322, htx_4, ctx_5, fvalx_323, rfl, ⟨(show axx_321 ≤ ln by omega), (show htx_4 ≤ 3 by omega), (show ctx_5 ≤ 3 by omega), (hf_325), (cl_num hf_7.2.2.2.1.symm (show cl_15 < 7 by omega) ((congrArg Prod.fst hR_306).trans ((itR_w (f := 1) (q := 1) hf_311 (show axx_309 < ln by omega) qi_319 (by decide) (by decide) (fun q => cb_328 (hf_326.trans q))).trans hf_326.symm)) cb_328).1, (cl_num hf_7.2.2.2.1.symm (show cl_15 < 7 by omega) ((congrArg Prod.fst hR_306).trans ((itR_w (f := 1) (q := 1) hf_311 (show axx_309 < ln by omega) qi_319 (by decide) (by decide) (fun q => cb_328 (hf_326.trans q))).trans hf_326.symm)) cb_328).2, (fun q => absurd q cb_328)⟩⟩, by rw [htS]; exact hP9, hD9⟩, hS.F htS⟩) hS.2.2 dX4_readClause_127
                        · skip
                          refine lv_eqi (y := 2) (qi_319) ?_
                          refine lv_istore (lv' := [(5, .int 2), (4, .int 2), (3, .int 5), (2, .int (nI cl_15)), (0, .ref Rd), (1, .int zf)]) hx hb dX4_readClause_69 hl (by decide) rfl (fun ls hl => ?_)
                          refine lv_iload hx hb dX4_readClause_71 (lv_at hl 0 rfl) ?_
                          refine lv_iconst (v := (-1)) hx hb dX4_readClause_73 (by decide) ?_
                          refine lv_icmp_eq (tgt := 86) hx hb dX4_readClause_74 (by decide) (fun cb => absurd cb (by decide)) (fun _ => ?_)
                          refine lv_iload_n hx hb dX4_readClause_77 rfl (lv_at hl 2 rfl) ?_
                          refine lv_iconst (v := 1) hx hb dX4_readClause_78 (by decide) ?_
                          refine lv_iload hx hb dX4_readClause_79 (lv_at hl 0 rfl) ?_
                          refine lv_ishl hx hb dX4_readClause_81 ?_
                          refine lv_eqi (y := 4) (by decide) ?_
                          refine lv_iand hx hb dX4_readClause_82 ?_
                          refine lv_eqi (y := 4) (by decide) ?_
                          refine lv_if_eq (tgt := 95) hx hb dX4_readClause_83 (by decide) (fun cb => absurd cb (by decide)) (fun _ => ?_)
                          refine lv_aload_n hx hb dX4_readClause_86 rfl (lv_at hl 4 rfl) ?_
                          refine lv_aload_n hx hb dX4_readClause_87 rfl (lv_at hl 4 rfl) ?_
                          refine va_get (D := D) (ci := 4) (v := .int (nI axx_309)) (C := RX4) (T := TX4) (N := 7) hx hb hts iX4 hown hK hP 1 rfl rfl 2 (by decide) f28 (fun _ h9 => h9) rfl dX4_readClause_88 ?_
                          refine va_put (D := D) (ci := 4) (v := .int (nI axx_309)) (ty := .int) (C := RX4) (T := TX4) (N := 7) hx hb hts iX4 tyX4 tyX4_ok nmX4 hown hK hP hD hS 1 rfl rfl 3 (by decide) f31 (fun _ h9 => h9) rfl (by decide +kernel) (rfl) (rfl) (Nat.le_of_ble_eq_true rfl) dX4_readClause_91 (fun H locs hP2 hD2 hS2 => ?_)
                          clear hP hD hS
                          have hPD : PD D A [(Rv, .inl (g 0, 21, .inl fvalx_299)), (Rd, .inr (4, [.ref Tp, .int (nI ln), .int (nI axx_309), .int (nI axx_309), .int (nI htx_4), .int (nI ctx_5), .ref Rv])), (Tp, .inl (g 0, 160, .inl ftp))] H := ⟨hP2, hD2⟩
                          have hS := hS2; clear hP2 hD2 hS2; have hP := hPD.1; have hD := hPD.2; clear hPD
                          have hPD9 : PD D A [(Rd, .inr (4, [.ref Tp, .int (nI ln), .int (nI axx_309), .int (nI axx_309), .int (nI htx_4), .int (nI ctx_5), .ref Rv])), (Tp, .inl (g 0, 160, .inl ftp)), (Rv, .inl (g 0, 21, .inl fvalx_299))] H := ⟨hP.sub [1, 2, 0] rfl, hD.sub [1, 2, 0] (by decide) rfl⟩
                          have hP9 := hPD9.1; have hD9 := hPD9.2
                          subst hQ
                          refine W.widen (k := 0) (n := 0) (Nat.le_of_ble_eq_true rfl) (Nat.le_of_ble_eq_true rfl) ?_
                          exact W.vret hx hb hr (fun tS htS _ => ⟨⟨_, rfl, ⟨axx_309, (nI axx_309), htx_4, ctx_5, fvalx_299, rfl, ⟨(show axx_309 ≤ ln by omega), (show htx_4 ≤ 3 by omega), (show ctx_5 ≤ 3 by omega), (hf_301), (cl_bad hf_7.2.2.2.1.symm (show cl_15 < 7 by omega) (hR_306.trans (itR_again (f := 1) (q := 2) hf_311 qi_319 (by decide) (by decide))) (show axx_309 < ln by omega) cb_316).1, (cl_bad hf_7.2.2.2.1.symm (show cl_15 < 7 by omega) (hR_306.trans (itR_again (f := 1) (q := 2) hf_311 qi_319 (by decide) (by decide))) (show axx_309 < ln by omega) cb_316).2, (fun q => absurd q (m1_ne (show axx_309 < 2 ^ 31 by omega)))⟩⟩, by rw [htS]; exact hP9, hD9⟩, hS.F htS⟩) hS.2.2 dX4_readClause_94
                      · skip
                        have hPD9 : PD D A [(Rd, .inr (4, [.ref Tp, .int (nI ln), .int (nI axx_309), .int (-1), .int (nI htx_4), .int (nI ctx_5), .ref Rv])), (Tp, .inl (g 0, 160, .inl ftp)), (Rv, .inl (g 0, 21, .inl fvalx_299))] H := ⟨hP.sub [1, 2, 0] rfl, hD.sub [1, 2, 0] (by decide) rfl⟩
                        have hP9 := hPD9.1; have hD9 := hPD9.2
                        subst hQ
                        refine W.widen (k := 0) (n := 0) (Nat.le_of_ble_eq_true rfl) (Nat.le_of_ble_eq_true rfl) ?_
                        exact W.vret hx hb hr (fun tS htS _ => ⟨⟨_, rfl, ⟨axx_309, (-1), htx_4, ctx_5, fvalx_299, rfl, ⟨(show axx_309 ≤ ln by omega), (show htx_4 ≤ 3 by omega), (show ctx_5 ≤ 3 by omega), (hf_301), (cl_end hf_7.2.2.2.1.symm (show cl_15 < 7 by omega) (hR_306.trans (itR_no (f := 1) hf_311 (by rw [cb_316]; exact itK_59 _))) (fun q => q.2 cb_316)).1, (cl_end hf_7.2.2.2.1.symm (show cl_15 < 7 by omega) (hR_306.trans (itR_no (f := 1) hf_311 (by rw [cb_316]; exact itK_59 _))) (fun q => q.2 cb_316)).2.1, (fun _ => ⟨(cl_end hf_7.2.2.2.1.symm (show cl_15 < 7 by omega) (hR_306.trans (itR_no (f := 1) hf_311 (by rw [cb_316]; exact itK_59 _))) (fun q => q.2 cb_316)).2.2, show ax < axx_309 by omega⟩)⟩⟩, by rw [htS]; exact hP9, hD9⟩, hS.F htS⟩) hS.2.2 dX4_readClause_52
                  · skip
                    have hP9 := hP; have hD9 := hD
                    subst hQ
                    refine W.widen (k := 0) (n := 0) (Nat.le_of_ble_eq_true rfl) (Nat.le_of_ble_eq_true rfl) ?_
                    exact W.vret hx hb hr (fun tS htS _ => ⟨⟨_, rfl, ⟨axx_297, zfax_298, htx_4, ctx_5, fvalx_299, rfl, ⟨(show axx_297 ≤ ln by omega), (show htx_4 ≤ 3 by omega), (show ctx_5 ≤ 3 by omega), (hf_301), (cl_num hf_7.2.2.2.1.symm (show cl_15 < 7 by omega) ((congrArg Prod.fst hR_282).trans ((itR_w (f := 2) (q := 0) hf_287 (show axx_285 < ln by omega) qi_295 (by decide) (by decide) (fun q => cb_304 (hf_302.trans q))).trans hf_302.symm)) cb_304).1, (cl_num hf_7.2.2.2.1.symm (show cl_15 < 7 by omega) ((congrArg Prod.fst hR_282).trans ((itR_w (f := 2) (q := 0) hf_287 (show axx_285 < ln by omega) qi_295 (by decide) (by decide) (fun q => cb_304 (hf_302.trans q))).trans hf_302.symm)) cb_304).2, (fun q => absurd q cb_304)⟩⟩, by rw [htS]; exact hP9, hD9⟩, hS.F htS⟩) hS.2.2 dX4_readClause_127
                · skip
                  refine lv_eqi (y := 1) (qi_295) ?_
                  refine lv_istore (lv' := [(5, .int 1), (4, .int 1), (3, .int 4), (2, .int (nI cl_15)), (0, .ref Rd), (1, .int zf)]) hx hb dX4_readClause_69 hl (by decide) rfl (fun ls hl => ?_)
                  refine lv_iload hx hb dX4_readClause_71 (lv_at hl 0 rfl) ?_
                  refine lv_iconst (v := (-1)) hx hb dX4_readClause_73 (by decide) ?_
                  refine lv_icmp_eq (tgt := 86) hx hb dX4_readClause_74 (by decide) (fun cb => absurd cb (by decide)) (fun _ => ?_)
                  refine lv_iload_n hx hb dX4_readClause_77 rfl (lv_at hl 2 rfl) ?_
                  refine lv_iconst (v := 1) hx hb dX4_readClause_78 (by decide) ?_
                  refine lv_iload hx hb dX4_readClause_79 (lv_at hl 0 rfl) ?_
                  refine lv_ishl hx hb dX4_readClause_81 ?_
                  refine lv_eqi (y := 2) (by decide) ?_
                  refine lv_iand hx hb dX4_readClause_82 ?_
                  refine lv_eqi (y := 0) (by decide) ?_
                  refine lv_if_eq (tgt := 95) hx hb dX4_readClause_83 (by decide) (fun _ => ?_) (fun cb => absurd (by decide) cb)
                  refine lv_iload_n hx hb dX4_readClause_95 rfl (lv_at hl 2 rfl) ?_
                  refine lv_iconst (v := 1) hx hb dX4_readClause_96 (by decide) ?_
                  refine lv_iload hx hb dX4_readClause_97 (lv_at hl 0 rfl) ?_
                  refine lv_ishl hx hb dX4_readClause_99 ?_
                  refine lv_eqi (y := 2) (by decide) ?_
                  refine lv_ior hx hb dX4_readClause_100 ?_
                  refine lv_eqi (y := 6) (by decide) ?_
                  refine lv_istore_n (lv' := [(3, .int 6), (5, .int 1), (4, .int 1), (2, .int (nI cl_15)), (0, .ref Rd), (1, .int zf)]) hx hb dX4_readClause_101 rfl hl (by decide) rfl (fun ls hl => ?_)
                  refine lv_aload_n hx hb dX4_readClause_102 rfl (lv_at hl 4 rfl) ?_
                  refine lv_dup hx hb dX4_readClause_103 rfl ?_
                  refine va_get (D := D) (ci := 4) (v := .int (nI axx_285)) (C := RX4) (T := TX4) (N := 7) hx hb hts iX4 hown hK hP 1 rfl rfl 2 (by decide) f28 (fun _ h9 => h9) rfl dX4_readClause_104 ?_
                  refine lv_iconst (v := 1) hx hb dX4_readClause_107 (by decide) ?_
                  refine lv_iadd hx hb dX4_readClause_108 ?_
                  refine lv_eqi (y := (nI (axx_285 + 1))) (nI_add (axx_285) (1)) ?_
                  refine va_put (D := D) (ci := 4) (v := .int (nI (axx_285 + 1))) (ty := .int) (C := RX4) (T := TX4) (N := 7) hx hb hts iX4 tyX4 tyX4_ok nmX4 hown hK hP hD hS 1 rfl rfl 2 (by decide) f28 (fun _ h9 => h9) rfl (by decide +kernel) (rfl) (rfl) (Nat.le_of_ble_eq_true rfl) dX4_readClause_109 (fun H locs hP2 hD2 hS2 => ?_)
                  clear hP hD hS
                  have hPD : PD D A [(Rv, .inl (g 0, 21, .inl fvalx_275)), (Rd, .inr (4, [.ref Tp, .int (nI ln), .int (nI (axx_285 + 1)), .int (-1), .int (nI htx_4), .int (nI ctx_5), .ref Rv])), (Tp, .inl (g 0, 160, .inl ftp))] H := ⟨hP2, hD2⟩
                  have hS := hS2; clear hP2 hD2 hS2; have hP := hPD.1; have hD := hPD.2; clear hPD
                  refine lv_aload_n hx hb dX4_readClause_112 rfl (lv_at hl 4 rfl) ?_
                  refine lv_iload_n hx hb dX4_readClause_113 rfl (lv_at hl 3 rfl) ?_
                  refine lv_iload hx hb dX4_readClause_114 (lv_at hl 1 rfl) ?_
                  refine ky_Vv (As := [.int (nI cl_15), .int 1]) (rest := []) ⟨hx, hb, hml, hown, hts⟩ ⟨hK, hN⟩ hZ hP hD hS hA [1, 2, 0] [] (wc := [(Rd, .inr (4, [.ref Tp, .int (nI ln), .int (nI (axx_285 + 1)), .int (-1), .int (nI htx_4), .int (nI ctx_5), .ref Rv])), (Tp, .inl (g 0, 160, .inl ftp)), (Rv, .inl (g 0, 21, .inl fvalx_275))]) (wr := []) rfl rfl rfl rfl (by decide) (r_X4_readNumber l D g H.size Rd cl_15 1 Tp ln (axx_285 + 1) htx_4 ctx_5 Rv ftp fvalx_275 (show ln ≤ 160 by omega) (show (axx_285 + 1) ≤ ln by omega) (hf_277) (show cl_15 < 7 by omega) (show 1 < 3 by omega)) (cwV 2 hts gX4_readClause_X4_readNumber rfl rfl rfl (by decide +kernel) ⟨(Nat.le_of_ble_eq_true rfl), (Nat.le_of_ble_eq_true rfl)⟩) 1 4 rfl rfl rfl rfl hl.1 rfl (Nat.le_of_ble_eq_true rfl) dX4_readClause_116 ⟨(Nat.le_of_ble_eq_true rfl), (Nat.le_of_ble_eq_true rfl)⟩ (fun u H locs hw hP2 hD2 hS2 => ?_)
                  clear hP hD hS
                  obtain ⟨axx_345, zfax_346, fvalx_347, rfl, hf_348, hf_349, hf_350, hf_351⟩ := hw
                  have hPD : PD D A [(Rd, .inr (4, [.ref Tp, .int (nI ln), .int (nI axx_345), .int zfax_346, .int (nI htx_4), .int (nI ctx_5), .ref Rv])), (Tp, .inl (g 0, 160, .inl ftp)), (Rv, .inl (g 0, 21, .inl fvalx_347))] H := ⟨hP2, hD2⟩
                  have hS := hS2; clear hP2 hD2 hS2; have hP := hPD.1; have hD := hPD.2; clear hPD
                  refine W.widen (k := 0) (n := 0) (Nat.le_of_ble_eq_true rfl) (Nat.le_of_ble_eq_true rfl) ?_
                  refine lv_aload_n hx hb dX4_readClause_119 rfl (lv_at hl 4 rfl) ?_
                  refine va_get (D := D) (ci := 4) (v := .int zfax_346) (C := RX4) (T := TX4) (N := 7) hx hb hts iX4 hown hK hP 0 rfl rfl 3 (by decide) f31 (fun _ h9 => h9) rfl dX4_readClause_120 ?_
                  refine lv_iconst (v := (-1)) hx hb dX4_readClause_123 (by decide) ?_
                  refine lv_icmp_eq (tgt := 128) hx hb dX4_readClause_124 (by decide) (fun cb_352 => ?_) (fun cb_352 => ?_)
                  · skip
                    have hPq_353 := hP; have hDq_353 := hD; have hSq_353 := hS; have hlq_353 := hl; clear hP hD hS hl
                    subst cb_352
                    have hP := hPq_353; have hD := hDq_353; have hS := hSq_353; have hl := hlq_353; clear hPq_353 hDq_353 hSq_353 hlq_353
                    have hne_355 := (hf_351 rfl).1
                    have hne_355g := nmE_gt (T := ftp) (n := ln) (i := axx_285 + 1) (by omega)
                    have hR_354 : itR ftp ln (kdN cl_15) 4 0 (sB ftp ln ax + 1) = itR ftp ln (kdN cl_15) 2 6 axx_345 := hR_282.trans ((itR_go (f := 2) (m := 4) (q := 1) hf_287 (show axx_285 < ln by omega) qi_295 (by decide) (by decide) hf_350.symm).trans (by rw [hne_355]))
                    refine lv_iinc (v := 2) (lv' := [(4, .int 2), (3, .int 6), (5, .int 1), (2, .int (nI cl_15)), (0, .ref Rd), (1, .int zf)]) hx hb dX4_readClause_128 hl (k := 2) rfl (by decide) (by decide) rfl (fun ls hl => ?_)
                    refine lv_goto (tgt := 17) hx hb dX4_readClause_131 (by decide) ?_
                    refine lv_iload hx hb dX4_readClause_17 (lv_at hl 0 rfl) ?_
                    refine lv_iconst (v := 3) hx hb dX4_readClause_19 (by decide) ?_
                    refine lv_icmp_gt (tgt := 134) hx hb dX4_readClause_20 (by decide) (fun cb => absurd cb (by decide)) (fun _ => ?_)
                    refine lv_aload_n hx hb dX4_readClause_23 rfl (lv_at hl 4 rfl) ?_
                    refine ky_Vv (As := []) (rest := []) ⟨hx, hb, hml, hown, hts⟩ ⟨hK, hN⟩ hZ hP hD hS hA [0, 1] [2] (wc := [(Rd, .inr (4, [.ref Tp, .int (nI ln), .int (nI axx_345), .int (-1), .int (nI htx_4), .int (nI ctx_5), .ref Rv])), (Tp, .inl (g 0, 160, .inl ftp))]) (wr := [(Rv, .inl (g 0, 21, .inl fvalx_347))]) rfl rfl rfl rfl (by decide) (r_X4_passBlanks l D g H.size Rd Tp ln axx_345 (-1) htx_4 ctx_5 Rv ftp (show ln ≤ 160 by omega) (show axx_345 ≤ ln by omega)) (cwV 0 hts gX4_readClause_X4_passBlanks rfl rfl rfl (by decide +kernel) ⟨(Nat.le_of_ble_eq_true rfl), (Nat.le_of_ble_eq_true rfl)⟩) 0 4 rfl rfl rfl rfl hl.1 rfl (Nat.le_of_ble_eq_true rfl) dX4_readClause_24 ⟨(Nat.le_of_ble_eq_true rfl), (Nat.le_of_ble_eq_true rfl)⟩ (fun u H locs hw hP2 hD2 hS2 => ?_)
                    clear hP hD hS
                    obtain ⟨axx_357, rfl, hf_358, hf_359⟩ := hw
                    have hPD : PD D A [(Rv, .inl (g 0, 21, .inl fvalx_347)), (Rd, .inr (4, [.ref Tp, .int (nI ln), .int (nI axx_357), .int (-1), .int (nI htx_4), .int (nI ctx_5), .ref Rv])), (Tp, .inl (g 0, 160, .inl ftp))] H := ⟨hP2, hD2⟩
                    have hS := hS2; clear hP2 hD2 hS2; have hP := hPD.1; have hD := hPD.2; clear hPD
                    refine W.widen (k := 0) (n := 0) (Nat.le_of_ble_eq_true rfl) (Nat.le_of_ble_eq_true rfl) ?_
                    have hge_360 := sB_ge (T := ftp) (n := ln) (i := axx_345) (by omega)
                    refine lv_aload_n hx hb dX4_readClause_27 rfl (lv_at hl 4 rfl) ?_
                    refine va_get (D := D) (ci := 4) (v := .int (nI axx_357)) (C := RX4) (T := TX4) (N := 7) hx hb hts iX4 hown hK hP 1 rfl rfl 2 (by decide) f28 (fun _ h9 => h9) rfl dX4_readClause_28 ?_
                    refine lv_aload_n hx hb dX4_readClause_31 rfl (lv_at hl 4 rfl) ?_
                    refine va_get (D := D) (ci := 4) (v := .int (nI ln)) (C := RX4) (T := TX4) (N := 7) hx hb hts iX4 hown hK hP 1 rfl rfl 1 (by decide) f24 (fun _ h9 => h9) rfl dX4_readClause_32 ?_
                    refine lv_icmp_ge (tgt := 52) hx hb dX4_readClause_35 (by decide) (fun cb_361 => ?_) (fun cb_361 => ?_)
                    · skip
                      have cn_362 : ln ≤ axx_357 := (nI_leI (show ln < 2 ^ 31 by omega) (show axx_357 < 2 ^ 31 by omega)).mp cb_361
                      have hPD9 : PD D A [(Rd, .inr (4, [.ref Tp, .int (nI ln), .int (nI axx_357), .int (-1), .int (nI htx_4), .int (nI ctx_5), .ref Rv])), (Tp, .inl (g 0, 160, .inl ftp)), (Rv, .inl (g 0, 21, .inl fvalx_347))] H := ⟨hP.sub [1, 2, 0] rfl, hD.sub [1, 2, 0] (by decide) rfl⟩
                      have hP9 := hPD9.1; have hD9 := hPD9.2
                      subst hQ
                      refine W.widen (k := 0) (n := 0) (Nat.le_of_ble_eq_true rfl) (Nat.le_of_ble_eq_true rfl) ?_
                      exact W.vret hx hb hr (fun tS htS _ => ⟨⟨_, rfl, ⟨axx_357, (-1), htx_4, ctx_5, fvalx_347, rfl, ⟨(show axx_357 ≤ ln by omega), (show htx_4 ≤ 3 by omega), (show ctx_5 ≤ 3 by omega), (hf_349), (cl_end hf_7.2.2.2.1.symm (show cl_15 < 7 by omega) (hR_354.trans (itR_end (f := 1) hf_359 (show ¬ axx_357 < ln by omega))) (fun q => absurd q.1 (show ¬ axx_357 < ln by omega))).1, (cl_end hf_7.2.2.2.1.symm (show cl_15 < 7 by omega) (hR_354.trans (itR_end (f := 1) hf_359 (show ¬ axx_357 < ln by omega))) (fun q => absurd q.1 (show ¬ axx_357 < ln by omega))).2.1, (fun _ => ⟨(cl_end hf_7.2.2.2.1.symm (show cl_15 < 7 by omega) (hR_354.trans (itR_end (f := 1) hf_359 (show ¬ axx_357 < ln by omega))) (fun q => absurd q.1 (show ¬ axx_357 < ln by omega))).2.2, show ax < axx_357 by omega⟩)⟩⟩, by rw [htS]; exact hP9, hD9⟩, hS.F htS⟩) hS.2.2 dX4_readClause_52
                    · skip
                      have cn_363 : axx_357 < ln := Nat.lt_of_not_le (fun q9 => cb_361 ((nI_leI (show ln < 2 ^ 31 by omega) (show axx_357 < 2 ^ 31 by omega)).mpr q9))
                      refine lv_aload_n hx hb dX4_readClause_38 rfl (lv_at hl 4 rfl) ?_
                      refine va_get (D := D) (ci := 4) (v := .ref Tp) (C := RX4) (T := TX4) (N := 7) hx hb hts iX4 hown hK hP 1 rfl rfl 0 (by decide) f9 (fun _ h9 => h9) rfl dX4_readClause_39 ?_
                      refine lv_aload_n hx hb dX4_readClause_42 rfl (lv_at hl 4 rfl) ?_
                      refine va_get (D := D) (ci := 4) (v := .int (nI axx_357)) (C := RX4) (T := TX4) (N := 7) hx hb hts iX4 hown hK hP 1 rfl rfl 2 (by decide) f28 (fun _ h9 => h9) rfl dX4_readClause_43 ?_
                      refine va_iald hx hb hK hP 2 0 rfl rfl (vp_in_nI (show axx_357 < 160 by omega) (by decide)) dX4_readClause_46 ?_
                      refine lv_eqi (y := (ftp (axx_357))) (congrArg ftp (nI_clamp (show axx_357 < 2 ^ 31 by omega))) ?_
                      refine lv_bipush (v := 59) hx hb dX4_readClause_47 (by decide) ?_
                      refine lv_icmp_ne (tgt := 53) hx hb dX4_readClause_49 (by decide) (fun cb_364 => ?_) (fun cb_364 => ?_)
                      · skip
                        refine lv_iload_n hx hb dX4_readClause_53 rfl (lv_at hl 3 rfl) ?_
                        refine ky_Si (As := [.int (nI cl_15)]) (rest := []) ⟨hx, hb, hml, hown, hts⟩ ⟨hK, hN⟩ hZ hP hD hS hA [] [0, 1, 2] (wc := []) (wr := [(Rv, .inl (g 0, 21, .inl fvalx_347)), (Rd, .inr (4, [.ref Tp, .int (nI ln), .int (nI axx_357), .int (-1), .int (nI htx_4), .int (nI ctx_5), .ref Rv])), (Tp, .inl (g 0, 160, .inl ftp))]) rfl rfl rfl rfl (by decide) (r_X4_kindOf l D g H.size cl_15 (show cl_15 < 7 by omega)) (va_cwS 1 hts gX4_readClause_X4_kindOf rfl rfl rfl (by decide +kernel) ⟨(Nat.le_of_ble_eq_true rfl), (Nat.le_of_ble_eq_true rfl)⟩) rfl hl.1 rfl (Nat.le_of_ble_eq_true rfl) dX4_readClause_54 ⟨(Nat.le_of_ble_eq_true rfl), (Nat.le_of_ble_eq_true rfl)⟩ (fun r_365 u H locs hw hP2 hD2 hS2 => ?_)
                        clear hP hD hS
                        obtain ⟨rfl, rfl⟩ := hw
                        have hPD : PD D A [(Rv, .inl (g 0, 21, .inl fvalx_347)), (Rd, .inr (4, [.ref Tp, .int (nI ln), .int (nI axx_357), .int (-1), .int (nI htx_4), .int (nI ctx_5), .ref Rv])), (Tp, .inl (g 0, 160, .inl ftp))] H := ⟨hP2, hD2⟩
                        have hS := hS2; clear hP2 hD2 hS2; have hP := hPD.1; have hD := hPD.2; clear hPD
                        refine W.widen (k := 0) (n := 0) (Nat.le_of_ble_eq_true rfl) (Nat.le_of_ble_eq_true rfl) ?_
                        refine lv_aload_n hx hb dX4_readClause_57 rfl (lv_at hl 4 rfl) ?_
                        refine va_get (D := D) (ci := 4) (v := .ref Tp) (C := RX4) (T := TX4) (N := 7) hx hb hts iX4 hown hK hP 1 rfl rfl 0 (by decide) f9 (fun _ h9 => h9) rfl dX4_readClause_58 ?_
                        refine lv_aload_n hx hb dX4_readClause_61 rfl (lv_at hl 4 rfl) ?_
                        refine va_get (D := D) (ci := 4) (v := .int (nI axx_357)) (C := RX4) (T := TX4) (N := 7) hx hb hts iX4 hown hK hP 1 rfl rfl 2 (by decide) f28 (fun _ h9 => h9) rfl dX4_readClause_62 ?_
                        refine va_iald hx hb hK hP 2 0 rfl rfl (vp_in_nI (show axx_357 < 160 by omega) (by decide)) dX4_readClause_65 ?_
                        refine lv_eqi (y := (ftp (axx_357))) (congrArg ftp (nI_clamp (show axx_357 < 2 ^ 31 by omega))) ?_
                        refine ky_Si (As := [.int (nI (kdN cl_15)), .int (ftp (axx_357))]) (rest := []) ⟨hx, hb, hml, hown, hts⟩ ⟨hK, hN⟩ hZ hP hD hS hA [] [0, 1, 2] (wc := []) (wr := [(Rv, .inl (g 0, 21, .inl fvalx_347)), (Rd, .inr (4, [.ref Tp, .int (nI ln), .int (nI axx_357), .int (-1), .int (nI htx_4), .int (nI ctx_5), .ref Rv])), (Tp, .inl (g 0, 160, .inl ftp))]) rfl rfl rfl rfl (by decide) (r_X4_itemOf l D g H.size (kdN cl_15) (ftp (axx_357)) (show (kdN cl_15) < 3 by omega)) (va_cwS 2 hts gX4_readClause_X4_itemOf rfl rfl rfl (by decide +kernel) ⟨(Nat.le_of_ble_eq_true rfl), (Nat.le_of_ble_eq_true rfl)⟩) rfl hl.1 rfl (Nat.le_of_ble_eq_true rfl) dX4_readClause_66 ⟨(Nat.le_of_ble_eq_true rfl), (Nat.le_of_ble_eq_true rfl)⟩ (fun r_366 u H locs hw hP2 hD2 hS2 => ?_)
                        clear hP hD hS
                        obtain ⟨rfl, rfl⟩ := hw
                        have hPD : PD D A [(Rv, .inl (g 0, 21, .inl fvalx_347)), (Rd, .inr (4, [.ref Tp, .int (nI ln), .int (nI axx_357), .int (-1), .int (nI htx_4), .int (nI ctx_5), .ref Rv])), (Tp, .inl (g 0, 160, .inl ftp))] H := ⟨hP2, hD2⟩
                        have hS := hS2; clear hP2 hD2 hS2; have hP := hPD.1; have hD := hPD.2; clear hPD
                        refine W.widen (k := 0) (n := 0) (Nat.le_of_ble_eq_true rfl) (Nat.le_of_ble_eq_true rfl) ?_
                        rcases itK_c (kdN cl_15) (ftp (axx_357)) with qi_367 | qi_367 | qi_367 | qi_367
                        · skip
                          refine lv_eqi (y := (-1)) (qi_367) ?_
                          refine lv_istore (lv' := [(5, .int (-1)), (4, .int 2), (3, .int 6), (2, .int (nI cl_15)), (0, .ref Rd), (1, .int zf)]) hx hb dX4_readClause_69 hl (by decide) rfl (fun ls hl => ?_)
                          refine lv_iload hx hb dX4_readClause_71 (lv_at hl 0 rfl) ?_
                          refine lv_iconst (v := (-1)) hx hb dX4_readClause_73 (by decide) ?_
                          refine lv_icmp_eq (tgt := 86) hx hb dX4_readClause_74 (by decide) (fun _ => ?_) (fun cb => absurd (by decide) cb)
                          refine lv_aload_n hx hb dX4_readClause_86 rfl (lv_at hl 4 rfl) ?_
                          refine lv_aload_n hx hb dX4_readClause_87 rfl (lv_at hl 4 rfl) ?_
                          refine va_get (D := D) (ci := 4) (v := .int (nI axx_357)) (C := RX4) (T := TX4) (N := 7) hx hb hts iX4 hown hK hP 1 rfl rfl 2 (by decide) f28 (fun _ h9 => h9) rfl dX4_readClause_88 ?_
                          refine va_put (D := D) (ci := 4) (v := .int (nI axx_357)) (ty := .int) (C := RX4) (T := TX4) (N := 7) hx hb hts iX4 tyX4 tyX4_ok nmX4 hown hK hP hD hS 1 rfl rfl 3 (by decide) f31 (fun _ h9 => h9) rfl (by decide +kernel) (rfl) (rfl) (Nat.le_of_ble_eq_true rfl) dX4_readClause_91 (fun H locs hP2 hD2 hS2 => ?_)
                          clear hP hD hS
                          have hPD : PD D A [(Rv, .inl (g 0, 21, .inl fvalx_347)), (Rd, .inr (4, [.ref Tp, .int (nI ln), .int (nI axx_357), .int (nI axx_357), .int (nI htx_4), .int (nI ctx_5), .ref Rv])), (Tp, .inl (g 0, 160, .inl ftp))] H := ⟨hP2, hD2⟩
                          have hS := hS2; clear hP2 hD2 hS2; have hP := hPD.1; have hD := hPD.2; clear hPD
                          have hPD9 : PD D A [(Rd, .inr (4, [.ref Tp, .int (nI ln), .int (nI axx_357), .int (nI axx_357), .int (nI htx_4), .int (nI ctx_5), .ref Rv])), (Tp, .inl (g 0, 160, .inl ftp)), (Rv, .inl (g 0, 21, .inl fvalx_347))] H := ⟨hP.sub [1, 2, 0] rfl, hD.sub [1, 2, 0] (by decide) rfl⟩
                          have hP9 := hPD9.1; have hD9 := hPD9.2
                          subst hQ
                          refine W.widen (k := 0) (n := 0) (Nat.le_of_ble_eq_true rfl) (Nat.le_of_ble_eq_true rfl) ?_
                          exact W.vret hx hb hr (fun tS htS _ => ⟨⟨_, rfl, ⟨axx_357, (nI axx_357), htx_4, ctx_5, fvalx_347, rfl, ⟨(show axx_357 ≤ ln by omega), (show htx_4 ≤ 3 by omega), (show ctx_5 ≤ 3 by omega), (hf_349), (cl_bad hf_7.2.2.2.1.symm (show cl_15 < 7 by omega) (hR_354.trans (itR_no (f := 1) hf_359 qi_367)) (show axx_357 < ln by omega) cb_364).1, (cl_bad hf_7.2.2.2.1.symm (show cl_15 < 7 by omega) (hR_354.trans (itR_no (f := 1) hf_359 qi_367)) (show axx_357 < ln by omega) cb_364).2, (fun q => absurd q (m1_ne (show axx_357 < 2 ^ 31 by omega)))⟩⟩, by rw [htS]; exact hP9, hD9⟩, hS.F htS⟩) hS.2.2 dX4_readClause_94
                        · skip
                          refine lv_eqi (y := 0) (qi_367) ?_
                          refine lv_istore (lv' := [(5, .int 0), (4, .int 2), (3, .int 6), (2, .int (nI cl_15)), (0, .ref Rd), (1, .int zf)]) hx hb dX4_readClause_69 hl (by decide) rfl (fun ls hl => ?_)
                          refine lv_iload hx hb dX4_readClause_71 (lv_at hl 0 rfl) ?_
                          refine lv_iconst (v := (-1)) hx hb dX4_readClause_73 (by decide) ?_
                          refine lv_icmp_eq (tgt := 86) hx hb dX4_readClause_74 (by decide) (fun cb => absurd cb (by decide)) (fun _ => ?_)
                          refine lv_iload_n hx hb dX4_readClause_77 rfl (lv_at hl 2 rfl) ?_
                          refine lv_iconst (v := 1) hx hb dX4_readClause_78 (by decide) ?_
                          refine lv_iload hx hb dX4_readClause_79 (lv_at hl 0 rfl) ?_
                          refine lv_ishl hx hb dX4_readClause_81 ?_
                          refine lv_eqi (y := 1) (by decide) ?_
                          refine lv_iand hx hb dX4_readClause_82 ?_
                          refine lv_eqi (y := 0) (by decide) ?_
                          refine lv_if_eq (tgt := 95) hx hb dX4_readClause_83 (by decide) (fun _ => ?_) (fun cb => absurd (by decide) cb)
                          refine lv_iload_n hx hb dX4_readClause_95 rfl (lv_at hl 2 rfl) ?_
                          refine lv_iconst (v := 1) hx hb dX4_readClause_96 (by decide) ?_
                          refine lv_iload hx hb dX4_readClause_97 (lv_at hl 0 rfl) ?_
                          refine lv_ishl hx hb dX4_readClause_99 ?_
                          refine lv_eqi (y := 1) (by decide) ?_
                          refine lv_ior hx hb dX4_readClause_100 ?_
                          refine lv_eqi (y := 7) (by decide) ?_
                          refine lv_istore_n (lv' := [(3, .int 7), (5, .int 0), (4, .int 2), (2, .int (nI cl_15)), (0, .ref Rd), (1, .int zf)]) hx hb dX4_readClause_101 rfl hl (by decide) rfl (fun ls hl => ?_)
                          refine lv_aload_n hx hb dX4_readClause_102 rfl (lv_at hl 4 rfl) ?_
                          refine lv_dup hx hb dX4_readClause_103 rfl ?_
                          refine va_get (D := D) (ci := 4) (v := .int (nI axx_357)) (C := RX4) (T := TX4) (N := 7) hx hb hts iX4 hown hK hP 1 rfl rfl 2 (by decide) f28 (fun _ h9 => h9) rfl dX4_readClause_104 ?_
                          refine lv_iconst (v := 1) hx hb dX4_readClause_107 (by decide) ?_
                          refine lv_iadd hx hb dX4_readClause_108 ?_
                          refine lv_eqi (y := (nI (axx_357 + 1))) (nI_add (axx_357) (1)) ?_
                          refine va_put (D := D) (ci := 4) (v := .int (nI (axx_357 + 1))) (ty := .int) (C := RX4) (T := TX4) (N := 7) hx hb hts iX4 tyX4 tyX4_ok nmX4 hown hK hP hD hS 1 rfl rfl 2 (by decide) f28 (fun _ h9 => h9) rfl (by decide +kernel) (rfl) (rfl) (Nat.le_of_ble_eq_true rfl) dX4_readClause_109 (fun H locs hP2 hD2 hS2 => ?_)
                          clear hP hD hS
                          have hPD : PD D A [(Rv, .inl (g 0, 21, .inl fvalx_347)), (Rd, .inr (4, [.ref Tp, .int (nI ln), .int (nI (axx_357 + 1)), .int (-1), .int (nI htx_4), .int (nI ctx_5), .ref Rv])), (Tp, .inl (g 0, 160, .inl ftp))] H := ⟨hP2, hD2⟩
                          have hS := hS2; clear hP2 hD2 hS2; have hP := hPD.1; have hD := hPD.2; clear hPD
                          refine lv_aload_n hx hb dX4_readClause_112 rfl (lv_at hl 4 rfl) ?_
                          refine lv_iload_n hx hb dX4_readClause_113 rfl (lv_at hl 3 rfl) ?_
                          refine lv_iload hx hb dX4_readClause_114 (lv_at hl 1 rfl) ?_
                          refine ky_Vv (As := [.int (nI cl_15), .int 0]) (rest := []) ⟨hx, hb, hml, hown, hts⟩ ⟨hK, hN⟩ hZ hP hD hS hA [1, 2, 0] [] (wc := [(Rd, .inr (4, [.ref Tp, .int (nI ln), .int (nI (axx_357 + 1)), .int (-1), .int (nI htx_4), .int (nI ctx_5), .ref Rv])), (Tp, .inl (g 0, 160, .inl ftp)), (Rv, .inl (g 0, 21, .inl fvalx_347))]) (wr := []) rfl rfl rfl rfl (by decide) (r_X4_readNumber l D g H.size Rd cl_15 0 Tp ln (axx_357 + 1) htx_4 ctx_5 Rv ftp fvalx_347 (show ln ≤ 160 by omega) (show (axx_357 + 1) ≤ ln by omega) (hf_349) (show cl_15 < 7 by omega) (show 0 < 3 by omega)) (cwV 2 hts gX4_readClause_X4_readNumber rfl rfl rfl (by decide +kernel) ⟨(Nat.le_of_ble_eq_true rfl), (Nat.le_of_ble_eq_true rfl)⟩) 1 4 rfl rfl rfl rfl hl.1 rfl (Nat.le_of_ble_eq_true rfl) dX4_readClause_116 ⟨(Nat.le_of_ble_eq_true rfl), (Nat.le_of_ble_eq_true rfl)⟩ (fun u H locs hw hP2 hD2 hS2 => ?_)
                          clear hP hD hS
                          obtain ⟨axx_369, zfax_370, fvalx_371, rfl, hf_372, hf_373, hf_374, hf_375⟩ := hw
                          have hPD : PD D A [(Rd, .inr (4, [.ref Tp, .int (nI ln), .int (nI axx_369), .int zfax_370, .int (nI htx_4), .int (nI ctx_5), .ref Rv])), (Tp, .inl (g 0, 160, .inl ftp)), (Rv, .inl (g 0, 21, .inl fvalx_371))] H := ⟨hP2, hD2⟩
                          have hS := hS2; clear hP2 hD2 hS2; have hP := hPD.1; have hD := hPD.2; clear hPD
                          refine W.widen (k := 0) (n := 0) (Nat.le_of_ble_eq_true rfl) (Nat.le_of_ble_eq_true rfl) ?_
                          refine lv_aload_n hx hb dX4_readClause_119 rfl (lv_at hl 4 rfl) ?_
                          refine va_get (D := D) (ci := 4) (v := .int zfax_370) (C := RX4) (T := TX4) (N := 7) hx hb hts iX4 hown hK hP 0 rfl rfl 3 (by decide) f31 (fun _ h9 => h9) rfl dX4_readClause_120 ?_
                          refine lv_iconst (v := (-1)) hx hb dX4_readClause_123 (by decide) ?_
                          refine lv_icmp_eq (tgt := 128) hx hb dX4_readClause_124 (by decide) (fun cb_376 => ?_) (fun cb_376 => ?_)
                          · skip
                            have hPq_377 := hP; have hDq_377 := hD; have hSq_377 := hS; have hlq_377 := hl; clear hP hD hS hl
                            subst cb_376
                            have hP := hPq_377; have hD := hDq_377; have hS := hSq_377; have hl := hlq_377; clear hPq_377 hDq_377 hSq_377 hlq_377
                            have hne_379 := (hf_375 rfl).1
                            have hne_379g := nmE_gt (T := ftp) (n := ln) (i := axx_357 + 1) (by omega)
                            have hR_378 : itR ftp ln (kdN cl_15) 4 0 (sB ftp ln ax + 1) = itR ftp ln (kdN cl_15) 1 7 axx_369 := hR_354.trans ((itR_go (f := 1) (m := 6) (q := 0) hf_359 (show axx_357 < ln by omega) qi_367 (by decide) (by decide) hf_374.symm).trans (by rw [hne_379]))
                            refine lv_iinc (v := 3) (lv' := [(4, .int 3), (3, .int 7), (5, .int 0), (2, .int (nI cl_15)), (0, .ref Rd), (1, .int zf)]) hx hb dX4_readClause_128 hl (k := 2) rfl (by decide) (by decide) rfl (fun ls hl => ?_)
                            refine lv_goto (tgt := 17) hx hb dX4_readClause_131 (by decide) ?_
                            refine lv_iload hx hb dX4_readClause_17 (lv_at hl 0 rfl) ?_
                            refine lv_iconst (v := 3) hx hb dX4_readClause_19 (by decide) ?_
                            refine lv_icmp_gt (tgt := 134) hx hb dX4_readClause_20 (by decide) (fun cb => absurd cb (by decide)) (fun _ => ?_)
                            refine lv_aload_n hx hb dX4_readClause_23 rfl (lv_at hl 4 rfl) ?_
                            refine ky_Vv (As := []) (rest := []) ⟨hx, hb, hml, hown, hts⟩ ⟨hK, hN⟩ hZ hP hD hS hA [0, 1] [2] (wc := [(Rd, .inr (4, [.ref Tp, .int (nI ln), .int (nI axx_369), .int (-1), .int (nI htx_4), .int (nI ctx_5), .ref Rv])), (Tp, .inl (g 0, 160, .inl ftp))]) (wr := [(Rv, .inl (g 0, 21, .inl fvalx_371))]) rfl rfl rfl rfl (by decide) (r_X4_passBlanks l D g H.size Rd Tp ln axx_369 (-1) htx_4 ctx_5 Rv ftp (show ln ≤ 160 by omega) (show axx_369 ≤ ln by omega)) (cwV 0 hts gX4_readClause_X4_passBlanks rfl rfl rfl (by decide +kernel) ⟨(Nat.le_of_ble_eq_true rfl), (Nat.le_of_ble_eq_true rfl)⟩) 0 4 rfl rfl rfl rfl hl.1 rfl (Nat.le_of_ble_eq_true rfl) dX4_readClause_24 ⟨(Nat.le_of_ble_eq_true rfl), (Nat.le_of_ble_eq_true rfl)⟩ (fun u H locs hw hP2 hD2 hS2 => ?_)
                            clear hP hD hS
                            obtain ⟨axx_381, rfl, hf_382, hf_383⟩ := hw
                            have hPD : PD D A [(Rv, .inl (g 0, 21, .inl fvalx_371)), (Rd, .inr (4, [.ref Tp, .int (nI ln), .int (nI axx_381), .int (-1), .int (nI htx_4), .int (nI ctx_5), .ref Rv])), (Tp, .inl (g 0, 160, .inl ftp))] H := ⟨hP2, hD2⟩
                            have hS := hS2; clear hP2 hD2 hS2; have hP := hPD.1; have hD := hPD.2; clear hPD
                            refine W.widen (k := 0) (n := 0) (Nat.le_of_ble_eq_true rfl) (Nat.le_of_ble_eq_true rfl) ?_
                            have hge_384 := sB_ge (T := ftp) (n := ln) (i := axx_369) (by omega)
                            refine lv_aload_n hx hb dX4_readClause_27 rfl (lv_at hl 4 rfl) ?_
                            refine va_get (D := D) (ci := 4) (v := .int (nI axx_381)) (C := RX4) (T := TX4) (N := 7) hx hb hts iX4 hown hK hP 1 rfl rfl 2 (by decide) f28 (fun _ h9 => h9) rfl dX4_readClause_28 ?_
                            refine lv_aload_n hx hb dX4_readClause_31 rfl (lv_at hl 4 rfl) ?_
                            refine va_get (D := D) (ci := 4) (v := .int (nI ln)) (C := RX4) (T := TX4) (N := 7) hx hb hts iX4 hown hK hP 1 rfl rfl 1 (by decide) f24 (fun _ h9 => h9) rfl dX4_readClause_32 ?_
                            refine lv_icmp_ge (tgt := 52) hx hb dX4_readClause_35 (by decide) (fun cb_385 => ?_) (fun cb_385 => ?_)
                            · skip
                              have cn_386 : ln ≤ axx_381 := (nI_leI (show ln < 2 ^ 31 by omega) (show axx_381 < 2 ^ 31 by omega)).mp cb_385
                              have hPD9 : PD D A [(Rd, .inr (4, [.ref Tp, .int (nI ln), .int (nI axx_381), .int (-1), .int (nI htx_4), .int (nI ctx_5), .ref Rv])), (Tp, .inl (g 0, 160, .inl ftp)), (Rv, .inl (g 0, 21, .inl fvalx_371))] H := ⟨hP.sub [1, 2, 0] rfl, hD.sub [1, 2, 0] (by decide) rfl⟩
                              have hP9 := hPD9.1; have hD9 := hPD9.2
                              subst hQ
                              refine W.widen (k := 0) (n := 0) (Nat.le_of_ble_eq_true rfl) (Nat.le_of_ble_eq_true rfl) ?_
                              exact W.vret hx hb hr (fun tS htS _ => ⟨⟨_, rfl, ⟨axx_381, (-1), htx_4, ctx_5, fvalx_371, rfl, ⟨(show axx_381 ≤ ln by omega), (show htx_4 ≤ 3 by omega), (show ctx_5 ≤ 3 by omega), (hf_373), (cl_end hf_7.2.2.2.1.symm (show cl_15 < 7 by omega) (hR_378.trans (itR_end (f := 0) hf_383 (show ¬ axx_381 < ln by omega))) (fun q => absurd q.1 (show ¬ axx_381 < ln by omega))).1, (cl_end hf_7.2.2.2.1.symm (show cl_15 < 7 by omega) (hR_378.trans (itR_end (f := 0) hf_383 (show ¬ axx_381 < ln by omega))) (fun q => absurd q.1 (show ¬ axx_381 < ln by omega))).2.1, (fun _ => ⟨(cl_end hf_7.2.2.2.1.symm (show cl_15 < 7 by omega) (hR_378.trans (itR_end (f := 0) hf_383 (show ¬ axx_381 < ln by omega))) (fun q => absurd q.1 (show ¬ axx_381 < ln by omega))).2.2, show ax < axx_381 by omega⟩)⟩⟩, by rw [htS]; exact hP9, hD9⟩, hS.F htS⟩) hS.2.2 dX4_readClause_52
                            · skip
                              have cn_387 : axx_381 < ln := Nat.lt_of_not_le (fun q9 => cb_385 ((nI_leI (show ln < 2 ^ 31 by omega) (show axx_381 < 2 ^ 31 by omega)).mpr q9))
                              refine lv_aload_n hx hb dX4_readClause_38 rfl (lv_at hl 4 rfl) ?_
                              refine va_get (D := D) (ci := 4) (v := .ref Tp) (C := RX4) (T := TX4) (N := 7) hx hb hts iX4 hown hK hP 1 rfl rfl 0 (by decide) f9 (fun _ h9 => h9) rfl dX4_readClause_39 ?_
                              refine lv_aload_n hx hb dX4_readClause_42 rfl (lv_at hl 4 rfl) ?_
                              refine va_get (D := D) (ci := 4) (v := .int (nI axx_381)) (C := RX4) (T := TX4) (N := 7) hx hb hts iX4 hown hK hP 1 rfl rfl 2 (by decide) f28 (fun _ h9 => h9) rfl dX4_readClause_43 ?_
                              refine va_iald hx hb hK hP 2 0 rfl rfl (vp_in_nI (show axx_381 < 160 by omega) (by decide)) dX4_readClause_46 ?_
                              refine lv_eqi (y := (ftp (axx_381))) (congrArg ftp (nI_clamp (show axx_381 < 2 ^ 31 by omega))) ?_
                              refine lv_bipush (v := 59) hx hb dX4_readClause_47 (by decide) ?_
                              refine lv_icmp_ne (tgt := 53) hx hb dX4_readClause_49 (by decide) (fun cb_388 => ?_) (fun cb_388 => ?_)
                              · skip
                                refine lv_iload_n hx hb dX4_readClause_53 rfl (lv_at hl 3 rfl) ?_
                                refine ky_Si (As := [.int (nI cl_15)]) (rest := []) ⟨hx, hb, hml, hown, hts⟩ ⟨hK, hN⟩ hZ hP hD hS hA [] [0, 1, 2] (wc := []) (wr := [(Rv, .inl (g 0, 21, .inl fvalx_371)), (Rd, .inr (4, [.ref Tp, .int (nI ln), .int (nI axx_381), .int (-1), .int (nI htx_4), .int (nI ctx_5), .ref Rv])), (Tp, .inl (g 0, 160, .inl ftp))]) rfl rfl rfl rfl (by decide) (r_X4_kindOf l D g H.size cl_15 (show cl_15 < 7 by omega)) (va_cwS 1 hts gX4_readClause_X4_kindOf rfl rfl rfl (by decide +kernel) ⟨(Nat.le_of_ble_eq_true rfl), (Nat.le_of_ble_eq_true rfl)⟩) rfl hl.1 rfl (Nat.le_of_ble_eq_true rfl) dX4_readClause_54 ⟨(Nat.le_of_ble_eq_true rfl), (Nat.le_of_ble_eq_true rfl)⟩ (fun r_389 u H locs hw hP2 hD2 hS2 => ?_)
                                clear hP hD hS
                                obtain ⟨rfl, rfl⟩ := hw
                                have hPD : PD D A [(Rv, .inl (g 0, 21, .inl fvalx_371)), (Rd, .inr (4, [.ref Tp, .int (nI ln), .int (nI axx_381), .int (-1), .int (nI htx_4), .int (nI ctx_5), .ref Rv])), (Tp, .inl (g 0, 160, .inl ftp))] H := ⟨hP2, hD2⟩
                                have hS := hS2; clear hP2 hD2 hS2; have hP := hPD.1; have hD := hPD.2; clear hPD
                                refine W.widen (k := 0) (n := 0) (Nat.le_of_ble_eq_true rfl) (Nat.le_of_ble_eq_true rfl) ?_
                                refine lv_aload_n hx hb dX4_readClause_57 rfl (lv_at hl 4 rfl) ?_
                                refine va_get (D := D) (ci := 4) (v := .ref Tp) (C := RX4) (T := TX4) (N := 7) hx hb hts iX4 hown hK hP 1 rfl rfl 0 (by decide) f9 (fun _ h9 => h9) rfl dX4_readClause_58 ?_
                                refine lv_aload_n hx hb dX4_readClause_61 rfl (lv_at hl 4 rfl) ?_
                                refine va_get (D := D) (ci := 4) (v := .int (nI axx_381)) (C := RX4) (T := TX4) (N := 7) hx hb hts iX4 hown hK hP 1 rfl rfl 2 (by decide) f28 (fun _ h9 => h9) rfl dX4_readClause_62 ?_
                                refine va_iald hx hb hK hP 2 0 rfl rfl (vp_in_nI (show axx_381 < 160 by omega) (by decide)) dX4_readClause_65 ?_
                                refine lv_eqi (y := (ftp (axx_381))) (congrArg ftp (nI_clamp (show axx_381 < 2 ^ 31 by omega))) ?_
                                refine ky_Si (As := [.int (nI (kdN cl_15)), .int (ftp (axx_381))]) (rest := []) ⟨hx, hb, hml, hown, hts⟩ ⟨hK, hN⟩ hZ hP hD hS hA [] [0, 1, 2] (wc := []) (wr := [(Rv, .inl (g 0, 21, .inl fvalx_371)), (Rd, .inr (4, [.ref Tp, .int (nI ln), .int (nI axx_381), .int (-1), .int (nI htx_4), .int (nI ctx_5), .ref Rv])), (Tp, .inl (g 0, 160, .inl ftp))]) rfl rfl rfl rfl (by decide) (r_X4_itemOf l D g H.size (kdN cl_15) (ftp (axx_381)) (show (kdN cl_15) < 3 by omega)) (va_cwS 2 hts gX4_readClause_X4_itemOf rfl rfl rfl (by decide +kernel) ⟨(Nat.le_of_ble_eq_true rfl), (Nat.le_of_ble_eq_true rfl)⟩) rfl hl.1 rfl (Nat.le_of_ble_eq_true rfl) dX4_readClause_66 ⟨(Nat.le_of_ble_eq_true rfl), (Nat.le_of_ble_eq_true rfl)⟩ (fun r_390 u H locs hw hP2 hD2 hS2 => ?_)
                                clear hP hD hS
                                obtain ⟨rfl, rfl⟩ := hw
                                have hPD : PD D A [(Rv, .inl (g 0, 21, .inl fvalx_371)), (Rd, .inr (4, [.ref Tp, .int (nI ln), .int (nI axx_381), .int (-1), .int (nI htx_4), .int (nI ctx_5), .ref Rv])), (Tp, .inl (g 0, 160, .inl ftp))] H := ⟨hP2, hD2⟩
                                have hS := hS2; clear hP2 hD2 hS2; have hP := hPD.1; have hD := hPD.2; clear hPD
                                refine W.widen (k := 0) (n := 0) (Nat.le_of_ble_eq_true rfl) (Nat.le_of_ble_eq_true rfl) ?_
                                rcases itK_c (kdN cl_15) (ftp (axx_381)) with qi_391 | qi_391 | qi_391 | qi_391
                                · skip
                                  refine lv_eqi (y := (-1)) (qi_391) ?_
                                  refine lv_istore (lv' := [(5, .int (-1)), (4, .int 3), (3, .int 7), (2, .int (nI cl_15)), (0, .ref Rd), (1, .int zf)]) hx hb dX4_readClause_69 hl (by decide) rfl (fun ls hl => ?_)
                                  refine lv_iload hx hb dX4_readClause_71 (lv_at hl 0 rfl) ?_
                                  refine lv_iconst (v := (-1)) hx hb dX4_readClause_73 (by decide) ?_
                                  refine lv_icmp_eq (tgt := 86) hx hb dX4_readClause_74 (by decide) (fun _ => ?_) (fun cb => absurd (by decide) cb)
                                  refine lv_aload_n hx hb dX4_readClause_86 rfl (lv_at hl 4 rfl) ?_
                                  refine lv_aload_n hx hb dX4_readClause_87 rfl (lv_at hl 4 rfl) ?_
                                  refine va_get (D := D) (ci := 4) (v := .int (nI axx_381)) (C := RX4) (T := TX4) (N := 7) hx hb hts iX4 hown hK hP 1 rfl rfl 2 (by decide) f28 (fun _ h9 => h9) rfl dX4_readClause_88 ?_
                                  refine va_put (D := D) (ci := 4) (v := .int (nI axx_381)) (ty := .int) (C := RX4) (T := TX4) (N := 7) hx hb hts iX4 tyX4 tyX4_ok nmX4 hown hK hP hD hS 1 rfl rfl 3 (by decide) f31 (fun _ h9 => h9) rfl (by decide +kernel) (rfl) (rfl) (Nat.le_of_ble_eq_true rfl) dX4_readClause_91 (fun H locs hP2 hD2 hS2 => ?_)
                                  clear hP hD hS
                                  have hPD : PD D A [(Rv, .inl (g 0, 21, .inl fvalx_371)), (Rd, .inr (4, [.ref Tp, .int (nI ln), .int (nI axx_381), .int (nI axx_381), .int (nI htx_4), .int (nI ctx_5), .ref Rv])), (Tp, .inl (g 0, 160, .inl ftp))] H := ⟨hP2, hD2⟩
                                  have hS := hS2; clear hP2 hD2 hS2; have hP := hPD.1; have hD := hPD.2; clear hPD
                                  have hPD9 : PD D A [(Rd, .inr (4, [.ref Tp, .int (nI ln), .int (nI axx_381), .int (nI axx_381), .int (nI htx_4), .int (nI ctx_5), .ref Rv])), (Tp, .inl (g 0, 160, .inl ftp)), (Rv, .inl (g 0, 21, .inl fvalx_371))] H := ⟨hP.sub [1, 2, 0] rfl, hD.sub [1, 2, 0] (by decide) rfl⟩
                                  have hP9 := hPD9.1; have hD9 := hPD9.2
                                  subst hQ
                                  refine W.widen (k := 0) (n := 0) (Nat.le_of_ble_eq_true rfl) (Nat.le_of_ble_eq_true rfl) ?_
                                  exact W.vret hx hb hr (fun tS htS _ => ⟨⟨_, rfl, ⟨axx_381, (nI axx_381), htx_4, ctx_5, fvalx_371, rfl, ⟨(show axx_381 ≤ ln by omega), (show htx_4 ≤ 3 by omega), (show ctx_5 ≤ 3 by omega), (hf_373), (cl_bad hf_7.2.2.2.1.symm (show cl_15 < 7 by omega) (hR_378.trans (itR_no (f := 0) hf_383 qi_391)) (show axx_381 < ln by omega) cb_388).1, (cl_bad hf_7.2.2.2.1.symm (show cl_15 < 7 by omega) (hR_378.trans (itR_no (f := 0) hf_383 qi_391)) (show axx_381 < ln by omega) cb_388).2, (fun q => absurd q (m1_ne (show axx_381 < 2 ^ 31 by omega)))⟩⟩, by rw [htS]; exact hP9, hD9⟩, hS.F htS⟩) hS.2.2 dX4_readClause_94
                                · skip
                                  refine lv_eqi (y := 0) (qi_391) ?_
                                  refine lv_istore (lv' := [(5, .int 0), (4, .int 3), (3, .int 7), (2, .int (nI cl_15)), (0, .ref Rd), (1, .int zf)]) hx hb dX4_readClause_69 hl (by decide) rfl (fun ls hl => ?_)
                                  refine lv_iload hx hb dX4_readClause_71 (lv_at hl 0 rfl) ?_
                                  refine lv_iconst (v := (-1)) hx hb dX4_readClause_73 (by decide) ?_
                                  refine lv_icmp_eq (tgt := 86) hx hb dX4_readClause_74 (by decide) (fun cb => absurd cb (by decide)) (fun _ => ?_)
                                  refine lv_iload_n hx hb dX4_readClause_77 rfl (lv_at hl 2 rfl) ?_
                                  refine lv_iconst (v := 1) hx hb dX4_readClause_78 (by decide) ?_
                                  refine lv_iload hx hb dX4_readClause_79 (lv_at hl 0 rfl) ?_
                                  refine lv_ishl hx hb dX4_readClause_81 ?_
                                  refine lv_eqi (y := 1) (by decide) ?_
                                  refine lv_iand hx hb dX4_readClause_82 ?_
                                  refine lv_eqi (y := 1) (by decide) ?_
                                  refine lv_if_eq (tgt := 95) hx hb dX4_readClause_83 (by decide) (fun cb => absurd cb (by decide)) (fun _ => ?_)
                                  refine lv_aload_n hx hb dX4_readClause_86 rfl (lv_at hl 4 rfl) ?_
                                  refine lv_aload_n hx hb dX4_readClause_87 rfl (lv_at hl 4 rfl) ?_
                                  refine va_get (D := D) (ci := 4) (v := .int (nI axx_381)) (C := RX4) (T := TX4) (N := 7) hx hb hts iX4 hown hK hP 1 rfl rfl 2 (by decide) f28 (fun _ h9 => h9) rfl dX4_readClause_88 ?_
                                  refine va_put (D := D) (ci := 4) (v := .int (nI axx_381)) (ty := .int) (C := RX4) (T := TX4) (N := 7) hx hb hts iX4 tyX4 tyX4_ok nmX4 hown hK hP hD hS 1 rfl rfl 3 (by decide) f31 (fun _ h9 => h9) rfl (by decide +kernel) (rfl) (rfl) (Nat.le_of_ble_eq_true rfl) dX4_readClause_91 (fun H locs hP2 hD2 hS2 => ?_)
                                  clear hP hD hS
                                  have hPD : PD D A [(Rv, .inl (g 0, 21, .inl fvalx_371)), (Rd, .inr (4, [.ref Tp, .int (nI ln), .int (nI axx_381), .int (nI axx_381), .int (nI htx_4), .int (nI ctx_5), .ref Rv])), (Tp, .inl (g 0, 160, .inl ftp))] H := ⟨hP2, hD2⟩
                                  have hS := hS2; clear hP2 hD2 hS2; have hP := hPD.1; have hD := hPD.2; clear hPD
                                  have hPD9 : PD D A [(Rd, .inr (4, [.ref Tp, .int (nI ln), .int (nI axx_381), .int (nI axx_381), .int (nI htx_4), .int (nI ctx_5), .ref Rv])), (Tp, .inl (g 0, 160, .inl ftp)), (Rv, .inl (g 0, 21, .inl fvalx_371))] H := ⟨hP.sub [1, 2, 0] rfl, hD.sub [1, 2, 0] (by decide) rfl⟩
                                  have hP9 := hPD9.1; have hD9 := hPD9.2
                                  subst hQ
                                  refine W.widen (k := 0) (n := 0) (Nat.le_of_ble_eq_true rfl) (Nat.le_of_ble_eq_true rfl) ?_
                                  exact W.vret hx hb hr (fun tS htS _ => ⟨⟨_, rfl, ⟨axx_381, (nI axx_381), htx_4, ctx_5, fvalx_371, rfl, ⟨(show axx_381 ≤ ln by omega), (show htx_4 ≤ 3 by omega), (show ctx_5 ≤ 3 by omega), (hf_373), (cl_bad hf_7.2.2.2.1.symm (show cl_15 < 7 by omega) (hR_378.trans (itR_again (f := 0) (q := 0) hf_383 qi_391 (by decide) (by decide))) (show axx_381 < ln by omega) cb_388).1, (cl_bad hf_7.2.2.2.1.symm (show cl_15 < 7 by omega) (hR_378.trans (itR_again (f := 0) (q := 0) hf_383 qi_391 (by decide) (by decide))) (show axx_381 < ln by omega) cb_388).2, (fun q => absurd q (m1_ne (show axx_381 < 2 ^ 31 by omega)))⟩⟩, by rw [htS]; exact hP9, hD9⟩, hS.F htS⟩) hS.2.2 dX4_readClause_94
                                · skip
                                  refine lv_eqi (y := 1) (qi_391) ?_
                                  refine lv_istore (lv' := [(5, .int 1), (4, .int 3), (3, .int 7), (2, .int (nI cl_15)), (0, .ref Rd), (1, .int zf)]) hx hb dX4_readClause_69 hl (by decide) rfl (fun ls hl => ?_)
                                  refine lv_iload hx hb dX4_readClause_71 (lv_at hl 0 rfl) ?_
                                  refine lv_iconst (v := (-1)) hx hb dX4_readClause_73 (by decide) ?_
                                  refine lv_icmp_eq (tgt := 86) hx hb dX4_readClause_74 (by decide) (fun cb => absurd cb (by decide)) (fun _ => ?_)
                                  refine lv_iload_n hx hb dX4_readClause_77 rfl (lv_at hl 2 rfl) ?_
                                  refine lv_iconst (v := 1) hx hb dX4_readClause_78 (by decide) ?_
                                  refine lv_iload hx hb dX4_readClause_79 (lv_at hl 0 rfl) ?_
                                  refine lv_ishl hx hb dX4_readClause_81 ?_
                                  refine lv_eqi (y := 2) (by decide) ?_
                                  refine lv_iand hx hb dX4_readClause_82 ?_
                                  refine lv_eqi (y := 2) (by decide) ?_
                                  refine lv_if_eq (tgt := 95) hx hb dX4_readClause_83 (by decide) (fun cb => absurd cb (by decide)) (fun _ => ?_)
                                  refine lv_aload_n hx hb dX4_readClause_86 rfl (lv_at hl 4 rfl) ?_
                                  refine lv_aload_n hx hb dX4_readClause_87 rfl (lv_at hl 4 rfl) ?_
                                  refine va_get (D := D) (ci := 4) (v := .int (nI axx_381)) (C := RX4) (T := TX4) (N := 7) hx hb hts iX4 hown hK hP 1 rfl rfl 2 (by decide) f28 (fun _ h9 => h9) rfl dX4_readClause_88 ?_
                                  refine va_put (D := D) (ci := 4) (v := .int (nI axx_381)) (ty := .int) (C := RX4) (T := TX4) (N := 7) hx hb hts iX4 tyX4 tyX4_ok nmX4 hown hK hP hD hS 1 rfl rfl 3 (by decide) f31 (fun _ h9 => h9) rfl (by decide +kernel) (rfl) (rfl) (Nat.le_of_ble_eq_true rfl) dX4_readClause_91 (fun H locs hP2 hD2 hS2 => ?_)
                                  clear hP hD hS
                                  have hPD : PD D A [(Rv, .inl (g 0, 21, .inl fvalx_371)), (Rd, .inr (4, [.ref Tp, .int (nI ln), .int (nI axx_381), .int (nI axx_381), .int (nI htx_4), .int (nI ctx_5), .ref Rv])), (Tp, .inl (g 0, 160, .inl ftp))] H := ⟨hP2, hD2⟩
                                  have hS := hS2; clear hP2 hD2 hS2; have hP := hPD.1; have hD := hPD.2; clear hPD
                                  have hPD9 : PD D A [(Rd, .inr (4, [.ref Tp, .int (nI ln), .int (nI axx_381), .int (nI axx_381), .int (nI htx_4), .int (nI ctx_5), .ref Rv])), (Tp, .inl (g 0, 160, .inl ftp)), (Rv, .inl (g 0, 21, .inl fvalx_371))] H := ⟨hP.sub [1, 2, 0] rfl, hD.sub [1, 2, 0] (by decide) rfl⟩
                                  have hP9 := hPD9.1; have hD9 := hPD9.2
                                  subst hQ
                                  refine W.widen (k := 0) (n := 0) (Nat.le_of_ble_eq_true rfl) (Nat.le_of_ble_eq_true rfl) ?_
                                  exact W.vret hx hb hr (fun tS htS _ => ⟨⟨_, rfl, ⟨axx_381, (nI axx_381), htx_4, ctx_5, fvalx_371, rfl, ⟨(show axx_381 ≤ ln by omega), (show htx_4 ≤ 3 by omega), (show ctx_5 ≤ 3 by omega), (hf_373), (cl_bad hf_7.2.2.2.1.symm (show cl_15 < 7 by omega) (hR_378.trans (itR_again (f := 0) (q := 1) hf_383 qi_391 (by decide) (by decide))) (show axx_381 < ln by omega) cb_388).1, (cl_bad hf_7.2.2.2.1.symm (show cl_15 < 7 by omega) (hR_378.trans (itR_again (f := 0) (q := 1) hf_383 qi_391 (by decide) (by decide))) (show axx_381 < ln by omega) cb_388).2, (fun q => absurd q (m1_ne (show axx_381 < 2 ^ 31 by omega)))⟩⟩, by rw [htS]; exact hP9, hD9⟩, hS.F htS⟩) hS.2.2 dX4_readClause_94
                                · skip
                                  refine lv_eqi (y := 2) (qi_391) ?_
                                  refine lv_istore (lv' := [(5, .int 2), (4, .int 3), (3, .int 7), (2, .int (nI cl_15)), (0, .ref Rd), (1, .int zf)]) hx hb dX4_readClause_69 hl (by decide) rfl (fun ls hl => ?_)
                                  refine lv_iload hx hb dX4_readClause_71 (lv_at hl 0 rfl) ?_
                                  refine lv_iconst (v := (-1)) hx hb dX4_readClause_73 (by decide) ?_
                                  refine lv_icmp_eq (tgt := 86) hx hb dX4_readClause_74 (by decide) (fun cb => absurd cb (by decide)) (fun _ => ?_)
                                  refine lv_iload_n hx hb dX4_readClause_77 rfl (lv_at hl 2 rfl) ?_
                                  refine lv_iconst (v := 1) hx hb dX4_readClause_78 (by decide) ?_
                                  refine lv_iload hx hb dX4_readClause_79 (lv_at hl 0 rfl) ?_
                                  refine lv_ishl hx hb dX4_readClause_81 ?_
                                  refine lv_eqi (y := 4) (by decide) ?_
                                  refine lv_iand hx hb dX4_readClause_82 ?_
                                  refine lv_eqi (y := 4) (by decide) ?_
                                  refine lv_if_eq (tgt := 95) hx hb dX4_readClause_83 (by decide) (fun cb => absurd cb (by decide)) (fun _ => ?_)
                                  refine lv_aload_n hx hb dX4_readClause_86 rfl (lv_at hl 4 rfl) ?_
                                  refine lv_aload_n hx hb dX4_readClause_87 rfl (lv_at hl 4 rfl) ?_
                                  refine va_get (D := D) (ci := 4) (v := .int (nI axx_381)) (C := RX4) (T := TX4) (N := 7) hx hb hts iX4 hown hK hP 1 rfl rfl 2 (by decide) f28 (fun _ h9 => h9) rfl dX4_readClause_88 ?_
                                  refine va_put (D := D) (ci := 4) (v := .int (nI axx_381)) (ty := .int) (C := RX4) (T := TX4) (N := 7) hx hb hts iX4 tyX4 tyX4_ok nmX4 hown hK hP hD hS 1 rfl rfl 3 (by decide) f31 (fun _ h9 => h9) rfl (by decide +kernel) (rfl) (rfl) (Nat.le_of_ble_eq_true rfl) dX4_readClause_91 (fun H locs hP2 hD2 hS2 => ?_)
                                  clear hP hD hS
                                  have hPD : PD D A [(Rv, .inl (g 0, 21, .inl fvalx_371)), (Rd, .inr (4, [.ref Tp, .int (nI ln), .int (nI axx_381), .int (nI axx_381), .int (nI htx_4), .int (nI ctx_5), .ref Rv])), (Tp, .inl (g 0, 160, .inl ftp))] H := ⟨hP2, hD2⟩
                                  have hS := hS2; clear hP2 hD2 hS2; have hP := hPD.1; have hD := hPD.2; clear hPD
                                  have hPD9 : PD D A [(Rd, .inr (4, [.ref Tp, .int (nI ln), .int (nI axx_381), .int (nI axx_381), .int (nI htx_4), .int (nI ctx_5), .ref Rv])), (Tp, .inl (g 0, 160, .inl ftp)), (Rv, .inl (g 0, 21, .inl fvalx_371))] H := ⟨hP.sub [1, 2, 0] rfl, hD.sub [1, 2, 0] (by decide) rfl⟩
                                  have hP9 := hPD9.1; have hD9 := hPD9.2
                                  subst hQ
                                  refine W.widen (k := 0) (n := 0) (Nat.le_of_ble_eq_true rfl) (Nat.le_of_ble_eq_true rfl) ?_
                                  exact W.vret hx hb hr (fun tS htS _ => ⟨⟨_, rfl, ⟨axx_381, (nI axx_381), htx_4, ctx_5, fvalx_371, rfl, ⟨(show axx_381 ≤ ln by omega), (show htx_4 ≤ 3 by omega), (show ctx_5 ≤ 3 by omega), (hf_373), (cl_bad hf_7.2.2.2.1.symm (show cl_15 < 7 by omega) (hR_378.trans (itR_again (f := 0) (q := 2) hf_383 qi_391 (by decide) (by decide))) (show axx_381 < ln by omega) cb_388).1, (cl_bad hf_7.2.2.2.1.symm (show cl_15 < 7 by omega) (hR_378.trans (itR_again (f := 0) (q := 2) hf_383 qi_391 (by decide) (by decide))) (show axx_381 < ln by omega) cb_388).2, (fun q => absurd q (m1_ne (show axx_381 < 2 ^ 31 by omega)))⟩⟩, by rw [htS]; exact hP9, hD9⟩, hS.F htS⟩) hS.2.2 dX4_readClause_94
                              · skip
                                have hPD9 : PD D A [(Rd, .inr (4, [.ref Tp, .int (nI ln), .int (nI axx_381), .int (-1), .int (nI htx_4), .int (nI ctx_5), .ref Rv])), (Tp, .inl (g 0, 160, .inl ftp)), (Rv, .inl (g 0, 21, .inl fvalx_371))] H := ⟨hP.sub [1, 2, 0] rfl, hD.sub [1, 2, 0] (by decide) rfl⟩
                                have hP9 := hPD9.1; have hD9 := hPD9.2
                                subst hQ
                                refine W.widen (k := 0) (n := 0) (Nat.le_of_ble_eq_true rfl) (Nat.le_of_ble_eq_true rfl) ?_
                                exact W.vret hx hb hr (fun tS htS _ => ⟨⟨_, rfl, ⟨axx_381, (-1), htx_4, ctx_5, fvalx_371, rfl, ⟨(show axx_381 ≤ ln by omega), (show htx_4 ≤ 3 by omega), (show ctx_5 ≤ 3 by omega), (hf_373), (cl_end hf_7.2.2.2.1.symm (show cl_15 < 7 by omega) (hR_378.trans (itR_no (f := 0) hf_383 (by rw [cb_388]; exact itK_59 _))) (fun q => q.2 cb_388)).1, (cl_end hf_7.2.2.2.1.symm (show cl_15 < 7 by omega) (hR_378.trans (itR_no (f := 0) hf_383 (by rw [cb_388]; exact itK_59 _))) (fun q => q.2 cb_388)).2.1, (fun _ => ⟨(cl_end hf_7.2.2.2.1.symm (show cl_15 < 7 by omega) (hR_378.trans (itR_no (f := 0) hf_383 (by rw [cb_388]; exact itK_59 _))) (fun q => q.2 cb_388)).2.2, show ax < axx_381 by omega⟩)⟩⟩, by rw [htS]; exact hP9, hD9⟩, hS.F htS⟩) hS.2.2 dX4_readClause_52
                          · skip
                            have hP9 := hP; have hD9 := hD
                            subst hQ
                            refine W.widen (k := 0) (n := 0) (Nat.le_of_ble_eq_true rfl) (Nat.le_of_ble_eq_true rfl) ?_
                            exact W.vret hx hb hr (fun tS htS _ => ⟨⟨_, rfl, ⟨axx_369, zfax_370, htx_4, ctx_5, fvalx_371, rfl, ⟨(show axx_369 ≤ ln by omega), (show htx_4 ≤ 3 by omega), (show ctx_5 ≤ 3 by omega), (hf_373), (cl_num hf_7.2.2.2.1.symm (show cl_15 < 7 by omega) ((congrArg Prod.fst hR_354).trans ((itR_w (f := 1) (q := 0) hf_359 (show axx_357 < ln by omega) qi_367 (by decide) (by decide) (fun q => cb_376 (hf_374.trans q))).trans hf_374.symm)) cb_376).1, (cl_num hf_7.2.2.2.1.symm (show cl_15 < 7 by omega) ((congrArg Prod.fst hR_354).trans ((itR_w (f := 1) (q := 0) hf_359 (show axx_357 < ln by omega) qi_367 (by decide) (by decide) (fun q => cb_376 (hf_374.trans q))).trans hf_374.symm)) cb_376).2, (fun q => absurd q cb_376)⟩⟩, by rw [htS]; exact hP9, hD9⟩, hS.F htS⟩) hS.2.2 dX4_readClause_127
                        · skip
                          refine lv_eqi (y := 1) (qi_367) ?_
                          refine lv_istore (lv' := [(5, .int 1), (4, .int 2), (3, .int 6), (2, .int (nI cl_15)), (0, .ref Rd), (1, .int zf)]) hx hb dX4_readClause_69 hl (by decide) rfl (fun ls hl => ?_)
                          refine lv_iload hx hb dX4_readClause_71 (lv_at hl 0 rfl) ?_
                          refine lv_iconst (v := (-1)) hx hb dX4_readClause_73 (by decide) ?_
                          refine lv_icmp_eq (tgt := 86) hx hb dX4_readClause_74 (by decide) (fun cb => absurd cb (by decide)) (fun _ => ?_)
                          refine lv_iload_n hx hb dX4_readClause_77 rfl (lv_at hl 2 rfl) ?_
                          refine lv_iconst (v := 1) hx hb dX4_readClause_78 (by decide) ?_
                          refine lv_iload hx hb dX4_readClause_79 (lv_at hl 0 rfl) ?_
                          refine lv_ishl hx hb dX4_readClause_81 ?_
                          refine lv_eqi (y := 2) (by decide) ?_
                          refine lv_iand hx hb dX4_readClause_82 ?_
                          refine lv_eqi (y := 2) (by decide) ?_
                          refine lv_if_eq (tgt := 95) hx hb dX4_readClause_83 (by decide) (fun cb => absurd cb (by decide)) (fun _ => ?_)
                          refine lv_aload_n hx hb dX4_readClause_86 rfl (lv_at hl 4 rfl) ?_
                          refine lv_aload_n hx hb dX4_readClause_87 rfl (lv_at hl 4 rfl) ?_
                          refine va_get (D := D) (ci := 4) (v := .int (nI axx_357)) (C := RX4) (T := TX4) (N := 7) hx hb hts iX4 hown hK hP 1 rfl rfl 2 (by decide) f28 (fun _ h9 => h9) rfl dX4_readClause_88 ?_
                          refine va_put (D := D) (ci := 4) (v := .int (nI axx_357)) (ty := .int) (C := RX4) (T := TX4) (N := 7) hx hb hts iX4 tyX4 tyX4_ok nmX4 hown hK hP hD hS 1 rfl rfl 3 (by decide) f31 (fun _ h9 => h9) rfl (by decide +kernel) (rfl) (rfl) (Nat.le_of_ble_eq_true rfl) dX4_readClause_91 (fun H locs hP2 hD2 hS2 => ?_)
                          clear hP hD hS
                          have hPD : PD D A [(Rv, .inl (g 0, 21, .inl fvalx_347)), (Rd, .inr (4, [.ref Tp, .int (nI ln), .int (nI axx_357), .int (nI axx_357), .int (nI htx_4), .int (nI ctx_5), .ref Rv])), (Tp, .inl (g 0, 160, .inl ftp))] H := ⟨hP2, hD2⟩
                          have hS := hS2; clear hP2 hD2 hS2; have hP := hPD.1; have hD := hPD.2; clear hPD
                          have hPD9 : PD D A [(Rd, .inr (4, [.ref Tp, .int (nI ln), .int (nI axx_357), .int (nI axx_357), .int (nI htx_4), .int (nI ctx_5), .ref Rv])), (Tp, .inl (g 0, 160, .inl ftp)), (Rv, .inl (g 0, 21, .inl fvalx_347))] H := ⟨hP.sub [1, 2, 0] rfl, hD.sub [1, 2, 0] (by decide) rfl⟩
                          have hP9 := hPD9.1; have hD9 := hPD9.2
                          subst hQ
                          refine W.widen (k := 0) (n := 0) (Nat.le_of_ble_eq_true rfl) (Nat.le_of_ble_eq_true rfl) ?_
                          exact W.vret hx hb hr (fun tS htS _ => ⟨⟨_, rfl, ⟨axx_357, (nI axx_357), htx_4, ctx_5, fvalx_347, rfl, ⟨(show axx_357 ≤ ln by omega), (show htx_4 ≤ 3 by omega), (show ctx_5 ≤ 3 by omega), (hf_349), (cl_bad hf_7.2.2.2.1.symm (show cl_15 < 7 by omega) (hR_354.trans (itR_again (f := 1) (q := 1) hf_359 qi_367 (by decide) (by decide))) (show axx_357 < ln by omega) cb_364).1, (cl_bad hf_7.2.2.2.1.symm (show cl_15 < 7 by omega) (hR_354.trans (itR_again (f := 1) (q := 1) hf_359 qi_367 (by decide) (by decide))) (show axx_357 < ln by omega) cb_364).2, (fun q => absurd q (m1_ne (show axx_357 < 2 ^ 31 by omega)))⟩⟩, by rw [htS]; exact hP9, hD9⟩, hS.F htS⟩) hS.2.2 dX4_readClause_94
                        · skip
                          refine lv_eqi (y := 2) (qi_367) ?_
                          refine lv_istore (lv' := [(5, .int 2), (4, .int 2), (3, .int 6), (2, .int (nI cl_15)), (0, .ref Rd), (1, .int zf)]) hx hb dX4_readClause_69 hl (by decide) rfl (fun ls hl => ?_)
                          refine lv_iload hx hb dX4_readClause_71 (lv_at hl 0 rfl) ?_
                          refine lv_iconst (v := (-1)) hx hb dX4_readClause_73 (by decide) ?_
                          refine lv_icmp_eq (tgt := 86) hx hb dX4_readClause_74 (by decide) (fun cb => absurd cb (by decide)) (fun _ => ?_)
                          refine lv_iload_n hx hb dX4_readClause_77 rfl (lv_at hl 2 rfl) ?_
                          refine lv_iconst (v := 1) hx hb dX4_readClause_78 (by decide) ?_
                          refine lv_iload hx hb dX4_readClause_79 (lv_at hl 0 rfl) ?_
                          refine lv_ishl hx hb dX4_readClause_81 ?_
                          refine lv_eqi (y := 4) (by decide) ?_
                          refine lv_iand hx hb dX4_readClause_82 ?_
                          refine lv_eqi (y := 4) (by decide) ?_
                          refine lv_if_eq (tgt := 95) hx hb dX4_readClause_83 (by decide) (fun cb => absurd cb (by decide)) (fun _ => ?_)
                          refine lv_aload_n hx hb dX4_readClause_86 rfl (lv_at hl 4 rfl) ?_
                          refine lv_aload_n hx hb dX4_readClause_87 rfl (lv_at hl 4 rfl) ?_
                          refine va_get (D := D) (ci := 4) (v := .int (nI axx_357)) (C := RX4) (T := TX4) (N := 7) hx hb hts iX4 hown hK hP 1 rfl rfl 2 (by decide) f28 (fun _ h9 => h9) rfl dX4_readClause_88 ?_
                          refine va_put (D := D) (ci := 4) (v := .int (nI axx_357)) (ty := .int) (C := RX4) (T := TX4) (N := 7) hx hb hts iX4 tyX4 tyX4_ok nmX4 hown hK hP hD hS 1 rfl rfl 3 (by decide) f31 (fun _ h9 => h9) rfl (by decide +kernel) (rfl) (rfl) (Nat.le_of_ble_eq_true rfl) dX4_readClause_91 (fun H locs hP2 hD2 hS2 => ?_)
                          clear hP hD hS
                          have hPD : PD D A [(Rv, .inl (g 0, 21, .inl fvalx_347)), (Rd, .inr (4, [.ref Tp, .int (nI ln), .int (nI axx_357), .int (nI axx_357), .int (nI htx_4), .int (nI ctx_5), .ref Rv])), (Tp, .inl (g 0, 160, .inl ftp))] H := ⟨hP2, hD2⟩
                          have hS := hS2; clear hP2 hD2 hS2; have hP := hPD.1; have hD := hPD.2; clear hPD
                          have hPD9 : PD D A [(Rd, .inr (4, [.ref Tp, .int (nI ln), .int (nI axx_357), .int (nI axx_357), .int (nI htx_4), .int (nI ctx_5), .ref Rv])), (Tp, .inl (g 0, 160, .inl ftp)), (Rv, .inl (g 0, 21, .inl fvalx_347))] H := ⟨hP.sub [1, 2, 0] rfl, hD.sub [1, 2, 0] (by decide) rfl⟩
                          have hP9 := hPD9.1; have hD9 := hPD9.2
                          subst hQ
                          refine W.widen (k := 0) (n := 0) (Nat.le_of_ble_eq_true rfl) (Nat.le_of_ble_eq_true rfl) ?_
                          exact W.vret hx hb hr (fun tS htS _ => ⟨⟨_, rfl, ⟨axx_357, (nI axx_357), htx_4, ctx_5, fvalx_347, rfl, ⟨(show axx_357 ≤ ln by omega), (show htx_4 ≤ 3 by omega), (show ctx_5 ≤ 3 by omega), (hf_349), (cl_bad hf_7.2.2.2.1.symm (show cl_15 < 7 by omega) (hR_354.trans (itR_again (f := 1) (q := 2) hf_359 qi_367 (by decide) (by decide))) (show axx_357 < ln by omega) cb_364).1, (cl_bad hf_7.2.2.2.1.symm (show cl_15 < 7 by omega) (hR_354.trans (itR_again (f := 1) (q := 2) hf_359 qi_367 (by decide) (by decide))) (show axx_357 < ln by omega) cb_364).2, (fun q => absurd q (m1_ne (show axx_357 < 2 ^ 31 by omega)))⟩⟩, by rw [htS]; exact hP9, hD9⟩, hS.F htS⟩) hS.2.2 dX4_readClause_94
                      · skip
                        have hPD9 : PD D A [(Rd, .inr (4, [.ref Tp, .int (nI ln), .int (nI axx_357), .int (-1), .int (nI htx_4), .int (nI ctx_5), .ref Rv])), (Tp, .inl (g 0, 160, .inl ftp)), (Rv, .inl (g 0, 21, .inl fvalx_347))] H := ⟨hP.sub [1, 2, 0] rfl, hD.sub [1, 2, 0] (by decide) rfl⟩
                        have hP9 := hPD9.1; have hD9 := hPD9.2
                        subst hQ
                        refine W.widen (k := 0) (n := 0) (Nat.le_of_ble_eq_true rfl) (Nat.le_of_ble_eq_true rfl) ?_
                        exact W.vret hx hb hr (fun tS htS _ => ⟨⟨_, rfl, ⟨axx_357, (-1), htx_4, ctx_5, fvalx_347, rfl, ⟨(show axx_357 ≤ ln by omega), (show htx_4 ≤ 3 by omega), (show ctx_5 ≤ 3 by omega), (hf_349), (cl_end hf_7.2.2.2.1.symm (show cl_15 < 7 by omega) (hR_354.trans (itR_no (f := 1) hf_359 (by rw [cb_364]; exact itK_59 _))) (fun q => q.2 cb_364)).1, (cl_end hf_7.2.2.2.1.symm (show cl_15 < 7 by omega) (hR_354.trans (itR_no (f := 1) hf_359 (by rw [cb_364]; exact itK_59 _))) (fun q => q.2 cb_364)).2.1, (fun _ => ⟨(cl_end hf_7.2.2.2.1.symm (show cl_15 < 7 by omega) (hR_354.trans (itR_no (f := 1) hf_359 (by rw [cb_364]; exact itK_59 _))) (fun q => q.2 cb_364)).2.2, show ax < axx_357 by omega⟩)⟩⟩, by rw [htS]; exact hP9, hD9⟩, hS.F htS⟩) hS.2.2 dX4_readClause_52
                  · skip
                    have hP9 := hP; have hD9 := hD
                    subst hQ
                    refine W.widen (k := 0) (n := 0) (Nat.le_of_ble_eq_true rfl) (Nat.le_of_ble_eq_true rfl) ?_
                    exact W.vret hx hb hr (fun tS htS _ => ⟨⟨_, rfl, ⟨axx_345, zfax_346, htx_4, ctx_5, fvalx_347, rfl, ⟨(show axx_345 ≤ ln by omega), (show htx_4 ≤ 3 by omega), (show ctx_5 ≤ 3 by omega), (hf_349), (cl_num hf_7.2.2.2.1.symm (show cl_15 < 7 by omega) ((congrArg Prod.fst hR_282).trans ((itR_w (f := 2) (q := 1) hf_287 (show axx_285 < ln by omega) qi_295 (by decide) (by decide) (fun q => cb_352 (hf_350.trans q))).trans hf_350.symm)) cb_352).1, (cl_num hf_7.2.2.2.1.symm (show cl_15 < 7 by omega) ((congrArg Prod.fst hR_282).trans ((itR_w (f := 2) (q := 1) hf_287 (show axx_285 < ln by omega) qi_295 (by decide) (by decide) (fun q => cb_352 (hf_350.trans q))).trans hf_350.symm)) cb_352).2, (fun q => absurd q cb_352)⟩⟩, by rw [htS]; exact hP9, hD9⟩, hS.F htS⟩) hS.2.2 dX4_readClause_127
                · skip
                  refine lv_eqi (y := 2) (qi_295) ?_
                  refine lv_istore (lv' := [(5, .int 2), (4, .int 1), (3, .int 4), (2, .int (nI cl_15)), (0, .ref Rd), (1, .int zf)]) hx hb dX4_readClause_69 hl (by decide) rfl (fun ls hl => ?_)
                  refine lv_iload hx hb dX4_readClause_71 (lv_at hl 0 rfl) ?_
                  refine lv_iconst (v := (-1)) hx hb dX4_readClause_73 (by decide) ?_
                  refine lv_icmp_eq (tgt := 86) hx hb dX4_readClause_74 (by decide) (fun cb => absurd cb (by decide)) (fun _ => ?_)
                  refine lv_iload_n hx hb dX4_readClause_77 rfl (lv_at hl 2 rfl) ?_
                  refine lv_iconst (v := 1) hx hb dX4_readClause_78 (by decide) ?_
                  refine lv_iload hx hb dX4_readClause_79 (lv_at hl 0 rfl) ?_
                  refine lv_ishl hx hb dX4_readClause_81 ?_
                  refine lv_eqi (y := 4) (by decide) ?_
                  refine lv_iand hx hb dX4_readClause_82 ?_
                  refine lv_eqi (y := 4) (by decide) ?_
                  refine lv_if_eq (tgt := 95) hx hb dX4_readClause_83 (by decide) (fun cb => absurd cb (by decide)) (fun _ => ?_)
                  refine lv_aload_n hx hb dX4_readClause_86 rfl (lv_at hl 4 rfl) ?_
                  refine lv_aload_n hx hb dX4_readClause_87 rfl (lv_at hl 4 rfl) ?_
                  refine va_get (D := D) (ci := 4) (v := .int (nI axx_285)) (C := RX4) (T := TX4) (N := 7) hx hb hts iX4 hown hK hP 1 rfl rfl 2 (by decide) f28 (fun _ h9 => h9) rfl dX4_readClause_88 ?_
                  refine va_put (D := D) (ci := 4) (v := .int (nI axx_285)) (ty := .int) (C := RX4) (T := TX4) (N := 7) hx hb hts iX4 tyX4 tyX4_ok nmX4 hown hK hP hD hS 1 rfl rfl 3 (by decide) f31 (fun _ h9 => h9) rfl (by decide +kernel) (rfl) (rfl) (Nat.le_of_ble_eq_true rfl) dX4_readClause_91 (fun H locs hP2 hD2 hS2 => ?_)
                  clear hP hD hS
                  have hPD : PD D A [(Rv, .inl (g 0, 21, .inl fvalx_275)), (Rd, .inr (4, [.ref Tp, .int (nI ln), .int (nI axx_285), .int (nI axx_285), .int (nI htx_4), .int (nI ctx_5), .ref Rv])), (Tp, .inl (g 0, 160, .inl ftp))] H := ⟨hP2, hD2⟩
                  have hS := hS2; clear hP2 hD2 hS2; have hP := hPD.1; have hD := hPD.2; clear hPD
                  have hPD9 : PD D A [(Rd, .inr (4, [.ref Tp, .int (nI ln), .int (nI axx_285), .int (nI axx_285), .int (nI htx_4), .int (nI ctx_5), .ref Rv])), (Tp, .inl (g 0, 160, .inl ftp)), (Rv, .inl (g 0, 21, .inl fvalx_275))] H := ⟨hP.sub [1, 2, 0] rfl, hD.sub [1, 2, 0] (by decide) rfl⟩
                  have hP9 := hPD9.1; have hD9 := hPD9.2
                  subst hQ
                  refine W.widen (k := 0) (n := 0) (Nat.le_of_ble_eq_true rfl) (Nat.le_of_ble_eq_true rfl) ?_
                  exact W.vret hx hb hr (fun tS htS _ => ⟨⟨_, rfl, ⟨axx_285, (nI axx_285), htx_4, ctx_5, fvalx_275, rfl, ⟨(show axx_285 ≤ ln by omega), (show htx_4 ≤ 3 by omega), (show ctx_5 ≤ 3 by omega), (hf_277), (cl_bad hf_7.2.2.2.1.symm (show cl_15 < 7 by omega) (hR_282.trans (itR_again (f := 2) (q := 2) hf_287 qi_295 (by decide) (by decide))) (show axx_285 < ln by omega) cb_292).1, (cl_bad hf_7.2.2.2.1.symm (show cl_15 < 7 by omega) (hR_282.trans (itR_again (f := 2) (q := 2) hf_287 qi_295 (by decide) (by decide))) (show axx_285 < ln by omega) cb_292).2, (fun q => absurd q (m1_ne (show axx_285 < 2 ^ 31 by omega)))⟩⟩, by rw [htS]; exact hP9, hD9⟩, hS.F htS⟩) hS.2.2 dX4_readClause_94
              · skip
                have hPD9 : PD D A [(Rd, .inr (4, [.ref Tp, .int (nI ln), .int (nI axx_285), .int (-1), .int (nI htx_4), .int (nI ctx_5), .ref Rv])), (Tp, .inl (g 0, 160, .inl ftp)), (Rv, .inl (g 0, 21, .inl fvalx_275))] H := ⟨hP.sub [1, 2, 0] rfl, hD.sub [1, 2, 0] (by decide) rfl⟩
                have hP9 := hPD9.1; have hD9 := hPD9.2
                subst hQ
                refine W.widen (k := 0) (n := 0) (Nat.le_of_ble_eq_true rfl) (Nat.le_of_ble_eq_true rfl) ?_
                exact W.vret hx hb hr (fun tS htS _ => ⟨⟨_, rfl, ⟨axx_285, (-1), htx_4, ctx_5, fvalx_275, rfl, ⟨(show axx_285 ≤ ln by omega), (show htx_4 ≤ 3 by omega), (show ctx_5 ≤ 3 by omega), (hf_277), (cl_end hf_7.2.2.2.1.symm (show cl_15 < 7 by omega) (hR_282.trans (itR_no (f := 2) hf_287 (by rw [cb_292]; exact itK_59 _))) (fun q => q.2 cb_292)).1, (cl_end hf_7.2.2.2.1.symm (show cl_15 < 7 by omega) (hR_282.trans (itR_no (f := 2) hf_287 (by rw [cb_292]; exact itK_59 _))) (fun q => q.2 cb_292)).2.1, (fun _ => ⟨(cl_end hf_7.2.2.2.1.symm (show cl_15 < 7 by omega) (hR_282.trans (itR_no (f := 2) hf_287 (by rw [cb_292]; exact itK_59 _))) (fun q => q.2 cb_292)).2.2, show ax < axx_285 by omega⟩)⟩⟩, by rw [htS]; exact hP9, hD9⟩, hS.F htS⟩) hS.2.2 dX4_readClause_52
          · skip
            have hP9 := hP; have hD9 := hD
            subst hQ
            refine W.widen (k := 0) (n := 0) (Nat.le_of_ble_eq_true rfl) (Nat.le_of_ble_eq_true rfl) ?_
            exact W.vret hx hb hr (fun tS htS _ => ⟨⟨_, rfl, ⟨axx_273, zfax_274, htx_4, ctx_5, fvalx_275, rfl, ⟨(show axx_273 ≤ ln by omega), (show htx_4 ≤ 3 by omega), (show ctx_5 ≤ 3 by omega), (hf_277), (cl_num hf_7.2.2.2.1.symm (show cl_15 < 7 by omega) ((congrArg Prod.fst hR_19).trans ((itR_w (f := 3) (q := 2) hf_23 (show axx_21 < ln by omega) qi_31 (by decide) (by decide) (fun q => cb_280 (hf_278.trans q))).trans hf_278.symm)) cb_280).1, (cl_num hf_7.2.2.2.1.symm (show cl_15 < 7 by omega) ((congrArg Prod.fst hR_19).trans ((itR_w (f := 3) (q := 2) hf_23 (show axx_21 < ln by omega) qi_31 (by decide) (by decide) (fun q => cb_280 (hf_278.trans q))).trans hf_278.symm)) cb_280).2, (fun q => absurd q cb_280)⟩⟩, by rw [htS]; exact hP9, hD9⟩, hS.F htS⟩) hS.2.2 dX4_readClause_127
      · skip
        have hPD9 : PD D A [(Rd, .inr (4, [.ref Tp, .int (nI ln), .int (nI axx_21), .int (-1), .int (nI htx_4), .int (nI ctx_5), .ref Rv])), (Tp, .inl (g 0, 160, .inl ftp)), (Rv, .inl (g 0, 21, .inl fval))] H := ⟨hP.sub [1, 2, 0] rfl, hD.sub [1, 2, 0] (by decide) rfl⟩
        have hP9 := hPD9.1; have hD9 := hPD9.2
        subst hQ
        refine W.widen (k := 0) (n := 0) (Nat.le_of_ble_eq_true rfl) (Nat.le_of_ble_eq_true rfl) ?_
        exact W.vret hx hb hr (fun tS htS _ => ⟨⟨_, rfl, ⟨axx_21, (-1), htx_4, ctx_5, fval, rfl, ⟨(show axx_21 ≤ ln by omega), (show htx_4 ≤ 3 by omega), (show ctx_5 ≤ 3 by omega), (h4), (cl_end hf_7.2.2.2.1.symm (show cl_15 < 7 by omega) (hR_19.trans (itR_no (f := 3) hf_23 (by rw [cb_28]; exact itK_59 _))) (fun q => q.2 cb_28)).1, (cl_end hf_7.2.2.2.1.symm (show cl_15 < 7 by omega) (hR_19.trans (itR_no (f := 3) hf_23 (by rw [cb_28]; exact itK_59 _))) (fun q => q.2 cb_28)).2.1, (fun _ => ⟨(cl_end hf_7.2.2.2.1.symm (show cl_15 < 7 by omega) (hR_19.trans (itR_no (f := 3) hf_23 (by rw [cb_28]; exact itK_59 _))) (fun q => q.2 cb_28)).2.2, show ax < axx_21 by omega⟩)⟩⟩, by rw [htS]; exact hP9, hD9⟩, hS.F htS⟩) hS.2.2 dX4_readClause_52
