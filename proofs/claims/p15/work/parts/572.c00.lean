set_option maxHeartbeats 4000000 in
set_option maxRecDepth 100000 in
theorem w_X4_readClause (l : Launch) (D : va_G) (g : Nat → ClassId) (sz : Nat) (Rd : Nat) (zf : Int32) (Tp : Nat) (ln : Nat) (ax : Nat) (ht : Nat) (ct : Nat) (Rv : Nat) (ftp : Nat → Int32) (fval : Nat → Int32) (h0 : ln ≤ 160) (h1 : ax ≤ ln) (h2 : ht ≤ 3) (h3 : ct ≤ 3) (h4 : vOK fval) : Met l yX4_readClause wsX4_readClause ({ frames := 5, cells := 0, slots := 0, locals := 107 }) (va_Pc [.ref Rd, .int zf] (pre D g sz [(Rd, .inr (4, [.ref Tp, .int (nI ln), .int (nI ax), .int (-1), .int (nI ht), .int (nI ct), .ref Rv])), (Tp, .inl (g 0, 160, .inl ftp)), (Rv, .inl (g 0, 21, .inl fval))])) (va_Qv (fun (u : va_W) => ∃ (axx : Nat) (zfax : Int32) (htx : Nat) (ctx : Nat) (fvalx : Nat → Int32), u = [(Rd, .inr (4, [.ref Tp, .int (nI ln), .int (nI axx), .int zfax, .int (nI htx), .int (nI ctx), .ref Rv])), (Tp, .inl (g 0, 160, .inl ftp)), (Rv, .inl (g 0, 21, .inl fvalx))] ∧ ((axx ≤ ln) ∧ (htx ≤ 3) ∧ (ctx ≤ 3) ∧ (vOK fvalx) ∧ (zfax = (clF ftp ln ax zf ht ct).1) ∧ ((htx, ctx) = (clF ftp ln ax zf ht ct).2.2) ∧ (zfax = -1 → axx = (clF ftp ln ax zf ht ct).2.1 ∧ ax < axx) ∧ (zfax = -1 → fvalx = clW ftp ln ax zf ht ct fval))) (wd D (va_A [(Rd, .inr (4, [.ref Tp, .int (nI ln), .int (nI ax), .int (-1), .int (nI ht), .int (nI ct), .ref Rv])), (Tp, .inl (g 0, 160, .inl ftp)), (Rv, .inl (g 0, 21, .inl fval))] sz)) (va_A [(Rd, .inr (4, [.ref Tp, .int (nI ln), .int (nI ax), .int (-1), .int (nI ht), .int (nI ct), .ref Rv])), (Tp, .inl (g 0, 160, .inl ftp)), (Rv, .inl (g 0, 21, .inl fval))] sz)) 0 0 (va_A [(Rd, .inr (4, [.ref Tp, .int (nI ln), .int (nI ax), .int (-1), .int (nI ht), .int (nI ct), .ref Rv])), (Tp, .inl (g 0, 160, .inl ftp)), (Rv, .inl (g 0, 21, .inl fval))] sz) := by
  refine Met.ofW (cc := cX4_readClause) (maxL := 6) (ret := none) (by decide) rfl ?_
  intro p e s m args below meth c s₁ B hml hv
  obtain ⟨rfl, hsz, hP, ⟨hK, hN⟩, hD0, hZ⟩ := hv
  have hx := B.exec
  have hb := B.bytes
  have hr := B.returns
  have hts := atoms_spec (ws := wsX4_readClause) B.pre
  have hown : s.vm.findClass RX4 = some m.cls := findClass_of_methodNamed B.named
  have hlocks := B.notSynchronized
  clear B
  subst hsz
  have hD := hD0.self (sz := s.heap.size)
  clear hD0
  generalize hAe : va_A [(Rd, .inr (4, [.ref Tp, .int (nI ln), .int (nI ax), .int (-1), .int (nI ht), .int (nI ct), .ref Rv])), (Tp, .inl (g 0, 160, .inl ftp)), (Rv, .inl (g 0, 21, .inl fval))] s.heap.size = A at hD hZ ⊢
  have hA : ∀ q : Nat, s.heap.size ≤ q → A q := fun q h => by rw [← hAe]; exact Or.inr h
  have hS : va_S A s.heap s.heap [] := va_S.rf
  have f24 := hts (.fieldLink RX4 24 "HopCredits$Reading" "length" "I") (List.mem_of_getElem? (i := 2) rfl)
  have f28 := hts (.fieldLink RX4 28 "HopCredits$Reading" "at" "I") (List.mem_of_getElem? (i := 1) rfl)
  have f31 := hts (.fieldLink RX4 31 "HopCredits$Reading" "fault" "I") (List.mem_of_getElem? (i := 4) rfl)
  have f9 := hts (.fieldLink RX4 9 "HopCredits$Reading" "text" "[I") (List.mem_of_getElem? (i := 3) rfl)
  have iX4 : ∀ w ∈ u_ws RX4 TX4 7, w ∈ wsX4_readClause := fun w h => List.mem_cons_of_mem _ (List.mem_append_right _ (h))
  have hl := lv_entry ([.ref Rd, .int zf]) (n := 6) (Nat.le_of_ble_eq_true rfl)
  rw [lg_entry_eq]
  generalize (lg_sl ([.ref Rd, .int zf]) ++ List.replicate (6 - (lg_sl ([.ref Rd, .int zf])).length) Slot.unset).toArray = ls at hl ⊢
  have hl : lv_has ls 6 [(0, .ref Rd), (1, .int zf)] := hl
  generalize hQ : MQ below _ _ s _ _ _ = Q
  generalize hH : s.heap = H at hP ⊢
  have hS : va_S A s.heap H [] := by rw [← hH]; exact hS
  clear hH
  refine lv_aload_n hx hb dX4_readClause_0 rfl (lv_at hl 0 rfl) ?_
  refine lv_iload_n hx hb dX4_readClause_1 rfl (lv_at hl 1 rfl) ?_
  refine ky_Vi (As := [.int zf]) (rest := []) ⟨hx, hb, hml, hown, hts⟩ ⟨hK, hN⟩ hZ hP hD hS hA [0, 1] [2] (wc := [(Rd, .inr (4, [.ref Tp, .int (nI ln), .int (nI ax), .int (-1), .int (nI ht), .int (nI ct), .ref Rv])), (Tp, .inl (g 0, 160, .inl ftp))]) (wr := [(Rv, .inl (g 0, 21, .inl fval))]) rfl rfl rfl rfl (by decide) (r_X4_readHead l D g H.size Rd zf Tp ln ax ht ct Rv ftp (show ln ≤ 160 by omega) (show ax ≤ ln by omega) (show ht ≤ 3 by omega) (show ct ≤ 3 by omega)) (cwV 1 hts gX4_readClause_X4_readHead rfl rfl rfl (by decide +kernel) ⟨(Nat.le_of_ble_eq_true rfl), (Nat.le_of_ble_eq_true rfl)⟩) 0 4 rfl rfl rfl rfl hl.1 rfl (Nat.le_of_ble_eq_true rfl) dX4_readClause_2 ⟨(Nat.le_of_ble_eq_true rfl), (Nat.le_of_ble_eq_true rfl)⟩ (fun r_1 u H locs hw hP2 hD2 hS2 => ?_)
  clear hP hD hS
  obtain ⟨axx_2, zfax_3, htx_4, ctx_5, zr_6, rfl, rfl, hf_7⟩ := hw
  have hg_8 := hf_7.1
  have hg_9 := hf_7.2.1
  have hg_10 := hf_7.2.2.1
  have hPD : PD D A [(Rv, .inl (g 0, 21, .inl fval)), (Rd, .inr (4, [.ref Tp, .int (nI ln), .int (nI axx_2), .int zfax_3, .int (nI htx_4), .int (nI ctx_5), .ref Rv])), (Tp, .inl (g 0, 160, .inl ftp))] H := ⟨hP2, hD2⟩
  have hS := hS2; clear hP2 hD2 hS2; have hP := hPD.1; have hD := hPD.2; clear hPD
  refine W.widen (k := 0) (n := 0) (Nat.le_of_ble_eq_true rfl) (Nat.le_of_ble_eq_true rfl) ?_
  rcases hf_7.2.2.2.2 with ⟨qa_11, qb_12⟩ | ⟨qa_11, qb_12, qc_13⟩
  · skip
    have hPq_14 := hP; have hDq_14 := hD; have hSq_14 := hS; have hlq_14 := hl; clear hP hD hS hl
    subst qa_11
    have hP := hPq_14; have hD := hDq_14; have hS := hSq_14; have hl := hlq_14; clear hPq_14 hDq_14 hSq_14 hlq_14
    refine lv_istore_n (lv' := [(2, .int (-1)), (0, .ref Rd), (1, .int zf)]) hx hb dX4_readClause_5 rfl hl (by decide) rfl (fun ls hl => ?_)
    refine lv_iload_n hx hb dX4_readClause_6 rfl (lv_at hl 0 rfl) ?_
    refine lv_iconst (v := (-1)) hx hb dX4_readClause_7 (by decide) ?_
    refine lv_icmp_ne (tgt := 12) hx hb dX4_readClause_8 (by decide) (fun cb => absurd (by decide) cb) (fun _ => ?_)
    have hPD9 : PD D A [(Rd, .inr (4, [.ref Tp, .int (nI ln), .int (nI axx_2), .int zfax_3, .int (nI htx_4), .int (nI ctx_5), .ref Rv])), (Tp, .inl (g 0, 160, .inl ftp)), (Rv, .inl (g 0, 21, .inl fval))] H := ⟨hP.sub [1, 2, 0] rfl, hD.sub [1, 2, 0] (by decide) rfl⟩
    have hP9 := hPD9.1; have hD9 := hPD9.2
    subst hQ
    refine W.widen (k := 0) (n := 0) (Nat.le_of_ble_eq_true rfl) (Nat.le_of_ble_eq_true rfl) ?_
    exact W.vret hx hb hr (fun tS htS _ => ⟨⟨_, rfl, ⟨axx_2, zfax_3, htx_4, ctx_5, fval, rfl, ⟨(show axx_2 ≤ ln by omega), (show htx_4 ≤ 3 by omega), (show ctx_5 ≤ 3 by omega), (h4), (by rw [clF_head hf_7.2.2.2.1.symm]; exact qb_12), (by rw [clF_head hf_7.2.2.2.1.symm]), (fun q => absurd (qb_12.symm.trans q) (m1_ne (show sB ftp ln ax < 2 ^ 31 by have := sB_le (T := ftp) (show ax ≤ ln by omega); omega))), (fun q => absurd (qb_12.symm.trans q) (m1_ne (show sB ftp ln ax < 2 ^ 31 by have := sB_le (T := ftp) (show ax ≤ ln by omega); omega)))⟩⟩, by rw [htS]; exact hP9, hD9⟩, hS.F htS⟩) hS.2.2 dX4_readClause_11
  · skip
    have h7 : ok7 r_1 := by have q7 := hdR_7 (T := ftp) (n := ln) (i := ax) (zf := zf) (h := ht) (ct := ct) (by omega) (by omega); rw [← hf_7.2.2.2.1] at q7; exact q7
    have hPq_17 := hP; have hDq_17 := hD; have hSq_17 := hS; have hlq_17 := hl; clear hP hD hS hl
    obtain ⟨cl_15, hcl_16, rfl⟩ := ok7_j h7 qa_11; subst qb_12
    have hP := hPq_17; have hD := hDq_17; have hS := hSq_17; have hl := hlq_17; clear hPq_17 hDq_17 hSq_17 hlq_17
    have hkd_18 := kdN_lt cl_15; have hkd_18b := sB_ge (T := ftp) (show ax ≤ ln by omega)
    have hR_19 : itR ftp ln (kdN cl_15) 4 0 (sB ftp ln ax + 1) = itR ftp ln (kdN cl_15) 4 0 axx_2 := by rw [qc_13]
    have hW_20 : itW ftp ln (kdN cl_15) (3 * cl_15) 4 0 (sB ftp ln ax + 1) fval = itW ftp ln (kdN cl_15) (3 * cl_15) 4 0 axx_2 fval := by rw [qc_13]
    refine lv_istore_n (lv' := [(2, .int (nI cl_15)), (0, .ref Rd), (1, .int zf)]) hx hb dX4_readClause_5 rfl hl (by decide) rfl (fun ls hl => ?_)
    refine lv_iload_n hx hb dX4_readClause_6 rfl (lv_at hl 0 rfl) ?_
    refine lv_iconst (v := (-1)) hx hb dX4_readClause_7 (by decide) ?_
    refine lv_icmp_ne (tgt := 12) hx hb dX4_readClause_8 (by decide) (fun _ => ?_) (fun cb => absurd cb (m1_ne (show cl_15 < 2 ^ 31 by omega)))
    refine lv_iconst (v := 0) hx hb dX4_readClause_12 (by decide) ?_
    refine lv_istore_n (lv' := [(3, .int 0), (2, .int (nI cl_15)), (0, .ref Rd), (1, .int zf)]) hx hb dX4_readClause_13 rfl hl (by decide) rfl (fun ls hl => ?_)
    refine lv_iconst (v := 0) hx hb dX4_readClause_14 (by decide) ?_
    refine lv_istore (lv' := [(4, .int 0), (3, .int 0), (2, .int (nI cl_15)), (0, .ref Rd), (1, .int zf)]) hx hb dX4_readClause_15 hl (by decide) rfl (fun ls hl => ?_)
    refine lv_iload hx hb dX4_readClause_17 (lv_at hl 0 rfl) ?_
    refine lv_iconst (v := 3) hx hb dX4_readClause_19 (by decide) ?_
    refine lv_icmp_gt (tgt := 134) hx hb dX4_readClause_20 (by decide) (fun cb => absurd cb (by decide)) (fun _ => ?_)
    refine lv_aload_n hx hb dX4_readClause_23 rfl (lv_at hl 3 rfl) ?_
    refine ky_Vv (As := []) (rest := []) ⟨hx, hb, hml, hown, hts⟩ ⟨hK, hN⟩ hZ hP hD hS hA [1, 2] [0] (wc := [(Rd, .inr (4, [.ref Tp, .int (nI ln), .int (nI axx_2), .int (-1), .int (nI htx_4), .int (nI ctx_5), .ref Rv])), (Tp, .inl (g 0, 160, .inl ftp))]) (wr := [(Rv, .inl (g 0, 21, .inl fval))]) rfl rfl rfl rfl (by decide) (r_X4_passBlanks l D g H.size Rd Tp ln axx_2 (-1) htx_4 ctx_5 Rv ftp (show ln ≤ 160 by omega) (show axx_2 ≤ ln by omega)) (cwV 0 hts gX4_readClause_X4_passBlanks rfl rfl rfl (by decide +kernel) ⟨(Nat.le_of_ble_eq_true rfl), (Nat.le_of_ble_eq_true rfl)⟩) 1 4 rfl rfl rfl rfl hl.1 rfl (Nat.le_of_ble_eq_true rfl) dX4_readClause_24 ⟨(Nat.le_of_ble_eq_true rfl), (Nat.le_of_ble_eq_true rfl)⟩ (fun u H locs hw hP2 hD2 hS2 => ?_)
    clear hP hD hS
    obtain ⟨axx_22, rfl, hf_23, hf_24⟩ := hw
    have hPD : PD D A [(Rv, .inl (g 0, 21, .inl fval)), (Rd, .inr (4, [.ref Tp, .int (nI ln), .int (nI axx_22), .int (-1), .int (nI htx_4), .int (nI ctx_5), .ref Rv])), (Tp, .inl (g 0, 160, .inl ftp))] H := ⟨hP2, hD2⟩
    have hS := hS2; clear hP2 hD2 hS2; have hP := hPD.1; have hD := hPD.2; clear hPD
    refine W.widen (k := 0) (n := 0) (Nat.le_of_ble_eq_true rfl) (Nat.le_of_ble_eq_true rfl) ?_
    have hge_25 := sB_ge (T := ftp) (n := ln) (i := axx_2) (by omega)
    refine lv_aload_n hx hb dX4_readClause_27 rfl (lv_at hl 3 rfl) ?_
    refine va_get (D := D) (ci := 4) (v := .int (nI axx_22)) (C := RX4) (T := TX4) (N := 7) hx hb hts iX4 hown hK hP 1 rfl rfl 2 (by decide) f28 (fun _ h9 => h9) rfl dX4_readClause_28 ?_
    refine lv_aload_n hx hb dX4_readClause_31 rfl (lv_at hl 3 rfl) ?_
    refine va_get (D := D) (ci := 4) (v := .int (nI ln)) (C := RX4) (T := TX4) (N := 7) hx hb hts iX4 hown hK hP 1 rfl rfl 1 (by decide) f24 (fun _ h9 => h9) rfl dX4_readClause_32 ?_
    refine lv_icmp_ge (tgt := 52) hx hb dX4_readClause_35 (by decide) (fun cb_26 => ?_) (fun cb_26 => ?_)
    · skip
      have cn_27 : ln ≤ axx_22 := (nI_leI (show ln < 2 ^ 31 by omega) (show axx_22 < 2 ^ 31 by omega)).mp cb_26
      have hPD9 : PD D A [(Rd, .inr (4, [.ref Tp, .int (nI ln), .int (nI axx_22), .int (-1), .int (nI htx_4), .int (nI ctx_5), .ref Rv])), (Tp, .inl (g 0, 160, .inl ftp)), (Rv, .inl (g 0, 21, .inl fval))] H := ⟨hP.sub [1, 2, 0] rfl, hD.sub [1, 2, 0] (by decide) rfl⟩
      have hP9 := hPD9.1; have hD9 := hPD9.2
      subst hQ
      refine W.widen (k := 0) (n := 0) (Nat.le_of_ble_eq_true rfl) (Nat.le_of_ble_eq_true rfl) ?_
      exact W.vret hx hb hr (fun tS htS _ => ⟨⟨_, rfl, ⟨axx_22, (-1), htx_4, ctx_5, fval, rfl, ⟨(show axx_22 ≤ ln by omega), (show htx_4 ≤ 3 by omega), (show ctx_5 ≤ 3 by omega), (h4), (cl_end hf_7.2.2.2.1.symm (show cl_15 < 7 by omega) (hR_19.trans (itR_end (f := 3) hf_24 (show ¬ axx_22 < ln by omega))) (fun q => absurd q.1 (show ¬ axx_22 < ln by omega))).1, (cl_end hf_7.2.2.2.1.symm (show cl_15 < 7 by omega) (hR_19.trans (itR_end (f := 3) hf_24 (show ¬ axx_22 < ln by omega))) (fun q => absurd q.1 (show ¬ axx_22 < ln by omega))).2.1, (fun _ => ⟨(cl_end hf_7.2.2.2.1.symm (show cl_15 < 7 by omega) (hR_19.trans (itR_end (f := 3) hf_24 (show ¬ axx_22 < ln by omega))) (fun q => absurd q.1 (show ¬ axx_22 < ln by omega))).2.2, show ax < axx_22 by omega⟩), (fun _ => ((clW_cl hf_7.2.2.2.1.symm (show cl_15 < 7 by omega)).trans (hW_20.trans (itW_end (f := 3) hf_24 (show ¬ axx_22 < ln by omega)))).symm)⟩⟩, by rw [htS]; exact hP9, hD9⟩, hS.F htS⟩) hS.2.2 dX4_readClause_52
    · skip
      have cn_28 : axx_22 < ln := Nat.lt_of_not_le (fun q9 => cb_26 ((nI_leI (show ln < 2 ^ 31 by omega) (show axx_22 < 2 ^ 31 by omega)).mpr q9))
      refine lv_aload_n hx hb dX4_readClause_38 rfl (lv_at hl 3 rfl) ?_
      refine va_get (D := D) (ci := 4) (v := .ref Tp) (C := RX4) (T := TX4) (N := 7) hx hb hts iX4 hown hK hP 1 rfl rfl 0 (by decide) f9 (fun _ h9 => h9) rfl dX4_readClause_39 ?_
      refine lv_aload_n hx hb dX4_readClause_42 rfl (lv_at hl 3 rfl) ?_
      refine va_get (D := D) (ci := 4) (v := .int (nI axx_22)) (C := RX4) (T := TX4) (N := 7) hx hb hts iX4 hown hK hP 1 rfl rfl 2 (by decide) f28 (fun _ h9 => h9) rfl dX4_readClause_43 ?_
      refine va_iald hx hb hK hP 2 0 rfl rfl (vp_in_nI (show axx_22 < 160 by omega) (by decide)) dX4_readClause_46 ?_
      refine lv_eqi (y := (ftp (axx_22))) (congrArg ftp (nI_clamp (show axx_22 < 2 ^ 31 by omega))) ?_
      refine lv_bipush (v := 59) hx hb dX4_readClause_47 (by decide) ?_
      refine lv_icmp_ne (tgt := 53) hx hb dX4_readClause_49 (by decide) (fun cb_29 => ?_) (fun cb_29 => ?_)
      · skip
        refine lv_iload_n hx hb dX4_readClause_53 rfl (lv_at hl 2 rfl) ?_
        refine ky_Si (As := [.int (nI cl_15)]) (rest := []) ⟨hx, hb, hml, hown, hts⟩ ⟨hK, hN⟩ hZ hP hD hS hA [] [0, 1, 2] (wc := []) (wr := [(Rv, .inl (g 0, 21, .inl fval)), (Rd, .inr (4, [.ref Tp, .int (nI ln), .int (nI axx_22), .int (-1), .int (nI htx_4), .int (nI ctx_5), .ref Rv])), (Tp, .inl (g 0, 160, .inl ftp))]) rfl rfl rfl rfl (by decide) (r_X4_kindOf l D g H.size cl_15 (show cl_15 < 7 by omega)) (va_cwS 1 hts gX4_readClause_X4_kindOf rfl rfl rfl (by decide +kernel) ⟨(Nat.le_of_ble_eq_true rfl), (Nat.le_of_ble_eq_true rfl)⟩) rfl hl.1 rfl (Nat.le_of_ble_eq_true rfl) dX4_readClause_54 ⟨(Nat.le_of_ble_eq_true rfl), (Nat.le_of_ble_eq_true rfl)⟩ (fun r_30 u H locs hw hP2 hD2 hS2 => ?_)
        clear hP hD hS
        obtain ⟨rfl, rfl⟩ := hw
        have hPD : PD D A [(Rv, .inl (g 0, 21, .inl fval)), (Rd, .inr (4, [.ref Tp, .int (nI ln), .int (nI axx_22), .int (-1), .int (nI htx_4), .int (nI ctx_5), .ref Rv])), (Tp, .inl (g 0, 160, .inl ftp))] H := ⟨hP2, hD2⟩
        have hS := hS2; clear hP2 hD2 hS2; have hP := hPD.1; have hD := hPD.2; clear hPD
        refine W.widen (k := 0) (n := 0) (Nat.le_of_ble_eq_true rfl) (Nat.le_of_ble_eq_true rfl) ?_
        refine lv_aload_n hx hb dX4_readClause_57 rfl (lv_at hl 3 rfl) ?_
        refine va_get (D := D) (ci := 4) (v := .ref Tp) (C := RX4) (T := TX4) (N := 7) hx hb hts iX4 hown hK hP 1 rfl rfl 0 (by decide) f9 (fun _ h9 => h9) rfl dX4_readClause_58 ?_
        refine lv_aload_n hx hb dX4_readClause_61 rfl (lv_at hl 3 rfl) ?_
        refine va_get (D := D) (ci := 4) (v := .int (nI axx_22)) (C := RX4) (T := TX4) (N := 7) hx hb hts iX4 hown hK hP 1 rfl rfl 2 (by decide) f28 (fun _ h9 => h9) rfl dX4_readClause_62 ?_
        refine va_iald hx hb hK hP 2 0 rfl rfl (vp_in_nI (show axx_22 < 160 by omega) (by decide)) dX4_readClause_65 ?_
        refine lv_eqi (y := (ftp (axx_22))) (congrArg ftp (nI_clamp (show axx_22 < 2 ^ 31 by omega))) ?_
        refine ky_Si (As := [.int (nI (kdN cl_15)), .int (ftp (axx_22))]) (rest := []) ⟨hx, hb, hml, hown, hts⟩ ⟨hK, hN⟩ hZ hP hD hS hA [] [0, 1, 2] (wc := []) (wr := [(Rv, .inl (g 0, 21, .inl fval)), (Rd, .inr (4, [.ref Tp, .int (nI ln), .int (nI axx_22), .int (-1), .int (nI htx_4), .int (nI ctx_5), .ref Rv])), (Tp, .inl (g 0, 160, .inl ftp))]) rfl rfl rfl rfl (by decide) (r_X4_itemOf l D g H.size (kdN cl_15) (ftp (axx_22)) (show (kdN cl_15) < 3 by omega)) (va_cwS 2 hts gX4_readClause_X4_itemOf rfl rfl rfl (by decide +kernel) ⟨(Nat.le_of_ble_eq_true rfl), (Nat.le_of_ble_eq_true rfl)⟩) rfl hl.1 rfl (Nat.le_of_ble_eq_true rfl) dX4_readClause_66 ⟨(Nat.le_of_ble_eq_true rfl), (Nat.le_of_ble_eq_true rfl)⟩ (fun r_31 u H locs hw hP2 hD2 hS2 => ?_)
        clear hP hD hS
        obtain ⟨rfl, rfl⟩ := hw
        have hPD : PD D A [(Rv, .inl (g 0, 21, .inl fval)), (Rd, .inr (4, [.ref Tp, .int (nI ln), .int (nI axx_22), .int (-1), .int (nI htx_4), .int (nI ctx_5), .ref Rv])), (Tp, .inl (g 0, 160, .inl ftp))] H := ⟨hP2, hD2⟩
        have hS := hS2; clear hP2 hD2 hS2; have hP := hPD.1; have hD := hPD.2; clear hPD
        refine W.widen (k := 0) (n := 0) (Nat.le_of_ble_eq_true rfl) (Nat.le_of_ble_eq_true rfl) ?_
        rcases itK_c (kdN cl_15) (ftp (axx_22)) with qi_32 | qi_32 | qi_32 | qi_32
        · skip
          refine lv_eqi (y := (-1)) (qi_32) ?_
          refine lv_istore (lv' := [(5, .int (-1)), (4, .int 0), (3, .int 0), (2, .int (nI cl_15)), (0, .ref Rd), (1, .int zf)]) hx hb dX4_readClause_69 hl (by decide) rfl (fun ls hl => ?_)
          refine lv_iload hx hb dX4_readClause_71 (lv_at hl 0 rfl) ?_
          refine lv_iconst (v := (-1)) hx hb dX4_readClause_73 (by decide) ?_
          refine lv_icmp_eq (tgt := 86) hx hb dX4_readClause_74 (by decide) (fun _ => ?_) (fun cb => absurd (by decide) cb)
          refine lv_aload_n hx hb dX4_readClause_86 rfl (lv_at hl 4 rfl) ?_
          refine lv_aload_n hx hb dX4_readClause_87 rfl (lv_at hl 4 rfl) ?_
          refine va_get (D := D) (ci := 4) (v := .int (nI axx_22)) (C := RX4) (T := TX4) (N := 7) hx hb hts iX4 hown hK hP 1 rfl rfl 2 (by decide) f28 (fun _ h9 => h9) rfl dX4_readClause_88 ?_
          refine va_put (D := D) (ci := 4) (v := .int (nI axx_22)) (ty := .int) (C := RX4) (T := TX4) (N := 7) hx hb hts iX4 tyX4 tyX4_ok nmX4 hown hK hP hD hS 1 rfl rfl 3 (by decide) f31 (fun _ h9 => h9) rfl (by decide +kernel) (rfl) (rfl) (Nat.le_of_ble_eq_true rfl) dX4_readClause_91 (fun H locs hP2 hD2 hS2 => ?_)
          clear hP hD hS
          have hPD : PD D A [(Rv, .inl (g 0, 21, .inl fval)), (Rd, .inr (4, [.ref Tp, .int (nI ln), .int (nI axx_22), .int (nI axx_22), .int (nI htx_4), .int (nI ctx_5), .ref Rv])), (Tp, .inl (g 0, 160, .inl ftp))] H := ⟨hP2, hD2⟩
          have hS := hS2; clear hP2 hD2 hS2; have hP := hPD.1; have hD := hPD.2; clear hPD
          have hPD9 : PD D A [(Rd, .inr (4, [.ref Tp, .int (nI ln), .int (nI axx_22), .int (nI axx_22), .int (nI htx_4), .int (nI ctx_5), .ref Rv])), (Tp, .inl (g 0, 160, .inl ftp)), (Rv, .inl (g 0, 21, .inl fval))] H := ⟨hP.sub [1, 2, 0] rfl, hD.sub [1, 2, 0] (by decide) rfl⟩
          have hP9 := hPD9.1; have hD9 := hPD9.2
          subst hQ
          refine W.widen (k := 0) (n := 0) (Nat.le_of_ble_eq_true rfl) (Nat.le_of_ble_eq_true rfl) ?_
          exact W.vret hx hb hr (fun tS htS _ => ⟨⟨_, rfl, ⟨axx_22, (nI axx_22), htx_4, ctx_5, fval, rfl, ⟨(show axx_22 ≤ ln by omega), (show htx_4 ≤ 3 by omega), (show ctx_5 ≤ 3 by omega), (h4), (cl_bad hf_7.2.2.2.1.symm (show cl_15 < 7 by omega) (hR_19.trans (itR_no (f := 3) hf_24 qi_32)) (show axx_22 < ln by omega) cb_29).1, (cl_bad hf_7.2.2.2.1.symm (show cl_15 < 7 by omega) (hR_19.trans (itR_no (f := 3) hf_24 qi_32)) (show axx_22 < ln by omega) cb_29).2, (fun q => absurd q (m1_ne (show axx_22 < 2 ^ 31 by omega))), (fun q => absurd q (m1_ne (show axx_22 < 2 ^ 31 by omega)))⟩⟩, by rw [htS]; exact hP9, hD9⟩, hS.F htS⟩) hS.2.2 dX4_readClause_94
        · skip
          refine lv_eqi (y := 0) (qi_32) ?_
          refine lv_istore (lv' := [(5, .int 0), (4, .int 0), (3, .int 0), (2, .int (nI cl_15)), (0, .ref Rd), (1, .int zf)]) hx hb dX4_readClause_69 hl (by decide) rfl (fun ls hl => ?_)
          refine lv_iload hx hb dX4_readClause_71 (lv_at hl 0 rfl) ?_
          refine lv_iconst (v := (-1)) hx hb dX4_readClause_73 (by decide) ?_
          refine lv_icmp_eq (tgt := 86) hx hb dX4_readClause_74 (by decide) (fun cb => absurd cb (by decide)) (fun _ => ?_)
          refine lv_iload_n hx hb dX4_readClause_77 rfl (lv_at hl 2 rfl) ?_
          refine lv_iconst (v := 1) hx hb dX4_readClause_78 (by decide) ?_
          refine lv_iload hx hb dX4_readClause_79 (lv_at hl 0 rfl) ?_
          refine lv_ishl hx hb dX4_readClause_81 ?_
          refine lv_eqi (y := 1) (by decide) ?_
          refine lv_iand hx hb dX4_readClause_82 ?_
          refine lv_eqi (y := 0) (by decide) ?_
          refine lv_if_eq (tgt := 95) hx hb dX4_readClause_83 (by decide) (fun _ => ?_) (fun cb => absurd (by decide) cb)
          refine lv_iload_n hx hb dX4_readClause_95 rfl (lv_at hl 2 rfl) ?_
          refine lv_iconst (v := 1) hx hb dX4_readClause_96 (by decide) ?_
          refine lv_iload hx hb dX4_readClause_97 (lv_at hl 0 rfl) ?_
          refine lv_ishl hx hb dX4_readClause_99 ?_
          refine lv_eqi (y := 1) (by decide) ?_
          refine lv_ior hx hb dX4_readClause_100 ?_
          refine lv_eqi (y := 1) (by decide) ?_
          refine lv_istore_n (lv' := [(3, .int 1), (5, .int 0), (4, .int 0), (2, .int (nI cl_15)), (0, .ref Rd), (1, .int zf)]) hx hb dX4_readClause_101 rfl hl (by decide) rfl (fun ls hl => ?_)
          refine lv_aload_n hx hb dX4_readClause_102 rfl (lv_at hl 4 rfl) ?_
          refine lv_dup hx hb dX4_readClause_103 rfl ?_
          refine va_get (D := D) (ci := 4) (v := .int (nI axx_22)) (C := RX4) (T := TX4) (N := 7) hx hb hts iX4 hown hK hP 1 rfl rfl 2 (by decide) f28 (fun _ h9 => h9) rfl dX4_readClause_104 ?_
          refine lv_iconst (v := 1) hx hb dX4_readClause_107 (by decide) ?_
          refine lv_iadd hx hb dX4_readClause_108 ?_
          refine lv_eqi (y := (nI (axx_22 + 1))) (nI_add (axx_22) (1)) ?_
          refine va_put (D := D) (ci := 4) (v := .int (nI (axx_22 + 1))) (ty := .int) (C := RX4) (T := TX4) (N := 7) hx hb hts iX4 tyX4 tyX4_ok nmX4 hown hK hP hD hS 1 rfl rfl 2 (by decide) f28 (fun _ h9 => h9) rfl (by decide +kernel) (rfl) (rfl) (Nat.le_of_ble_eq_true rfl) dX4_readClause_109 (fun H locs hP2 hD2 hS2 => ?_)
          clear hP hD hS
          have hPD : PD D A [(Rv, .inl (g 0, 21, .inl fval)), (Rd, .inr (4, [.ref Tp, .int (nI ln), .int (nI (axx_22 + 1)), .int (-1), .int (nI htx_4), .int (nI ctx_5), .ref Rv])), (Tp, .inl (g 0, 160, .inl ftp))] H := ⟨hP2, hD2⟩
          have hS := hS2; clear hP2 hD2 hS2; have hP := hPD.1; have hD := hPD.2; clear hPD
          refine lv_aload_n hx hb dX4_readClause_112 rfl (lv_at hl 4 rfl) ?_
          refine lv_iload_n hx hb dX4_readClause_113 rfl (lv_at hl 3 rfl) ?_
          refine lv_iload hx hb dX4_readClause_114 (lv_at hl 1 rfl) ?_
          refine ky_Vv (As := [.int (nI cl_15), .int 0]) (rest := []) ⟨hx, hb, hml, hown, hts⟩ ⟨hK, hN⟩ hZ hP hD hS hA [1, 2, 0] [] (wc := [(Rd, .inr (4, [.ref Tp, .int (nI ln), .int (nI (axx_22 + 1)), .int (-1), .int (nI htx_4), .int (nI ctx_5), .ref Rv])), (Tp, .inl (g 0, 160, .inl ftp)), (Rv, .inl (g 0, 21, .inl fval))]) (wr := []) rfl rfl rfl rfl (by decide) (r_X4_readNumber l D g H.size Rd cl_15 0 Tp ln (axx_22 + 1) htx_4 ctx_5 Rv ftp fval (show ln ≤ 160 by omega) (show (axx_22 + 1) ≤ ln by omega) (h4) (show cl_15 < 7 by omega) (show 0 < 3 by omega)) (cwV 2 hts gX4_readClause_X4_readNumber rfl rfl rfl (by decide +kernel) ⟨(Nat.le_of_ble_eq_true rfl), (Nat.le_of_ble_eq_true rfl)⟩) 1 4 rfl rfl rfl rfl hl.1 rfl (Nat.le_of_ble_eq_true rfl) dX4_readClause_116 ⟨(Nat.le_of_ble_eq_true rfl), (Nat.le_of_ble_eq_true rfl)⟩ (fun u H locs hw hP2 hD2 hS2 => ?_)
          clear hP hD hS
          obtain ⟨axx_34, zfax_35, fvalx_36, rfl, hf_37, hf_38, hf_39, hf_40⟩ := hw
          have hPD : PD D A [(Rd, .inr (4, [.ref Tp, .int (nI ln), .int (nI axx_34), .int zfax_35, .int (nI htx_4), .int (nI ctx_5), .ref Rv])), (Tp, .inl (g 0, 160, .inl ftp)), (Rv, .inl (g 0, 21, .inl fvalx_36))] H := ⟨hP2, hD2⟩
          have hS := hS2; clear hP2 hD2 hS2; have hP := hPD.1; have hD := hPD.2; clear hPD
          refine W.widen (k := 0) (n := 0) (Nat.le_of_ble_eq_true rfl) (Nat.le_of_ble_eq_true rfl) ?_
          refine lv_aload_n hx hb dX4_readClause_119 rfl (lv_at hl 4 rfl) ?_
          refine va_get (D := D) (ci := 4) (v := .int zfax_35) (C := RX4) (T := TX4) (N := 7) hx hb hts iX4 hown hK hP 0 rfl rfl 3 (by decide) f31 (fun _ h9 => h9) rfl dX4_readClause_120 ?_
          refine lv_iconst (v := (-1)) hx hb dX4_readClause_123 (by decide) ?_
          refine lv_icmp_eq (tgt := 128) hx hb dX4_readClause_124 (by decide) (fun cb_41 => ?_) (fun cb_41 => ?_)
          · skip
            have hPq_42 := hP; have hDq_42 := hD; have hSq_42 := hS; have hlq_42 := hl; clear hP hD hS hl
            subst cb_41
            have hP := hPq_42; have hD := hDq_42; have hS := hSq_42; have hl := hlq_42; clear hPq_42 hDq_42 hSq_42 hlq_42
            have hne_44 := (hf_40 rfl).1
            have hne_44g := nmE_gt (T := ftp) (n := ln) (i := axx_22 + 1) (by omega)
            have hR_43 : itR ftp ln (kdN cl_15) 4 0 (sB ftp ln ax + 1) = itR ftp ln (kdN cl_15) 3 1 axx_34 := hR_19.trans ((itR_go (f := 3) (m := 0) (q := 0) hf_24 (show axx_22 < ln by omega) qi_32 (by decide) (by decide) hf_39.symm).trans (by rw [hne_44]))
            have hnv_46 := hf_40 rfl
            have hW_45 : itW ftp ln (kdN cl_15) (3 * cl_15) 4 0 (sB ftp ln ax + 1) fval = itW ftp ln (kdN cl_15) (3 * cl_15) 3 1 axx_34 fvalx_36 := hW_20.trans ((itW_go (f := 3) (m := 0) (q := 0) hf_24 (show axx_22 < ln by omega) qi_32 (by decide) (by decide) hf_39.symm).trans (by rw [hnv_46.1, hnv_46.2]))
            refine lv_iinc (v := 1) (lv' := [(4, .int 1), (3, .int 1), (5, .int 0), (2, .int (nI cl_15)), (0, .ref Rd), (1, .int zf)]) hx hb dX4_readClause_128 hl (k := 2) rfl (by decide) (by decide) rfl (fun ls hl => ?_)
            refine lv_goto (tgt := 17) hx hb dX4_readClause_131 (by decide) ?_
            refine lv_iload hx hb dX4_readClause_17 (lv_at hl 0 rfl) ?_
            refine lv_iconst (v := 3) hx hb dX4_readClause_19 (by decide) ?_
            refine lv_icmp_gt (tgt := 134) hx hb dX4_readClause_20 (by decide) (fun cb => absurd cb (by decide)) (fun _ => ?_)
            refine lv_aload_n hx hb dX4_readClause_23 rfl (lv_at hl 4 rfl) ?_
            refine ky_Vv (As := []) (rest := []) ⟨hx, hb, hml, hown, hts⟩ ⟨hK, hN⟩ hZ hP hD hS hA [0, 1] [2] (wc := [(Rd, .inr (4, [.ref Tp, .int (nI ln), .int (nI axx_34), .int (-1), .int (nI htx_4), .int (nI ctx_5), .ref Rv])), (Tp, .inl (g 0, 160, .inl ftp))]) (wr := [(Rv, .inl (g 0, 21, .inl fvalx_36))]) rfl rfl rfl rfl (by decide) (r_X4_passBlanks l D g H.size Rd Tp ln axx_34 (-1) htx_4 ctx_5 Rv ftp (show ln ≤ 160 by omega) (show axx_34 ≤ ln by omega)) (cwV 0 hts gX4_readClause_X4_passBlanks rfl rfl rfl (by decide +kernel) ⟨(Nat.le_of_ble_eq_true rfl), (Nat.le_of_ble_eq_true rfl)⟩) 0 4 rfl rfl rfl rfl hl.1 rfl (Nat.le_of_ble_eq_true rfl) dX4_readClause_24 ⟨(Nat.le_of_ble_eq_true rfl), (Nat.le_of_ble_eq_true rfl)⟩ (fun u H locs hw hP2 hD2 hS2 => ?_)
            clear hP hD hS
            obtain ⟨axx_48, rfl, hf_49, hf_50⟩ := hw
            have hPD : PD D A [(Rv, .inl (g 0, 21, .inl fvalx_36)), (Rd, .inr (4, [.ref Tp, .int (nI ln), .int (nI axx_48), .int (-1), .int (nI htx_4), .int (nI ctx_5), .ref Rv])), (Tp, .inl (g 0, 160, .inl ftp))] H := ⟨hP2, hD2⟩
            have hS := hS2; clear hP2 hD2 hS2; have hP := hPD.1; have hD := hPD.2; clear hPD
            refine W.widen (k := 0) (n := 0) (Nat.le_of_ble_eq_true rfl) (Nat.le_of_ble_eq_true rfl) ?_
            have hge_51 := sB_ge (T := ftp) (n := ln) (i := axx_34) (by omega)
            refine lv_aload_n hx hb dX4_readClause_27 rfl (lv_at hl 4 rfl) ?_
            refine va_get (D := D) (ci := 4) (v := .int (nI axx_48)) (C := RX4) (T := TX4) (N := 7) hx hb hts iX4 hown hK hP 1 rfl rfl 2 (by decide) f28 (fun _ h9 => h9) rfl dX4_readClause_28 ?_
            refine lv_aload_n hx hb dX4_readClause_31 rfl (lv_at hl 4 rfl) ?_
            refine va_get (D := D) (ci := 4) (v := .int (nI ln)) (C := RX4) (T := TX4) (N := 7) hx hb hts iX4 hown hK hP 1 rfl rfl 1 (by decide) f24 (fun _ h9 => h9) rfl dX4_readClause_32 ?_
            refine lv_icmp_ge (tgt := 52) hx hb dX4_readClause_35 (by decide) (fun cb_52 => ?_) (fun cb_52 => ?_)
            · skip
              have cn_53 : ln ≤ axx_48 := (nI_leI (show ln < 2 ^ 31 by omega) (show axx_48 < 2 ^ 31 by omega)).mp cb_52
              have hPD9 : PD D A [(Rd, .inr (4, [.ref Tp, .int (nI ln), .int (nI axx_48), .int (-1), .int (nI htx_4), .int (nI ctx_5), .ref Rv])), (Tp, .inl (g 0, 160, .inl ftp)), (Rv, .inl (g 0, 21, .inl fvalx_36))] H := ⟨hP.sub [1, 2, 0] rfl, hD.sub [1, 2, 0] (by decide) rfl⟩
              have hP9 := hPD9.1; have hD9 := hPD9.2
              subst hQ
              refine W.widen (k := 0) (n := 0) (Nat.le_of_ble_eq_true rfl) (Nat.le_of_ble_eq_true rfl) ?_
              exact W.vret hx hb hr (fun tS htS _ => ⟨⟨_, rfl, ⟨axx_48, (-1), htx_4, ctx_5, fvalx_36, rfl, ⟨(show axx_48 ≤ ln by omega), (show htx_4 ≤ 3 by omega), (show ctx_5 ≤ 3 by omega), (hf_38), (cl_end hf_7.2.2.2.1.symm (show cl_15 < 7 by omega) (hR_43.trans (itR_end (f := 2) hf_50 (show ¬ axx_48 < ln by omega))) (fun q => absurd q.1 (show ¬ axx_48 < ln by omega))).1, (cl_end hf_7.2.2.2.1.symm (show cl_15 < 7 by omega) (hR_43.trans (itR_end (f := 2) hf_50 (show ¬ axx_48 < ln by omega))) (fun q => absurd q.1 (show ¬ axx_48 < ln by omega))).2.1, (fun _ => ⟨(cl_end hf_7.2.2.2.1.symm (show cl_15 < 7 by omega) (hR_43.trans (itR_end (f := 2) hf_50 (show ¬ axx_48 < ln by omega))) (fun q => absurd q.1 (show ¬ axx_48 < ln by omega))).2.2, show ax < axx_48 by omega⟩), (fun _ => ((clW_cl hf_7.2.2.2.1.symm (show cl_15 < 7 by omega)).trans (hW_45.trans (itW_end (f := 2) hf_50 (show ¬ axx_48 < ln by omega)))).symm)⟩⟩, by rw [htS]; exact hP9, hD9⟩, hS.F htS⟩) hS.2.2 dX4_readClause_52
            · skip
              have cn_54 : axx_48 < ln := Nat.lt_of_not_le (fun q9 => cb_52 ((nI_leI (show ln < 2 ^ 31 by omega) (show axx_48 < 2 ^ 31 by omega)).mpr q9))
              refine lv_aload_n hx hb dX4_readClause_38 rfl (lv_at hl 4 rfl) ?_
              refine va_get (D := D) (ci := 4) (v := .ref Tp) (C := RX4) (T := TX4) (N := 7) hx hb hts iX4 hown hK hP 1 rfl rfl 0 (by decide) f9 (fun _ h9 => h9) rfl dX4_readClause_39 ?_
              refine lv_aload_n hx hb dX4_readClause_42 rfl (lv_at hl 4 rfl) ?_
              refine va_get (D := D) (ci := 4) (v := .int (nI axx_48)) (C := RX4) (T := TX4) (N := 7) hx hb hts iX4 hown hK hP 1 rfl rfl 2 (by decide) f28 (fun _ h9 => h9) rfl dX4_readClause_43 ?_
              refine va_iald hx hb hK hP 2 0 rfl rfl (vp_in_nI (show axx_48 < 160 by omega) (by decide)) dX4_readClause_46 ?_
              refine lv_eqi (y := (ftp (axx_48))) (congrArg ftp (nI_clamp (show axx_48 < 2 ^ 31 by omega))) ?_
              refine lv_bipush (v := 59) hx hb dX4_readClause_47 (by decide) ?_
              refine lv_icmp_ne (tgt := 53) hx hb dX4_readClause_49 (by decide) (fun cb_55 => ?_) (fun cb_55 => ?_)
              · skip
                refine lv_iload_n hx hb dX4_readClause_53 rfl (lv_at hl 3 rfl) ?_
                refine ky_Si (As := [.int (nI cl_15)]) (rest := []) ⟨hx, hb, hml, hown, hts⟩ ⟨hK, hN⟩ hZ hP hD hS hA [] [0, 1, 2] (wc := []) (wr := [(Rv, .inl (g 0, 21, .inl fvalx_36)), (Rd, .inr (4, [.ref Tp, .int (nI ln), .int (nI axx_48), .int (-1), .int (nI htx_4), .int (nI ctx_5), .ref Rv])), (Tp, .inl (g 0, 160, .inl ftp))]) rfl rfl rfl rfl (by decide) (r_X4_kindOf l D g H.size cl_15 (show cl_15 < 7 by omega)) (va_cwS 1 hts gX4_readClause_X4_kindOf rfl rfl rfl (by decide +kernel) ⟨(Nat.le_of_ble_eq_true rfl), (Nat.le_of_ble_eq_true rfl)⟩) rfl hl.1 rfl (Nat.le_of_ble_eq_true rfl) dX4_readClause_54 ⟨(Nat.le_of_ble_eq_true rfl), (Nat.le_of_ble_eq_true rfl)⟩ (fun r_56 u H locs hw hP2 hD2 hS2 => ?_)
                clear hP hD hS
                obtain ⟨rfl, rfl⟩ := hw
                have hPD : PD D A [(Rv, .inl (g 0, 21, .inl fvalx_36)), (Rd, .inr (4, [.ref Tp, .int (nI ln), .int (nI axx_48), .int (-1), .int (nI htx_4), .int (nI ctx_5), .ref Rv])), (Tp, .inl (g 0, 160, .inl ftp))] H := ⟨hP2, hD2⟩
                have hS := hS2; clear hP2 hD2 hS2; have hP := hPD.1; have hD := hPD.2; clear hPD
                refine W.widen (k := 0) (n := 0) (Nat.le_of_ble_eq_true rfl) (Nat.le_of_ble_eq_true rfl) ?_
                refine lv_aload_n hx hb dX4_readClause_57 rfl (lv_at hl 4 rfl) ?_
                refine va_get (D := D) (ci := 4) (v := .ref Tp) (C := RX4) (T := TX4) (N := 7) hx hb hts iX4 hown hK hP 1 rfl rfl 0 (by decide) f9 (fun _ h9 => h9) rfl dX4_readClause_58 ?_
                refine lv_aload_n hx hb dX4_readClause_61 rfl (lv_at hl 4 rfl) ?_
                refine va_get (D := D) (ci := 4) (v := .int (nI axx_48)) (C := RX4) (T := TX4) (N := 7) hx hb hts iX4 hown hK hP 1 rfl rfl 2 (by decide) f28 (fun _ h9 => h9) rfl dX4_readClause_62 ?_
                refine va_iald hx hb hK hP 2 0 rfl rfl (vp_in_nI (show axx_48 < 160 by omega) (by decide)) dX4_readClause_65 ?_
                refine lv_eqi (y := (ftp (axx_48))) (congrArg ftp (nI_clamp (show axx_48 < 2 ^ 31 by omega))) ?_
                refine ky_Si (As := [.int (nI (kdN cl_15)), .int (ftp (axx_48))]) (rest := []) ⟨hx, hb, hml, hown, hts⟩ ⟨hK, hN⟩ hZ hP hD hS hA [] [0, 1, 2] (wc := []) (wr := [(Rv, .inl (g 0, 21, .inl fvalx_36)), (Rd, .inr (4, [.ref Tp, .int (nI ln), .int (nI axx_48), .int (-1), .int (nI htx_4), .int (nI ctx_5), .ref Rv])), (Tp, .inl (g 0, 160, .inl ftp))]) rfl rfl rfl rfl (by decide) (r_X4_itemOf l D g H.size (kdN cl_15) (ftp (axx_48)) (show (kdN cl_15) < 3 by omega)) (va_cwS 2 hts gX4_readClause_X4_itemOf rfl rfl rfl (by decide +kernel) ⟨(Nat.le_of_ble_eq_true rfl), (Nat.le_of_ble_eq_true rfl)⟩) rfl hl.1 rfl (Nat.le_of_ble_eq_true rfl) dX4_readClause_66 ⟨(Nat.le_of_ble_eq_true rfl), (Nat.le_of_ble_eq_true rfl)⟩ (fun r_57 u H locs hw hP2 hD2 hS2 => ?_)
                clear hP hD hS
                obtain ⟨rfl, rfl⟩ := hw
                have hPD : PD D A [(Rv, .inl (g 0, 21, .inl fvalx_36)), (Rd, .inr (4, [.ref Tp, .int (nI ln), .int (nI axx_48), .int (-1), .int (nI htx_4), .int (nI ctx_5), .ref Rv])), (Tp, .inl (g 0, 160, .inl ftp))] H := ⟨hP2, hD2⟩
                have hS := hS2; clear hP2 hD2 hS2; have hP := hPD.1; have hD := hPD.2; clear hPD
                refine W.widen (k := 0) (n := 0) (Nat.le_of_ble_eq_true rfl) (Nat.le_of_ble_eq_true rfl) ?_
                rcases itK_c (kdN cl_15) (ftp (axx_48)) with qi_58 | qi_58 | qi_58 | qi_58
                · skip
                  refine lv_eqi (y := (-1)) (qi_58) ?_
                  refine lv_istore (lv' := [(5, .int (-1)), (4, .int 1), (3, .int 1), (2, .int (nI cl_15)), (0, .ref Rd), (1, .int zf)]) hx hb dX4_readClause_69 hl (by decide) rfl (fun ls hl => ?_)
                  refine lv_iload hx hb dX4_readClause_71 (lv_at hl 0 rfl) ?_
                  refine lv_iconst (v := (-1)) hx hb dX4_readClause_73 (by decide) ?_
                  refine lv_icmp_eq (tgt := 86) hx hb dX4_readClause_74 (by decide) (fun _ => ?_) (fun cb => absurd (by decide) cb)
                  refine lv_aload_n hx hb dX4_readClause_86 rfl (lv_at hl 4 rfl) ?_
                  refine lv_aload_n hx hb dX4_readClause_87 rfl (lv_at hl 4 rfl) ?_
                  refine va_get (D := D) (ci := 4) (v := .int (nI axx_48)) (C := RX4) (T := TX4) (N := 7) hx hb hts iX4 hown hK hP 1 rfl rfl 2 (by decide) f28 (fun _ h9 => h9) rfl dX4_readClause_88 ?_
                  refine va_put (D := D) (ci := 4) (v := .int (nI axx_48)) (ty := .int) (C := RX4) (T := TX4) (N := 7) hx hb hts iX4 tyX4 tyX4_ok nmX4 hown hK hP hD hS 1 rfl rfl 3 (by decide) f31 (fun _ h9 => h9) rfl (by decide +kernel) (rfl) (rfl) (Nat.le_of_ble_eq_true rfl) dX4_readClause_91 (fun H locs hP2 hD2 hS2 => ?_)
                  clear hP hD hS
                  have hPD : PD D A [(Rv, .inl (g 0, 21, .inl fvalx_36)), (Rd, .inr (4, [.ref Tp, .int (nI ln), .int (nI axx_48), .int (nI axx_48), .int (nI htx_4), .int (nI ctx_5), .ref Rv])), (Tp, .inl (g 0, 160, .inl ftp))] H := ⟨hP2, hD2⟩
                  have hS := hS2; clear hP2 hD2 hS2; have hP := hPD.1; have hD := hPD.2; clear hPD
                  have hPD9 : PD D A [(Rd, .inr (4, [.ref Tp, .int (nI ln), .int (nI axx_48), .int (nI axx_48), .int (nI htx_4), .int (nI ctx_5), .ref Rv])), (Tp, .inl (g 0, 160, .inl ftp)), (Rv, .inl (g 0, 21, .inl fvalx_36))] H := ⟨hP.sub [1, 2, 0] rfl, hD.sub [1, 2, 0] (by decide) rfl⟩
                  have hP9 := hPD9.1; have hD9 := hPD9.2
                  subst hQ
                  refine W.widen (k := 0) (n := 0) (Nat.le_of_ble_eq_true rfl) (Nat.le_of_ble_eq_true rfl) ?_
                  exact W.vret hx hb hr (fun tS htS _ => ⟨⟨_, rfl, ⟨axx_48, (nI axx_48), htx_4, ctx_5, fvalx_36, rfl, ⟨(show axx_48 ≤ ln by omega), (show htx_4 ≤ 3 by omega), (show ctx_5 ≤ 3 by omega), (hf_38), (cl_bad hf_7.2.2.2.1.symm (show cl_15 < 7 by omega) (hR_43.trans (itR_no (f := 2) hf_50 qi_58)) (show axx_48 < ln by omega) cb_55).1, (cl_bad hf_7.2.2.2.1.symm (show cl_15 < 7 by omega) (hR_43.trans (itR_no (f := 2) hf_50 qi_58)) (show axx_48 < ln by omega) cb_55).2, (fun q => absurd q (m1_ne (show axx_48 < 2 ^ 31 by omega))), (fun q => absurd q (m1_ne (show axx_48 < 2 ^ 31 by omega)))⟩⟩, by rw [htS]; exact hP9, hD9⟩, hS.F htS⟩) hS.2.2 dX4_readClause_94
                · skip
                  refine lv_eqi (y := 0) (qi_58) ?_
                  refine lv_istore (lv' := [(5, .int 0), (4, .int 1), (3, .int 1), (2, .int (nI cl_15)), (0, .ref Rd), (1, .int zf)]) hx hb dX4_readClause_69 hl (by decide) rfl (fun ls hl => ?_)
                  refine lv_iload hx hb dX4_readClause_71 (lv_at hl 0 rfl) ?_
                  refine lv_iconst (v := (-1)) hx hb dX4_readClause_73 (by decide) ?_
                  refine lv_icmp_eq (tgt := 86) hx hb dX4_readClause_74 (by decide) (fun cb => absurd cb (by decide)) (fun _ => ?_)
                  refine lv_iload_n hx hb dX4_readClause_77 rfl (lv_at hl 2 rfl) ?_
                  refine lv_iconst (v := 1) hx hb dX4_readClause_78 (by decide) ?_
                  refine lv_iload hx hb dX4_readClause_79 (lv_at hl 0 rfl) ?_
                  refine lv_ishl hx hb dX4_readClause_81 ?_
                  refine lv_eqi (y := 1) (by decide) ?_
                  refine lv_iand hx hb dX4_readClause_82 ?_
                  refine lv_eqi (y := 1) (by decide) ?_
                  refine lv_if_eq (tgt := 95) hx hb dX4_readClause_83 (by decide) (fun cb => absurd cb (by decide)) (fun _ => ?_)
                  refine lv_aload_n hx hb dX4_readClause_86 rfl (lv_at hl 4 rfl) ?_
                  refine lv_aload_n hx hb dX4_readClause_87 rfl (lv_at hl 4 rfl) ?_
                  refine va_get (D := D) (ci := 4) (v := .int (nI axx_48)) (C := RX4) (T := TX4) (N := 7) hx hb hts iX4 hown hK hP 1 rfl rfl 2 (by decide) f28 (fun _ h9 => h9) rfl dX4_readClause_88 ?_
                  refine va_put (D := D) (ci := 4) (v := .int (nI axx_48)) (ty := .int) (C := RX4) (T := TX4) (N := 7) hx hb hts iX4 tyX4 tyX4_ok nmX4 hown hK hP hD hS 1 rfl rfl 3 (by decide) f31 (fun _ h9 => h9) rfl (by decide +kernel) (rfl) (rfl) (Nat.le_of_ble_eq_true rfl) dX4_readClause_91 (fun H locs hP2 hD2 hS2 => ?_)
                  clear hP hD hS
                  have hPD : PD D A [(Rv, .inl (g 0, 21, .inl fvalx_36)), (Rd, .inr (4, [.ref Tp, .int (nI ln), .int (nI axx_48), .int (nI axx_48), .int (nI htx_4), .int (nI ctx_5), .ref Rv])), (Tp, .inl (g 0, 160, .inl ftp))] H := ⟨hP2, hD2⟩
                  have hS := hS2; clear hP2 hD2 hS2; have hP := hPD.1; have hD := hPD.2; clear hPD
                  have hPD9 : PD D A [(Rd, .inr (4, [.ref Tp, .int (nI ln), .int (nI axx_48), .int (nI axx_48), .int (nI htx_4), .int (nI ctx_5), .ref Rv])), (Tp, .inl (g 0, 160, .inl ftp)), (Rv, .inl (g 0, 21, .inl fvalx_36))] H := ⟨hP.sub [1, 2, 0] rfl, hD.sub [1, 2, 0] (by decide) rfl⟩
                  have hP9 := hPD9.1; have hD9 := hPD9.2
                  subst hQ
                  refine W.widen (k := 0) (n := 0) (Nat.le_of_ble_eq_true rfl) (Nat.le_of_ble_eq_true rfl) ?_
                  exact W.vret hx hb hr (fun tS htS _ => ⟨⟨_, rfl, ⟨axx_48, (nI axx_48), htx_4, ctx_5, fvalx_36, rfl, ⟨(show axx_48 ≤ ln by omega), (show htx_4 ≤ 3 by omega), (show ctx_5 ≤ 3 by omega), (hf_38), (cl_bad hf_7.2.2.2.1.symm (show cl_15 < 7 by omega) (hR_43.trans (itR_again (f := 2) (q := 0) hf_50 qi_58 (by decide) (by decide))) (show axx_48 < ln by omega) cb_55).1, (cl_bad hf_7.2.2.2.1.symm (show cl_15 < 7 by omega) (hR_43.trans (itR_again (f := 2) (q := 0) hf_50 qi_58 (by decide) (by decide))) (show axx_48 < ln by omega) cb_55).2, (fun q => absurd q (m1_ne (show axx_48 < 2 ^ 31 by omega))), (fun q => absurd q (m1_ne (show axx_48 < 2 ^ 31 by omega)))⟩⟩, by rw [htS]; exact hP9, hD9⟩, hS.F htS⟩) hS.2.2 dX4_readClause_94
                · skip
                  refine lv_eqi (y := 1) (qi_58) ?_
                  refine lv_istore (lv' := [(5, .int 1), (4, .int 1), (3, .int 1), (2, .int (nI cl_15)), (0, .ref Rd), (1, .int zf)]) hx hb dX4_readClause_69 hl (by decide) rfl (fun ls hl => ?_)
                  refine lv_iload hx hb dX4_readClause_71 (lv_at hl 0 rfl) ?_
                  refine lv_iconst (v := (-1)) hx hb dX4_readClause_73 (by decide) ?_
                  refine lv_icmp_eq (tgt := 86) hx hb dX4_readClause_74 (by decide) (fun cb => absurd cb (by decide)) (fun _ => ?_)
                  refine lv_iload_n hx hb dX4_readClause_77 rfl (lv_at hl 2 rfl) ?_
                  refine lv_iconst (v := 1) hx hb dX4_readClause_78 (by decide) ?_
                  refine lv_iload hx hb dX4_readClause_79 (lv_at hl 0 rfl) ?_
                  refine lv_ishl hx hb dX4_readClause_81 ?_
                  refine lv_eqi (y := 2) (by decide) ?_
                  refine lv_iand hx hb dX4_readClause_82 ?_
                  refine lv_eqi (y := 0) (by decide) ?_
                  refine lv_if_eq (tgt := 95) hx hb dX4_readClause_83 (by decide) (fun _ => ?_) (fun cb => absurd (by decide) cb)
                  refine lv_iload_n hx hb dX4_readClause_95 rfl (lv_at hl 2 rfl) ?_
                  refine lv_iconst (v := 1) hx hb dX4_readClause_96 (by decide) ?_
                  refine lv_iload hx hb dX4_readClause_97 (lv_at hl 0 rfl) ?_
                  refine lv_ishl hx hb dX4_readClause_99 ?_
                  refine lv_eqi (y := 2) (by decide) ?_
                  refine lv_ior hx hb dX4_readClause_100 ?_
                  refine lv_eqi (y := 3) (by decide) ?_
                  refine lv_istore_n (lv' := [(3, .int 3), (5, .int 1), (4, .int 1), (2, .int (nI cl_15)), (0, .ref Rd), (1, .int zf)]) hx hb dX4_readClause_101 rfl hl (by decide) rfl (fun ls hl => ?_)
                  refine lv_aload_n hx hb dX4_readClause_102 rfl (lv_at hl 4 rfl) ?_
                  refine lv_dup hx hb dX4_readClause_103 rfl ?_
                  refine va_get (D := D) (ci := 4) (v := .int (nI axx_48)) (C := RX4) (T := TX4) (N := 7) hx hb hts iX4 hown hK hP 1 rfl rfl 2 (by decide) f28 (fun _ h9 => h9) rfl dX4_readClause_104 ?_
                  refine lv_iconst (v := 1) hx hb dX4_readClause_107 (by decide) ?_
                  refine lv_iadd hx hb dX4_readClause_108 ?_
                  refine lv_eqi (y := (nI (axx_48 + 1))) (nI_add (axx_48) (1)) ?_
                  refine va_put (D := D) (ci := 4) (v := .int (nI (axx_48 + 1))) (ty := .int) (C := RX4) (T := TX4) (N := 7) hx hb hts iX4 tyX4 tyX4_ok nmX4 hown hK hP hD hS 1 rfl rfl 2 (by decide) f28 (fun _ h9 => h9) rfl (by decide +kernel) (rfl) (rfl) (Nat.le_of_ble_eq_true rfl) dX4_readClause_109 (fun H locs hP2 hD2 hS2 => ?_)
                  clear hP hD hS
                  have hPD : PD D A [(Rv, .inl (g 0, 21, .inl fvalx_36)), (Rd, .inr (4, [.ref Tp, .int (nI ln), .int (nI (axx_48 + 1)), .int (-1), .int (nI htx_4), .int (nI ctx_5), .ref Rv])), (Tp, .inl (g 0, 160, .inl ftp))] H := ⟨hP2, hD2⟩
                  have hS := hS2; clear hP2 hD2 hS2; have hP := hPD.1; have hD := hPD.2; clear hPD
                  refine lv_aload_n hx hb dX4_readClause_112 rfl (lv_at hl 4 rfl) ?_
                  refine lv_iload_n hx hb dX4_readClause_113 rfl (lv_at hl 3 rfl) ?_
                  refine lv_iload hx hb dX4_readClause_114 (lv_at hl 1 rfl) ?_
                  refine ky_Vv (As := [.int (nI cl_15), .int 1]) (rest := []) ⟨hx, hb, hml, hown, hts⟩ ⟨hK, hN⟩ hZ hP hD hS hA [1, 2, 0] [] (wc := [(Rd, .inr (4, [.ref Tp, .int (nI ln), .int (nI (axx_48 + 1)), .int (-1), .int (nI htx_4), .int (nI ctx_5), .ref Rv])), (Tp, .inl (g 0, 160, .inl ftp)), (Rv, .inl (g 0, 21, .inl fvalx_36))]) (wr := []) rfl rfl rfl rfl (by decide) (r_X4_readNumber l D g H.size Rd cl_15 1 Tp ln (axx_48 + 1) htx_4 ctx_5 Rv ftp fvalx_36 (show ln ≤ 160 by omega) (show (axx_48 + 1) ≤ ln by omega) (hf_38) (show cl_15 < 7 by omega) (show 1 < 3 by omega)) (cwV 2 hts gX4_readClause_X4_readNumber rfl rfl rfl (by decide +kernel) ⟨(Nat.le_of_ble_eq_true rfl), (Nat.le_of_ble_eq_true rfl)⟩) 1 4 rfl rfl rfl rfl hl.1 rfl (Nat.le_of_ble_eq_true rfl) dX4_readClause_116 ⟨(Nat.le_of_ble_eq_true rfl), (Nat.le_of_ble_eq_true rfl)⟩ (fun u H locs hw hP2 hD2 hS2 => ?_)
                  clear hP hD hS
                  obtain ⟨axx_60, zfax_61, fvalx_62, rfl, hf_63, hf_64, hf_65, hf_66⟩ := hw
                  have hPD : PD D A [(Rd, .inr (4, [.ref Tp, .int (nI ln), .int (nI axx_60), .int zfax_61, .int (nI htx_4), .int (nI ctx_5), .ref Rv])), (Tp, .inl (g 0, 160, .inl ftp)), (Rv, .inl (g 0, 21, .inl fvalx_62))] H := ⟨hP2, hD2⟩
                  have hS := hS2; clear hP2 hD2 hS2; have hP := hPD.1; have hD := hPD.2; clear hPD
                  refine W.widen (k := 0) (n := 0) (Nat.le_of_ble_eq_true rfl) (Nat.le_of_ble_eq_true rfl) ?_
                  refine lv_aload_n hx hb dX4_readClause_119 rfl (lv_at hl 4 rfl) ?_
                  refine va_get (D := D) (ci := 4) (v := .int zfax_61) (C := RX4) (T := TX4) (N := 7) hx hb hts iX4 hown hK hP 0 rfl rfl 3 (by decide) f31 (fun _ h9 => h9) rfl dX4_readClause_120 ?_
                  refine lv_iconst (v := (-1)) hx hb dX4_readClause_123 (by decide) ?_
                  refine lv_icmp_eq (tgt := 128) hx hb dX4_readClause_124 (by decide) (fun cb_67 => ?_) (fun cb_67 => ?_)
                  · skip
                    have hPq_68 := hP; have hDq_68 := hD; have hSq_68 := hS; have hlq_68 := hl; clear hP hD hS hl
                    subst cb_67
                    have hP := hPq_68; have hD := hDq_68; have hS := hSq_68; have hl := hlq_68; clear hPq_68 hDq_68 hSq_68 hlq_68
                    have hne_70 := (hf_66 rfl).1
                    have hne_70g := nmE_gt (T := ftp) (n := ln) (i := axx_48 + 1) (by omega)
                    have hR_69 : itR ftp ln (kdN cl_15) 4 0 (sB ftp ln ax + 1) = itR ftp ln (kdN cl_15) 2 3 axx_60 := hR_43.trans ((itR_go (f := 2) (m := 1) (q := 1) hf_50 (show axx_48 < ln by omega) qi_58 (by decide) (by decide) hf_65.symm).trans (by rw [hne_70]))
                    have hnv_72 := hf_66 rfl
                    have hW_71 : itW ftp ln (kdN cl_15) (3 * cl_15) 4 0 (sB ftp ln ax + 1) fval = itW ftp ln (kdN cl_15) (3 * cl_15) 2 3 axx_60 fvalx_62 := hW_45.trans ((itW_go (f := 2) (m := 1) (q := 1) hf_50 (show axx_48 < ln by omega) qi_58 (by decide) (by decide) hf_65.symm).trans (by rw [hnv_72.1, hnv_72.2]))
                    refine lv_iinc (v := 2) (lv' := [(4, .int 2), (3, .int 3), (5, .int 1), (2, .int (nI cl_15)), (0, .ref Rd), (1, .int zf)]) hx hb dX4_readClause_128 hl (k := 2) rfl (by decide) (by decide) rfl (fun ls hl => ?_)
                    refine lv_goto (tgt := 17) hx hb dX4_readClause_131 (by decide) ?_
                    refine lv_iload hx hb dX4_readClause_17 (lv_at hl 0 rfl) ?_
                    refine lv_iconst (v := 3) hx hb dX4_readClause_19 (by decide) ?_
                    refine lv_icmp_gt (tgt := 134) hx hb dX4_readClause_20 (by decide) (fun cb => absurd cb (by decide)) (fun _ => ?_)
                    refine lv_aload_n hx hb dX4_readClause_23 rfl (lv_at hl 4 rfl) ?_
                    refine ky_Vv (As := []) (rest := []) ⟨hx, hb, hml, hown, hts⟩ ⟨hK, hN⟩ hZ hP hD hS hA [0, 1] [2] (wc := [(Rd, .inr (4, [.ref Tp, .int (nI ln), .int (nI axx_60), .int (-1), .int (nI htx_4), .int (nI ctx_5), .ref Rv])), (Tp, .inl (g 0, 160, .inl ftp))]) (wr := [(Rv, .inl (g 0, 21, .inl fvalx_62))]) rfl rfl rfl rfl (by decide) (r_X4_passBlanks l D g H.size Rd Tp ln axx_60 (-1) htx_4 ctx_5 Rv ftp (show ln ≤ 160 by omega) (show axx_60 ≤ ln by omega)) (cwV 0 hts gX4_readClause_X4_passBlanks rfl rfl rfl (by decide +kernel) ⟨(Nat.le_of_ble_eq_true rfl), (Nat.le_of_ble_eq_true rfl)⟩) 0 4 rfl rfl rfl rfl hl.1 rfl (Nat.le_of_ble_eq_true rfl) dX4_readClause_24 ⟨(Nat.le_of_ble_eq_true rfl), (Nat.le_of_ble_eq_true rfl)⟩ (fun u H locs hw hP2 hD2 hS2 => ?_)
                    clear hP hD hS
                    obtain ⟨axx_74, rfl, hf_75, hf_76⟩ := hw
                    have hPD : PD D A [(Rv, .inl (g 0, 21, .inl fvalx_62)), (Rd, .inr (4, [.ref Tp, .int (nI ln), .int (nI axx_74), .int (-1), .int (nI htx_4), .int (nI ctx_5), .ref Rv])), (Tp, .inl (g 0, 160, .inl ftp))] H := ⟨hP2, hD2⟩
                    have hS := hS2; clear hP2 hD2 hS2; have hP := hPD.1; have hD := hPD.2; clear hPD
                    refine W.widen (k := 0) (n := 0) (Nat.le_of_ble_eq_true rfl) (Nat.le_of_ble_eq_true rfl) ?_
                    have hge_77 := sB_ge (T := ftp) (n := ln) (i := axx_60) (by omega)
                    refine lv_aload_n hx hb dX4_readClause_27 rfl (lv_at hl 4 rfl) ?_
                    refine va_get (D := D) (ci := 4) (v := .int (nI axx_74)) (C := RX4) (T := TX4) (N := 7) hx hb hts iX4 hown hK hP 1 rfl rfl 2 (by decide) f28 (fun _ h9 => h9) rfl dX4_readClause_28 ?_
                    refine lv_aload_n hx hb dX4_readClause_31 rfl (lv_at hl 4 rfl) ?_
                    refine va_get (D := D) (ci := 4) (v := .int (nI ln)) (C := RX4) (T := TX4) (N := 7) hx hb hts iX4 hown hK hP 1 rfl rfl 1 (by decide) f24 (fun _ h9 => h9) rfl dX4_readClause_32 ?_
                    refine lv_icmp_ge (tgt := 52) hx hb dX4_readClause_35 (by decide) (fun cb_78 => ?_) (fun cb_78 => ?_)
                    · skip
                      have cn_79 : ln ≤ axx_74 := (nI_leI (show ln < 2 ^ 31 by omega) (show axx_74 < 2 ^ 31 by omega)).mp cb_78
                      have hPD9 : PD D A [(Rd, .inr (4, [.ref Tp, .int (nI ln), .int (nI axx_74), .int (-1), .int (nI htx_4), .int (nI ctx_5), .ref Rv])), (Tp, .inl (g 0, 160, .inl ftp)), (Rv, .inl (g 0, 21, .inl fvalx_62))] H := ⟨hP.sub [1, 2, 0] rfl, hD.sub [1, 2, 0] (by decide) rfl⟩
                      have hP9 := hPD9.1; have hD9 := hPD9.2
                      subst hQ
                      refine W.widen (k := 0) (n := 0) (Nat.le_of_ble_eq_true rfl) (Nat.le_of_ble_eq_true rfl) ?_
                      exact W.vret hx hb hr (fun tS htS _ => ⟨⟨_, rfl, ⟨axx_74, (-1), htx_4, ctx_5, fvalx_62, rfl, ⟨(show axx_74 ≤ ln by omega), (show htx_4 ≤ 3 by omega), (show ctx_5 ≤ 3 by omega), (hf_64), (cl_end hf_7.2.2.2.1.symm (show cl_15 < 7 by omega) (hR_69.trans (itR_end (f := 1) hf_76 (show ¬ axx_74 < ln by omega))) (fun q => absurd q.1 (show ¬ axx_74 < ln by omega))).1, (cl_end hf_7.2.2.2.1.symm (show cl_15 < 7 by omega) (hR_69.trans (itR_end (f := 1) hf_76 (show ¬ axx_74 < ln by omega))) (fun q => absurd q.1 (show ¬ axx_74 < ln by omega))).2.1, (fun _ => ⟨(cl_end hf_7.2.2.2.1.symm (show cl_15 < 7 by omega) (hR_69.trans (itR_end (f := 1) hf_76 (show ¬ axx_74 < ln by omega))) (fun q => absurd q.1 (show ¬ axx_74 < ln by omega))).2.2, show ax < axx_74 by omega⟩), (fun _ => ((clW_cl hf_7.2.2.2.1.symm (show cl_15 < 7 by omega)).trans (hW_71.trans (itW_end (f := 1) hf_76 (show ¬ axx_74 < ln by omega)))).symm)⟩⟩, by rw [htS]; exact hP9, hD9⟩, hS.F htS⟩) hS.2.2 dX4_readClause_52
                    · skip
                      have cn_80 : axx_74 < ln := Nat.lt_of_not_le (fun q9 => cb_78 ((nI_leI (show ln < 2 ^ 31 by omega) (show axx_74 < 2 ^ 31 by omega)).mpr q9))
                      refine lv_aload_n hx hb dX4_readClause_38 rfl (lv_at hl 4 rfl) ?_
                      refine va_get (D := D) (ci := 4) (v := .ref Tp) (C := RX4) (T := TX4) (N := 7) hx hb hts iX4 hown hK hP 1 rfl rfl 0 (by decide) f9 (fun _ h9 => h9) rfl dX4_readClause_39 ?_
                      refine lv_aload_n hx hb dX4_readClause_42 rfl (lv_at hl 4 rfl) ?_
                      refine va_get (D := D) (ci := 4) (v := .int (nI axx_74)) (C := RX4) (T := TX4) (N := 7) hx hb hts iX4 hown hK hP 1 rfl rfl 2 (by decide) f28 (fun _ h9 => h9) rfl dX4_readClause_43 ?_
                      refine va_iald hx hb hK hP 2 0 rfl rfl (vp_in_nI (show axx_74 < 160 by omega) (by decide)) dX4_readClause_46 ?_
                      refine lv_eqi (y := (ftp (axx_74))) (congrArg ftp (nI_clamp (show axx_74 < 2 ^ 31 by omega))) ?_
                      refine lv_bipush (v := 59) hx hb dX4_readClause_47 (by decide) ?_
                      refine lv_icmp_ne (tgt := 53) hx hb dX4_readClause_49 (by decide) (fun cb_81 => ?_) (fun cb_81 => ?_)
                      · skip
                        refine lv_iload_n hx hb dX4_readClause_53 rfl (lv_at hl 3 rfl) ?_
                        refine ky_Si (As := [.int (nI cl_15)]) (rest := []) ⟨hx, hb, hml, hown, hts⟩ ⟨hK, hN⟩ hZ hP hD hS hA [] [0, 1, 2] (wc := []) (wr := [(Rv, .inl (g 0, 21, .inl fvalx_62)), (Rd, .inr (4, [.ref Tp, .int (nI ln), .int (nI axx_74), .int (-1), .int (nI htx_4), .int (nI ctx_5), .ref Rv])), (Tp, .inl (g 0, 160, .inl ftp))]) rfl rfl rfl rfl (by decide) (r_X4_kindOf l D g H.size cl_15 (show cl_15 < 7 by omega)) (va_cwS 1 hts gX4_readClause_X4_kindOf rfl rfl rfl (by decide +kernel) ⟨(Nat.le_of_ble_eq_true rfl), (Nat.le_of_ble_eq_true rfl)⟩) rfl hl.1 rfl (Nat.le_of_ble_eq_true rfl) dX4_readClause_54 ⟨(Nat.le_of_ble_eq_true rfl), (Nat.le_of_ble_eq_true rfl)⟩ (fun r_82 u H locs hw hP2 hD2 hS2 => ?_)
                        clear hP hD hS
                        obtain ⟨rfl, rfl⟩ := hw
                        have hPD : PD D A [(Rv, .inl (g 0, 21, .inl fvalx_62)), (Rd, .inr (4, [.ref Tp, .int (nI ln), .int (nI axx_74), .int (-1), .int (nI htx_4), .int (nI ctx_5), .ref Rv])), (Tp, .inl (g 0, 160, .inl ftp))] H := ⟨hP2, hD2⟩
                        have hS := hS2; clear hP2 hD2 hS2; have hP := hPD.1; have hD := hPD.2; clear hPD
                        refine W.widen (k := 0) (n := 0) (Nat.le_of_ble_eq_true rfl) (Nat.le_of_ble_eq_true rfl) ?_
                        refine lv_aload_n hx hb dX4_readClause_57 rfl (lv_at hl 4 rfl) ?_
                        refine va_get (D := D) (ci := 4) (v := .ref Tp) (C := RX4) (T := TX4) (N := 7) hx hb hts iX4 hown hK hP 1 rfl rfl 0 (by decide) f9 (fun _ h9 => h9) rfl dX4_readClause_58 ?_
                        refine lv_aload_n hx hb dX4_readClause_61 rfl (lv_at hl 4 rfl) ?_
                        refine va_get (D := D) (ci := 4) (v := .int (nI axx_74)) (C := RX4) (T := TX4) (N := 7) hx hb hts iX4 hown hK hP 1 rfl rfl 2 (by decide) f28 (fun _ h9 => h9) rfl dX4_readClause_62 ?_
                        refine va_iald hx hb hK hP 2 0 rfl rfl (vp_in_nI (show axx_74 < 160 by omega) (by decide)) dX4_readClause_65 ?_
                        refine lv_eqi (y := (ftp (axx_74))) (congrArg ftp (nI_clamp (show axx_74 < 2 ^ 31 by omega))) ?_
                        refine ky_Si (As := [.int (nI (kdN cl_15)), .int (ftp (axx_74))]) (rest := []) ⟨hx, hb, hml, hown, hts⟩ ⟨hK, hN⟩ hZ hP hD hS hA [] [0, 1, 2] (wc := []) (wr := [(Rv, .inl (g 0, 21, .inl fvalx_62)), (Rd, .inr (4, [.ref Tp, .int (nI ln), .int (nI axx_74), .int (-1), .int (nI htx_4), .int (nI ctx_5), .ref Rv])), (Tp, .inl (g 0, 160, .inl ftp))]) rfl rfl rfl rfl (by decide) (r_X4_itemOf l D g H.size (kdN cl_15) (ftp (axx_74)) (show (kdN cl_15) < 3 by omega)) (va_cwS 2 hts gX4_readClause_X4_itemOf rfl rfl rfl (by decide +kernel) ⟨(Nat.le_of_ble_eq_true rfl), (Nat.le_of_ble_eq_true rfl)⟩) rfl hl.1 rfl (Nat.le_of_ble_eq_true rfl) dX4_readClause_66 ⟨(Nat.le_of_ble_eq_true rfl), (Nat.le_of_ble_eq_true rfl)⟩ (fun r_83 u H locs hw hP2 hD2 hS2 => ?_)
                        clear hP hD hS
                        obtain ⟨rfl, rfl⟩ := hw
                        have hPD : PD D A [(Rv, .inl (g 0, 21, .inl fvalx_62)), (Rd, .inr (4, [.ref Tp, .int (nI ln), .int (nI axx_74), .int (-1), .int (nI htx_4), .int (nI ctx_5), .ref Rv])), (Tp, .inl (g 0, 160, .inl ftp))] H := ⟨hP2, hD2⟩
                        have hS := hS2; clear hP2 hD2 hS2; have hP := hPD.1; have hD := hPD.2; clear hPD
                        refine W.widen (k := 0) (n := 0) (Nat.le_of_ble_eq_true rfl) (Nat.le_of_ble_eq_true rfl) ?_
                        rcases itK_c (kdN cl_15) (ftp (axx_74)) with qi_84 | qi_84 | qi_84 | qi_84
                        · skip
                          refine lv_eqi (y := (-1)) (qi_84) ?_
                          refine lv_istore (lv' := [(5, .int (-1)), (4, .int 2), (3, .int 3), (2, .int (nI cl_15)), (0, .ref Rd), (1, .int zf)]) hx hb dX4_readClause_69 hl (by decide) rfl (fun ls hl => ?_)
                          refine lv_iload hx hb dX4_readClause_71 (lv_at hl 0 rfl) ?_
                          refine lv_iconst (v := (-1)) hx hb dX4_readClause_73 (by decide) ?_
                          refine lv_icmp_eq (tgt := 86) hx hb dX4_readClause_74 (by decide) (fun _ => ?_) (fun cb => absurd (by decide) cb)
                          refine lv_aload_n hx hb dX4_readClause_86 rfl (lv_at hl 4 rfl) ?_
                          refine lv_aload_n hx hb dX4_readClause_87 rfl (lv_at hl 4 rfl) ?_
                          refine va_get (D := D) (ci := 4) (v := .int (nI axx_74)) (C := RX4) (T := TX4) (N := 7) hx hb hts iX4 hown hK hP 1 rfl rfl 2 (by decide) f28 (fun _ h9 => h9) rfl dX4_readClause_88 ?_
                          refine va_put (D := D) (ci := 4) (v := .int (nI axx_74)) (ty := .int) (C := RX4) (T := TX4) (N := 7) hx hb hts iX4 tyX4 tyX4_ok nmX4 hown hK hP hD hS 1 rfl rfl 3 (by decide) f31 (fun _ h9 => h9) rfl (by decide +kernel) (rfl) (rfl) (Nat.le_of_ble_eq_true rfl) dX4_readClause_91 (fun H locs hP2 hD2 hS2 => ?_)
                          clear hP hD hS
                          have hPD : PD D A [(Rv, .inl (g 0, 21, .inl fvalx_62)), (Rd, .inr (4, [.ref Tp, .int (nI ln), .int (nI axx_74), .int (nI axx_74), .int (nI htx_4), .int (nI ctx_5), .ref Rv])), (Tp, .inl (g 0, 160, .inl ftp))] H := ⟨hP2, hD2⟩
                          have hS := hS2; clear hP2 hD2 hS2; have hP := hPD.1; have hD := hPD.2; clear hPD
                          have hPD9 : PD D A [(Rd, .inr (4, [.ref Tp, .int (nI ln), .int (nI axx_74), .int (nI axx_74), .int (nI htx_4), .int (nI ctx_5), .ref Rv])), (Tp, .inl (g 0, 160, .inl ftp)), (Rv, .inl (g 0, 21, .inl fvalx_62))] H := ⟨hP.sub [1, 2, 0] rfl, hD.sub [1, 2, 0] (by decide) rfl⟩
                          have hP9 := hPD9.1; have hD9 := hPD9.2
                          subst hQ
                          refine W.widen (k := 0) (n := 0) (Nat.le_of_ble_eq_true rfl) (Nat.le_of_ble_eq_true rfl) ?_
                          exact W.vret hx hb hr (fun tS htS _ => ⟨⟨_, rfl, ⟨axx_74, (nI axx_74), htx_4, ctx_5, fvalx_62, rfl, ⟨(show axx_74 ≤ ln by omega), (show htx_4 ≤ 3 by omega), (show ctx_5 ≤ 3 by omega), (hf_64), (cl_bad hf_7.2.2.2.1.symm (show cl_15 < 7 by omega) (hR_69.trans (itR_no (f := 1) hf_76 qi_84)) (show axx_74 < ln by omega) cb_81).1, (cl_bad hf_7.2.2.2.1.symm (show cl_15 < 7 by omega) (hR_69.trans (itR_no (f := 1) hf_76 qi_84)) (show axx_74 < ln by omega) cb_81).2, (fun q => absurd q (m1_ne (show axx_74 < 2 ^ 31 by omega))), (fun q => absurd q (m1_ne (show axx_74 < 2 ^ 31 by omega)))⟩⟩, by rw [htS]; exact hP9, hD9⟩, hS.F htS⟩) hS.2.2 dX4_readClause_94
                        · skip
                          refine lv_eqi (y := 0) (qi_84) ?_
                          refine lv_istore (lv' := [(5, .int 0), (4, .int 2), (3, .int 3), (2, .int (nI cl_15)), (0, .ref Rd), (1, .int zf)]) hx hb dX4_readClause_69 hl (by decide) rfl (fun ls hl => ?_)
                          refine lv_iload hx hb dX4_readClause_71 (lv_at hl 0 rfl) ?_
                          refine lv_iconst (v := (-1)) hx hb dX4_readClause_73 (by decide) ?_
                          refine lv_icmp_eq (tgt := 86) hx hb dX4_readClause_74 (by decide) (fun cb => absurd cb (by decide)) (fun _ => ?_)
                          refine lv_iload_n hx hb dX4_readClause_77 rfl (lv_at hl 2 rfl) ?_
                          refine lv_iconst (v := 1) hx hb dX4_readClause_78 (by decide) ?_
                          refine lv_iload hx hb dX4_readClause_79 (lv_at hl 0 rfl) ?_
                          refine lv_ishl hx hb dX4_readClause_81 ?_
                          refine lv_eqi (y := 1) (by decide) ?_
                          refine lv_iand hx hb dX4_readClause_82 ?_
                          refine lv_eqi (y := 1) (by decide) ?_
                          refine lv_if_eq (tgt := 95) hx hb dX4_readClause_83 (by decide) (fun cb => absurd cb (by decide)) (fun _ => ?_)
                          refine lv_aload_n hx hb dX4_readClause_86 rfl (lv_at hl 4 rfl) ?_
                          refine lv_aload_n hx hb dX4_readClause_87 rfl (lv_at hl 4 rfl) ?_
                          refine va_get (D := D) (ci := 4) (v := .int (nI axx_74)) (C := RX4) (T := TX4) (N := 7) hx hb hts iX4 hown hK hP 1 rfl rfl 2 (by decide) f28 (fun _ h9 => h9) rfl dX4_readClause_88 ?_
                          refine va_put (D := D) (ci := 4) (v := .int (nI axx_74)) (ty := .int) (C := RX4) (T := TX4) (N := 7) hx hb hts iX4 tyX4 tyX4_ok nmX4 hown hK hP hD hS 1 rfl rfl 3 (by decide) f31 (fun _ h9 => h9) rfl (by decide +kernel) (rfl) (rfl) (Nat.le_of_ble_eq_true rfl) dX4_readClause_91 (fun H locs hP2 hD2 hS2 => ?_)
                          clear hP hD hS
                          have hPD : PD D A [(Rv, .inl (g 0, 21, .inl fvalx_62)), (Rd, .inr (4, [.ref Tp, .int (nI ln), .int (nI axx_74), .int (nI axx_74), .int (nI htx_4), .int (nI ctx_5), .ref Rv])), (Tp, .inl (g 0, 160, .inl ftp))] H := ⟨hP2, hD2⟩
                          have hS := hS2; clear hP2 hD2 hS2; have hP := hPD.1; have hD := hPD.2; clear hPD
                          have hPD9 : PD D A [(Rd, .inr (4, [.ref Tp, .int (nI ln), .int (nI axx_74), .int (nI axx_74), .int (nI htx_4), .int (nI ctx_5), .ref Rv])), (Tp, .inl (g 0, 160, .inl ftp)), (Rv, .inl (g 0, 21, .inl fvalx_62))] H := ⟨hP.sub [1, 2, 0] rfl, hD.sub [1, 2, 0] (by decide) rfl⟩
                          have hP9 := hPD9.1; have hD9 := hPD9.2
                          subst hQ
                          refine W.widen (k := 0) (n := 0) (Nat.le_of_ble_eq_true rfl) (Nat.le_of_ble_eq_true rfl) ?_
                          exact W.vret hx hb hr (fun tS htS _ => ⟨⟨_, rfl, ⟨axx_74, (nI axx_74), htx_4, ctx_5, fvalx_62, rfl, ⟨(show axx_74 ≤ ln by omega), (show htx_4 ≤ 3 by omega), (show ctx_5 ≤ 3 by omega), (hf_64), (cl_bad hf_7.2.2.2.1.symm (show cl_15 < 7 by omega) (hR_69.trans (itR_again (f := 1) (q := 0) hf_76 qi_84 (by decide) (by decide))) (show axx_74 < ln by omega) cb_81).1, (cl_bad hf_7.2.2.2.1.symm (show cl_15 < 7 by omega) (hR_69.trans (itR_again (f := 1) (q := 0) hf_76 qi_84 (by decide) (by decide))) (show axx_74 < ln by omega) cb_81).2, (fun q => absurd q (m1_ne (show axx_74 < 2 ^ 31 by omega))), (fun q => absurd q (m1_ne (show axx_74 < 2 ^ 31 by omega)))⟩⟩, by rw [htS]; exact hP9, hD9⟩, hS.F htS⟩) hS.2.2 dX4_readClause_94
                        · skip
                          refine lv_eqi (y := 1) (qi_84) ?_
                          refine lv_istore (lv' := [(5, .int 1), (4, .int 2), (3, .int 3), (2, .int (nI cl_15)), (0, .ref Rd), (1, .int zf)]) hx hb dX4_readClause_69 hl (by decide) rfl (fun ls hl => ?_)
                          refine lv_iload hx hb dX4_readClause_71 (lv_at hl 0 rfl) ?_
                          refine lv_iconst (v := (-1)) hx hb dX4_readClause_73 (by decide) ?_
                          refine lv_icmp_eq (tgt := 86) hx hb dX4_readClause_74 (by decide) (fun cb => absurd cb (by decide)) (fun _ => ?_)
                          refine lv_iload_n hx hb dX4_readClause_77 rfl (lv_at hl 2 rfl) ?_
                          refine lv_iconst (v := 1) hx hb dX4_readClause_78 (by decide) ?_
                          refine lv_iload hx hb dX4_readClause_79 (lv_at hl 0 rfl) ?_
                          refine lv_ishl hx hb dX4_readClause_81 ?_
                          refine lv_eqi (y := 2) (by decide) ?_
                          refine lv_iand hx hb dX4_readClause_82 ?_
                          refine lv_eqi (y := 2) (by decide) ?_
                          refine lv_if_eq (tgt := 95) hx hb dX4_readClause_83 (by decide) (fun cb => absurd cb (by decide)) (fun _ => ?_)
                          refine lv_aload_n hx hb dX4_readClause_86 rfl (lv_at hl 4 rfl) ?_
                          refine lv_aload_n hx hb dX4_readClause_87 rfl (lv_at hl 4 rfl) ?_
                          refine va_get (D := D) (ci := 4) (v := .int (nI axx_74)) (C := RX4) (T := TX4) (N := 7) hx hb hts iX4 hown hK hP 1 rfl rfl 2 (by decide) f28 (fun _ h9 => h9) rfl dX4_readClause_88 ?_
                          refine va_put (D := D) (ci := 4) (v := .int (nI axx_74)) (ty := .int) (C := RX4) (T := TX4) (N := 7) hx hb hts iX4 tyX4 tyX4_ok nmX4 hown hK hP hD hS 1 rfl rfl 3 (by decide) f31 (fun _ h9 => h9) rfl (by decide +kernel) (rfl) (rfl) (Nat.le_of_ble_eq_true rfl) dX4_readClause_91 (fun H locs hP2 hD2 hS2 => ?_)
                          clear hP hD hS
                          have hPD : PD D A [(Rv, .inl (g 0, 21, .inl fvalx_62)), (Rd, .inr (4, [.ref Tp, .int (nI ln), .int (nI axx_74), .int (nI axx_74), .int (nI htx_4), .int (nI ctx_5), .ref Rv])), (Tp, .inl (g 0, 160, .inl ftp))] H := ⟨hP2, hD2⟩
                          have hS := hS2; clear hP2 hD2 hS2; have hP := hPD.1; have hD := hPD.2; clear hPD
                          have hPD9 : PD D A [(Rd, .inr (4, [.ref Tp, .int (nI ln), .int (nI axx_74), .int (nI axx_74), .int (nI htx_4), .int (nI ctx_5), .ref Rv])), (Tp, .inl (g 0, 160, .inl ftp)), (Rv, .inl (g 0, 21, .inl fvalx_62))] H := ⟨hP.sub [1, 2, 0] rfl, hD.sub [1, 2, 0] (by decide) rfl⟩
                          have hP9 := hPD9.1; have hD9 := hPD9.2
                          subst hQ
                          refine W.widen (k := 0) (n := 0) (Nat.le_of_ble_eq_true rfl) (Nat.le_of_ble_eq_true rfl) ?_
                          exact W.vret hx hb hr (fun tS htS _ => ⟨⟨_, rfl, ⟨axx_74, (nI axx_74), htx_4, ctx_5, fvalx_62, rfl, ⟨(show axx_74 ≤ ln by omega), (show htx_4 ≤ 3 by omega), (show ctx_5 ≤ 3 by omega), (hf_64), (cl_bad hf_7.2.2.2.1.symm (show cl_15 < 7 by omega) (hR_69.trans (itR_again (f := 1) (q := 1) hf_76 qi_84 (by decide) (by decide))) (show axx_74 < ln by omega) cb_81).1, (cl_bad hf_7.2.2.2.1.symm (show cl_15 < 7 by omega) (hR_69.trans (itR_again (f := 1) (q := 1) hf_76 qi_84 (by decide) (by decide))) (show axx_74 < ln by omega) cb_81).2, (fun q => absurd q (m1_ne (show axx_74 < 2 ^ 31 by omega))), (fun q => absurd q (m1_ne (show axx_74 < 2 ^ 31 by omega)))⟩⟩, by rw [htS]; exact hP9, hD9⟩, hS.F htS⟩) hS.2.2 dX4_readClause_94
                        · skip
                          refine lv_eqi (y := 2) (qi_84) ?_
                          refine lv_istore (lv' := [(5, .int 2), (4, .int 2), (3, .int 3), (2, .int (nI cl_15)), (0, .ref Rd), (1, .int zf)]) hx hb dX4_readClause_69 hl (by decide) rfl (fun ls hl => ?_)
                          refine lv_iload hx hb dX4_readClause_71 (lv_at hl 0 rfl) ?_
                          refine lv_iconst (v := (-1)) hx hb dX4_readClause_73 (by decide) ?_
                          refine lv_icmp_eq (tgt := 86) hx hb dX4_readClause_74 (by decide) (fun cb => absurd cb (by decide)) (fun _ => ?_)
                          refine lv_iload_n hx hb dX4_readClause_77 rfl (lv_at hl 2 rfl) ?_
                          refine lv_iconst (v := 1) hx hb dX4_readClause_78 (by decide) ?_
                          refine lv_iload hx hb dX4_readClause_79 (lv_at hl 0 rfl) ?_
                          refine lv_ishl hx hb dX4_readClause_81 ?_
                          refine lv_eqi (y := 4) (by decide) ?_
                          refine lv_iand hx hb dX4_readClause_82 ?_
                          refine lv_eqi (y := 0) (by decide) ?_
                          refine lv_if_eq (tgt := 95) hx hb dX4_readClause_83 (by decide) (fun _ => ?_) (fun cb => absurd (by decide) cb)
                          refine lv_iload_n hx hb dX4_readClause_95 rfl (lv_at hl 2 rfl) ?_
                          refine lv_iconst (v := 1) hx hb dX4_readClause_96 (by decide) ?_
                          refine lv_iload hx hb dX4_readClause_97 (lv_at hl 0 rfl) ?_
                          refine lv_ishl hx hb dX4_readClause_99 ?_
                          refine lv_eqi (y := 4) (by decide) ?_
                          refine lv_ior hx hb dX4_readClause_100 ?_
                          refine lv_eqi (y := 7) (by decide) ?_
                          refine lv_istore_n (lv' := [(3, .int 7), (5, .int 2), (4, .int 2), (2, .int (nI cl_15)), (0, .ref Rd), (1, .int zf)]) hx hb dX4_readClause_101 rfl hl (by decide) rfl (fun ls hl => ?_)
                          refine lv_aload_n hx hb dX4_readClause_102 rfl (lv_at hl 4 rfl) ?_
                          refine lv_dup hx hb dX4_readClause_103 rfl ?_
                          refine va_get (D := D) (ci := 4) (v := .int (nI axx_74)) (C := RX4) (T := TX4) (N := 7) hx hb hts iX4 hown hK hP 1 rfl rfl 2 (by decide) f28 (fun _ h9 => h9) rfl dX4_readClause_104 ?_
                          refine lv_iconst (v := 1) hx hb dX4_readClause_107 (by decide) ?_
                          refine lv_iadd hx hb dX4_readClause_108 ?_
                          refine lv_eqi (y := (nI (axx_74 + 1))) (nI_add (axx_74) (1)) ?_
                          refine va_put (D := D) (ci := 4) (v := .int (nI (axx_74 + 1))) (ty := .int) (C := RX4) (T := TX4) (N := 7) hx hb hts iX4 tyX4 tyX4_ok nmX4 hown hK hP hD hS 1 rfl rfl 2 (by decide) f28 (fun _ h9 => h9) rfl (by decide +kernel) (rfl) (rfl) (Nat.le_of_ble_eq_true rfl) dX4_readClause_109 (fun H locs hP2 hD2 hS2 => ?_)
                          clear hP hD hS
                          have hPD : PD D A [(Rv, .inl (g 0, 21, .inl fvalx_62)), (Rd, .inr (4, [.ref Tp, .int (nI ln), .int (nI (axx_74 + 1)), .int (-1), .int (nI htx_4), .int (nI ctx_5), .ref Rv])), (Tp, .inl (g 0, 160, .inl ftp))] H := ⟨hP2, hD2⟩
                          have hS := hS2; clear hP2 hD2 hS2; have hP := hPD.1; have hD := hPD.2; clear hPD
                          refine lv_aload_n hx hb dX4_readClause_112 rfl (lv_at hl 4 rfl) ?_
                          refine lv_iload_n hx hb dX4_readClause_113 rfl (lv_at hl 3 rfl) ?_
                          refine lv_iload hx hb dX4_readClause_114 (lv_at hl 1 rfl) ?_
                          refine ky_Vv (As := [.int (nI cl_15), .int 2]) (rest := []) ⟨hx, hb, hml, hown, hts⟩ ⟨hK, hN⟩ hZ hP hD hS hA [1, 2, 0] [] (wc := [(Rd, .inr (4, [.ref Tp, .int (nI ln), .int (nI (axx_74 + 1)), .int (-1), .int (nI htx_4), .int (nI ctx_5), .ref Rv])), (Tp, .inl (g 0, 160, .inl ftp)), (Rv, .inl (g 0, 21, .inl fvalx_62))]) (wr := []) rfl rfl rfl rfl (by decide) (r_X4_readNumber l D g H.size Rd cl_15 2 Tp ln (axx_74 + 1) htx_4 ctx_5 Rv ftp fvalx_62 (show ln ≤ 160 by omega) (show (axx_74 + 1) ≤ ln by omega) (hf_64) (show cl_15 < 7 by omega) (show 2 < 3 by omega)) (cwV 2 hts gX4_readClause_X4_readNumber rfl rfl rfl (by decide +kernel) ⟨(Nat.le_of_ble_eq_true rfl), (Nat.le_of_ble_eq_true rfl)⟩) 1 4 rfl rfl rfl rfl hl.1 rfl (Nat.le_of_ble_eq_true rfl) dX4_readClause_116 ⟨(Nat.le_of_ble_eq_true rfl), (Nat.le_of_ble_eq_true rfl)⟩ (fun u H locs hw hP2 hD2 hS2 => ?_)
                          clear hP hD hS
                          obtain ⟨axx_86, zfax_87, fvalx_88, rfl, hf_89, hf_90, hf_91, hf_92⟩ := hw
                          have hPD : PD D A [(Rd, .inr (4, [.ref Tp, .int (nI ln), .int (nI axx_86), .int zfax_87, .int (nI htx_4), .int (nI ctx_5), .ref Rv])), (Tp, .inl (g 0, 160, .inl ftp)), (Rv, .inl (g 0, 21, .inl fvalx_88))] H := ⟨hP2, hD2⟩
                          have hS := hS2; clear hP2 hD2 hS2; have hP := hPD.1; have hD := hPD.2; clear hPD
                          refine W.widen (k := 0) (n := 0) (Nat.le_of_ble_eq_true rfl) (Nat.le_of_ble_eq_true rfl) ?_
                          refine lv_aload_n hx hb dX4_readClause_119 rfl (lv_at hl 4 rfl) ?_
                          refine va_get (D := D) (ci := 4) (v := .int zfax_87) (C := RX4) (T := TX4) (N := 7) hx hb hts iX4 hown hK hP 0 rfl rfl 3 (by decide) f31 (fun _ h9 => h9) rfl dX4_readClause_120 ?_
                          refine lv_iconst (v := (-1)) hx hb dX4_readClause_123 (by decide) ?_
                          refine lv_icmp_eq (tgt := 128) hx hb dX4_readClause_124 (by decide) (fun cb_93 => ?_) (fun cb_93 => ?_)
                          · skip
                            have hPq_94 := hP; have hDq_94 := hD; have hSq_94 := hS; have hlq_94 := hl; clear hP hD hS hl
                            subst cb_93
                            have hP := hPq_94; have hD := hDq_94; have hS := hSq_94; have hl := hlq_94; clear hPq_94 hDq_94 hSq_94 hlq_94
                            have hne_96 := (hf_92 rfl).1
                            have hne_96g := nmE_gt (T := ftp) (n := ln) (i := axx_74 + 1) (by omega)
                            have hR_95 : itR ftp ln (kdN cl_15) 4 0 (sB ftp ln ax + 1) = itR ftp ln (kdN cl_15) 1 7 axx_86 := hR_69.trans ((itR_go (f := 1) (m := 3) (q := 2) hf_76 (show axx_74 < ln by omega) qi_84 (by decide) (by decide) hf_91.symm).trans (by rw [hne_96]))
                            have hnv_98 := hf_92 rfl
                            have hW_97 : itW ftp ln (kdN cl_15) (3 * cl_15) 4 0 (sB ftp ln ax + 1) fval = itW ftp ln (kdN cl_15) (3 * cl_15) 1 7 axx_86 fvalx_88 := hW_71.trans ((itW_go (f := 1) (m := 3) (q := 2) hf_76 (show axx_74 < ln by omega) qi_84 (by decide) (by decide) hf_91.symm).trans (by rw [hnv_98.1, hnv_98.2]))
                            refine lv_iinc (v := 3) (lv' := [(4, .int 3), (3, .int 7), (5, .int 2), (2, .int (nI cl_15)), (0, .ref Rd), (1, .int zf)]) hx hb dX4_readClause_128 hl (k := 2) rfl (by decide) (by decide) rfl (fun ls hl => ?_)
                            refine lv_goto (tgt := 17) hx hb dX4_readClause_131 (by decide) ?_
                            refine lv_iload hx hb dX4_readClause_17 (lv_at hl 0 rfl) ?_
                            refine lv_iconst (v := 3) hx hb dX4_readClause_19 (by decide) ?_
                            refine lv_icmp_gt (tgt := 134) hx hb dX4_readClause_20 (by decide) (fun cb => absurd cb (by decide)) (fun _ => ?_)
                            refine lv_aload_n hx hb dX4_readClause_23 rfl (lv_at hl 4 rfl) ?_
                            refine ky_Vv (As := []) (rest := []) ⟨hx, hb, hml, hown, hts⟩ ⟨hK, hN⟩ hZ hP hD hS hA [0, 1] [2] (wc := [(Rd, .inr (4, [.ref Tp, .int (nI ln), .int (nI axx_86), .int (-1), .int (nI htx_4), .int (nI ctx_5), .ref Rv])), (Tp, .inl (g 0, 160, .inl ftp))]) (wr := [(Rv, .inl (g 0, 21, .inl fvalx_88))]) rfl rfl rfl rfl (by decide) (r_X4_passBlanks l D g H.size Rd Tp ln axx_86 (-1) htx_4 ctx_5 Rv ftp (show ln ≤ 160 by omega) (show axx_86 ≤ ln by omega)) (cwV 0 hts gX4_readClause_X4_passBlanks rfl rfl rfl (by decide +kernel) ⟨(Nat.le_of_ble_eq_true rfl), (Nat.le_of_ble_eq_true rfl)⟩) 0 4 rfl rfl rfl rfl hl.1 rfl (Nat.le_of_ble_eq_true rfl) dX4_readClause_24 ⟨(Nat.le_of_ble_eq_true rfl), (Nat.le_of_ble_eq_true rfl)⟩ (fun u H locs hw hP2 hD2 hS2 => ?_)
                            clear hP hD hS
                            obtain ⟨axx_100, rfl, hf_101, hf_102⟩ := hw
                            have hPD : PD D A [(Rv, .inl (g 0, 21, .inl fvalx_88)), (Rd, .inr (4, [.ref Tp, .int (nI ln), .int (nI axx_100), .int (-1), .int (nI htx_4), .int (nI ctx_5), .ref Rv])), (Tp, .inl (g 0, 160, .inl ftp))] H := ⟨hP2, hD2⟩
                            have hS := hS2; clear hP2 hD2 hS2; have hP := hPD.1; have hD := hPD.2; clear hPD
                            refine W.widen (k := 0) (n := 0) (Nat.le_of_ble_eq_true rfl) (Nat.le_of_ble_eq_true rfl) ?_
                            have hge_103 := sB_ge (T := ftp) (n := ln) (i := axx_86) (by omega)
                            refine lv_aload_n hx hb dX4_readClause_27 rfl (lv_at hl 4 rfl) ?_
                            refine va_get (D := D) (ci := 4) (v := .int (nI axx_100)) (C := RX4) (T := TX4) (N := 7) hx hb hts iX4 hown hK hP 1 rfl rfl 2 (by decide) f28 (fun _ h9 => h9) rfl dX4_readClause_28 ?_
                            refine lv_aload_n hx hb dX4_readClause_31 rfl (lv_at hl 4 rfl) ?_
                            refine va_get (D := D) (ci := 4) (v := .int (nI ln)) (C := RX4) (T := TX4) (N := 7) hx hb hts iX4 hown hK hP 1 rfl rfl 1 (by decide) f24 (fun _ h9 => h9) rfl dX4_readClause_32 ?_
                            refine lv_icmp_ge (tgt := 52) hx hb dX4_readClause_35 (by decide) (fun cb_104 => ?_) (fun cb_104 => ?_)
                            · skip
                              have cn_105 : ln ≤ axx_100 := (nI_leI (show ln < 2 ^ 31 by omega) (show axx_100 < 2 ^ 31 by omega)).mp cb_104
                              have hPD9 : PD D A [(Rd, .inr (4, [.ref Tp, .int (nI ln), .int (nI axx_100), .int (-1), .int (nI htx_4), .int (nI ctx_5), .ref Rv])), (Tp, .inl (g 0, 160, .inl ftp)), (Rv, .inl (g 0, 21, .inl fvalx_88))] H := ⟨hP.sub [1, 2, 0] rfl, hD.sub [1, 2, 0] (by decide) rfl⟩
                              have hP9 := hPD9.1; have hD9 := hPD9.2
                              subst hQ
                              refine W.widen (k := 0) (n := 0) (Nat.le_of_ble_eq_true rfl) (Nat.le_of_ble_eq_true rfl) ?_
                              exact W.vret hx hb hr (fun tS htS _ => ⟨⟨_, rfl, ⟨axx_100, (-1), htx_4, ctx_5, fvalx_88, rfl, ⟨(show axx_100 ≤ ln by omega), (show htx_4 ≤ 3 by omega), (show ctx_5 ≤ 3 by omega), (hf_90), (cl_end hf_7.2.2.2.1.symm (show cl_15 < 7 by omega) (hR_95.trans (itR_end (f := 0) hf_102 (show ¬ axx_100 < ln by omega))) (fun q => absurd q.1 (show ¬ axx_100 < ln by omega))).1, (cl_end hf_7.2.2.2.1.symm (show cl_15 < 7 by omega) (hR_95.trans (itR_end (f := 0) hf_102 (show ¬ axx_100 < ln by omega))) (fun q => absurd q.1 (show ¬ axx_100 < ln by omega))).2.1, (fun _ => ⟨(cl_end hf_7.2.2.2.1.symm (show cl_15 < 7 by omega) (hR_95.trans (itR_end (f := 0) hf_102 (show ¬ axx_100 < ln by omega))) (fun q => absurd q.1 (show ¬ axx_100 < ln by omega))).2.2, show ax < axx_100 by omega⟩), (fun _ => ((clW_cl hf_7.2.2.2.1.symm (show cl_15 < 7 by omega)).trans (hW_97.trans (itW_end (f := 0) hf_102 (show ¬ axx_100 < ln by omega)))).symm)⟩⟩, by rw [htS]; exact hP9, hD9⟩, hS.F htS⟩) hS.2.2 dX4_readClause_52
                            · skip
                              have cn_106 : axx_100 < ln := Nat.lt_of_not_le (fun q9 => cb_104 ((nI_leI (show ln < 2 ^ 31 by omega) (show axx_100 < 2 ^ 31 by omega)).mpr q9))
                              refine lv_aload_n hx hb dX4_readClause_38 rfl (lv_at hl 4 rfl) ?_
                              refine va_get (D := D) (ci := 4) (v := .ref Tp) (C := RX4) (T := TX4) (N := 7) hx hb hts iX4 hown hK hP 1 rfl rfl 0 (by decide) f9 (fun _ h9 => h9) rfl dX4_readClause_39 ?_
                              refine lv_aload_n hx hb dX4_readClause_42 rfl (lv_at hl 4 rfl) ?_
                              refine va_get (D := D) (ci := 4) (v := .int (nI axx_100)) (C := RX4) (T := TX4) (N := 7) hx hb hts iX4 hown hK hP 1 rfl rfl 2 (by decide) f28 (fun _ h9 => h9) rfl dX4_readClause_43 ?_
                              refine va_iald hx hb hK hP 2 0 rfl rfl (vp_in_nI (show axx_100 < 160 by omega) (by decide)) dX4_readClause_46 ?_
                              refine lv_eqi (y := (ftp (axx_100))) (congrArg ftp (nI_clamp (show axx_100 < 2 ^ 31 by omega))) ?_
                              refine lv_bipush (v := 59) hx hb dX4_readClause_47 (by decide) ?_
                              refine lv_icmp_ne (tgt := 53) hx hb dX4_readClause_49 (by decide) (fun cb_107 => ?_) (fun cb_107 => ?_)
                              · skip
                                refine lv_iload_n hx hb dX4_readClause_53 rfl (lv_at hl 3 rfl) ?_
                                refine ky_Si (As := [.int (nI cl_15)]) (rest := []) ⟨hx, hb, hml, hown, hts⟩ ⟨hK, hN⟩ hZ hP hD hS hA [] [0, 1, 2] (wc := []) (wr := [(Rv, .inl (g 0, 21, .inl fvalx_88)), (Rd, .inr (4, [.ref Tp, .int (nI ln), .int (nI axx_100), .int (-1), .int (nI htx_4), .int (nI ctx_5), .ref Rv])), (Tp, .inl (g 0, 160, .inl ftp))]) rfl rfl rfl rfl (by decide) (r_X4_kindOf l D g H.size cl_15 (show cl_15 < 7 by omega)) (va_cwS 1 hts gX4_readClause_X4_kindOf rfl rfl rfl (by decide +kernel) ⟨(Nat.le_of_ble_eq_true rfl), (Nat.le_of_ble_eq_true rfl)⟩) rfl hl.1 rfl (Nat.le_of_ble_eq_true rfl) dX4_readClause_54 ⟨(Nat.le_of_ble_eq_true rfl), (Nat.le_of_ble_eq_true rfl)⟩ (fun r_108 u H locs hw hP2 hD2 hS2 => ?_)
                                clear hP hD hS
                                obtain ⟨rfl, rfl⟩ := hw
                                have hPD : PD D A [(Rv, .inl (g 0, 21, .inl fvalx_88)), (Rd, .inr (4, [.ref Tp, .int (nI ln), .int (nI axx_100), .int (-1), .int (nI htx_4), .int (nI ctx_5), .ref Rv])), (Tp, .inl (g 0, 160, .inl ftp))] H := ⟨hP2, hD2⟩
                                have hS := hS2; clear hP2 hD2 hS2; have hP := hPD.1; have hD := hPD.2; clear hPD
                                refine W.widen (k := 0) (n := 0) (Nat.le_of_ble_eq_true rfl) (Nat.le_of_ble_eq_true rfl) ?_
                                refine lv_aload_n hx hb dX4_readClause_57 rfl (lv_at hl 4 rfl) ?_
                                refine va_get (D := D) (ci := 4) (v := .ref Tp) (C := RX4) (T := TX4) (N := 7) hx hb hts iX4 hown hK hP 1 rfl rfl 0 (by decide) f9 (fun _ h9 => h9) rfl dX4_readClause_58 ?_
                                refine lv_aload_n hx hb dX4_readClause_61 rfl (lv_at hl 4 rfl) ?_
                                refine va_get (D := D) (ci := 4) (v := .int (nI axx_100)) (C := RX4) (T := TX4) (N := 7) hx hb hts iX4 hown hK hP 1 rfl rfl 2 (by decide) f28 (fun _ h9 => h9) rfl dX4_readClause_62 ?_
                                refine va_iald hx hb hK hP 2 0 rfl rfl (vp_in_nI (show axx_100 < 160 by omega) (by decide)) dX4_readClause_65 ?_
                                refine lv_eqi (y := (ftp (axx_100))) (congrArg ftp (nI_clamp (show axx_100 < 2 ^ 31 by omega))) ?_
                                refine ky_Si (As := [.int (nI (kdN cl_15)), .int (ftp (axx_100))]) (rest := []) ⟨hx, hb, hml, hown, hts⟩ ⟨hK, hN⟩ hZ hP hD hS hA [] [0, 1, 2] (wc := []) (wr := [(Rv, .inl (g 0, 21, .inl fvalx_88)), (Rd, .inr (4, [.ref Tp, .int (nI ln), .int (nI axx_100), .int (-1), .int (nI htx_4), .int (nI ctx_5), .ref Rv])), (Tp, .inl (g 0, 160, .inl ftp))]) rfl rfl rfl rfl (by decide) (r_X4_itemOf l D g H.size (kdN cl_15) (ftp (axx_100)) (show (kdN cl_15) < 3 by omega)) (va_cwS 2 hts gX4_readClause_X4_itemOf rfl rfl rfl (by decide +kernel) ⟨(Nat.le_of_ble_eq_true rfl), (Nat.le_of_ble_eq_true rfl)⟩) rfl hl.1 rfl (Nat.le_of_ble_eq_true rfl) dX4_readClause_66 ⟨(Nat.le_of_ble_eq_true rfl), (Nat.le_of_ble_eq_true rfl)⟩ (fun r_109 u H locs hw hP2 hD2 hS2 => ?_)
                                clear hP hD hS
                                obtain ⟨rfl, rfl⟩ := hw
                                have hPD : PD D A [(Rv, .inl (g 0, 21, .inl fvalx_88)), (Rd, .inr (4, [.ref Tp, .int (nI ln), .int (nI axx_100), .int (-1), .int (nI htx_4), .int (nI ctx_5), .ref Rv])), (Tp, .inl (g 0, 160, .inl ftp))] H := ⟨hP2, hD2⟩
                                have hS := hS2; clear hP2 hD2 hS2; have hP := hPD.1; have hD := hPD.2; clear hPD
                                refine W.widen (k := 0) (n := 0) (Nat.le_of_ble_eq_true rfl) (Nat.le_of_ble_eq_true rfl) ?_
                                rcases itK_c (kdN cl_15) (ftp (axx_100)) with qi_110 | qi_110 | qi_110 | qi_110
                                · skip
                                  refine lv_eqi (y := (-1)) (qi_110) ?_
                                  refine lv_istore (lv' := [(5, .int (-1)), (4, .int 3), (3, .int 7), (2, .int (nI cl_15)), (0, .ref Rd), (1, .int zf)]) hx hb dX4_readClause_69 hl (by decide) rfl (fun ls hl => ?_)
                                  refine lv_iload hx hb dX4_readClause_71 (lv_at hl 0 rfl) ?_
                                  refine lv_iconst (v := (-1)) hx hb dX4_readClause_73 (by decide) ?_
                                  refine lv_icmp_eq (tgt := 86) hx hb dX4_readClause_74 (by decide) (fun _ => ?_) (fun cb => absurd (by decide) cb)
                                  refine lv_aload_n hx hb dX4_readClause_86 rfl (lv_at hl 4 rfl) ?_
                                  refine lv_aload_n hx hb dX4_readClause_87 rfl (lv_at hl 4 rfl) ?_
                                  refine va_get (D := D) (ci := 4) (v := .int (nI axx_100)) (C := RX4) (T := TX4) (N := 7) hx hb hts iX4 hown hK hP 1 rfl rfl 2 (by decide) f28 (fun _ h9 => h9) rfl dX4_readClause_88 ?_
                                  refine va_put (D := D) (ci := 4) (v := .int (nI axx_100)) (ty := .int) (C := RX4) (T := TX4) (N := 7) hx hb hts iX4 tyX4 tyX4_ok nmX4 hown hK hP hD hS 1 rfl rfl 3 (by decide) f31 (fun _ h9 => h9) rfl (by decide +kernel) (rfl) (rfl) (Nat.le_of_ble_eq_true rfl) dX4_readClause_91 (fun H locs hP2 hD2 hS2 => ?_)
                                  clear hP hD hS
                                  have hPD : PD D A [(Rv, .inl (g 0, 21, .inl fvalx_88)), (Rd, .inr (4, [.ref Tp, .int (nI ln), .int (nI axx_100), .int (nI axx_100), .int (nI htx_4), .int (nI ctx_5), .ref Rv])), (Tp, .inl (g 0, 160, .inl ftp))] H := ⟨hP2, hD2⟩
                                  have hS := hS2; clear hP2 hD2 hS2; have hP := hPD.1; have hD := hPD.2; clear hPD
                                  have hPD9 : PD D A [(Rd, .inr (4, [.ref Tp, .int (nI ln), .int (nI axx_100), .int (nI axx_100), .int (nI htx_4), .int (nI ctx_5), .ref Rv])), (Tp, .inl (g 0, 160, .inl ftp)), (Rv, .inl (g 0, 21, .inl fvalx_88))] H := ⟨hP.sub [1, 2, 0] rfl, hD.sub [1, 2, 0] (by decide) rfl⟩
                                  have hP9 := hPD9.1; have hD9 := hPD9.2
                                  subst hQ
                                  refine W.widen (k := 0) (n := 0) (Nat.le_of_ble_eq_true rfl) (Nat.le_of_ble_eq_true rfl) ?_
                                  exact W.vret hx hb hr (fun tS htS _ => ⟨⟨_, rfl, ⟨axx_100, (nI axx_100), htx_4, ctx_5, fvalx_88, rfl, ⟨(show axx_100 ≤ ln by omega), (show htx_4 ≤ 3 by omega), (show ctx_5 ≤ 3 by omega), (hf_90), (cl_bad hf_7.2.2.2.1.symm (show cl_15 < 7 by omega) (hR_95.trans (itR_no (f := 0) hf_102 qi_110)) (show axx_100 < ln by omega) cb_107).1, (cl_bad hf_7.2.2.2.1.symm (show cl_15 < 7 by omega) (hR_95.trans (itR_no (f := 0) hf_102 qi_110)) (show axx_100 < ln by omega) cb_107).2, (fun q => absurd q (m1_ne (show axx_100 < 2 ^ 31 by omega))), (fun q => absurd q (m1_ne (show axx_100 < 2 ^ 31 by omega)))⟩⟩, by rw [htS]; exact hP9, hD9⟩, hS.F htS⟩) hS.2.2 dX4_readClause_94
                                · skip
                                  refine lv_eqi (y := 0) (qi_110) ?_
                                  refine lv_istore (lv' := [(5, .int 0), (4, .int 3), (3, .int 7), (2, .int (nI cl_15)), (0, .ref Rd), (1, .int zf)]) hx hb dX4_readClause_69 hl (by decide) rfl (fun ls hl => ?_)
                                  refine lv_iload hx hb dX4_readClause_71 (lv_at hl 0 rfl) ?_
                                  refine lv_iconst (v := (-1)) hx hb dX4_readClause_73 (by decide) ?_
                                  refine lv_icmp_eq (tgt := 86) hx hb dX4_readClause_74 (by decide) (fun cb => absurd cb (by decide)) (fun _ => ?_)
                                  refine lv_iload_n hx hb dX4_readClause_77 rfl (lv_at hl 2 rfl) ?_
                                  refine lv_iconst (v := 1) hx hb dX4_readClause_78 (by decide) ?_
                                  refine lv_iload hx hb dX4_readClause_79 (lv_at hl 0 rfl) ?_
                                  refine lv_ishl hx hb dX4_readClause_81 ?_
                                  refine lv_eqi (y := 1) (by decide) ?_
                                  refine lv_iand hx hb dX4_readClause_82 ?_
                                  refine lv_eqi (y := 1) (by decide) ?_
                                  refine lv_if_eq (tgt := 95) hx hb dX4_readClause_83 (by decide) (fun cb => absurd cb (by decide)) (fun _ => ?_)
                                  refine lv_aload_n hx hb dX4_readClause_86 rfl (lv_at hl 4 rfl) ?_
                                  refine lv_aload_n hx hb dX4_readClause_87 rfl (lv_at hl 4 rfl) ?_
                                  refine va_get (D := D) (ci := 4) (v := .int (nI axx_100)) (C := RX4) (T := TX4) (N := 7) hx hb hts iX4 hown hK hP 1 rfl rfl 2 (by decide) f28 (fun _ h9 => h9) rfl dX4_readClause_88 ?_
                                  refine va_put (D := D) (ci := 4) (v := .int (nI axx_100)) (ty := .int) (C := RX4) (T := TX4) (N := 7) hx hb hts iX4 tyX4 tyX4_ok nmX4 hown hK hP hD hS 1 rfl rfl 3 (by decide) f31 (fun _ h9 => h9) rfl (by decide +kernel) (rfl) (rfl) (Nat.le_of_ble_eq_true rfl) dX4_readClause_91 (fun H locs hP2 hD2 hS2 => ?_)
                                  clear hP hD hS
                                  have hPD : PD D A [(Rv, .inl (g 0, 21, .inl fvalx_88)), (Rd, .inr (4, [.ref Tp, .int (nI ln), .int (nI axx_100), .int (nI axx_100), .int (nI htx_4), .int (nI ctx_5), .ref Rv])), (Tp, .inl (g 0, 160, .inl ftp))] H := ⟨hP2, hD2⟩
                                  have hS := hS2; clear hP2 hD2 hS2; have hP := hPD.1; have hD := hPD.2; clear hPD
                                  have hPD9 : PD D A [(Rd, .inr (4, [.ref Tp, .int (nI ln), .int (nI axx_100), .int (nI axx_100), .int (nI htx_4), .int (nI ctx_5), .ref Rv])), (Tp, .inl (g 0, 160, .inl ftp)), (Rv, .inl (g 0, 21, .inl fvalx_88))] H := ⟨hP.sub [1, 2, 0] rfl, hD.sub [1, 2, 0] (by decide) rfl⟩
                                  have hP9 := hPD9.1; have hD9 := hPD9.2
                                  subst hQ
                                  refine W.widen (k := 0) (n := 0) (Nat.le_of_ble_eq_true rfl) (Nat.le_of_ble_eq_true rfl) ?_
                                  exact W.vret hx hb hr (fun tS htS _ => ⟨⟨_, rfl, ⟨axx_100, (nI axx_100), htx_4, ctx_5, fvalx_88, rfl, ⟨(show axx_100 ≤ ln by omega), (show htx_4 ≤ 3 by omega), (show ctx_5 ≤ 3 by omega), (hf_90), (cl_bad hf_7.2.2.2.1.symm (show cl_15 < 7 by omega) (hR_95.trans (itR_again (f := 0) (q := 0) hf_102 qi_110 (by decide) (by decide))) (show axx_100 < ln by omega) cb_107).1, (cl_bad hf_7.2.2.2.1.symm (show cl_15 < 7 by omega) (hR_95.trans (itR_again (f := 0) (q := 0) hf_102 qi_110 (by decide) (by decide))) (show axx_100 < ln by omega) cb_107).2, (fun q => absurd q (m1_ne (show axx_100 < 2 ^ 31 by omega))), (fun q => absurd q (m1_ne (show axx_100 < 2 ^ 31 by omega)))⟩⟩, by rw [htS]; exact hP9, hD9⟩, hS.F htS⟩) hS.2.2 dX4_readClause_94
                                · skip
                                  refine lv_eqi (y := 1) (qi_110) ?_
                                  refine lv_istore (lv' := [(5, .int 1), (4, .int 3), (3, .int 7), (2, .int (nI cl_15)), (0, .ref Rd), (1, .int zf)]) hx hb dX4_readClause_69 hl (by decide) rfl (fun ls hl => ?_)
                                  refine lv_iload hx hb dX4_readClause_71 (lv_at hl 0 rfl) ?_
                                  refine lv_iconst (v := (-1)) hx hb dX4_readClause_73 (by decide) ?_
                                  refine lv_icmp_eq (tgt := 86) hx hb dX4_readClause_74 (by decide) (fun cb => absurd cb (by decide)) (fun _ => ?_)
                                  refine lv_iload_n hx hb dX4_readClause_77 rfl (lv_at hl 2 rfl) ?_
                                  refine lv_iconst (v := 1) hx hb dX4_readClause_78 (by decide) ?_
                                  refine lv_iload hx hb dX4_readClause_79 (lv_at hl 0 rfl) ?_
                                  refine lv_ishl hx hb dX4_readClause_81 ?_
                                  refine lv_eqi (y := 2) (by decide) ?_
                                  refine lv_iand hx hb dX4_readClause_82 ?_
                                  refine lv_eqi (y := 2) (by decide) ?_
                                  refine lv_if_eq (tgt := 95) hx hb dX4_readClause_83 (by decide) (fun cb => absurd cb (by decide)) (fun _ => ?_)
                                  refine lv_aload_n hx hb dX4_readClause_86 rfl (lv_at hl 4 rfl) ?_
                                  refine lv_aload_n hx hb dX4_readClause_87 rfl (lv_at hl 4 rfl) ?_
                                  refine va_get (D := D) (ci := 4) (v := .int (nI axx_100)) (C := RX4) (T := TX4) (N := 7) hx hb hts iX4 hown hK hP 1 rfl rfl 2 (by decide) f28 (fun _ h9 => h9) rfl dX4_readClause_88 ?_
                                  refine va_put (D := D) (ci := 4) (v := .int (nI axx_100)) (ty := .int) (C := RX4) (T := TX4) (N := 7) hx hb hts iX4 tyX4 tyX4_ok nmX4 hown hK hP hD hS 1 rfl rfl 3 (by decide) f31 (fun _ h9 => h9) rfl (by decide +kernel) (rfl) (rfl) (Nat.le_of_ble_eq_true rfl) dX4_readClause_91 (fun H locs hP2 hD2 hS2 => ?_)
                                  clear hP hD hS
                                  have hPD : PD D A [(Rv, .inl (g 0, 21, .inl fvalx_88)), (Rd, .inr (4, [.ref Tp, .int (nI ln), .int (nI axx_100), .int (nI axx_100), .int (nI htx_4), .int (nI ctx_5), .ref Rv])), (Tp, .inl (g 0, 160, .inl ftp))] H := ⟨hP2, hD2⟩
                                  have hS := hS2; clear hP2 hD2 hS2; have hP := hPD.1; have hD := hPD.2; clear hPD
                                  have hPD9 : PD D A [(Rd, .inr (4, [.ref Tp, .int (nI ln), .int (nI axx_100), .int (nI axx_100), .int (nI htx_4), .int (nI ctx_5), .ref Rv])), (Tp, .inl (g 0, 160, .inl ftp)), (Rv, .inl (g 0, 21, .inl fvalx_88))] H := ⟨hP.sub [1, 2, 0] rfl, hD.sub [1, 2, 0] (by decide) rfl⟩
                                  have hP9 := hPD9.1; have hD9 := hPD9.2
                                  subst hQ
                                  refine W.widen (k := 0) (n := 0) (Nat.le_of_ble_eq_true rfl) (Nat.le_of_ble_eq_true rfl) ?_
                                  exact W.vret hx hb hr (fun tS htS _ => ⟨⟨_, rfl, ⟨axx_100, (nI axx_100), htx_4, ctx_5, fvalx_88, rfl, ⟨(show axx_100 ≤ ln by omega), (show htx_4 ≤ 3 by omega), (show ctx_5 ≤ 3 by omega), (hf_90), (cl_bad hf_7.2.2.2.1.symm (show cl_15 < 7 by omega) (hR_95.trans (itR_again (f := 0) (q := 1) hf_102 qi_110 (by decide) (by decide))) (show axx_100 < ln by omega) cb_107).1, (cl_bad hf_7.2.2.2.1.symm (show cl_15 < 7 by omega) (hR_95.trans (itR_again (f := 0) (q := 1) hf_102 qi_110 (by decide) (by decide))) (show axx_100 < ln by omega) cb_107).2, (fun q => absurd q (m1_ne (show axx_100 < 2 ^ 31 by omega))), (fun q => absurd q (m1_ne (show axx_100 < 2 ^ 31 by omega)))⟩⟩, by rw [htS]; exact hP9, hD9⟩, hS.F htS⟩) hS.2.2 dX4_readClause_94
                                · skip
                                  refine lv_eqi (y := 2) (qi_110) ?_
                                  refine lv_istore (lv' := [(5, .int 2), (4, .int 3), (3, .int 7), (2, .int (nI cl_15)), (0, .ref Rd), (1, .int zf)]) hx hb dX4_readClause_69 hl (by decide) rfl (fun ls hl => ?_)
                                  refine lv_iload hx hb dX4_readClause_71 (lv_at hl 0 rfl) ?_
                                  refine lv_iconst (v := (-1)) hx hb dX4_readClause_73 (by decide) ?_
                                  refine lv_icmp_eq (tgt := 86) hx hb dX4_readClause_74 (by decide) (fun cb => absurd cb (by decide)) (fun _ => ?_)
                                  refine lv_iload_n hx hb dX4_readClause_77 rfl (lv_at hl 2 rfl) ?_
                                  refine lv_iconst (v := 1) hx hb dX4_readClause_78 (by decide) ?_
                                  refine lv_iload hx hb dX4_readClause_79 (lv_at hl 0 rfl) ?_
                                  refine lv_ishl hx hb dX4_readClause_81 ?_
                                  refine lv_eqi (y := 4) (by decide) ?_
                                  refine lv_iand hx hb dX4_readClause_82 ?_
                                  refine lv_eqi (y := 4) (by decide) ?_
                                  refine lv_if_eq (tgt := 95) hx hb dX4_readClause_83 (by decide) (fun cb => absurd cb (by decide)) (fun _ => ?_)
                                  refine lv_aload_n hx hb dX4_readClause_86 rfl (lv_at hl 4 rfl) ?_
                                  refine lv_aload_n hx hb dX4_readClause_87 rfl (lv_at hl 4 rfl) ?_
                                  refine va_get (D := D) (ci := 4) (v := .int (nI axx_100)) (C := RX4) (T := TX4) (N := 7) hx hb hts iX4 hown hK hP 1 rfl rfl 2 (by decide) f28 (fun _ h9 => h9) rfl dX4_readClause_88 ?_
                                  refine va_put (D := D) (ci := 4) (v := .int (nI axx_100)) (ty := .int) (C := RX4) (T := TX4) (N := 7) hx hb hts iX4 tyX4 tyX4_ok nmX4 hown hK hP hD hS 1 rfl rfl 3 (by decide) f31 (fun _ h9 => h9) rfl (by decide +kernel) (rfl) (rfl) (Nat.le_of_ble_eq_true rfl) dX4_readClause_91 (fun H locs hP2 hD2 hS2 => ?_)
                                  clear hP hD hS
                                  have hPD : PD D A [(Rv, .inl (g 0, 21, .inl fvalx_88)), (Rd, .inr (4, [.ref Tp, .int (nI ln), .int (nI axx_100), .int (nI axx_100), .int (nI htx_4), .int (nI ctx_5), .ref Rv])), (Tp, .inl (g 0, 160, .inl ftp))] H := ⟨hP2, hD2⟩
                                  have hS := hS2; clear hP2 hD2 hS2; have hP := hPD.1; have hD := hPD.2; clear hPD
                                  have hPD9 : PD D A [(Rd, .inr (4, [.ref Tp, .int (nI ln), .int (nI axx_100), .int (nI axx_100), .int (nI htx_4), .int (nI ctx_5), .ref Rv])), (Tp, .inl (g 0, 160, .inl ftp)), (Rv, .inl (g 0, 21, .inl fvalx_88))] H := ⟨hP.sub [1, 2, 0] rfl, hD.sub [1, 2, 0] (by decide) rfl⟩
                                  have hP9 := hPD9.1; have hD9 := hPD9.2
                                  subst hQ
                                  refine W.widen (k := 0) (n := 0) (Nat.le_of_ble_eq_true rfl) (Nat.le_of_ble_eq_true rfl) ?_
                                  exact W.vret hx hb hr (fun tS htS _ => ⟨⟨_, rfl, ⟨axx_100, (nI axx_100), htx_4, ctx_5, fvalx_88, rfl, ⟨(show axx_100 ≤ ln by omega), (show htx_4 ≤ 3 by omega), (show ctx_5 ≤ 3 by omega), (hf_90), (cl_bad hf_7.2.2.2.1.symm (show cl_15 < 7 by omega) (hR_95.trans (itR_again (f := 0) (q := 2) hf_102 qi_110 (by decide) (by decide))) (show axx_100 < ln by omega) cb_107).1, (cl_bad hf_7.2.2.2.1.symm (show cl_15 < 7 by omega) (hR_95.trans (itR_again (f := 0) (q := 2) hf_102 qi_110 (by decide) (by decide))) (show axx_100 < ln by omega) cb_107).2, (fun q => absurd q (m1_ne (show axx_100 < 2 ^ 31 by omega))), (fun q => absurd q (m1_ne (show axx_100 < 2 ^ 31 by omega)))⟩⟩, by rw [htS]; exact hP9, hD9⟩, hS.F htS⟩) hS.2.2 dX4_readClause_94
                              · skip
                                have hPD9 : PD D A [(Rd, .inr (4, [.ref Tp, .int (nI ln), .int (nI axx_100), .int (-1), .int (nI htx_4), .int (nI ctx_5), .ref Rv])), (Tp, .inl (g 0, 160, .inl ftp)), (Rv, .inl (g 0, 21, .inl fvalx_88))] H := ⟨hP.sub [1, 2, 0] rfl, hD.sub [1, 2, 0] (by decide) rfl⟩
                                have hP9 := hPD9.1; have hD9 := hPD9.2
                                subst hQ
                                refine W.widen (k := 0) (n := 0) (Nat.le_of_ble_eq_true rfl) (Nat.le_of_ble_eq_true rfl) ?_
                                exact W.vret hx hb hr (fun tS htS _ => ⟨⟨_, rfl, ⟨axx_100, (-1), htx_4, ctx_5, fvalx_88, rfl, ⟨(show axx_100 ≤ ln by omega), (show htx_4 ≤ 3 by omega), (show ctx_5 ≤ 3 by omega), (hf_90), (cl_end hf_7.2.2.2.1.symm (show cl_15 < 7 by omega) (hR_95.trans (itR_no (f := 0) hf_102 (by rw [cb_107]; exact itK_59 _))) (fun q => q.2 cb_107)).1, (cl_end hf_7.2.2.2.1.symm (show cl_15 < 7 by omega) (hR_95.trans (itR_no (f := 0) hf_102 (by rw [cb_107]; exact itK_59 _))) (fun q => q.2 cb_107)).2.1, (fun _ => ⟨(cl_end hf_7.2.2.2.1.symm (show cl_15 < 7 by omega) (hR_95.trans (itR_no (f := 0) hf_102 (by rw [cb_107]; exact itK_59 _))) (fun q => q.2 cb_107)).2.2, show ax < axx_100 by omega⟩), (fun _ => ((clW_cl hf_7.2.2.2.1.symm (show cl_15 < 7 by omega)).trans (hW_97.trans (itW_no (f := 0) hf_102 (by rw [cb_107]; exact itK_59 _)))).symm)⟩⟩, by rw [htS]; exact hP9, hD9⟩, hS.F htS⟩) hS.2.2 dX4_readClause_52
                          · skip
                            have hP9 := hP; have hD9 := hD
                            subst hQ
                            refine W.widen (k := 0) (n := 0) (Nat.le_of_ble_eq_true rfl) (Nat.le_of_ble_eq_true rfl) ?_
                            exact W.vret hx hb hr (fun tS htS _ => ⟨⟨_, rfl, ⟨axx_86, zfax_87, htx_4, ctx_5, fvalx_88, rfl, ⟨(show axx_86 ≤ ln by omega), (show htx_4 ≤ 3 by omega), (show ctx_5 ≤ 3 by omega), (hf_90), (cl_num hf_7.2.2.2.1.symm (show cl_15 < 7 by omega) ((congrArg Prod.fst hR_69).trans ((itR_w (f := 1) (q := 2) hf_76 (show axx_74 < ln by omega) qi_84 (by decide) (by decide) (fun q => cb_93 (hf_91.trans q))).trans hf_91.symm)) cb_93).1, (cl_num hf_7.2.2.2.1.symm (show cl_15 < 7 by omega) ((congrArg Prod.fst hR_69).trans ((itR_w (f := 1) (q := 2) hf_76 (show axx_74 < ln by omega) qi_84 (by decide) (by decide) (fun q => cb_93 (hf_91.trans q))).trans hf_91.symm)) cb_93).2, (fun q => absurd q cb_93), (fun q => absurd q cb_93)⟩⟩, by rw [htS]; exact hP9, hD9⟩, hS.F htS⟩) hS.2.2 dX4_readClause_127
                      · skip
                        have hPD9 : PD D A [(Rd, .inr (4, [.ref Tp, .int (nI ln), .int (nI axx_74), .int (-1), .int (nI htx_4), .int (nI ctx_5), .ref Rv])), (Tp, .inl (g 0, 160, .inl ftp)), (Rv, .inl (g 0, 21, .inl fvalx_62))] H := ⟨hP.sub [1, 2, 0] rfl, hD.sub [1, 2, 0] (by decide) rfl⟩
                        have hP9 := hPD9.1; have hD9 := hPD9.2
                        subst hQ
                        refine W.widen (k := 0) (n := 0) (Nat.le_of_ble_eq_true rfl) (Nat.le_of_ble_eq_true rfl) ?_
                        exact W.vret hx hb hr (fun tS htS _ => ⟨⟨_, rfl, ⟨axx_74, (-1), htx_4, ctx_5, fvalx_62, rfl, ⟨(show axx_74 ≤ ln by omega), (show htx_4 ≤ 3 by omega), (show ctx_5 ≤ 3 by omega), (hf_64), (cl_end hf_7.2.2.2.1.symm (show cl_15 < 7 by omega) (hR_69.trans (itR_no (f := 1) hf_76 (by rw [cb_81]; exact itK_59 _))) (fun q => q.2 cb_81)).1, (cl_end hf_7.2.2.2.1.symm (show cl_15 < 7 by omega) (hR_69.trans (itR_no (f := 1) hf_76 (by rw [cb_81]; exact itK_59 _))) (fun q => q.2 cb_81)).2.1, (fun _ => ⟨(cl_end hf_7.2.2.2.1.symm (show cl_15 < 7 by omega) (hR_69.trans (itR_no (f := 1) hf_76 (by rw [cb_81]; exact itK_59 _))) (fun q => q.2 cb_81)).2.2, show ax < axx_74 by omega⟩), (fun _ => ((clW_cl hf_7.2.2.2.1.symm (show cl_15 < 7 by omega)).trans (hW_71.trans (itW_no (f := 1) hf_76 (by rw [cb_81]; exact itK_59 _)))).symm)⟩⟩, by rw [htS]; exact hP9, hD9⟩, hS.F htS⟩) hS.2.2 dX4_readClause_52
                  · skip
                    have hP9 := hP; have hD9 := hD
                    subst hQ
                    refine W.widen (k := 0) (n := 0) (Nat.le_of_ble_eq_true rfl) (Nat.le_of_ble_eq_true rfl) ?_
                    exact W.vret hx hb hr (fun tS htS _ => ⟨⟨_, rfl, ⟨axx_60, zfax_61, htx_4, ctx_5, fvalx_62, rfl, ⟨(show axx_60 ≤ ln by omega), (show htx_4 ≤ 3 by omega), (show ctx_5 ≤ 3 by omega), (hf_64), (cl_num hf_7.2.2.2.1.symm (show cl_15 < 7 by omega) ((congrArg Prod.fst hR_43).trans ((itR_w (f := 2) (q := 1) hf_50 (show axx_48 < ln by omega) qi_58 (by decide) (by decide) (fun q => cb_67 (hf_65.trans q))).trans hf_65.symm)) cb_67).1, (cl_num hf_7.2.2.2.1.symm (show cl_15 < 7 by omega) ((congrArg Prod.fst hR_43).trans ((itR_w (f := 2) (q := 1) hf_50 (show axx_48 < ln by omega) qi_58 (by decide) (by decide) (fun q => cb_67 (hf_65.trans q))).trans hf_65.symm)) cb_67).2, (fun q => absurd q cb_67), (fun q => absurd q cb_67)⟩⟩, by rw [htS]; exact hP9, hD9⟩, hS.F htS⟩) hS.2.2 dX4_readClause_127
                · skip
                  refine lv_eqi (y := 2) (qi_58) ?_
                  refine lv_istore (lv' := [(5, .int 2), (4, .int 1), (3, .int 1), (2, .int (nI cl_15)), (0, .ref Rd), (1, .int zf)]) hx hb dX4_readClause_69 hl (by decide) rfl (fun ls hl => ?_)
                  refine lv_iload hx hb dX4_readClause_71 (lv_at hl 0 rfl) ?_
                  refine lv_iconst (v := (-1)) hx hb dX4_readClause_73 (by decide) ?_
                  refine lv_icmp_eq (tgt := 86) hx hb dX4_readClause_74 (by decide) (fun cb => absurd cb (by decide)) (fun _ => ?_)
                  refine lv_iload_n hx hb dX4_readClause_77 rfl (lv_at hl 2 rfl) ?_
                  refine lv_iconst (v := 1) hx hb dX4_readClause_78 (by decide) ?_
                  refine lv_iload hx hb dX4_readClause_79 (lv_at hl 0 rfl) ?_
                  refine lv_ishl hx hb dX4_readClause_81 ?_
                  refine lv_eqi (y := 4) (by decide) ?_
                  refine lv_iand hx hb dX4_readClause_82 ?_
                  refine lv_eqi (y := 0) (by decide) ?_
                  refine lv_if_eq (tgt := 95) hx hb dX4_readClause_83 (by decide) (fun _ => ?_) (fun cb => absurd (by decide) cb)
                  refine lv_iload_n hx hb dX4_readClause_95 rfl (lv_at hl 2 rfl) ?_
                  refine lv_iconst (v := 1) hx hb dX4_readClause_96 (by decide) ?_
                  refine lv_iload hx hb dX4_readClause_97 (lv_at hl 0 rfl) ?_
                  refine lv_ishl hx hb dX4_readClause_99 ?_
                  refine lv_eqi (y := 4) (by decide) ?_
                  refine lv_ior hx hb dX4_readClause_100 ?_
                  refine lv_eqi (y := 5) (by decide) ?_
                  refine lv_istore_n (lv' := [(3, .int 5), (5, .int 2), (4, .int 1), (2, .int (nI cl_15)), (0, .ref Rd), (1, .int zf)]) hx hb dX4_readClause_101 rfl hl (by decide) rfl (fun ls hl => ?_)
                  refine lv_aload_n hx hb dX4_readClause_102 rfl (lv_at hl 4 rfl) ?_
                  refine lv_dup hx hb dX4_readClause_103 rfl ?_
                  refine va_get (D := D) (ci := 4) (v := .int (nI axx_48)) (C := RX4) (T := TX4) (N := 7) hx hb hts iX4 hown hK hP 1 rfl rfl 2 (by decide) f28 (fun _ h9 => h9) rfl dX4_readClause_104 ?_
                  refine lv_iconst (v := 1) hx hb dX4_readClause_107 (by decide) ?_
                  refine lv_iadd hx hb dX4_readClause_108 ?_
                  refine lv_eqi (y := (nI (axx_48 + 1))) (nI_add (axx_48) (1)) ?_
                  refine va_put (D := D) (ci := 4) (v := .int (nI (axx_48 + 1))) (ty := .int) (C := RX4) (T := TX4) (N := 7) hx hb hts iX4 tyX4 tyX4_ok nmX4 hown hK hP hD hS 1 rfl rfl 2 (by decide) f28 (fun _ h9 => h9) rfl (by decide +kernel) (rfl) (rfl) (Nat.le_of_ble_eq_true rfl) dX4_readClause_109 (fun H locs hP2 hD2 hS2 => ?_)
                  clear hP hD hS
                  have hPD : PD D A [(Rv, .inl (g 0, 21, .inl fvalx_36)), (Rd, .inr (4, [.ref Tp, .int (nI ln), .int (nI (axx_48 + 1)), .int (-1), .int (nI htx_4), .int (nI ctx_5), .ref Rv])), (Tp, .inl (g 0, 160, .inl ftp))] H := ⟨hP2, hD2⟩
                  have hS := hS2; clear hP2 hD2 hS2; have hP := hPD.1; have hD := hPD.2; clear hPD
                  refine lv_aload_n hx hb dX4_readClause_112 rfl (lv_at hl 4 rfl) ?_
                  refine lv_iload_n hx hb dX4_readClause_113 rfl (lv_at hl 3 rfl) ?_
                  refine lv_iload hx hb dX4_readClause_114 (lv_at hl 1 rfl) ?_
                  refine ky_Vv (As := [.int (nI cl_15), .int 2]) (rest := []) ⟨hx, hb, hml, hown, hts⟩ ⟨hK, hN⟩ hZ hP hD hS hA [1, 2, 0] [] (wc := [(Rd, .inr (4, [.ref Tp, .int (nI ln), .int (nI (axx_48 + 1)), .int (-1), .int (nI htx_4), .int (nI ctx_5), .ref Rv])), (Tp, .inl (g 0, 160, .inl ftp)), (Rv, .inl (g 0, 21, .inl fvalx_36))]) (wr := []) rfl rfl rfl rfl (by decide) (r_X4_readNumber l D g H.size Rd cl_15 2 Tp ln (axx_48 + 1) htx_4 ctx_5 Rv ftp fvalx_36 (show ln ≤ 160 by omega) (show (axx_48 + 1) ≤ ln by omega) (hf_38) (show cl_15 < 7 by omega) (show 2 < 3 by omega)) (cwV 2 hts gX4_readClause_X4_readNumber rfl rfl rfl (by decide +kernel) ⟨(Nat.le_of_ble_eq_true rfl), (Nat.le_of_ble_eq_true rfl)⟩) 1 4 rfl rfl rfl rfl hl.1 rfl (Nat.le_of_ble_eq_true rfl) dX4_readClause_116 ⟨(Nat.le_of_ble_eq_true rfl), (Nat.le_of_ble_eq_true rfl)⟩ (fun u H locs hw hP2 hD2 hS2 => ?_)
                  clear hP hD hS
                  obtain ⟨axx_112, zfax_113, fvalx_114, rfl, hf_115, hf_116, hf_117, hf_118⟩ := hw
                  have hPD : PD D A [(Rd, .inr (4, [.ref Tp, .int (nI ln), .int (nI axx_112), .int zfax_113, .int (nI htx_4), .int (nI ctx_5), .ref Rv])), (Tp, .inl (g 0, 160, .inl ftp)), (Rv, .inl (g 0, 21, .inl fvalx_114))] H := ⟨hP2, hD2⟩
                  have hS := hS2; clear hP2 hD2 hS2; have hP := hPD.1; have hD := hPD.2; clear hPD
                  refine W.widen (k := 0) (n := 0) (Nat.le_of_ble_eq_true rfl) (Nat.le_of_ble_eq_true rfl) ?_
                  refine lv_aload_n hx hb dX4_readClause_119 rfl (lv_at hl 4 rfl) ?_
                  refine va_get (D := D) (ci := 4) (v := .int zfax_113) (C := RX4) (T := TX4) (N := 7) hx hb hts iX4 hown hK hP 0 rfl rfl 3 (by decide) f31 (fun _ h9 => h9) rfl dX4_readClause_120 ?_
                  refine lv_iconst (v := (-1)) hx hb dX4_readClause_123 (by decide) ?_
                  refine lv_icmp_eq (tgt := 128) hx hb dX4_readClause_124 (by decide) (fun cb_119 => ?_) (fun cb_119 => ?_)
                  · skip
                    have hPq_120 := hP; have hDq_120 := hD; have hSq_120 := hS; have hlq_120 := hl; clear hP hD hS hl
                    subst cb_119
                    have hP := hPq_120; have hD := hDq_120; have hS := hSq_120; have hl := hlq_120; clear hPq_120 hDq_120 hSq_120 hlq_120
                    have hne_122 := (hf_118 rfl).1
                    have hne_122g := nmE_gt (T := ftp) (n := ln) (i := axx_48 + 1) (by omega)
                    have hR_121 : itR ftp ln (kdN cl_15) 4 0 (sB ftp ln ax + 1) = itR ftp ln (kdN cl_15) 2 5 axx_112 := hR_43.trans ((itR_go (f := 2) (m := 1) (q := 2) hf_50 (show axx_48 < ln by omega) qi_58 (by decide) (by decide) hf_117.symm).trans (by rw [hne_122]))
                    have hnv_124 := hf_118 rfl
                    have hW_123 : itW ftp ln (kdN cl_15) (3 * cl_15) 4 0 (sB ftp ln ax + 1) fval = itW ftp ln (kdN cl_15) (3 * cl_15) 2 5 axx_112 fvalx_114 := hW_45.trans ((itW_go (f := 2) (m := 1) (q := 2) hf_50 (show axx_48 < ln by omega) qi_58 (by decide) (by decide) hf_117.symm).trans (by rw [hnv_124.1, hnv_124.2]))
                    refine lv_iinc (v := 2) (lv' := [(4, .int 2), (3, .int 5), (5, .int 2), (2, .int (nI cl_15)), (0, .ref Rd), (1, .int zf)]) hx hb dX4_readClause_128 hl (k := 2) rfl (by decide) (by decide) rfl (fun ls hl => ?_)
                    refine lv_goto (tgt := 17) hx hb dX4_readClause_131 (by decide) ?_
                    refine lv_iload hx hb dX4_readClause_17 (lv_at hl 0 rfl) ?_
                    refine lv_iconst (v := 3) hx hb dX4_readClause_19 (by decide) ?_
                    refine lv_icmp_gt (tgt := 134) hx hb dX4_readClause_20 (by decide) (fun cb => absurd cb (by decide)) (fun _ => ?_)
                    refine lv_aload_n hx hb dX4_readClause_23 rfl (lv_at hl 4 rfl) ?_
                    refine ky_Vv (As := []) (rest := []) ⟨hx, hb, hml, hown, hts⟩ ⟨hK, hN⟩ hZ hP hD hS hA [0, 1] [2] (wc := [(Rd, .inr (4, [.ref Tp, .int (nI ln), .int (nI axx_112), .int (-1), .int (nI htx_4), .int (nI ctx_5), .ref Rv])), (Tp, .inl (g 0, 160, .inl ftp))]) (wr := [(Rv, .inl (g 0, 21, .inl fvalx_114))]) rfl rfl rfl rfl (by decide) (r_X4_passBlanks l D g H.size Rd Tp ln axx_112 (-1) htx_4 ctx_5 Rv ftp (show ln ≤ 160 by omega) (show axx_112 ≤ ln by omega)) (cwV 0 hts gX4_readClause_X4_passBlanks rfl rfl rfl (by decide +kernel) ⟨(Nat.le_of_ble_eq_true rfl), (Nat.le_of_ble_eq_true rfl)⟩) 0 4 rfl rfl rfl rfl hl.1 rfl (Nat.le_of_ble_eq_true rfl) dX4_readClause_24 ⟨(Nat.le_of_ble_eq_true rfl), (Nat.le_of_ble_eq_true rfl)⟩ (fun u H locs hw hP2 hD2 hS2 => ?_)
                    clear hP hD hS
                    obtain ⟨axx_126, rfl, hf_127, hf_128⟩ := hw
                    have hPD : PD D A [(Rv, .inl (g 0, 21, .inl fvalx_114)), (Rd, .inr (4, [.ref Tp, .int (nI ln), .int (nI axx_126), .int (-1), .int (nI htx_4), .int (nI ctx_5), .ref Rv])), (Tp, .inl (g 0, 160, .inl ftp))] H := ⟨hP2, hD2⟩
                    have hS := hS2; clear hP2 hD2 hS2; have hP := hPD.1; have hD := hPD.2; clear hPD
                    refine W.widen (k := 0) (n := 0) (Nat.le_of_ble_eq_true rfl) (Nat.le_of_ble_eq_true rfl) ?_
                    have hge_129 := sB_ge (T := ftp) (n := ln) (i := axx_112) (by omega)
                    refine lv_aload_n hx hb dX4_readClause_27 rfl (lv_at hl 4 rfl) ?_
                    refine va_get (D := D) (ci := 4) (v := .int (nI axx_126)) (C := RX4) (T := TX4) (N := 7) hx hb hts iX4 hown hK hP 1 rfl rfl 2 (by decide) f28 (fun _ h9 => h9) rfl dX4_readClause_28 ?_
                    refine lv_aload_n hx hb dX4_readClause_31 rfl (lv_at hl 4 rfl) ?_
                    refine va_get (D := D) (ci := 4) (v := .int (nI ln)) (C := RX4) (T := TX4) (N := 7) hx hb hts iX4 hown hK hP 1 rfl rfl 1 (by decide) f24 (fun _ h9 => h9) rfl dX4_readClause_32 ?_
                    refine lv_icmp_ge (tgt := 52) hx hb dX4_readClause_35 (by decide) (fun cb_130 => ?_) (fun cb_130 => ?_)
                    · skip
                      have cn_131 : ln ≤ axx_126 := (nI_leI (show ln < 2 ^ 31 by omega) (show axx_126 < 2 ^ 31 by omega)).mp cb_130
                      have hPD9 : PD D A [(Rd, .inr (4, [.ref Tp, .int (nI ln), .int (nI axx_126), .int (-1), .int (nI htx_4), .int (nI ctx_5), .ref Rv])), (Tp, .inl (g 0, 160, .inl ftp)), (Rv, .inl (g 0, 21, .inl fvalx_114))] H := ⟨hP.sub [1, 2, 0] rfl, hD.sub [1, 2, 0] (by decide) rfl⟩
                      have hP9 := hPD9.1; have hD9 := hPD9.2
                      subst hQ
                      refine W.widen (k := 0) (n := 0) (Nat.le_of_ble_eq_true rfl) (Nat.le_of_ble_eq_true rfl) ?_
                      exact W.vret hx hb hr (fun tS htS _ => ⟨⟨_, rfl, ⟨axx_126, (-1), htx_4, ctx_5, fvalx_114, rfl, ⟨(show axx_126 ≤ ln by omega), (show htx_4 ≤ 3 by omega), (show ctx_5 ≤ 3 by omega), (hf_116), (cl_end hf_7.2.2.2.1.symm (show cl_15 < 7 by omega) (hR_121.trans (itR_end (f := 1) hf_128 (show ¬ axx_126 < ln by omega))) (fun q => absurd q.1 (show ¬ axx_126 < ln by omega))).1, (cl_end hf_7.2.2.2.1.symm (show cl_15 < 7 by omega) (hR_121.trans (itR_end (f := 1) hf_128 (show ¬ axx_126 < ln by omega))) (fun q => absurd q.1 (show ¬ axx_126 < ln by omega))).2.1, (fun _ => ⟨(cl_end hf_7.2.2.2.1.symm (show cl_15 < 7 by omega) (hR_121.trans (itR_end (f := 1) hf_128 (show ¬ axx_126 < ln by omega))) (fun q => absurd q.1 (show ¬ axx_126 < ln by omega))).2.2, show ax < axx_126 by omega⟩), (fun _ => ((clW_cl hf_7.2.2.2.1.symm (show cl_15 < 7 by omega)).trans (hW_123.trans (itW_end (f := 1) hf_128 (show ¬ axx_126 < ln by omega)))).symm)⟩⟩, by rw [htS]; exact hP9, hD9⟩, hS.F htS⟩) hS.2.2 dX4_readClause_52
                    · skip
                      have cn_132 : axx_126 < ln := Nat.lt_of_not_le (fun q9 => cb_130 ((nI_leI (show ln < 2 ^ 31 by omega) (show axx_126 < 2 ^ 31 by omega)).mpr q9))
                      refine lv_aload_n hx hb dX4_readClause_38 rfl (lv_at hl 4 rfl) ?_
                      refine va_get (D := D) (ci := 4) (v := .ref Tp) (C := RX4) (T := TX4) (N := 7) hx hb hts iX4 hown hK hP 1 rfl rfl 0 (by decide) f9 (fun _ h9 => h9) rfl dX4_readClause_39 ?_
                      refine lv_aload_n hx hb dX4_readClause_42 rfl (lv_at hl 4 rfl) ?_
                      refine va_get (D := D) (ci := 4) (v := .int (nI axx_126)) (C := RX4) (T := TX4) (N := 7) hx hb hts iX4 hown hK hP 1 rfl rfl 2 (by decide) f28 (fun _ h9 => h9) rfl dX4_readClause_43 ?_
                      refine va_iald hx hb hK hP 2 0 rfl rfl (vp_in_nI (show axx_126 < 160 by omega) (by decide)) dX4_readClause_46 ?_
                      refine lv_eqi (y := (ftp (axx_126))) (congrArg ftp (nI_clamp (show axx_126 < 2 ^ 31 by omega))) ?_
                      refine lv_bipush (v := 59) hx hb dX4_readClause_47 (by decide) ?_
                      refine lv_icmp_ne (tgt := 53) hx hb dX4_readClause_49 (by decide) (fun cb_133 => ?_) (fun cb_133 => ?_)
                      · skip
                        refine lv_iload_n hx hb dX4_readClause_53 rfl (lv_at hl 3 rfl) ?_
                        refine ky_Si (As := [.int (nI cl_15)]) (rest := []) ⟨hx, hb, hml, hown, hts⟩ ⟨hK, hN⟩ hZ hP hD hS hA [] [0, 1, 2] (wc := []) (wr := [(Rv, .inl (g 0, 21, .inl fvalx_114)), (Rd, .inr (4, [.ref Tp, .int (nI ln), .int (nI axx_126), .int (-1), .int (nI htx_4), .int (nI ctx_5), .ref Rv])), (Tp, .inl (g 0, 160, .inl ftp))]) rfl rfl rfl rfl (by decide) (r_X4_kindOf l D g H.size cl_15 (show cl_15 < 7 by omega)) (va_cwS 1 hts gX4_readClause_X4_kindOf rfl rfl rfl (by decide +kernel) ⟨(Nat.le_of_ble_eq_true rfl), (Nat.le_of_ble_eq_true rfl)⟩) rfl hl.1 rfl (Nat.le_of_ble_eq_true rfl) dX4_readClause_54 ⟨(Nat.le_of_ble_eq_true rfl), (Nat.le_of_ble_eq_true rfl)⟩ (fun r_134 u H locs hw hP2 hD2 hS2 => ?_)
                        clear hP hD hS
                        obtain ⟨rfl, rfl⟩ := hw
                        have hPD : PD D A [(Rv, .inl (g 0, 21, .inl fvalx_114)), (Rd, .inr (4, [.ref Tp, .int (nI ln), .int (nI axx_126), .int (-1), .int (nI htx_4), .int (nI ctx_5), .ref Rv])), (Tp, .inl (g 0, 160, .inl ftp))] H := ⟨hP2, hD2⟩
                        have hS := hS2; clear hP2 hD2 hS2; have hP := hPD.1; have hD := hPD.2; clear hPD
                        refine W.widen (k := 0) (n := 0) (Nat.le_of_ble_eq_true rfl) (Nat.le_of_ble_eq_true rfl) ?_
                        refine lv_aload_n hx hb dX4_readClause_57 rfl (lv_at hl 4 rfl) ?_
                        refine va_get (D := D) (ci := 4) (v := .ref Tp) (C := RX4) (T := TX4) (N := 7) hx hb hts iX4 hown hK hP 1 rfl rfl 0 (by decide) f9 (fun _ h9 => h9) rfl dX4_readClause_58 ?_
                        refine lv_aload_n hx hb dX4_readClause_61 rfl (lv_at hl 4 rfl) ?_
                        refine va_get (D := D) (ci := 4) (v := .int (nI axx_126)) (C := RX4) (T := TX4) (N := 7) hx hb hts iX4 hown hK hP 1 rfl rfl 2 (by decide) f28 (fun _ h9 => h9) rfl dX4_readClause_62 ?_
                        refine va_iald hx hb hK hP 2 0 rfl rfl (vp_in_nI (show axx_126 < 160 by omega) (by decide)) dX4_readClause_65 ?_
                        refine lv_eqi (y := (ftp (axx_126))) (congrArg ftp (nI_clamp (show axx_126 < 2 ^ 31 by omega))) ?_
                        refine ky_Si (As := [.int (nI (kdN cl_15)), .int (ftp (axx_126))]) (rest := []) ⟨hx, hb, hml, hown, hts⟩ ⟨hK, hN⟩ hZ hP hD hS hA [] [0, 1, 2] (wc := []) (wr := [(Rv, .inl (g 0, 21, .inl fvalx_114)), (Rd, .inr (4, [.ref Tp, .int (nI ln), .int (nI axx_126), .int (-1), .int (nI htx_4), .int (nI ctx_5), .ref Rv])), (Tp, .inl (g 0, 160, .inl ftp))]) rfl rfl rfl rfl (by decide) (r_X4_itemOf l D g H.size (kdN cl_15) (ftp (axx_126)) (show (kdN cl_15) < 3 by omega)) (va_cwS 2 hts gX4_readClause_X4_itemOf rfl rfl rfl (by decide +kernel) ⟨(Nat.le_of_ble_eq_true rfl), (Nat.le_of_ble_eq_true rfl)⟩) rfl hl.1 rfl (Nat.le_of_ble_eq_true rfl) dX4_readClause_66 ⟨(Nat.le_of_ble_eq_true rfl), (Nat.le_of_ble_eq_true rfl)⟩ (fun r_135 u H locs hw hP2 hD2 hS2 => ?_)
                        clear hP hD hS
                        obtain ⟨rfl, rfl⟩ := hw
                        have hPD : PD D A [(Rv, .inl (g 0, 21, .inl fvalx_114)), (Rd, .inr (4, [.ref Tp, .int (nI ln), .int (nI axx_126), .int (-1), .int (nI htx_4), .int (nI ctx_5), .ref Rv])), (Tp, .inl (g 0, 160, .inl ftp))] H := ⟨hP2, hD2⟩
                        have hS := hS2; clear hP2 hD2 hS2; have hP := hPD.1; have hD := hPD.2; clear hPD
                        refine W.widen (k := 0) (n := 0) (Nat.le_of_ble_eq_true rfl) (Nat.le_of_ble_eq_true rfl) ?_
                        rcases itK_c (kdN cl_15) (ftp (axx_126)) with qi_136 | qi_136 | qi_136 | qi_136
                        · skip
                          refine lv_eqi (y := (-1)) (qi_136) ?_
                          refine lv_istore (lv' := [(5, .int (-1)), (4, .int 2), (3, .int 5), (2, .int (nI cl_15)), (0, .ref Rd), (1, .int zf)]) hx hb dX4_readClause_69 hl (by decide) rfl (fun ls hl => ?_)
                          refine lv_iload hx hb dX4_readClause_71 (lv_at hl 0 rfl) ?_
                          refine lv_iconst (v := (-1)) hx hb dX4_readClause_73 (by decide) ?_
                          refine lv_icmp_eq (tgt := 86) hx hb dX4_readClause_74 (by decide) (fun _ => ?_) (fun cb => absurd (by decide) cb)
                          refine lv_aload_n hx hb dX4_readClause_86 rfl (lv_at hl 4 rfl) ?_
                          refine lv_aload_n hx hb dX4_readClause_87 rfl (lv_at hl 4 rfl) ?_
                          refine va_get (D := D) (ci := 4) (v := .int (nI axx_126)) (C := RX4) (T := TX4) (N := 7) hx hb hts iX4 hown hK hP 1 rfl rfl 2 (by decide) f28 (fun _ h9 => h9) rfl dX4_readClause_88 ?_
                          refine va_put (D := D) (ci := 4) (v := .int (nI axx_126)) (ty := .int) (C := RX4) (T := TX4) (N := 7) hx hb hts iX4 tyX4 tyX4_ok nmX4 hown hK hP hD hS 1 rfl rfl 3 (by decide) f31 (fun _ h9 => h9) rfl (by decide +kernel) (rfl) (rfl) (Nat.le_of_ble_eq_true rfl) dX4_readClause_91 (fun H locs hP2 hD2 hS2 => ?_)
                          clear hP hD hS
                          have hPD : PD D A [(Rv, .inl (g 0, 21, .inl fvalx_114)), (Rd, .inr (4, [.ref Tp, .int (nI ln), .int (nI axx_126), .int (nI axx_126), .int (nI htx_4), .int (nI ctx_5), .ref Rv])), (Tp, .inl (g 0, 160, .inl ftp))] H := ⟨hP2, hD2⟩
                          have hS := hS2; clear hP2 hD2 hS2; have hP := hPD.1; have hD := hPD.2; clear hPD
                          have hPD9 : PD D A [(Rd, .inr (4, [.ref Tp, .int (nI ln), .int (nI axx_126), .int (nI axx_126), .int (nI htx_4), .int (nI ctx_5), .ref Rv])), (Tp, .inl (g 0, 160, .inl ftp)), (Rv, .inl (g 0, 21, .inl fvalx_114))] H := ⟨hP.sub [1, 2, 0] rfl, hD.sub [1, 2, 0] (by decide) rfl⟩
                          have hP9 := hPD9.1; have hD9 := hPD9.2
                          subst hQ
                          refine W.widen (k := 0) (n := 0) (Nat.le_of_ble_eq_true rfl) (Nat.le_of_ble_eq_true rfl) ?_
                          exact W.vret hx hb hr (fun tS htS _ => ⟨⟨_, rfl, ⟨axx_126, (nI axx_126), htx_4, ctx_5, fvalx_114, rfl, ⟨(show axx_126 ≤ ln by omega), (show htx_4 ≤ 3 by omega), (show ctx_5 ≤ 3 by omega), (hf_116), (cl_bad hf_7.2.2.2.1.symm (show cl_15 < 7 by omega) (hR_121.trans (itR_no (f := 1) hf_128 qi_136)) (show axx_126 < ln by omega) cb_133).1, (cl_bad hf_7.2.2.2.1.symm (show cl_15 < 7 by omega) (hR_121.trans (itR_no (f := 1) hf_128 qi_136)) (show axx_126 < ln by omega) cb_133).2, (fun q => absurd q (m1_ne (show axx_126 < 2 ^ 31 by omega))), (fun q => absurd q (m1_ne (show axx_126 < 2 ^ 31 by omega)))⟩⟩, by rw [htS]; exact hP9, hD9⟩, hS.F htS⟩) hS.2.2 dX4_readClause_94
                        · skip
                          refine lv_eqi (y := 0) (qi_136) ?_
                          refine lv_istore (lv' := [(5, .int 0), (4, .int 2), (3, .int 5), (2, .int (nI cl_15)), (0, .ref Rd), (1, .int zf)]) hx hb dX4_readClause_69 hl (by decide) rfl (fun ls hl => ?_)
                          refine lv_iload hx hb dX4_readClause_71 (lv_at hl 0 rfl) ?_
                          refine lv_iconst (v := (-1)) hx hb dX4_readClause_73 (by decide) ?_
                          refine lv_icmp_eq (tgt := 86) hx hb dX4_readClause_74 (by decide) (fun cb => absurd cb (by decide)) (fun _ => ?_)
                          refine lv_iload_n hx hb dX4_readClause_77 rfl (lv_at hl 2 rfl) ?_
                          refine lv_iconst (v := 1) hx hb dX4_readClause_78 (by decide) ?_
                          refine lv_iload hx hb dX4_readClause_79 (lv_at hl 0 rfl) ?_
                          refine lv_ishl hx hb dX4_readClause_81 ?_
                          refine lv_eqi (y := 1) (by decide) ?_
                          refine lv_iand hx hb dX4_readClause_82 ?_
                          refine lv_eqi (y := 1) (by decide) ?_
                          refine lv_if_eq (tgt := 95) hx hb dX4_readClause_83 (by decide) (fun cb => absurd cb (by decide)) (fun _ => ?_)
                          refine lv_aload_n hx hb dX4_readClause_86 rfl (lv_at hl 4 rfl) ?_
                          refine lv_aload_n hx hb dX4_readClause_87 rfl (lv_at hl 4 rfl) ?_
                          refine va_get (D := D) (ci := 4) (v := .int (nI axx_126)) (C := RX4) (T := TX4) (N := 7) hx hb hts iX4 hown hK hP 1 rfl rfl 2 (by decide) f28 (fun _ h9 => h9) rfl dX4_readClause_88 ?_
                          refine va_put (D := D) (ci := 4) (v := .int (nI axx_126)) (ty := .int) (C := RX4) (T := TX4) (N := 7) hx hb hts iX4 tyX4 tyX4_ok nmX4 hown hK hP hD hS 1 rfl rfl 3 (by decide) f31 (fun _ h9 => h9) rfl (by decide +kernel) (rfl) (rfl) (Nat.le_of_ble_eq_true rfl) dX4_readClause_91 (fun H locs hP2 hD2 hS2 => ?_)
                          clear hP hD hS
                          have hPD : PD D A [(Rv, .inl (g 0, 21, .inl fvalx_114)), (Rd, .inr (4, [.ref Tp, .int (nI ln), .int (nI axx_126), .int (nI axx_126), .int (nI htx_4), .int (nI ctx_5), .ref Rv])), (Tp, .inl (g 0, 160, .inl ftp))] H := ⟨hP2, hD2⟩
                          have hS := hS2; clear hP2 hD2 hS2; have hP := hPD.1; have hD := hPD.2; clear hPD
                          have hPD9 : PD D A [(Rd, .inr (4, [.ref Tp, .int (nI ln), .int (nI axx_126), .int (nI axx_126), .int (nI htx_4), .int (nI ctx_5), .ref Rv])), (Tp, .inl (g 0, 160, .inl ftp)), (Rv, .inl (g 0, 21, .inl fvalx_114))] H := ⟨hP.sub [1, 2, 0] rfl, hD.sub [1, 2, 0] (by decide) rfl⟩
                          have hP9 := hPD9.1; have hD9 := hPD9.2
                          subst hQ
                          refine W.widen (k := 0) (n := 0) (Nat.le_of_ble_eq_true rfl) (Nat.le_of_ble_eq_true rfl) ?_
                          exact W.vret hx hb hr (fun tS htS _ => ⟨⟨_, rfl, ⟨axx_126, (nI axx_126), htx_4, ctx_5, fvalx_114, rfl, ⟨(show axx_126 ≤ ln by omega), (show htx_4 ≤ 3 by omega), (show ctx_5 ≤ 3 by omega), (hf_116), (cl_bad hf_7.2.2.2.1.symm (show cl_15 < 7 by omega) (hR_121.trans (itR_again (f := 1) (q := 0) hf_128 qi_136 (by decide) (by decide))) (show axx_126 < ln by omega) cb_133).1, (cl_bad hf_7.2.2.2.1.symm (show cl_15 < 7 by omega) (hR_121.trans (itR_again (f := 1) (q := 0) hf_128 qi_136 (by decide) (by decide))) (show axx_126 < ln by omega) cb_133).2, (fun q => absurd q (m1_ne (show axx_126 < 2 ^ 31 by omega))), (fun q => absurd q (m1_ne (show axx_126 < 2 ^ 31 by omega)))⟩⟩, by rw [htS]; exact hP9, hD9⟩, hS.F htS⟩) hS.2.2 dX4_readClause_94
                        · skip
                          refine lv_eqi (y := 1) (qi_136) ?_
                          refine lv_istore (lv' := [(5, .int 1), (4, .int 2), (3, .int 5), (2, .int (nI cl_15)), (0, .ref Rd), (1, .int zf)]) hx hb dX4_readClause_69 hl (by decide) rfl (fun ls hl => ?_)
                          refine lv_iload hx hb dX4_readClause_71 (lv_at hl 0 rfl) ?_
                          refine lv_iconst (v := (-1)) hx hb dX4_readClause_73 (by decide) ?_
                          refine lv_icmp_eq (tgt := 86) hx hb dX4_readClause_74 (by decide) (fun cb => absurd cb (by decide)) (fun _ => ?_)
                          refine lv_iload_n hx hb dX4_readClause_77 rfl (lv_at hl 2 rfl) ?_
                          refine lv_iconst (v := 1) hx hb dX4_readClause_78 (by decide) ?_
                          refine lv_iload hx hb dX4_readClause_79 (lv_at hl 0 rfl) ?_
                          refine lv_ishl hx hb dX4_readClause_81 ?_
                          refine lv_eqi (y := 2) (by decide) ?_
                          refine lv_iand hx hb dX4_readClause_82 ?_
                          refine lv_eqi (y := 0) (by decide) ?_
                          refine lv_if_eq (tgt := 95) hx hb dX4_readClause_83 (by decide) (fun _ => ?_) (fun cb => absurd (by decide) cb)
                          refine lv_iload_n hx hb dX4_readClause_95 rfl (lv_at hl 2 rfl) ?_
                          refine lv_iconst (v := 1) hx hb dX4_readClause_96 (by decide) ?_
                          refine lv_iload hx hb dX4_readClause_97 (lv_at hl 0 rfl) ?_
                          refine lv_ishl hx hb dX4_readClause_99 ?_
                          refine lv_eqi (y := 2) (by decide) ?_
                          refine lv_ior hx hb dX4_readClause_100 ?_
                          refine lv_eqi (y := 7) (by decide) ?_
                          refine lv_istore_n (lv' := [(3, .int 7), (5, .int 1), (4, .int 2), (2, .int (nI cl_15)), (0, .ref Rd), (1, .int zf)]) hx hb dX4_readClause_101 rfl hl (by decide) rfl (fun ls hl => ?_)
                          refine lv_aload_n hx hb dX4_readClause_102 rfl (lv_at hl 4 rfl) ?_
                          refine lv_dup hx hb dX4_readClause_103 rfl ?_
                          refine va_get (D := D) (ci := 4) (v := .int (nI axx_126)) (C := RX4) (T := TX4) (N := 7) hx hb hts iX4 hown hK hP 1 rfl rfl 2 (by decide) f28 (fun _ h9 => h9) rfl dX4_readClause_104 ?_
                          refine lv_iconst (v := 1) hx hb dX4_readClause_107 (by decide) ?_
                          refine lv_iadd hx hb dX4_readClause_108 ?_
                          refine lv_eqi (y := (nI (axx_126 + 1))) (nI_add (axx_126) (1)) ?_
                          refine va_put (D := D) (ci := 4) (v := .int (nI (axx_126 + 1))) (ty := .int) (C := RX4) (T := TX4) (N := 7) hx hb hts iX4 tyX4 tyX4_ok nmX4 hown hK hP hD hS 1 rfl rfl 2 (by decide) f28 (fun _ h9 => h9) rfl (by decide +kernel) (rfl) (rfl) (Nat.le_of_ble_eq_true rfl) dX4_readClause_109 (fun H locs hP2 hD2 hS2 => ?_)
                          clear hP hD hS
                          have hPD : PD D A [(Rv, .inl (g 0, 21, .inl fvalx_114)), (Rd, .inr (4, [.ref Tp, .int (nI ln), .int (nI (axx_126 + 1)), .int (-1), .int (nI htx_4), .int (nI ctx_5), .ref Rv])), (Tp, .inl (g 0, 160, .inl ftp))] H := ⟨hP2, hD2⟩
                          have hS := hS2; clear hP2 hD2 hS2; have hP := hPD.1; have hD := hPD.2; clear hPD
                          refine lv_aload_n hx hb dX4_readClause_112 rfl (lv_at hl 4 rfl) ?_
                          refine lv_iload_n hx hb dX4_readClause_113 rfl (lv_at hl 3 rfl) ?_
                          refine lv_iload hx hb dX4_readClause_114 (lv_at hl 1 rfl) ?_
                          refine ky_Vv (As := [.int (nI cl_15), .int 1]) (rest := []) ⟨hx, hb, hml, hown, hts⟩ ⟨hK, hN⟩ hZ hP hD hS hA [1, 2, 0] [] (wc := [(Rd, .inr (4, [.ref Tp, .int (nI ln), .int (nI (axx_126 + 1)), .int (-1), .int (nI htx_4), .int (nI ctx_5), .ref Rv])), (Tp, .inl (g 0, 160, .inl ftp)), (Rv, .inl (g 0, 21, .inl fvalx_114))]) (wr := []) rfl rfl rfl rfl (by decide) (r_X4_readNumber l D g H.size Rd cl_15 1 Tp ln (axx_126 + 1) htx_4 ctx_5 Rv ftp fvalx_114 (show ln ≤ 160 by omega) (show (axx_126 + 1) ≤ ln by omega) (hf_116) (show cl_15 < 7 by omega) (show 1 < 3 by omega)) (cwV 2 hts gX4_readClause_X4_readNumber rfl rfl rfl (by decide +kernel) ⟨(Nat.le_of_ble_eq_true rfl), (Nat.le_of_ble_eq_true rfl)⟩) 1 4 rfl rfl rfl rfl hl.1 rfl (Nat.le_of_ble_eq_true rfl) dX4_readClause_116 ⟨(Nat.le_of_ble_eq_true rfl), (Nat.le_of_ble_eq_true rfl)⟩ (fun u H locs hw hP2 hD2 hS2 => ?_)
                          clear hP hD hS
                          obtain ⟨axx_138, zfax_139, fvalx_140, rfl, hf_141, hf_142, hf_143, hf_144⟩ := hw
                          have hPD : PD D A [(Rd, .inr (4, [.ref Tp, .int (nI ln), .int (nI axx_138), .int zfax_139, .int (nI htx_4), .int (nI ctx_5), .ref Rv])), (Tp, .inl (g 0, 160, .inl ftp)), (Rv, .inl (g 0, 21, .inl fvalx_140))] H := ⟨hP2, hD2⟩
                          have hS := hS2; clear hP2 hD2 hS2; have hP := hPD.1; have hD := hPD.2; clear hPD
                          refine W.widen (k := 0) (n := 0) (Nat.le_of_ble_eq_true rfl) (Nat.le_of_ble_eq_true rfl) ?_
                          refine lv_aload_n hx hb dX4_readClause_119 rfl (lv_at hl 4 rfl) ?_
                          refine va_get (D := D) (ci := 4) (v := .int zfax_139) (C := RX4) (T := TX4) (N := 7) hx hb hts iX4 hown hK hP 0 rfl rfl 3 (by decide) f31 (fun _ h9 => h9) rfl dX4_readClause_120 ?_
                          refine lv_iconst (v := (-1)) hx hb dX4_readClause_123 (by decide) ?_
                          refine lv_icmp_eq (tgt := 128) hx hb dX4_readClause_124 (by decide) (fun cb_145 => ?_) (fun cb_145 => ?_)
                          · skip
                            have hPq_146 := hP; have hDq_146 := hD; have hSq_146 := hS; have hlq_146 := hl; clear hP hD hS hl
                            subst cb_145
                            have hP := hPq_146; have hD := hDq_146; have hS := hSq_146; have hl := hlq_146; clear hPq_146 hDq_146 hSq_146 hlq_146
                            have hne_148 := (hf_144 rfl).1
                            have hne_148g := nmE_gt (T := ftp) (n := ln) (i := axx_126 + 1) (by omega)
                            have hR_147 : itR ftp ln (kdN cl_15) 4 0 (sB ftp ln ax + 1) = itR ftp ln (kdN cl_15) 1 7 axx_138 := hR_121.trans ((itR_go (f := 1) (m := 5) (q := 1) hf_128 (show axx_126 < ln by omega) qi_136 (by decide) (by decide) hf_143.symm).trans (by rw [hne_148]))
                            have hnv_150 := hf_144 rfl
                            have hW_149 : itW ftp ln (kdN cl_15) (3 * cl_15) 4 0 (sB ftp ln ax + 1) fval = itW ftp ln (kdN cl_15) (3 * cl_15) 1 7 axx_138 fvalx_140 := hW_123.trans ((itW_go (f := 1) (m := 5) (q := 1) hf_128 (show axx_126 < ln by omega) qi_136 (by decide) (by decide) hf_143.symm).trans (by rw [hnv_150.1, hnv_150.2]))
                            refine lv_iinc (v := 3) (lv' := [(4, .int 3), (3, .int 7), (5, .int 1), (2, .int (nI cl_15)), (0, .ref Rd), (1, .int zf)]) hx hb dX4_readClause_128 hl (k := 2) rfl (by decide) (by decide) rfl (fun ls hl => ?_)
                            refine lv_goto (tgt := 17) hx hb dX4_readClause_131 (by decide) ?_
                            refine lv_iload hx hb dX4_readClause_17 (lv_at hl 0 rfl) ?_
                            refine lv_iconst (v := 3) hx hb dX4_readClause_19 (by decide) ?_
                            refine lv_icmp_gt (tgt := 134) hx hb dX4_readClause_20 (by decide) (fun cb => absurd cb (by decide)) (fun _ => ?_)
                            refine lv_aload_n hx hb dX4_readClause_23 rfl (lv_at hl 4 rfl) ?_
                            refine ky_Vv (As := []) (rest := []) ⟨hx, hb, hml, hown, hts⟩ ⟨hK, hN⟩ hZ hP hD hS hA [0, 1] [2] (wc := [(Rd, .inr (4, [.ref Tp, .int (nI ln), .int (nI axx_138), .int (-1), .int (nI htx_4), .int (nI ctx_5), .ref Rv])), (Tp, .inl (g 0, 160, .inl ftp))]) (wr := [(Rv, .inl (g 0, 21, .inl fvalx_140))]) rfl rfl rfl rfl (by decide) (r_X4_passBlanks l D g H.size Rd Tp ln axx_138 (-1) htx_4 ctx_5 Rv ftp (show ln ≤ 160 by omega) (show axx_138 ≤ ln by omega)) (cwV 0 hts gX4_readClause_X4_passBlanks rfl rfl rfl (by decide +kernel) ⟨(Nat.le_of_ble_eq_true rfl), (Nat.le_of_ble_eq_true rfl)⟩) 0 4 rfl rfl rfl rfl hl.1 rfl (Nat.le_of_ble_eq_true rfl) dX4_readClause_24 ⟨(Nat.le_of_ble_eq_true rfl), (Nat.le_of_ble_eq_true rfl)⟩ (fun u H locs hw hP2 hD2 hS2 => ?_)
                            clear hP hD hS
                            obtain ⟨axx_152, rfl, hf_153, hf_154⟩ := hw
                            have hPD : PD D A [(Rv, .inl (g 0, 21, .inl fvalx_140)), (Rd, .inr (4, [.ref Tp, .int (nI ln), .int (nI axx_152), .int (-1), .int (nI htx_4), .int (nI ctx_5), .ref Rv])), (Tp, .inl (g 0, 160, .inl ftp))] H := ⟨hP2, hD2⟩
                            have hS := hS2; clear hP2 hD2 hS2; have hP := hPD.1; have hD := hPD.2; clear hPD
                            refine W.widen (k := 0) (n := 0) (Nat.le_of_ble_eq_true rfl) (Nat.le_of_ble_eq_true rfl) ?_
                            have hge_155 := sB_ge (T := ftp) (n := ln) (i := axx_138) (by omega)
                            refine lv_aload_n hx hb dX4_readClause_27 rfl (lv_at hl 4 rfl) ?_
                            refine va_get (D := D) (ci := 4) (v := .int (nI axx_152)) (C := RX4) (T := TX4) (N := 7) hx hb hts iX4 hown hK hP 1 rfl rfl 2 (by decide) f28 (fun _ h9 => h9) rfl dX4_readClause_28 ?_
                            refine lv_aload_n hx hb dX4_readClause_31 rfl (lv_at hl 4 rfl) ?_
                            refine va_get (D := D) (ci := 4) (v := .int (nI ln)) (C := RX4) (T := TX4) (N := 7) hx hb hts iX4 hown hK hP 1 rfl rfl 1 (by decide) f24 (fun _ h9 => h9) rfl dX4_readClause_32 ?_
                            refine lv_icmp_ge (tgt := 52) hx hb dX4_readClause_35 (by decide) (fun cb_156 => ?_) (fun cb_156 => ?_)
                            · skip
                              have cn_157 : ln ≤ axx_152 := (nI_leI (show ln < 2 ^ 31 by omega) (show axx_152 < 2 ^ 31 by omega)).mp cb_156
                              have hPD9 : PD D A [(Rd, .inr (4, [.ref Tp, .int (nI ln), .int (nI axx_152), .int (-1), .int (nI htx_4), .int (nI ctx_5), .ref Rv])), (Tp, .inl (g 0, 160, .inl ftp)), (Rv, .inl (g 0, 21, .inl fvalx_140))] H := ⟨hP.sub [1, 2, 0] rfl, hD.sub [1, 2, 0] (by decide) rfl⟩
                              have hP9 := hPD9.1; have hD9 := hPD9.2
                              subst hQ
                              refine W.widen (k := 0) (n := 0) (Nat.le_of_ble_eq_true rfl) (Nat.le_of_ble_eq_true rfl) ?_
                              exact W.vret hx hb hr (fun tS htS _ => ⟨⟨_, rfl, ⟨axx_152, (-1), htx_4, ctx_5, fvalx_140, rfl, ⟨(show axx_152 ≤ ln by omega), (show htx_4 ≤ 3 by omega), (show ctx_5 ≤ 3 by omega), (hf_142), (cl_end hf_7.2.2.2.1.symm (show cl_15 < 7 by omega) (hR_147.trans (itR_end (f := 0) hf_154 (show ¬ axx_152 < ln by omega))) (fun q => absurd q.1 (show ¬ axx_152 < ln by omega))).1, (cl_end hf_7.2.2.2.1.symm (show cl_15 < 7 by omega) (hR_147.trans (itR_end (f := 0) hf_154 (show ¬ axx_152 < ln by omega))) (fun q => absurd q.1 (show ¬ axx_152 < ln by omega))).2.1, (fun _ => ⟨(cl_end hf_7.2.2.2.1.symm (show cl_15 < 7 by omega) (hR_147.trans (itR_end (f := 0) hf_154 (show ¬ axx_152 < ln by omega))) (fun q => absurd q.1 (show ¬ axx_152 < ln by omega))).2.2, show ax < axx_152 by omega⟩), (fun _ => ((clW_cl hf_7.2.2.2.1.symm (show cl_15 < 7 by omega)).trans (hW_149.trans (itW_end (f := 0) hf_154 (show ¬ axx_152 < ln by omega)))).symm)⟩⟩, by rw [htS]; exact hP9, hD9⟩, hS.F htS⟩) hS.2.2 dX4_readClause_52
                            · skip
                              have cn_158 : axx_152 < ln := Nat.lt_of_not_le (fun q9 => cb_156 ((nI_leI (show ln < 2 ^ 31 by omega) (show axx_152 < 2 ^ 31 by omega)).mpr q9))
                              refine lv_aload_n hx hb dX4_readClause_38 rfl (lv_at hl 4 rfl) ?_
                              refine va_get (D := D) (ci := 4) (v := .ref Tp) (C := RX4) (T := TX4) (N := 7) hx hb hts iX4 hown hK hP 1 rfl rfl 0 (by decide) f9 (fun _ h9 => h9) rfl dX4_readClause_39 ?_
                              refine lv_aload_n hx hb dX4_readClause_42 rfl (lv_at hl 4 rfl) ?_
                              refine va_get (D := D) (ci := 4) (v := .int (nI axx_152)) (C := RX4) (T := TX4) (N := 7) hx hb hts iX4 hown hK hP 1 rfl rfl 2 (by decide) f28 (fun _ h9 => h9) rfl dX4_readClause_43 ?_
                              refine va_iald hx hb hK hP 2 0 rfl rfl (vp_in_nI (show axx_152 < 160 by omega) (by decide)) dX4_readClause_46 ?_
                              refine lv_eqi (y := (ftp (axx_152))) (congrArg ftp (nI_clamp (show axx_152 < 2 ^ 31 by omega))) ?_
                              refine lv_bipush (v := 59) hx hb dX4_readClause_47 (by decide) ?_
                              refine lv_icmp_ne (tgt := 53) hx hb dX4_readClause_49 (by decide) (fun cb_159 => ?_) (fun cb_159 => ?_)
                              · skip
                                refine lv_iload_n hx hb dX4_readClause_53 rfl (lv_at hl 3 rfl) ?_
                                refine ky_Si (As := [.int (nI cl_15)]) (rest := []) ⟨hx, hb, hml, hown, hts⟩ ⟨hK, hN⟩ hZ hP hD hS hA [] [0, 1, 2] (wc := []) (wr := [(Rv, .inl (g 0, 21, .inl fvalx_140)), (Rd, .inr (4, [.ref Tp, .int (nI ln), .int (nI axx_152), .int (-1), .int (nI htx_4), .int (nI ctx_5), .ref Rv])), (Tp, .inl (g 0, 160, .inl ftp))]) rfl rfl rfl rfl (by decide) (r_X4_kindOf l D g H.size cl_15 (show cl_15 < 7 by omega)) (va_cwS 1 hts gX4_readClause_X4_kindOf rfl rfl rfl (by decide +kernel) ⟨(Nat.le_of_ble_eq_true rfl), (Nat.le_of_ble_eq_true rfl)⟩) rfl hl.1 rfl (Nat.le_of_ble_eq_true rfl) dX4_readClause_54 ⟨(Nat.le_of_ble_eq_true rfl), (Nat.le_of_ble_eq_true rfl)⟩ (fun r_160 u H locs hw hP2 hD2 hS2 => ?_)
                                clear hP hD hS
                                obtain ⟨rfl, rfl⟩ := hw
                                have hPD : PD D A [(Rv, .inl (g 0, 21, .inl fvalx_140)), (Rd, .inr (4, [.ref Tp, .int (nI ln), .int (nI axx_152), .int (-1), .int (nI htx_4), .int (nI ctx_5), .ref Rv])), (Tp, .inl (g 0, 160, .inl ftp))] H := ⟨hP2, hD2⟩
                                have hS := hS2; clear hP2 hD2 hS2; have hP := hPD.1; have hD := hPD.2; clear hPD
                                refine W.widen (k := 0) (n := 0) (Nat.le_of_ble_eq_true rfl) (Nat.le_of_ble_eq_true rfl) ?_
                                refine lv_aload_n hx hb dX4_readClause_57 rfl (lv_at hl 4 rfl) ?_
                                refine va_get (D := D) (ci := 4) (v := .ref Tp) (C := RX4) (T := TX4) (N := 7) hx hb hts iX4 hown hK hP 1 rfl rfl 0 (by decide) f9 (fun _ h9 => h9) rfl dX4_readClause_58 ?_
                                refine lv_aload_n hx hb dX4_readClause_61 rfl (lv_at hl 4 rfl) ?_
                                refine va_get (D := D) (ci := 4) (v := .int (nI axx_152)) (C := RX4) (T := TX4) (N := 7) hx hb hts iX4 hown hK hP 1 rfl rfl 2 (by decide) f28 (fun _ h9 => h9) rfl dX4_readClause_62 ?_
                                refine va_iald hx hb hK hP 2 0 rfl rfl (vp_in_nI (show axx_152 < 160 by omega) (by decide)) dX4_readClause_65 ?_
                                refine lv_eqi (y := (ftp (axx_152))) (congrArg ftp (nI_clamp (show axx_152 < 2 ^ 31 by omega))) ?_
                                refine ky_Si (As := [.int (nI (kdN cl_15)), .int (ftp (axx_152))]) (rest := []) ⟨hx, hb, hml, hown, hts⟩ ⟨hK, hN⟩ hZ hP hD hS hA [] [0, 1, 2] (wc := []) (wr := [(Rv, .inl (g 0, 21, .inl fvalx_140)), (Rd, .inr (4, [.ref Tp, .int (nI ln), .int (nI axx_152), .int (-1), .int (nI htx_4), .int (nI ctx_5), .ref Rv])), (Tp, .inl (g 0, 160, .inl ftp))]) rfl rfl rfl rfl (by decide) (r_X4_itemOf l D g H.size (kdN cl_15) (ftp (axx_152)) (show (kdN cl_15) < 3 by omega)) (va_cwS 2 hts gX4_readClause_X4_itemOf rfl rfl rfl (by decide +kernel) ⟨(Nat.le_of_ble_eq_true rfl), (Nat.le_of_ble_eq_true rfl)⟩) rfl hl.1 rfl (Nat.le_of_ble_eq_true rfl) dX4_readClause_66 ⟨(Nat.le_of_ble_eq_true rfl), (Nat.le_of_ble_eq_true rfl)⟩ (fun r_161 u H locs hw hP2 hD2 hS2 => ?_)
                                clear hP hD hS
                                obtain ⟨rfl, rfl⟩ := hw
                                have hPD : PD D A [(Rv, .inl (g 0, 21, .inl fvalx_140)), (Rd, .inr (4, [.ref Tp, .int (nI ln), .int (nI axx_152), .int (-1), .int (nI htx_4), .int (nI ctx_5), .ref Rv])), (Tp, .inl (g 0, 160, .inl ftp))] H := ⟨hP2, hD2⟩
                                have hS := hS2; clear hP2 hD2 hS2; have hP := hPD.1; have hD := hPD.2; clear hPD
                                refine W.widen (k := 0) (n := 0) (Nat.le_of_ble_eq_true rfl) (Nat.le_of_ble_eq_true rfl) ?_
                                rcases itK_c (kdN cl_15) (ftp (axx_152)) with qi_162 | qi_162 | qi_162 | qi_162
                                · skip
                                  refine lv_eqi (y := (-1)) (qi_162) ?_
                                  refine lv_istore (lv' := [(5, .int (-1)), (4, .int 3), (3, .int 7), (2, .int (nI cl_15)), (0, .ref Rd), (1, .int zf)]) hx hb dX4_readClause_69 hl (by decide) rfl (fun ls hl => ?_)
                                  refine lv_iload hx hb dX4_readClause_71 (lv_at hl 0 rfl) ?_
                                  refine lv_iconst (v := (-1)) hx hb dX4_readClause_73 (by decide) ?_
                                  refine lv_icmp_eq (tgt := 86) hx hb dX4_readClause_74 (by decide) (fun _ => ?_) (fun cb => absurd (by decide) cb)
                                  refine lv_aload_n hx hb dX4_readClause_86 rfl (lv_at hl 4 rfl) ?_
                                  refine lv_aload_n hx hb dX4_readClause_87 rfl (lv_at hl 4 rfl) ?_
                                  refine va_get (D := D) (ci := 4) (v := .int (nI axx_152)) (C := RX4) (T := TX4) (N := 7) hx hb hts iX4 hown hK hP 1 rfl rfl 2 (by decide) f28 (fun _ h9 => h9) rfl dX4_readClause_88 ?_
                                  refine va_put (D := D) (ci := 4) (v := .int (nI axx_152)) (ty := .int) (C := RX4) (T := TX4) (N := 7) hx hb hts iX4 tyX4 tyX4_ok nmX4 hown hK hP hD hS 1 rfl rfl 3 (by decide) f31 (fun _ h9 => h9) rfl (by decide +kernel) (rfl) (rfl) (Nat.le_of_ble_eq_true rfl) dX4_readClause_91 (fun H locs hP2 hD2 hS2 => ?_)
                                  clear hP hD hS
                                  have hPD : PD D A [(Rv, .inl (g 0, 21, .inl fvalx_140)), (Rd, .inr (4, [.ref Tp, .int (nI ln), .int (nI axx_152), .int (nI axx_152), .int (nI htx_4), .int (nI ctx_5), .ref Rv])), (Tp, .inl (g 0, 160, .inl ftp))] H := ⟨hP2, hD2⟩
                                  have hS := hS2; clear hP2 hD2 hS2; have hP := hPD.1; have hD := hPD.2; clear hPD
                                  have hPD9 : PD D A [(Rd, .inr (4, [.ref Tp, .int (nI ln), .int (nI axx_152), .int (nI axx_152), .int (nI htx_4), .int (nI ctx_5), .ref Rv])), (Tp, .inl (g 0, 160, .inl ftp)), (Rv, .inl (g 0, 21, .inl fvalx_140))] H := ⟨hP.sub [1, 2, 0] rfl, hD.sub [1, 2, 0] (by decide) rfl⟩
                                  have hP9 := hPD9.1; have hD9 := hPD9.2
                                  subst hQ
                                  refine W.widen (k := 0) (n := 0) (Nat.le_of_ble_eq_true rfl) (Nat.le_of_ble_eq_true rfl) ?_
                                  exact W.vret hx hb hr (fun tS htS _ => ⟨⟨_, rfl, ⟨axx_152, (nI axx_152), htx_4, ctx_5, fvalx_140, rfl, ⟨(show axx_152 ≤ ln by omega), (show htx_4 ≤ 3 by omega), (show ctx_5 ≤ 3 by omega), (hf_142), (cl_bad hf_7.2.2.2.1.symm (show cl_15 < 7 by omega) (hR_147.trans (itR_no (f := 0) hf_154 qi_162)) (show axx_152 < ln by omega) cb_159).1, (cl_bad hf_7.2.2.2.1.symm (show cl_15 < 7 by omega) (hR_147.trans (itR_no (f := 0) hf_154 qi_162)) (show axx_152 < ln by omega) cb_159).2, (fun q => absurd q (m1_ne (show axx_152 < 2 ^ 31 by omega))), (fun q => absurd q (m1_ne (show axx_152 < 2 ^ 31 by omega)))⟩⟩, by rw [htS]; exact hP9, hD9⟩, hS.F htS⟩) hS.2.2 dX4_readClause_94
                                · skip
                                  refine lv_eqi (y := 0) (qi_162) ?_
                                  refine lv_istore (lv' := [(5, .int 0), (4, .int 3), (3, .int 7), (2, .int (nI cl_15)), (0, .ref Rd), (1, .int zf)]) hx hb dX4_readClause_69 hl (by decide) rfl (fun ls hl => ?_)
                                  refine lv_iload hx hb dX4_readClause_71 (lv_at hl 0 rfl) ?_
                                  refine lv_iconst (v := (-1)) hx hb dX4_readClause_73 (by decide) ?_
                                  refine lv_icmp_eq (tgt := 86) hx hb dX4_readClause_74 (by decide) (fun cb => absurd cb (by decide)) (fun _ => ?_)
                                  refine lv_iload_n hx hb dX4_readClause_77 rfl (lv_at hl 2 rfl) ?_
                                  refine lv_iconst (v := 1) hx hb dX4_readClause_78 (by decide) ?_
                                  refine lv_iload hx hb dX4_readClause_79 (lv_at hl 0 rfl) ?_
                                  refine lv_ishl hx hb dX4_readClause_81 ?_
                                  refine lv_eqi (y := 1) (by decide) ?_
                                  refine lv_iand hx hb dX4_readClause_82 ?_
                                  refine lv_eqi (y := 1) (by decide) ?_
                                  refine lv_if_eq (tgt := 95) hx hb dX4_readClause_83 (by decide) (fun cb => absurd cb (by decide)) (fun _ => ?_)
                                  refine lv_aload_n hx hb dX4_readClause_86 rfl (lv_at hl 4 rfl) ?_
                                  refine lv_aload_n hx hb dX4_readClause_87 rfl (lv_at hl 4 rfl) ?_
                                  refine va_get (D := D) (ci := 4) (v := .int (nI axx_152)) (C := RX4) (T := TX4) (N := 7) hx hb hts iX4 hown hK hP 1 rfl rfl 2 (by decide) f28 (fun _ h9 => h9) rfl dX4_readClause_88 ?_
                                  refine va_put (D := D) (ci := 4) (v := .int (nI axx_152)) (ty := .int) (C := RX4) (T := TX4) (N := 7) hx hb hts iX4 tyX4 tyX4_ok nmX4 hown hK hP hD hS 1 rfl rfl 3 (by decide) f31 (fun _ h9 => h9) rfl (by decide +kernel) (rfl) (rfl) (Nat.le_of_ble_eq_true rfl) dX4_readClause_91 (fun H locs hP2 hD2 hS2 => ?_)
                                  clear hP hD hS
                                  have hPD : PD D A [(Rv, .inl (g 0, 21, .inl fvalx_140)), (Rd, .inr (4, [.ref Tp, .int (nI ln), .int (nI axx_152), .int (nI axx_152), .int (nI htx_4), .int (nI ctx_5), .ref Rv])), (Tp, .inl (g 0, 160, .inl ftp))] H := ⟨hP2, hD2⟩
                                  have hS := hS2; clear hP2 hD2 hS2; have hP := hPD.1; have hD := hPD.2; clear hPD
                                  have hPD9 : PD D A [(Rd, .inr (4, [.ref Tp, .int (nI ln), .int (nI axx_152), .int (nI axx_152), .int (nI htx_4), .int (nI ctx_5), .ref Rv])), (Tp, .inl (g 0, 160, .inl ftp)), (Rv, .inl (g 0, 21, .inl fvalx_140))] H := ⟨hP.sub [1, 2, 0] rfl, hD.sub [1, 2, 0] (by decide) rfl⟩
                                  have hP9 := hPD9.1; have hD9 := hPD9.2
                                  subst hQ
                                  refine W.widen (k := 0) (n := 0) (Nat.le_of_ble_eq_true rfl) (Nat.le_of_ble_eq_true rfl) ?_
                                  exact W.vret hx hb hr (fun tS htS _ => ⟨⟨_, rfl, ⟨axx_152, (nI axx_152), htx_4, ctx_5, fvalx_140, rfl, ⟨(show axx_152 ≤ ln by omega), (show htx_4 ≤ 3 by omega), (show ctx_5 ≤ 3 by omega), (hf_142), (cl_bad hf_7.2.2.2.1.symm (show cl_15 < 7 by omega) (hR_147.trans (itR_again (f := 0) (q := 0) hf_154 qi_162 (by decide) (by decide))) (show axx_152 < ln by omega) cb_159).1, (cl_bad hf_7.2.2.2.1.symm (show cl_15 < 7 by omega) (hR_147.trans (itR_again (f := 0) (q := 0) hf_154 qi_162 (by decide) (by decide))) (show axx_152 < ln by omega) cb_159).2, (fun q => absurd q (m1_ne (show axx_152 < 2 ^ 31 by omega))), (fun q => absurd q (m1_ne (show axx_152 < 2 ^ 31 by omega)))⟩⟩, by rw [htS]; exact hP9, hD9⟩, hS.F htS⟩) hS.2.2 dX4_readClause_94
                                · skip
                                  refine lv_eqi (y := 1) (qi_162) ?_
                                  refine lv_istore (lv' := [(5, .int 1), (4, .int 3), (3, .int 7), (2, .int (nI cl_15)), (0, .ref Rd), (1, .int zf)]) hx hb dX4_readClause_69 hl (by decide) rfl (fun ls hl => ?_)
                                  refine lv_iload hx hb dX4_readClause_71 (lv_at hl 0 rfl) ?_
                                  refine lv_iconst (v := (-1)) hx hb dX4_readClause_73 (by decide) ?_
                                  refine lv_icmp_eq (tgt := 86) hx hb dX4_readClause_74 (by decide) (fun cb => absurd cb (by decide)) (fun _ => ?_)
                                  refine lv_iload_n hx hb dX4_readClause_77 rfl (lv_at hl 2 rfl) ?_
                                  refine lv_iconst (v := 1) hx hb dX4_readClause_78 (by decide) ?_
                                  refine lv_iload hx hb dX4_readClause_79 (lv_at hl 0 rfl) ?_
                                  refine lv_ishl hx hb dX4_readClause_81 ?_
                                  refine lv_eqi (y := 2) (by decide) ?_
                                  refine lv_iand hx hb dX4_readClause_82 ?_
                                  refine lv_eqi (y := 2) (by decide) ?_
                                  refine lv_if_eq (tgt := 95) hx hb dX4_readClause_83 (by decide) (fun cb => absurd cb (by decide)) (fun _ => ?_)
                                  refine lv_aload_n hx hb dX4_readClause_86 rfl (lv_at hl 4 rfl) ?_
                                  refine lv_aload_n hx hb dX4_readClause_87 rfl (lv_at hl 4 rfl) ?_
                                  refine va_get (D := D) (ci := 4) (v := .int (nI axx_152)) (C := RX4) (T := TX4) (N := 7) hx hb hts iX4 hown hK hP 1 rfl rfl 2 (by decide) f28 (fun _ h9 => h9) rfl dX4_readClause_88 ?_
                                  refine va_put (D := D) (ci := 4) (v := .int (nI axx_152)) (ty := .int) (C := RX4) (T := TX4) (N := 7) hx hb hts iX4 tyX4 tyX4_ok nmX4 hown hK hP hD hS 1 rfl rfl 3 (by decide) f31 (fun _ h9 => h9) rfl (by decide +kernel) (rfl) (rfl) (Nat.le_of_ble_eq_true rfl) dX4_readClause_91 (fun H locs hP2 hD2 hS2 => ?_)
                                  clear hP hD hS
                                  have hPD : PD D A [(Rv, .inl (g 0, 21, .inl fvalx_140)), (Rd, .inr (4, [.ref Tp, .int (nI ln), .int (nI axx_152), .int (nI axx_152), .int (nI htx_4), .int (nI ctx_5), .ref Rv])), (Tp, .inl (g 0, 160, .inl ftp))] H := ⟨hP2, hD2⟩
                                  have hS := hS2; clear hP2 hD2 hS2; have hP := hPD.1; have hD := hPD.2; clear hPD
                                  have hPD9 : PD D A [(Rd, .inr (4, [.ref Tp, .int (nI ln), .int (nI axx_152), .int (nI axx_152), .int (nI htx_4), .int (nI ctx_5), .ref Rv])), (Tp, .inl (g 0, 160, .inl ftp)), (Rv, .inl (g 0, 21, .inl fvalx_140))] H := ⟨hP.sub [1, 2, 0] rfl, hD.sub [1, 2, 0] (by decide) rfl⟩
                                  have hP9 := hPD9.1; have hD9 := hPD9.2
                                  subst hQ
                                  refine W.widen (k := 0) (n := 0) (Nat.le_of_ble_eq_true rfl) (Nat.le_of_ble_eq_true rfl) ?_
                                  exact W.vret hx hb hr (fun tS htS _ => ⟨⟨_, rfl, ⟨axx_152, (nI axx_152), htx_4, ctx_5, fvalx_140, rfl, ⟨(show axx_152 ≤ ln by omega), (show htx_4 ≤ 3 by omega), (show ctx_5 ≤ 3 by omega), (hf_142), (cl_bad hf_7.2.2.2.1.symm (show cl_15 < 7 by omega) (hR_147.trans (itR_again (f := 0) (q := 1) hf_154 qi_162 (by decide) (by decide))) (show axx_152 < ln by omega) cb_159).1, (cl_bad hf_7.2.2.2.1.symm (show cl_15 < 7 by omega) (hR_147.trans (itR_again (f := 0) (q := 1) hf_154 qi_162 (by decide) (by decide))) (show axx_152 < ln by omega) cb_159).2, (fun q => absurd q (m1_ne (show axx_152 < 2 ^ 31 by omega))), (fun q => absurd q (m1_ne (show axx_152 < 2 ^ 31 by omega)))⟩⟩, by rw [htS]; exact hP9, hD9⟩, hS.F htS⟩) hS.2.2 dX4_readClause_94
                                · skip
                                  refine lv_eqi (y := 2) (qi_162) ?_
                                  refine lv_istore (lv' := [(5, .int 2), (4, .int 3), (3, .int 7), (2, .int (nI cl_15)), (0, .ref Rd), (1, .int zf)]) hx hb dX4_readClause_69 hl (by decide) rfl (fun ls hl => ?_)
                                  refine lv_iload hx hb dX4_readClause_71 (lv_at hl 0 rfl) ?_
                                  refine lv_iconst (v := (-1)) hx hb dX4_readClause_73 (by decide) ?_
                                  refine lv_icmp_eq (tgt := 86) hx hb dX4_readClause_74 (by decide) (fun cb => absurd cb (by decide)) (fun _ => ?_)
                                  refine lv_iload_n hx hb dX4_readClause_77 rfl (lv_at hl 2 rfl) ?_
                                  refine lv_iconst (v := 1) hx hb dX4_readClause_78 (by decide) ?_
                                  refine lv_iload hx hb dX4_readClause_79 (lv_at hl 0 rfl) ?_
                                  refine lv_ishl hx hb dX4_readClause_81 ?_
                                  refine lv_eqi (y := 4) (by decide) ?_
                                  refine lv_iand hx hb dX4_readClause_82 ?_
                                  refine lv_eqi (y := 4) (by decide) ?_
                                  refine lv_if_eq (tgt := 95) hx hb dX4_readClause_83 (by decide) (fun cb => absurd cb (by decide)) (fun _ => ?_)
                                  refine lv_aload_n hx hb dX4_readClause_86 rfl (lv_at hl 4 rfl) ?_
                                  refine lv_aload_n hx hb dX4_readClause_87 rfl (lv_at hl 4 rfl) ?_
                                  refine va_get (D := D) (ci := 4) (v := .int (nI axx_152)) (C := RX4) (T := TX4) (N := 7) hx hb hts iX4 hown hK hP 1 rfl rfl 2 (by decide) f28 (fun _ h9 => h9) rfl dX4_readClause_88 ?_
                                  refine va_put (D := D) (ci := 4) (v := .int (nI axx_152)) (ty := .int) (C := RX4) (T := TX4) (N := 7) hx hb hts iX4 tyX4 tyX4_ok nmX4 hown hK hP hD hS 1 rfl rfl 3 (by decide) f31 (fun _ h9 => h9) rfl (by decide +kernel) (rfl) (rfl) (Nat.le_of_ble_eq_true rfl) dX4_readClause_91 (fun H locs hP2 hD2 hS2 => ?_)
                                  clear hP hD hS
                                  have hPD : PD D A [(Rv, .inl (g 0, 21, .inl fvalx_140)), (Rd, .inr (4, [.ref Tp, .int (nI ln), .int (nI axx_152), .int (nI axx_152), .int (nI htx_4), .int (nI ctx_5), .ref Rv])), (Tp, .inl (g 0, 160, .inl ftp))] H := ⟨hP2, hD2⟩
                                  have hS := hS2; clear hP2 hD2 hS2; have hP := hPD.1; have hD := hPD.2; clear hPD
                                  have hPD9 : PD D A [(Rd, .inr (4, [.ref Tp, .int (nI ln), .int (nI axx_152), .int (nI axx_152), .int (nI htx_4), .int (nI ctx_5), .ref Rv])), (Tp, .inl (g 0, 160, .inl ftp)), (Rv, .inl (g 0, 21, .inl fvalx_140))] H := ⟨hP.sub [1, 2, 0] rfl, hD.sub [1, 2, 0] (by decide) rfl⟩
                                  have hP9 := hPD9.1; have hD9 := hPD9.2
                                  subst hQ
                                  refine W.widen (k := 0) (n := 0) (Nat.le_of_ble_eq_true rfl) (Nat.le_of_ble_eq_true rfl) ?_
                                  exact W.vret hx hb hr (fun tS htS _ => ⟨⟨_, rfl, ⟨axx_152, (nI axx_152), htx_4, ctx_5, fvalx_140, rfl, ⟨(show axx_152 ≤ ln by omega), (show htx_4 ≤ 3 by omega), (show ctx_5 ≤ 3 by omega), (hf_142), (cl_bad hf_7.2.2.2.1.symm (show cl_15 < 7 by omega) (hR_147.trans (itR_again (f := 0) (q := 2) hf_154 qi_162 (by decide) (by decide))) (show axx_152 < ln by omega) cb_159).1, (cl_bad hf_7.2.2.2.1.symm (show cl_15 < 7 by omega) (hR_147.trans (itR_again (f := 0) (q := 2) hf_154 qi_162 (by decide) (by decide))) (show axx_152 < ln by omega) cb_159).2, (fun q => absurd q (m1_ne (show axx_152 < 2 ^ 31 by omega))), (fun q => absurd q (m1_ne (show axx_152 < 2 ^ 31 by omega)))⟩⟩, by rw [htS]; exact hP9, hD9⟩, hS.F htS⟩) hS.2.2 dX4_readClause_94
                              · skip
                                have hPD9 : PD D A [(Rd, .inr (4, [.ref Tp, .int (nI ln), .int (nI axx_152), .int (-1), .int (nI htx_4), .int (nI ctx_5), .ref Rv])), (Tp, .inl (g 0, 160, .inl ftp)), (Rv, .inl (g 0, 21, .inl fvalx_140))] H := ⟨hP.sub [1, 2, 0] rfl, hD.sub [1, 2, 0] (by decide) rfl⟩
                                have hP9 := hPD9.1; have hD9 := hPD9.2
                                subst hQ
                                refine W.widen (k := 0) (n := 0) (Nat.le_of_ble_eq_true rfl) (Nat.le_of_ble_eq_true rfl) ?_
                                exact W.vret hx hb hr (fun tS htS _ => ⟨⟨_, rfl, ⟨axx_152, (-1), htx_4, ctx_5, fvalx_140, rfl, ⟨(show axx_152 ≤ ln by omega), (show htx_4 ≤ 3 by omega), (show ctx_5 ≤ 3 by omega), (hf_142), (cl_end hf_7.2.2.2.1.symm (show cl_15 < 7 by omega) (hR_147.trans (itR_no (f := 0) hf_154 (by rw [cb_159]; exact itK_59 _))) (fun q => q.2 cb_159)).1, (cl_end hf_7.2.2.2.1.symm (show cl_15 < 7 by omega) (hR_147.trans (itR_no (f := 0) hf_154 (by rw [cb_159]; exact itK_59 _))) (fun q => q.2 cb_159)).2.1, (fun _ => ⟨(cl_end hf_7.2.2.2.1.symm (show cl_15 < 7 by omega) (hR_147.trans (itR_no (f := 0) hf_154 (by rw [cb_159]; exact itK_59 _))) (fun q => q.2 cb_159)).2.2, show ax < axx_152 by omega⟩), (fun _ => ((clW_cl hf_7.2.2.2.1.symm (show cl_15 < 7 by omega)).trans (hW_149.trans (itW_no (f := 0) hf_154 (by rw [cb_159]; exact itK_59 _)))).symm)⟩⟩, by rw [htS]; exact hP9, hD9⟩, hS.F htS⟩) hS.2.2 dX4_readClause_52
                          · skip
                            have hP9 := hP; have hD9 := hD
                            subst hQ
                            refine W.widen (k := 0) (n := 0) (Nat.le_of_ble_eq_true rfl) (Nat.le_of_ble_eq_true rfl) ?_
                            exact W.vret hx hb hr (fun tS htS _ => ⟨⟨_, rfl, ⟨axx_138, zfax_139, htx_4, ctx_5, fvalx_140, rfl, ⟨(show axx_138 ≤ ln by omega), (show htx_4 ≤ 3 by omega), (show ctx_5 ≤ 3 by omega), (hf_142), (cl_num hf_7.2.2.2.1.symm (show cl_15 < 7 by omega) ((congrArg Prod.fst hR_121).trans ((itR_w (f := 1) (q := 1) hf_128 (show axx_126 < ln by omega) qi_136 (by decide) (by decide) (fun q => cb_145 (hf_143.trans q))).trans hf_143.symm)) cb_145).1, (cl_num hf_7.2.2.2.1.symm (show cl_15 < 7 by omega) ((congrArg Prod.fst hR_121).trans ((itR_w (f := 1) (q := 1) hf_128 (show axx_126 < ln by omega) qi_136 (by decide) (by decide) (fun q => cb_145 (hf_143.trans q))).trans hf_143.symm)) cb_145).2, (fun q => absurd q cb_145), (fun q => absurd q cb_145)⟩⟩, by rw [htS]; exact hP9, hD9⟩, hS.F htS⟩) hS.2.2 dX4_readClause_127
                        · skip
                          refine lv_eqi (y := 2) (qi_136) ?_
                          refine lv_istore (lv' := [(5, .int 2), (4, .int 2), (3, .int 5), (2, .int (nI cl_15)), (0, .ref Rd), (1, .int zf)]) hx hb dX4_readClause_69 hl (by decide) rfl (fun ls hl => ?_)
                          refine lv_iload hx hb dX4_readClause_71 (lv_at hl 0 rfl) ?_
                          refine lv_iconst (v := (-1)) hx hb dX4_readClause_73 (by decide) ?_
                          refine lv_icmp_eq (tgt := 86) hx hb dX4_readClause_74 (by decide) (fun cb => absurd cb (by decide)) (fun _ => ?_)
                          refine lv_iload_n hx hb dX4_readClause_77 rfl (lv_at hl 2 rfl) ?_
                          refine lv_iconst (v := 1) hx hb dX4_readClause_78 (by decide) ?_
                          refine lv_iload hx hb dX4_readClause_79 (lv_at hl 0 rfl) ?_
                          refine lv_ishl hx hb dX4_readClause_81 ?_
                          refine lv_eqi (y := 4) (by decide) ?_
                          refine lv_iand hx hb dX4_readClause_82 ?_
                          refine lv_eqi (y := 4) (by decide) ?_
                          refine lv_if_eq (tgt := 95) hx hb dX4_readClause_83 (by decide) (fun cb => absurd cb (by decide)) (fun _ => ?_)
                          refine lv_aload_n hx hb dX4_readClause_86 rfl (lv_at hl 4 rfl) ?_
                          refine lv_aload_n hx hb dX4_readClause_87 rfl (lv_at hl 4 rfl) ?_
                          refine va_get (D := D) (ci := 4) (v := .int (nI axx_126)) (C := RX4) (T := TX4) (N := 7) hx hb hts iX4 hown hK hP 1 rfl rfl 2 (by decide) f28 (fun _ h9 => h9) rfl dX4_readClause_88 ?_
                          refine va_put (D := D) (ci := 4) (v := .int (nI axx_126)) (ty := .int) (C := RX4) (T := TX4) (N := 7) hx hb hts iX4 tyX4 tyX4_ok nmX4 hown hK hP hD hS 1 rfl rfl 3 (by decide) f31 (fun _ h9 => h9) rfl (by decide +kernel) (rfl) (rfl) (Nat.le_of_ble_eq_true rfl) dX4_readClause_91 (fun H locs hP2 hD2 hS2 => ?_)
                          clear hP hD hS
                          have hPD : PD D A [(Rv, .inl (g 0, 21, .inl fvalx_114)), (Rd, .inr (4, [.ref Tp, .int (nI ln), .int (nI axx_126), .int (nI axx_126), .int (nI htx_4), .int (nI ctx_5), .ref Rv])), (Tp, .inl (g 0, 160, .inl ftp))] H := ⟨hP2, hD2⟩
                          have hS := hS2; clear hP2 hD2 hS2; have hP := hPD.1; have hD := hPD.2; clear hPD
                          have hPD9 : PD D A [(Rd, .inr (4, [.ref Tp, .int (nI ln), .int (nI axx_126), .int (nI axx_126), .int (nI htx_4), .int (nI ctx_5), .ref Rv])), (Tp, .inl (g 0, 160, .inl ftp)), (Rv, .inl (g 0, 21, .inl fvalx_114))] H := ⟨hP.sub [1, 2, 0] rfl, hD.sub [1, 2, 0] (by decide) rfl⟩
                          have hP9 := hPD9.1; have hD9 := hPD9.2
                          subst hQ
                          refine W.widen (k := 0) (n := 0) (Nat.le_of_ble_eq_true rfl) (Nat.le_of_ble_eq_true rfl) ?_
                          exact W.vret hx hb hr (fun tS htS _ => ⟨⟨_, rfl, ⟨axx_126, (nI axx_126), htx_4, ctx_5, fvalx_114, rfl, ⟨(show axx_126 ≤ ln by omega), (show htx_4 ≤ 3 by omega), (show ctx_5 ≤ 3 by omega), (hf_116), (cl_bad hf_7.2.2.2.1.symm (show cl_15 < 7 by omega) (hR_121.trans (itR_again (f := 1) (q := 2) hf_128 qi_136 (by decide) (by decide))) (show axx_126 < ln by omega) cb_133).1, (cl_bad hf_7.2.2.2.1.symm (show cl_15 < 7 by omega) (hR_121.trans (itR_again (f := 1) (q := 2) hf_128 qi_136 (by decide) (by decide))) (show axx_126 < ln by omega) cb_133).2, (fun q => absurd q (m1_ne (show axx_126 < 2 ^ 31 by omega))), (fun q => absurd q (m1_ne (show axx_126 < 2 ^ 31 by omega)))⟩⟩, by rw [htS]; exact hP9, hD9⟩, hS.F htS⟩) hS.2.2 dX4_readClause_94
                      · skip
                        have hPD9 : PD D A [(Rd, .inr (4, [.ref Tp, .int (nI ln), .int (nI axx_126), .int (-1), .int (nI htx_4), .int (nI ctx_5), .ref Rv])), (Tp, .inl (g 0, 160, .inl ftp)), (Rv, .inl (g 0, 21, .inl fvalx_114))] H := ⟨hP.sub [1, 2, 0] rfl, hD.sub [1, 2, 0] (by decide) rfl⟩
                        have hP9 := hPD9.1; have hD9 := hPD9.2
                        subst hQ
                        refine W.widen (k := 0) (n := 0) (Nat.le_of_ble_eq_true rfl) (Nat.le_of_ble_eq_true rfl) ?_
                        exact W.vret hx hb hr (fun tS htS _ => ⟨⟨_, rfl, ⟨axx_126, (-1), htx_4, ctx_5, fvalx_114, rfl, ⟨(show axx_126 ≤ ln by omega), (show htx_4 ≤ 3 by omega), (show ctx_5 ≤ 3 by omega), (hf_116), (cl_end hf_7.2.2.2.1.symm (show cl_15 < 7 by omega) (hR_121.trans (itR_no (f := 1) hf_128 (by rw [cb_133]; exact itK_59 _))) (fun q => q.2 cb_133)).1, (cl_end hf_7.2.2.2.1.symm (show cl_15 < 7 by omega) (hR_121.trans (itR_no (f := 1) hf_128 (by rw [cb_133]; exact itK_59 _))) (fun q => q.2 cb_133)).2.1, (fun _ => ⟨(cl_end hf_7.2.2.2.1.symm (show cl_15 < 7 by omega) (hR_121.trans (itR_no (f := 1) hf_128 (by rw [cb_133]; exact itK_59 _))) (fun q => q.2 cb_133)).2.2, show ax < axx_126 by omega⟩), (fun _ => ((clW_cl hf_7.2.2.2.1.symm (show cl_15 < 7 by omega)).trans (hW_123.trans (itW_no (f := 1) hf_128 (by rw [cb_133]; exact itK_59 _)))).symm)⟩⟩, by rw [htS]; exact hP9, hD9⟩, hS.F htS⟩) hS.2.2 dX4_readClause_52
                  · skip
                    have hP9 := hP; have hD9 := hD
                    subst hQ
                    refine W.widen (k := 0) (n := 0) (Nat.le_of_ble_eq_true rfl) (Nat.le_of_ble_eq_true rfl) ?_
                    exact W.vret hx hb hr (fun tS htS _ => ⟨⟨_, rfl, ⟨axx_112, zfax_113, htx_4, ctx_5, fvalx_114, rfl, ⟨(show axx_112 ≤ ln by omega), (show htx_4 ≤ 3 by omega), (show ctx_5 ≤ 3 by omega), (hf_116), (cl_num hf_7.2.2.2.1.symm (show cl_15 < 7 by omega) ((congrArg Prod.fst hR_43).trans ((itR_w (f := 2) (q := 2) hf_50 (show axx_48 < ln by omega) qi_58 (by decide) (by decide) (fun q => cb_119 (hf_117.trans q))).trans hf_117.symm)) cb_119).1, (cl_num hf_7.2.2.2.1.symm (show cl_15 < 7 by omega) ((congrArg Prod.fst hR_43).trans ((itR_w (f := 2) (q := 2) hf_50 (show axx_48 < ln by omega) qi_58 (by decide) (by decide) (fun q => cb_119 (hf_117.trans q))).trans hf_117.symm)) cb_119).2, (fun q => absurd q cb_119), (fun q => absurd q cb_119)⟩⟩, by rw [htS]; exact hP9, hD9⟩, hS.F htS⟩) hS.2.2 dX4_readClause_127
              · skip
                have hPD9 : PD D A [(Rd, .inr (4, [.ref Tp, .int (nI ln), .int (nI axx_48), .int (-1), .int (nI htx_4), .int (nI ctx_5), .ref Rv])), (Tp, .inl (g 0, 160, .inl ftp)), (Rv, .inl (g 0, 21, .inl fvalx_36))] H := ⟨hP.sub [1, 2, 0] rfl, hD.sub [1, 2, 0] (by decide) rfl⟩
                have hP9 := hPD9.1; have hD9 := hPD9.2
                subst hQ
                refine W.widen (k := 0) (n := 0) (Nat.le_of_ble_eq_true rfl) (Nat.le_of_ble_eq_true rfl) ?_
                exact W.vret hx hb hr (fun tS htS _ => ⟨⟨_, rfl, ⟨axx_48, (-1), htx_4, ctx_5, fvalx_36, rfl, ⟨(show axx_48 ≤ ln by omega), (show htx_4 ≤ 3 by omega), (show ctx_5 ≤ 3 by omega), (hf_38), (cl_end hf_7.2.2.2.1.symm (show cl_15 < 7 by omega) (hR_43.trans (itR_no (f := 2) hf_50 (by rw [cb_55]; exact itK_59 _))) (fun q => q.2 cb_55)).1, (cl_end hf_7.2.2.2.1.symm (show cl_15 < 7 by omega) (hR_43.trans (itR_no (f := 2) hf_50 (by rw [cb_55]; exact itK_59 _))) (fun q => q.2 cb_55)).2.1, (fun _ => ⟨(cl_end hf_7.2.2.2.1.symm (show cl_15 < 7 by omega) (hR_43.trans (itR_no (f := 2) hf_50 (by rw [cb_55]; exact itK_59 _))) (fun q => q.2 cb_55)).2.2, show ax < axx_48 by omega⟩), (fun _ => ((clW_cl hf_7.2.2.2.1.symm (show cl_15 < 7 by omega)).trans (hW_45.trans (itW_no (f := 2) hf_50 (by rw [cb_55]; exact itK_59 _)))).symm)⟩⟩, by rw [htS]; exact hP9, hD9⟩, hS.F htS⟩) hS.2.2 dX4_readClause_52
          · skip
            have hP9 := hP; have hD9 := hD
            subst hQ
            refine W.widen (k := 0) (n := 0) (Nat.le_of_ble_eq_true rfl) (Nat.le_of_ble_eq_true rfl) ?_
            exact W.vret hx hb hr (fun tS htS _ => ⟨⟨_, rfl, ⟨axx_34, zfax_35, htx_4, ctx_5, fvalx_36, rfl, ⟨(show axx_34 ≤ ln by omega), (show htx_4 ≤ 3 by omega), (show ctx_5 ≤ 3 by omega), (hf_38), (cl_num hf_7.2.2.2.1.symm (show cl_15 < 7 by omega) ((congrArg Prod.fst hR_19).trans ((itR_w (f := 3) (q := 0) hf_24 (show axx_22 < ln by omega) qi_32 (by decide) (by decide) (fun q => cb_41 (hf_39.trans q))).trans hf_39.symm)) cb_41).1, (cl_num hf_7.2.2.2.1.symm (show cl_15 < 7 by omega) ((congrArg Prod.fst hR_19).trans ((itR_w (f := 3) (q := 0) hf_24 (show axx_22 < ln by omega) qi_32 (by decide) (by decide) (fun q => cb_41 (hf_39.trans q))).trans hf_39.symm)) cb_41).2, (fun q => absurd q cb_41), (fun q => absurd q cb_41)⟩⟩, by rw [htS]; exact hP9, hD9⟩, hS.F htS⟩) hS.2.2 dX4_readClause_127
        · skip
          refine lv_eqi (y := 1) (qi_32) ?_
          refine lv_istore (lv' := [(5, .int 1), (4, .int 0), (3, .int 0), (2, .int (nI cl_15)), (0, .ref Rd), (1, .int zf)]) hx hb dX4_readClause_69 hl (by decide) rfl (fun ls hl => ?_)
          refine lv_iload hx hb dX4_readClause_71 (lv_at hl 0 rfl) ?_
          refine lv_iconst (v := (-1)) hx hb dX4_readClause_73 (by decide) ?_
          refine lv_icmp_eq (tgt := 86) hx hb dX4_readClause_74 (by decide) (fun cb => absurd cb (by decide)) (fun _ => ?_)
          refine lv_iload_n hx hb dX4_readClause_77 rfl (lv_at hl 2 rfl) ?_
          refine lv_iconst (v := 1) hx hb dX4_readClause_78 (by decide) ?_
          refine lv_iload hx hb dX4_readClause_79 (lv_at hl 0 rfl) ?_
          refine lv_ishl hx hb dX4_readClause_81 ?_
          refine lv_eqi (y := 2) (by decide) ?_
          refine lv_iand hx hb dX4_readClause_82 ?_
          refine lv_eqi (y := 0) (by decide) ?_
          refine lv_if_eq (tgt := 95) hx hb dX4_readClause_83 (by decide) (fun _ => ?_) (fun cb => absurd (by decide) cb)
          refine lv_iload_n hx hb dX4_readClause_95 rfl (lv_at hl 2 rfl) ?_
          refine lv_iconst (v := 1) hx hb dX4_readClause_96 (by decide) ?_
          refine lv_iload hx hb dX4_readClause_97 (lv_at hl 0 rfl) ?_
          refine lv_ishl hx hb dX4_readClause_99 ?_
          refine lv_eqi (y := 2) (by decide) ?_
          refine lv_ior hx hb dX4_readClause_100 ?_
          refine lv_eqi (y := 2) (by decide) ?_
          refine lv_istore_n (lv' := [(3, .int 2), (5, .int 1), (4, .int 0), (2, .int (nI cl_15)), (0, .ref Rd), (1, .int zf)]) hx hb dX4_readClause_101 rfl hl (by decide) rfl (fun ls hl => ?_)
          refine lv_aload_n hx hb dX4_readClause_102 rfl (lv_at hl 4 rfl) ?_
          refine lv_dup hx hb dX4_readClause_103 rfl ?_
          refine va_get (D := D) (ci := 4) (v := .int (nI axx_22)) (C := RX4) (T := TX4) (N := 7) hx hb hts iX4 hown hK hP 1 rfl rfl 2 (by decide) f28 (fun _ h9 => h9) rfl dX4_readClause_104 ?_
          refine lv_iconst (v := 1) hx hb dX4_readClause_107 (by decide) ?_
          refine lv_iadd hx hb dX4_readClause_108 ?_
          refine lv_eqi (y := (nI (axx_22 + 1))) (nI_add (axx_22) (1)) ?_
          refine va_put (D := D) (ci := 4) (v := .int (nI (axx_22 + 1))) (ty := .int) (C := RX4) (T := TX4) (N := 7) hx hb hts iX4 tyX4 tyX4_ok nmX4 hown hK hP hD hS 1 rfl rfl 2 (by decide) f28 (fun _ h9 => h9) rfl (by decide +kernel) (rfl) (rfl) (Nat.le_of_ble_eq_true rfl) dX4_readClause_109 (fun H locs hP2 hD2 hS2 => ?_)
          clear hP hD hS
          have hPD : PD D A [(Rv, .inl (g 0, 21, .inl fval)), (Rd, .inr (4, [.ref Tp, .int (nI ln), .int (nI (axx_22 + 1)), .int (-1), .int (nI htx_4), .int (nI ctx_5), .ref Rv])), (Tp, .inl (g 0, 160, .inl ftp))] H := ⟨hP2, hD2⟩
          have hS := hS2; clear hP2 hD2 hS2; have hP := hPD.1; have hD := hPD.2; clear hPD
          refine lv_aload_n hx hb dX4_readClause_112 rfl (lv_at hl 4 rfl) ?_
          refine lv_iload_n hx hb dX4_readClause_113 rfl (lv_at hl 3 rfl) ?_
          refine lv_iload hx hb dX4_readClause_114 (lv_at hl 1 rfl) ?_
          refine ky_Vv (As := [.int (nI cl_15), .int 1]) (rest := []) ⟨hx, hb, hml, hown, hts⟩ ⟨hK, hN⟩ hZ hP hD hS hA [1, 2, 0] [] (wc := [(Rd, .inr (4, [.ref Tp, .int (nI ln), .int (nI (axx_22 + 1)), .int (-1), .int (nI htx_4), .int (nI ctx_5), .ref Rv])), (Tp, .inl (g 0, 160, .inl ftp)), (Rv, .inl (g 0, 21, .inl fval))]) (wr := []) rfl rfl rfl rfl (by decide) (r_X4_readNumber l D g H.size Rd cl_15 1 Tp ln (axx_22 + 1) htx_4 ctx_5 Rv ftp fval (show ln ≤ 160 by omega) (show (axx_22 + 1) ≤ ln by omega) (h4) (show cl_15 < 7 by omega) (show 1 < 3 by omega)) (cwV 2 hts gX4_readClause_X4_readNumber rfl rfl rfl (by decide +kernel) ⟨(Nat.le_of_ble_eq_true rfl), (Nat.le_of_ble_eq_true rfl)⟩) 1 4 rfl rfl rfl rfl hl.1 rfl (Nat.le_of_ble_eq_true rfl) dX4_readClause_116 ⟨(Nat.le_of_ble_eq_true rfl), (Nat.le_of_ble_eq_true rfl)⟩ (fun u H locs hw hP2 hD2 hS2 => ?_)
          clear hP hD hS
          obtain ⟨axx_164, zfax_165, fvalx_166, rfl, hf_167, hf_168, hf_169, hf_170⟩ := hw
          have hPD : PD D A [(Rd, .inr (4, [.ref Tp, .int (nI ln), .int (nI axx_164), .int zfax_165, .int (nI htx_4), .int (nI ctx_5), .ref Rv])), (Tp, .inl (g 0, 160, .inl ftp)), (Rv, .inl (g 0, 21, .inl fvalx_166))] H := ⟨hP2, hD2⟩
          have hS := hS2; clear hP2 hD2 hS2; have hP := hPD.1; have hD := hPD.2; clear hPD
          refine W.widen (k := 0) (n := 0) (Nat.le_of_ble_eq_true rfl) (Nat.le_of_ble_eq_true rfl) ?_
          refine lv_aload_n hx hb dX4_readClause_119 rfl (lv_at hl 4 rfl) ?_
          refine va_get (D := D) (ci := 4) (v := .int zfax_165) (C := RX4) (T := TX4) (N := 7) hx hb hts iX4 hown hK hP 0 rfl rfl 3 (by decide) f31 (fun _ h9 => h9) rfl dX4_readClause_120 ?_
          refine lv_iconst (v := (-1)) hx hb dX4_readClause_123 (by decide) ?_
          refine lv_icmp_eq (tgt := 128) hx hb dX4_readClause_124 (by decide) (fun cb_171 => ?_) (fun cb_171 => ?_)
          · skip
            have hPq_172 := hP; have hDq_172 := hD; have hSq_172 := hS; have hlq_172 := hl; clear hP hD hS hl
            subst cb_171
            have hP := hPq_172; have hD := hDq_172; have hS := hSq_172; have hl := hlq_172; clear hPq_172 hDq_172 hSq_172 hlq_172
            have hne_174 := (hf_170 rfl).1
            have hne_174g := nmE_gt (T := ftp) (n := ln) (i := axx_22 + 1) (by omega)
            have hR_173 : itR ftp ln (kdN cl_15) 4 0 (sB ftp ln ax + 1) = itR ftp ln (kdN cl_15) 3 2 axx_164 := hR_19.trans ((itR_go (f := 3) (m := 0) (q := 1) hf_24 (show axx_22 < ln by omega) qi_32 (by decide) (by decide) hf_169.symm).trans (by rw [hne_174]))
            have hnv_176 := hf_170 rfl
            have hW_175 : itW ftp ln (kdN cl_15) (3 * cl_15) 4 0 (sB ftp ln ax + 1) fval = itW ftp ln (kdN cl_15) (3 * cl_15) 3 2 axx_164 fvalx_166 := hW_20.trans ((itW_go (f := 3) (m := 0) (q := 1) hf_24 (show axx_22 < ln by omega) qi_32 (by decide) (by decide) hf_169.symm).trans (by rw [hnv_176.1, hnv_176.2]))
            refine lv_iinc (v := 1) (lv' := [(4, .int 1), (3, .int 2), (5, .int 1), (2, .int (nI cl_15)), (0, .ref Rd), (1, .int zf)]) hx hb dX4_readClause_128 hl (k := 2) rfl (by decide) (by decide) rfl (fun ls hl => ?_)
            refine lv_goto (tgt := 17) hx hb dX4_readClause_131 (by decide) ?_
            refine lv_iload hx hb dX4_readClause_17 (lv_at hl 0 rfl) ?_
            refine lv_iconst (v := 3) hx hb dX4_readClause_19 (by decide) ?_
            refine lv_icmp_gt (tgt := 134) hx hb dX4_readClause_20 (by decide) (fun cb => absurd cb (by decide)) (fun _ => ?_)
            refine lv_aload_n hx hb dX4_readClause_23 rfl (lv_at hl 4 rfl) ?_
            refine ky_Vv (As := []) (rest := []) ⟨hx, hb, hml, hown, hts⟩ ⟨hK, hN⟩ hZ hP hD hS hA [0, 1] [2] (wc := [(Rd, .inr (4, [.ref Tp, .int (nI ln), .int (nI axx_164), .int (-1), .int (nI htx_4), .int (nI ctx_5), .ref Rv])), (Tp, .inl (g 0, 160, .inl ftp))]) (wr := [(Rv, .inl (g 0, 21, .inl fvalx_166))]) rfl rfl rfl rfl (by decide) (r_X4_passBlanks l D g H.size Rd Tp ln axx_164 (-1) htx_4 ctx_5 Rv ftp (show ln ≤ 160 by omega) (show axx_164 ≤ ln by omega)) (cwV 0 hts gX4_readClause_X4_passBlanks rfl rfl rfl (by decide +kernel) ⟨(Nat.le_of_ble_eq_true rfl), (Nat.le_of_ble_eq_true rfl)⟩) 0 4 rfl rfl rfl rfl hl.1 rfl (Nat.le_of_ble_eq_true rfl) dX4_readClause_24 ⟨(Nat.le_of_ble_eq_true rfl), (Nat.le_of_ble_eq_true rfl)⟩ (fun u H locs hw hP2 hD2 hS2 => ?_)
            clear hP hD hS
            obtain ⟨axx_178, rfl, hf_179, hf_180⟩ := hw
            have hPD : PD D A [(Rv, .inl (g 0, 21, .inl fvalx_166)), (Rd, .inr (4, [.ref Tp, .int (nI ln), .int (nI axx_178), .int (-1), .int (nI htx_4), .int (nI ctx_5), .ref Rv])), (Tp, .inl (g 0, 160, .inl ftp))] H := ⟨hP2, hD2⟩
            have hS := hS2; clear hP2 hD2 hS2; have hP := hPD.1; have hD := hPD.2; clear hPD
            refine W.widen (k := 0) (n := 0) (Nat.le_of_ble_eq_true rfl) (Nat.le_of_ble_eq_true rfl) ?_
            have hge_181 := sB_ge (T := ftp) (n := ln) (i := axx_164) (by omega)
            refine lv_aload_n hx hb dX4_readClause_27 rfl (lv_at hl 4 rfl) ?_
            refine va_get (D := D) (ci := 4) (v := .int (nI axx_178)) (C := RX4) (T := TX4) (N := 7) hx hb hts iX4 hown hK hP 1 rfl rfl 2 (by decide) f28 (fun _ h9 => h9) rfl dX4_readClause_28 ?_
            refine lv_aload_n hx hb dX4_readClause_31 rfl (lv_at hl 4 rfl) ?_
            refine va_get (D := D) (ci := 4) (v := .int (nI ln)) (C := RX4) (T := TX4) (N := 7) hx hb hts iX4 hown hK hP 1 rfl rfl 1 (by decide) f24 (fun _ h9 => h9) rfl dX4_readClause_32 ?_
            refine lv_icmp_ge (tgt := 52) hx hb dX4_readClause_35 (by decide) (fun cb_182 => ?_) (fun cb_182 => ?_)
            · skip
              have cn_183 : ln ≤ axx_178 := (nI_leI (show ln < 2 ^ 31 by omega) (show axx_178 < 2 ^ 31 by omega)).mp cb_182
              have hPD9 : PD D A [(Rd, .inr (4, [.ref Tp, .int (nI ln), .int (nI axx_178), .int (-1), .int (nI htx_4), .int (nI ctx_5), .ref Rv])), (Tp, .inl (g 0, 160, .inl ftp)), (Rv, .inl (g 0, 21, .inl fvalx_166))] H := ⟨hP.sub [1, 2, 0] rfl, hD.sub [1, 2, 0] (by decide) rfl⟩
              have hP9 := hPD9.1; have hD9 := hPD9.2
              subst hQ
              refine W.widen (k := 0) (n := 0) (Nat.le_of_ble_eq_true rfl) (Nat.le_of_ble_eq_true rfl) ?_
              exact W.vret hx hb hr (fun tS htS _ => ⟨⟨_, rfl, ⟨axx_178, (-1), htx_4, ctx_5, fvalx_166, rfl, ⟨(show axx_178 ≤ ln by omega), (show htx_4 ≤ 3 by omega), (show ctx_5 ≤ 3 by omega), (hf_168), (cl_end hf_7.2.2.2.1.symm (show cl_15 < 7 by omega) (hR_173.trans (itR_end (f := 2) hf_180 (show ¬ axx_178 < ln by omega))) (fun q => absurd q.1 (show ¬ axx_178 < ln by omega))).1, (cl_end hf_7.2.2.2.1.symm (show cl_15 < 7 by omega) (hR_173.trans (itR_end (f := 2) hf_180 (show ¬ axx_178 < ln by omega))) (fun q => absurd q.1 (show ¬ axx_178 < ln by omega))).2.1, (fun _ => ⟨(cl_end hf_7.2.2.2.1.symm (show cl_15 < 7 by omega) (hR_173.trans (itR_end (f := 2) hf_180 (show ¬ axx_178 < ln by omega))) (fun q => absurd q.1 (show ¬ axx_178 < ln by omega))).2.2, show ax < axx_178 by omega⟩), (fun _ => ((clW_cl hf_7.2.2.2.1.symm (show cl_15 < 7 by omega)).trans (hW_175.trans (itW_end (f := 2) hf_180 (show ¬ axx_178 < ln by omega)))).symm)⟩⟩, by rw [htS]; exact hP9, hD9⟩, hS.F htS⟩) hS.2.2 dX4_readClause_52
            · skip
              have cn_184 : axx_178 < ln := Nat.lt_of_not_le (fun q9 => cb_182 ((nI_leI (show ln < 2 ^ 31 by omega) (show axx_178 < 2 ^ 31 by omega)).mpr q9))
              refine lv_aload_n hx hb dX4_readClause_38 rfl (lv_at hl 4 rfl) ?_
              refine va_get (D := D) (ci := 4) (v := .ref Tp) (C := RX4) (T := TX4) (N := 7) hx hb hts iX4 hown hK hP 1 rfl rfl 0 (by decide) f9 (fun _ h9 => h9) rfl dX4_readClause_39 ?_
              refine lv_aload_n hx hb dX4_readClause_42 rfl (lv_at hl 4 rfl) ?_
              refine va_get (D := D) (ci := 4) (v := .int (nI axx_178)) (C := RX4) (T := TX4) (N := 7) hx hb hts iX4 hown hK hP 1 rfl rfl 2 (by decide) f28 (fun _ h9 => h9) rfl dX4_readClause_43 ?_
              refine va_iald hx hb hK hP 2 0 rfl rfl (vp_in_nI (show axx_178 < 160 by omega) (by decide)) dX4_readClause_46 ?_
              refine lv_eqi (y := (ftp (axx_178))) (congrArg ftp (nI_clamp (show axx_178 < 2 ^ 31 by omega))) ?_
              refine lv_bipush (v := 59) hx hb dX4_readClause_47 (by decide) ?_
              refine lv_icmp_ne (tgt := 53) hx hb dX4_readClause_49 (by decide) (fun cb_185 => ?_) (fun cb_185 => ?_)
              · skip
                refine lv_iload_n hx hb dX4_readClause_53 rfl (lv_at hl 3 rfl) ?_
                refine ky_Si (As := [.int (nI cl_15)]) (rest := []) ⟨hx, hb, hml, hown, hts⟩ ⟨hK, hN⟩ hZ hP hD hS hA [] [0, 1, 2] (wc := []) (wr := [(Rv, .inl (g 0, 21, .inl fvalx_166)), (Rd, .inr (4, [.ref Tp, .int (nI ln), .int (nI axx_178), .int (-1), .int (nI htx_4), .int (nI ctx_5), .ref Rv])), (Tp, .inl (g 0, 160, .inl ftp))]) rfl rfl rfl rfl (by decide) (r_X4_kindOf l D g H.size cl_15 (show cl_15 < 7 by omega)) (va_cwS 1 hts gX4_readClause_X4_kindOf rfl rfl rfl (by decide +kernel) ⟨(Nat.le_of_ble_eq_true rfl), (Nat.le_of_ble_eq_true rfl)⟩) rfl hl.1 rfl (Nat.le_of_ble_eq_true rfl) dX4_readClause_54 ⟨(Nat.le_of_ble_eq_true rfl), (Nat.le_of_ble_eq_true rfl)⟩ (fun r_186 u H locs hw hP2 hD2 hS2 => ?_)
                clear hP hD hS
                obtain ⟨rfl, rfl⟩ := hw
                have hPD : PD D A [(Rv, .inl (g 0, 21, .inl fvalx_166)), (Rd, .inr (4, [.ref Tp, .int (nI ln), .int (nI axx_178), .int (-1), .int (nI htx_4), .int (nI ctx_5), .ref Rv])), (Tp, .inl (g 0, 160, .inl ftp))] H := ⟨hP2, hD2⟩
                have hS := hS2; clear hP2 hD2 hS2; have hP := hPD.1; have hD := hPD.2; clear hPD
                refine W.widen (k := 0) (n := 0) (Nat.le_of_ble_eq_true rfl) (Nat.le_of_ble_eq_true rfl) ?_
                refine lv_aload_n hx hb dX4_readClause_57 rfl (lv_at hl 4 rfl) ?_
                refine va_get (D := D) (ci := 4) (v := .ref Tp) (C := RX4) (T := TX4) (N := 7) hx hb hts iX4 hown hK hP 1 rfl rfl 0 (by decide) f9 (fun _ h9 => h9) rfl dX4_readClause_58 ?_
                refine lv_aload_n hx hb dX4_readClause_61 rfl (lv_at hl 4 rfl) ?_
                refine va_get (D := D) (ci := 4) (v := .int (nI axx_178)) (C := RX4) (T := TX4) (N := 7) hx hb hts iX4 hown hK hP 1 rfl rfl 2 (by decide) f28 (fun _ h9 => h9) rfl dX4_readClause_62 ?_
                refine va_iald hx hb hK hP 2 0 rfl rfl (vp_in_nI (show axx_178 < 160 by omega) (by decide)) dX4_readClause_65 ?_
                refine lv_eqi (y := (ftp (axx_178))) (congrArg ftp (nI_clamp (show axx_178 < 2 ^ 31 by omega))) ?_
                refine ky_Si (As := [.int (nI (kdN cl_15)), .int (ftp (axx_178))]) (rest := []) ⟨hx, hb, hml, hown, hts⟩ ⟨hK, hN⟩ hZ hP hD hS hA [] [0, 1, 2] (wc := []) (wr := [(Rv, .inl (g 0, 21, .inl fvalx_166)), (Rd, .inr (4, [.ref Tp, .int (nI ln), .int (nI axx_178), .int (-1), .int (nI htx_4), .int (nI ctx_5), .ref Rv])), (Tp, .inl (g 0, 160, .inl ftp))]) rfl rfl rfl rfl (by decide) (r_X4_itemOf l D g H.size (kdN cl_15) (ftp (axx_178)) (show (kdN cl_15) < 3 by omega)) (va_cwS 2 hts gX4_readClause_X4_itemOf rfl rfl rfl (by decide +kernel) ⟨(Nat.le_of_ble_eq_true rfl), (Nat.le_of_ble_eq_true rfl)⟩) rfl hl.1 rfl (Nat.le_of_ble_eq_true rfl) dX4_readClause_66 ⟨(Nat.le_of_ble_eq_true rfl), (Nat.le_of_ble_eq_true rfl)⟩ (fun r_187 u H locs hw hP2 hD2 hS2 => ?_)
                clear hP hD hS
                obtain ⟨rfl, rfl⟩ := hw
                have hPD : PD D A [(Rv, .inl (g 0, 21, .inl fvalx_166)), (Rd, .inr (4, [.ref Tp, .int (nI ln), .int (nI axx_178), .int (-1), .int (nI htx_4), .int (nI ctx_5), .ref Rv])), (Tp, .inl (g 0, 160, .inl ftp))] H := ⟨hP2, hD2⟩
                have hS := hS2; clear hP2 hD2 hS2; have hP := hPD.1; have hD := hPD.2; clear hPD
                refine W.widen (k := 0) (n := 0) (Nat.le_of_ble_eq_true rfl) (Nat.le_of_ble_eq_true rfl) ?_
                rcases itK_c (kdN cl_15) (ftp (axx_178)) with qi_188 | qi_188 | qi_188 | qi_188
                · skip
                  refine lv_eqi (y := (-1)) (qi_188) ?_
                  refine lv_istore (lv' := [(5, .int (-1)), (4, .int 1), (3, .int 2), (2, .int (nI cl_15)), (0, .ref Rd), (1, .int zf)]) hx hb dX4_readClause_69 hl (by decide) rfl (fun ls hl => ?_)
                  refine lv_iload hx hb dX4_readClause_71 (lv_at hl 0 rfl) ?_
                  refine lv_iconst (v := (-1)) hx hb dX4_readClause_73 (by decide) ?_
                  refine lv_icmp_eq (tgt := 86) hx hb dX4_readClause_74 (by decide) (fun _ => ?_) (fun cb => absurd (by decide) cb)
                  refine lv_aload_n hx hb dX4_readClause_86 rfl (lv_at hl 4 rfl) ?_
                  refine lv_aload_n hx hb dX4_readClause_87 rfl (lv_at hl 4 rfl) ?_
                  refine va_get (D := D) (ci := 4) (v := .int (nI axx_178)) (C := RX4) (T := TX4) (N := 7) hx hb hts iX4 hown hK hP 1 rfl rfl 2 (by decide) f28 (fun _ h9 => h9) rfl dX4_readClause_88 ?_
                  refine va_put (D := D) (ci := 4) (v := .int (nI axx_178)) (ty := .int) (C := RX4) (T := TX4) (N := 7) hx hb hts iX4 tyX4 tyX4_ok nmX4 hown hK hP hD hS 1 rfl rfl 3 (by decide) f31 (fun _ h9 => h9) rfl (by decide +kernel) (rfl) (rfl) (Nat.le_of_ble_eq_true rfl) dX4_readClause_91 (fun H locs hP2 hD2 hS2 => ?_)
                  clear hP hD hS
                  have hPD : PD D A [(Rv, .inl (g 0, 21, .inl fvalx_166)), (Rd, .inr (4, [.ref Tp, .int (nI ln), .int (nI axx_178), .int (nI axx_178), .int (nI htx_4), .int (nI ctx_5), .ref Rv])), (Tp, .inl (g 0, 160, .inl ftp))] H := ⟨hP2, hD2⟩
                  have hS := hS2; clear hP2 hD2 hS2; have hP := hPD.1; have hD := hPD.2; clear hPD
                  have hPD9 : PD D A [(Rd, .inr (4, [.ref Tp, .int (nI ln), .int (nI axx_178), .int (nI axx_178), .int (nI htx_4), .int (nI ctx_5), .ref Rv])), (Tp, .inl (g 0, 160, .inl ftp)), (Rv, .inl (g 0, 21, .inl fvalx_166))] H := ⟨hP.sub [1, 2, 0] rfl, hD.sub [1, 2, 0] (by decide) rfl⟩
                  have hP9 := hPD9.1; have hD9 := hPD9.2
                  subst hQ
                  refine W.widen (k := 0) (n := 0) (Nat.le_of_ble_eq_true rfl) (Nat.le_of_ble_eq_true rfl) ?_
                  exact W.vret hx hb hr (fun tS htS _ => ⟨⟨_, rfl, ⟨axx_178, (nI axx_178), htx_4, ctx_5, fvalx_166, rfl, ⟨(show axx_178 ≤ ln by omega), (show htx_4 ≤ 3 by omega), (show ctx_5 ≤ 3 by omega), (hf_168), (cl_bad hf_7.2.2.2.1.symm (show cl_15 < 7 by omega) (hR_173.trans (itR_no (f := 2) hf_180 qi_188)) (show axx_178 < ln by omega) cb_185).1, (cl_bad hf_7.2.2.2.1.symm (show cl_15 < 7 by omega) (hR_173.trans (itR_no (f := 2) hf_180 qi_188)) (show axx_178 < ln by omega) cb_185).2, (fun q => absurd q (m1_ne (show axx_178 < 2 ^ 31 by omega))), (fun q => absurd q (m1_ne (show axx_178 < 2 ^ 31 by omega)))⟩⟩, by rw [htS]; exact hP9, hD9⟩, hS.F htS⟩) hS.2.2 dX4_readClause_94
                · skip
                  refine lv_eqi (y := 0) (qi_188) ?_
                  refine lv_istore (lv' := [(5, .int 0), (4, .int 1), (3, .int 2), (2, .int (nI cl_15)), (0, .ref Rd), (1, .int zf)]) hx hb dX4_readClause_69 hl (by decide) rfl (fun ls hl => ?_)
                  refine lv_iload hx hb dX4_readClause_71 (lv_at hl 0 rfl) ?_
                  refine lv_iconst (v := (-1)) hx hb dX4_readClause_73 (by decide) ?_
                  refine lv_icmp_eq (tgt := 86) hx hb dX4_readClause_74 (by decide) (fun cb => absurd cb (by decide)) (fun _ => ?_)
                  refine lv_iload_n hx hb dX4_readClause_77 rfl (lv_at hl 2 rfl) ?_
                  refine lv_iconst (v := 1) hx hb dX4_readClause_78 (by decide) ?_
                  refine lv_iload hx hb dX4_readClause_79 (lv_at hl 0 rfl) ?_
                  refine lv_ishl hx hb dX4_readClause_81 ?_
                  refine lv_eqi (y := 1) (by decide) ?_
                  refine lv_iand hx hb dX4_readClause_82 ?_
                  refine lv_eqi (y := 0) (by decide) ?_
                  refine lv_if_eq (tgt := 95) hx hb dX4_readClause_83 (by decide) (fun _ => ?_) (fun cb => absurd (by decide) cb)
                  refine lv_iload_n hx hb dX4_readClause_95 rfl (lv_at hl 2 rfl) ?_
                  refine lv_iconst (v := 1) hx hb dX4_readClause_96 (by decide) ?_
                  refine lv_iload hx hb dX4_readClause_97 (lv_at hl 0 rfl) ?_
                  refine lv_ishl hx hb dX4_readClause_99 ?_
                  refine lv_eqi (y := 1) (by decide) ?_
                  refine lv_ior hx hb dX4_readClause_100 ?_
                  refine lv_eqi (y := 3) (by decide) ?_
                  refine lv_istore_n (lv' := [(3, .int 3), (5, .int 0), (4, .int 1), (2, .int (nI cl_15)), (0, .ref Rd), (1, .int zf)]) hx hb dX4_readClause_101 rfl hl (by decide) rfl (fun ls hl => ?_)
                  refine lv_aload_n hx hb dX4_readClause_102 rfl (lv_at hl 4 rfl) ?_
                  refine lv_dup hx hb dX4_readClause_103 rfl ?_
                  refine va_get (D := D) (ci := 4) (v := .int (nI axx_178)) (C := RX4) (T := TX4) (N := 7) hx hb hts iX4 hown hK hP 1 rfl rfl 2 (by decide) f28 (fun _ h9 => h9) rfl dX4_readClause_104 ?_
                  refine lv_iconst (v := 1) hx hb dX4_readClause_107 (by decide) ?_
                  refine lv_iadd hx hb dX4_readClause_108 ?_
                  refine lv_eqi (y := (nI (axx_178 + 1))) (nI_add (axx_178) (1)) ?_
                  refine va_put (D := D) (ci := 4) (v := .int (nI (axx_178 + 1))) (ty := .int) (C := RX4) (T := TX4) (N := 7) hx hb hts iX4 tyX4 tyX4_ok nmX4 hown hK hP hD hS 1 rfl rfl 2 (by decide) f28 (fun _ h9 => h9) rfl (by decide +kernel) (rfl) (rfl) (Nat.le_of_ble_eq_true rfl) dX4_readClause_109 (fun H locs hP2 hD2 hS2 => ?_)
                  clear hP hD hS
                  have hPD : PD D A [(Rv, .inl (g 0, 21, .inl fvalx_166)), (Rd, .inr (4, [.ref Tp, .int (nI ln), .int (nI (axx_178 + 1)), .int (-1), .int (nI htx_4), .int (nI ctx_5), .ref Rv])), (Tp, .inl (g 0, 160, .inl ftp))] H := ⟨hP2, hD2⟩
                  have hS := hS2; clear hP2 hD2 hS2; have hP := hPD.1; have hD := hPD.2; clear hPD
                  refine lv_aload_n hx hb dX4_readClause_112 rfl (lv_at hl 4 rfl) ?_
                  refine lv_iload_n hx hb dX4_readClause_113 rfl (lv_at hl 3 rfl) ?_
                  refine lv_iload hx hb dX4_readClause_114 (lv_at hl 1 rfl) ?_
                  refine ky_Vv (As := [.int (nI cl_15), .int 0]) (rest := []) ⟨hx, hb, hml, hown, hts⟩ ⟨hK, hN⟩ hZ hP hD hS hA [1, 2, 0] [] (wc := [(Rd, .inr (4, [.ref Tp, .int (nI ln), .int (nI (axx_178 + 1)), .int (-1), .int (nI htx_4), .int (nI ctx_5), .ref Rv])), (Tp, .inl (g 0, 160, .inl ftp)), (Rv, .inl (g 0, 21, .inl fvalx_166))]) (wr := []) rfl rfl rfl rfl (by decide) (r_X4_readNumber l D g H.size Rd cl_15 0 Tp ln (axx_178 + 1) htx_4 ctx_5 Rv ftp fvalx_166 (show ln ≤ 160 by omega) (show (axx_178 + 1) ≤ ln by omega) (hf_168) (show cl_15 < 7 by omega) (show 0 < 3 by omega)) (cwV 2 hts gX4_readClause_X4_readNumber rfl rfl rfl (by decide +kernel) ⟨(Nat.le_of_ble_eq_true rfl), (Nat.le_of_ble_eq_true rfl)⟩) 1 4 rfl rfl rfl rfl hl.1 rfl (Nat.le_of_ble_eq_true rfl) dX4_readClause_116 ⟨(Nat.le_of_ble_eq_true rfl), (Nat.le_of_ble_eq_true rfl)⟩ (fun u H locs hw hP2 hD2 hS2 => ?_)
                  clear hP hD hS
                  obtain ⟨axx_190, zfax_191, fvalx_192, rfl, hf_193, hf_194, hf_195, hf_196⟩ := hw
                  have hPD : PD D A [(Rd, .inr (4, [.ref Tp, .int (nI ln), .int (nI axx_190), .int zfax_191, .int (nI htx_4), .int (nI ctx_5), .ref Rv])), (Tp, .inl (g 0, 160, .inl ftp)), (Rv, .inl (g 0, 21, .inl fvalx_192))] H := ⟨hP2, hD2⟩
                  have hS := hS2; clear hP2 hD2 hS2; have hP := hPD.1; have hD := hPD.2; clear hPD
                  refine W.widen (k := 0) (n := 0) (Nat.le_of_ble_eq_true rfl) (Nat.le_of_ble_eq_true rfl) ?_
                  refine lv_aload_n hx hb dX4_readClause_119 rfl (lv_at hl 4 rfl) ?_
                  refine va_get (D := D) (ci := 4) (v := .int zfax_191) (C := RX4) (T := TX4) (N := 7) hx hb hts iX4 hown hK hP 0 rfl rfl 3 (by decide) f31 (fun _ h9 => h9) rfl dX4_readClause_120 ?_
                  refine lv_iconst (v := (-1)) hx hb dX4_readClause_123 (by decide) ?_
                  refine lv_icmp_eq (tgt := 128) hx hb dX4_readClause_124 (by decide) (fun cb_197 => ?_) (fun cb_197 => ?_)
                  · skip
                    have hPq_198 := hP; have hDq_198 := hD; have hSq_198 := hS; have hlq_198 := hl; clear hP hD hS hl
                    subst cb_197
                    have hP := hPq_198; have hD := hDq_198; have hS := hSq_198; have hl := hlq_198; clear hPq_198 hDq_198 hSq_198 hlq_198
                    have hne_200 := (hf_196 rfl).1
                    have hne_200g := nmE_gt (T := ftp) (n := ln) (i := axx_178 + 1) (by omega)
                    have hR_199 : itR ftp ln (kdN cl_15) 4 0 (sB ftp ln ax + 1) = itR ftp ln (kdN cl_15) 2 3 axx_190 := hR_173.trans ((itR_go (f := 2) (m := 2) (q := 0) hf_180 (show axx_178 < ln by omega) qi_188 (by decide) (by decide) hf_195.symm).trans (by rw [hne_200]))
                    have hnv_202 := hf_196 rfl
                    have hW_201 : itW ftp ln (kdN cl_15) (3 * cl_15) 4 0 (sB ftp ln ax + 1) fval = itW ftp ln (kdN cl_15) (3 * cl_15) 2 3 axx_190 fvalx_192 := hW_175.trans ((itW_go (f := 2) (m := 2) (q := 0) hf_180 (show axx_178 < ln by omega) qi_188 (by decide) (by decide) hf_195.symm).trans (by rw [hnv_202.1, hnv_202.2]))
                    refine lv_iinc (v := 2) (lv' := [(4, .int 2), (3, .int 3), (5, .int 0), (2, .int (nI cl_15)), (0, .ref Rd), (1, .int zf)]) hx hb dX4_readClause_128 hl (k := 2) rfl (by decide) (by decide) rfl (fun ls hl => ?_)
                    refine lv_goto (tgt := 17) hx hb dX4_readClause_131 (by decide) ?_
                    refine lv_iload hx hb dX4_readClause_17 (lv_at hl 0 rfl) ?_
                    refine lv_iconst (v := 3) hx hb dX4_readClause_19 (by decide) ?_
                    refine lv_icmp_gt (tgt := 134) hx hb dX4_readClause_20 (by decide) (fun cb => absurd cb (by decide)) (fun _ => ?_)
                    refine lv_aload_n hx hb dX4_readClause_23 rfl (lv_at hl 4 rfl) ?_
                    refine ky_Vv (As := []) (rest := []) ⟨hx, hb, hml, hown, hts⟩ ⟨hK, hN⟩ hZ hP hD hS hA [0, 1] [2] (wc := [(Rd, .inr (4, [.ref Tp, .int (nI ln), .int (nI axx_190), .int (-1), .int (nI htx_4), .int (nI ctx_5), .ref Rv])), (Tp, .inl (g 0, 160, .inl ftp))]) (wr := [(Rv, .inl (g 0, 21, .inl fvalx_192))]) rfl rfl rfl rfl (by decide) (r_X4_passBlanks l D g H.size Rd Tp ln axx_190 (-1) htx_4 ctx_5 Rv ftp (show ln ≤ 160 by omega) (show axx_190 ≤ ln by omega)) (cwV 0 hts gX4_readClause_X4_passBlanks rfl rfl rfl (by decide +kernel) ⟨(Nat.le_of_ble_eq_true rfl), (Nat.le_of_ble_eq_true rfl)⟩) 0 4 rfl rfl rfl rfl hl.1 rfl (Nat.le_of_ble_eq_true rfl) dX4_readClause_24 ⟨(Nat.le_of_ble_eq_true rfl), (Nat.le_of_ble_eq_true rfl)⟩ (fun u H locs hw hP2 hD2 hS2 => ?_)
                    clear hP hD hS
                    obtain ⟨axx_204, rfl, hf_205, hf_206⟩ := hw
                    have hPD : PD D A [(Rv, .inl (g 0, 21, .inl fvalx_192)), (Rd, .inr (4, [.ref Tp, .int (nI ln), .int (nI axx_204), .int (-1), .int (nI htx_4), .int (nI ctx_5), .ref Rv])), (Tp, .inl (g 0, 160, .inl ftp))] H := ⟨hP2, hD2⟩
                    have hS := hS2; clear hP2 hD2 hS2; have hP := hPD.1; have hD := hPD.2; clear hPD
                    refine W.widen (k := 0) (n := 0) (Nat.le_of_ble_eq_true rfl) (Nat.le_of_ble_eq_true rfl) ?_
                    have hge_207 := sB_ge (T := ftp) (n := ln) (i := axx_190) (by omega)
                    refine lv_aload_n hx hb dX4_readClause_27 rfl (lv_at hl 4 rfl) ?_
                    refine va_get (D := D) (ci := 4) (v := .int (nI axx_204)) (C := RX4) (T := TX4) (N := 7) hx hb hts iX4 hown hK hP 1 rfl rfl 2 (by decide) f28 (fun _ h9 => h9) rfl dX4_readClause_28 ?_
                    refine lv_aload_n hx hb dX4_readClause_31 rfl (lv_at hl 4 rfl) ?_
                    refine va_get (D := D) (ci := 4) (v := .int (nI ln)) (C := RX4) (T := TX4) (N := 7) hx hb hts iX4 hown hK hP 1 rfl rfl 1 (by decide) f24 (fun _ h9 => h9) rfl dX4_readClause_32 ?_
                    refine lv_icmp_ge (tgt := 52) hx hb dX4_readClause_35 (by decide) (fun cb_208 => ?_) (fun cb_208 => ?_)
                    · skip
                      have cn_209 : ln ≤ axx_204 := (nI_leI (show ln < 2 ^ 31 by omega) (show axx_204 < 2 ^ 31 by omega)).mp cb_208
                      have hPD9 : PD D A [(Rd, .inr (4, [.ref Tp, .int (nI ln), .int (nI axx_204), .int (-1), .int (nI htx_4), .int (nI ctx_5), .ref Rv])), (Tp, .inl (g 0, 160, .inl ftp)), (Rv, .inl (g 0, 21, .inl fvalx_192))] H := ⟨hP.sub [1, 2, 0] rfl, hD.sub [1, 2, 0] (by decide) rfl⟩
                      have hP9 := hPD9.1; have hD9 := hPD9.2
                      subst hQ
                      refine W.widen (k := 0) (n := 0) (Nat.le_of_ble_eq_true rfl) (Nat.le_of_ble_eq_true rfl) ?_
                      exact W.vret hx hb hr (fun tS htS _ => ⟨⟨_, rfl, ⟨axx_204, (-1), htx_4, ctx_5, fvalx_192, rfl, ⟨(show axx_204 ≤ ln by omega), (show htx_4 ≤ 3 by omega), (show ctx_5 ≤ 3 by omega), (hf_194), (cl_end hf_7.2.2.2.1.symm (show cl_15 < 7 by omega) (hR_199.trans (itR_end (f := 1) hf_206 (show ¬ axx_204 < ln by omega))) (fun q => absurd q.1 (show ¬ axx_204 < ln by omega))).1, (cl_end hf_7.2.2.2.1.symm (show cl_15 < 7 by omega) (hR_199.trans (itR_end (f := 1) hf_206 (show ¬ axx_204 < ln by omega))) (fun q => absurd q.1 (show ¬ axx_204 < ln by omega))).2.1, (fun _ => ⟨(cl_end hf_7.2.2.2.1.symm (show cl_15 < 7 by omega) (hR_199.trans (itR_end (f := 1) hf_206 (show ¬ axx_204 < ln by omega))) (fun q => absurd q.1 (show ¬ axx_204 < ln by omega))).2.2, show ax < axx_204 by omega⟩), (fun _ => ((clW_cl hf_7.2.2.2.1.symm (show cl_15 < 7 by omega)).trans (hW_201.trans (itW_end (f := 1) hf_206 (show ¬ axx_204 < ln by omega)))).symm)⟩⟩, by rw [htS]; exact hP9, hD9⟩, hS.F htS⟩) hS.2.2 dX4_readClause_52
                    · skip
                      have cn_210 : axx_204 < ln := Nat.lt_of_not_le (fun q9 => cb_208 ((nI_leI (show ln < 2 ^ 31 by omega) (show axx_204 < 2 ^ 31 by omega)).mpr q9))
                      refine lv_aload_n hx hb dX4_readClause_38 rfl (lv_at hl 4 rfl) ?_
                      refine va_get (D := D) (ci := 4) (v := .ref Tp) (C := RX4) (T := TX4) (N := 7) hx hb hts iX4 hown hK hP 1 rfl rfl 0 (by decide) f9 (fun _ h9 => h9) rfl dX4_readClause_39 ?_
                      refine lv_aload_n hx hb dX4_readClause_42 rfl (lv_at hl 4 rfl) ?_
                      refine va_get (D := D) (ci := 4) (v := .int (nI axx_204)) (C := RX4) (T := TX4) (N := 7) hx hb hts iX4 hown hK hP 1 rfl rfl 2 (by decide) f28 (fun _ h9 => h9) rfl dX4_readClause_43 ?_
                      refine va_iald hx hb hK hP 2 0 rfl rfl (vp_in_nI (show axx_204 < 160 by omega) (by decide)) dX4_readClause_46 ?_
                      refine lv_eqi (y := (ftp (axx_204))) (congrArg ftp (nI_clamp (show axx_204 < 2 ^ 31 by omega))) ?_
                      refine lv_bipush (v := 59) hx hb dX4_readClause_47 (by decide) ?_
                      refine lv_icmp_ne (tgt := 53) hx hb dX4_readClause_49 (by decide) (fun cb_211 => ?_) (fun cb_211 => ?_)
                      · skip
                        refine lv_iload_n hx hb dX4_readClause_53 rfl (lv_at hl 3 rfl) ?_
                        refine ky_Si (As := [.int (nI cl_15)]) (rest := []) ⟨hx, hb, hml, hown, hts⟩ ⟨hK, hN⟩ hZ hP hD hS hA [] [0, 1, 2] (wc := []) (wr := [(Rv, .inl (g 0, 21, .inl fvalx_192)), (Rd, .inr (4, [.ref Tp, .int (nI ln), .int (nI axx_204), .int (-1), .int (nI htx_4), .int (nI ctx_5), .ref Rv])), (Tp, .inl (g 0, 160, .inl ftp))]) rfl rfl rfl rfl (by decide) (r_X4_kindOf l D g H.size cl_15 (show cl_15 < 7 by omega)) (va_cwS 1 hts gX4_readClause_X4_kindOf rfl rfl rfl (by decide +kernel) ⟨(Nat.le_of_ble_eq_true rfl), (Nat.le_of_ble_eq_true rfl)⟩) rfl hl.1 rfl (Nat.le_of_ble_eq_true rfl) dX4_readClause_54 ⟨(Nat.le_of_ble_eq_true rfl), (Nat.le_of_ble_eq_true rfl)⟩ (fun r_212 u H locs hw hP2 hD2 hS2 => ?_)
                        clear hP hD hS
                        obtain ⟨rfl, rfl⟩ := hw
                        have hPD : PD D A [(Rv, .inl (g 0, 21, .inl fvalx_192)), (Rd, .inr (4, [.ref Tp, .int (nI ln), .int (nI axx_204), .int (-1), .int (nI htx_4), .int (nI ctx_5), .ref Rv])), (Tp, .inl (g 0, 160, .inl ftp))] H := ⟨hP2, hD2⟩
                        have hS := hS2; clear hP2 hD2 hS2; have hP := hPD.1; have hD := hPD.2; clear hPD
                        refine W.widen (k := 0) (n := 0) (Nat.le_of_ble_eq_true rfl) (Nat.le_of_ble_eq_true rfl) ?_
                        refine lv_aload_n hx hb dX4_readClause_57 rfl (lv_at hl 4 rfl) ?_
                        refine va_get (D := D) (ci := 4) (v := .ref Tp) (C := RX4) (T := TX4) (N := 7) hx hb hts iX4 hown hK hP 1 rfl rfl 0 (by decide) f9 (fun _ h9 => h9) rfl dX4_readClause_58 ?_
                        refine lv_aload_n hx hb dX4_readClause_61 rfl (lv_at hl 4 rfl) ?_
                        refine va_get (D := D) (ci := 4) (v := .int (nI axx_204)) (C := RX4) (T := TX4) (N := 7) hx hb hts iX4 hown hK hP 1 rfl rfl 2 (by decide) f28 (fun _ h9 => h9) rfl dX4_readClause_62 ?_
                        refine va_iald hx hb hK hP 2 0 rfl rfl (vp_in_nI (show axx_204 < 160 by omega) (by decide)) dX4_readClause_65 ?_
                        refine lv_eqi (y := (ftp (axx_204))) (congrArg ftp (nI_clamp (show axx_204 < 2 ^ 31 by omega))) ?_
                        refine ky_Si (As := [.int (nI (kdN cl_15)), .int (ftp (axx_204))]) (rest := []) ⟨hx, hb, hml, hown, hts⟩ ⟨hK, hN⟩ hZ hP hD hS hA [] [0, 1, 2] (wc := []) (wr := [(Rv, .inl (g 0, 21, .inl fvalx_192)), (Rd, .inr (4, [.ref Tp, .int (nI ln), .int (nI axx_204), .int (-1), .int (nI htx_4), .int (nI ctx_5), .ref Rv])), (Tp, .inl (g 0, 160, .inl ftp))]) rfl rfl rfl rfl (by decide) (r_X4_itemOf l D g H.size (kdN cl_15) (ftp (axx_204)) (show (kdN cl_15) < 3 by omega)) (va_cwS 2 hts gX4_readClause_X4_itemOf rfl rfl rfl (by decide +kernel) ⟨(Nat.le_of_ble_eq_true rfl), (Nat.le_of_ble_eq_true rfl)⟩) rfl hl.1 rfl (Nat.le_of_ble_eq_true rfl) dX4_readClause_66 ⟨(Nat.le_of_ble_eq_true rfl), (Nat.le_of_ble_eq_true rfl)⟩ (fun r_213 u H locs hw hP2 hD2 hS2 => ?_)
                        clear hP hD hS
                        obtain ⟨rfl, rfl⟩ := hw
                        have hPD : PD D A [(Rv, .inl (g 0, 21, .inl fvalx_192)), (Rd, .inr (4, [.ref Tp, .int (nI ln), .int (nI axx_204), .int (-1), .int (nI htx_4), .int (nI ctx_5), .ref Rv])), (Tp, .inl (g 0, 160, .inl ftp))] H := ⟨hP2, hD2⟩
                        have hS := hS2; clear hP2 hD2 hS2; have hP := hPD.1; have hD := hPD.2; clear hPD
                        refine W.widen (k := 0) (n := 0) (Nat.le_of_ble_eq_true rfl) (Nat.le_of_ble_eq_true rfl) ?_
                        rcases itK_c (kdN cl_15) (ftp (axx_204)) with qi_214 | qi_214 | qi_214 | qi_214
                        · skip
                          refine lv_eqi (y := (-1)) (qi_214) ?_
                          refine lv_istore (lv' := [(5, .int (-1)), (4, .int 2), (3, .int 3), (2, .int (nI cl_15)), (0, .ref Rd), (1, .int zf)]) hx hb dX4_readClause_69 hl (by decide) rfl (fun ls hl => ?_)
                          refine lv_iload hx hb dX4_readClause_71 (lv_at hl 0 rfl) ?_
                          refine lv_iconst (v := (-1)) hx hb dX4_readClause_73 (by decide) ?_
                          refine lv_icmp_eq (tgt := 86) hx hb dX4_readClause_74 (by decide) (fun _ => ?_) (fun cb => absurd (by decide) cb)
                          refine lv_aload_n hx hb dX4_readClause_86 rfl (lv_at hl 4 rfl) ?_
                          refine lv_aload_n hx hb dX4_readClause_87 rfl (lv_at hl 4 rfl) ?_
                          refine va_get (D := D) (ci := 4) (v := .int (nI axx_204)) (C := RX4) (T := TX4) (N := 7) hx hb hts iX4 hown hK hP 1 rfl rfl 2 (by decide) f28 (fun _ h9 => h9) rfl dX4_readClause_88 ?_
                          refine va_put (D := D) (ci := 4) (v := .int (nI axx_204)) (ty := .int) (C := RX4) (T := TX4) (N := 7) hx hb hts iX4 tyX4 tyX4_ok nmX4 hown hK hP hD hS 1 rfl rfl 3 (by decide) f31 (fun _ h9 => h9) rfl (by decide +kernel) (rfl) (rfl) (Nat.le_of_ble_eq_true rfl) dX4_readClause_91 (fun H locs hP2 hD2 hS2 => ?_)
                          clear hP hD hS
                          have hPD : PD D A [(Rv, .inl (g 0, 21, .inl fvalx_192)), (Rd, .inr (4, [.ref Tp, .int (nI ln), .int (nI axx_204), .int (nI axx_204), .int (nI htx_4), .int (nI ctx_5), .ref Rv])), (Tp, .inl (g 0, 160, .inl ftp))] H := ⟨hP2, hD2⟩
                          have hS := hS2; clear hP2 hD2 hS2; have hP := hPD.1; have hD := hPD.2; clear hPD
                          have hPD9 : PD D A [(Rd, .inr (4, [.ref Tp, .int (nI ln), .int (nI axx_204), .int (nI axx_204), .int (nI htx_4), .int (nI ctx_5), .ref Rv])), (Tp, .inl (g 0, 160, .inl ftp)), (Rv, .inl (g 0, 21, .inl fvalx_192))] H := ⟨hP.sub [1, 2, 0] rfl, hD.sub [1, 2, 0] (by decide) rfl⟩
                          have hP9 := hPD9.1; have hD9 := hPD9.2
                          subst hQ
                          refine W.widen (k := 0) (n := 0) (Nat.le_of_ble_eq_true rfl) (Nat.le_of_ble_eq_true rfl) ?_
                          exact W.vret hx hb hr (fun tS htS _ => ⟨⟨_, rfl, ⟨axx_204, (nI axx_204), htx_4, ctx_5, fvalx_192, rfl, ⟨(show axx_204 ≤ ln by omega), (show htx_4 ≤ 3 by omega), (show ctx_5 ≤ 3 by omega), (hf_194), (cl_bad hf_7.2.2.2.1.symm (show cl_15 < 7 by omega) (hR_199.trans (itR_no (f := 1) hf_206 qi_214)) (show axx_204 < ln by omega) cb_211).1, (cl_bad hf_7.2.2.2.1.symm (show cl_15 < 7 by omega) (hR_199.trans (itR_no (f := 1) hf_206 qi_214)) (show axx_204 < ln by omega) cb_211).2, (fun q => absurd q (m1_ne (show axx_204 < 2 ^ 31 by omega))), (fun q => absurd q (m1_ne (show axx_204 < 2 ^ 31 by omega)))⟩⟩, by rw [htS]; exact hP9, hD9⟩, hS.F htS⟩) hS.2.2 dX4_readClause_94
                        · skip
                          refine lv_eqi (y := 0) (qi_214) ?_
                          refine lv_istore (lv' := [(5, .int 0), (4, .int 2), (3, .int 3), (2, .int (nI cl_15)), (0, .ref Rd), (1, .int zf)]) hx hb dX4_readClause_69 hl (by decide) rfl (fun ls hl => ?_)
                          refine lv_iload hx hb dX4_readClause_71 (lv_at hl 0 rfl) ?_
                          refine lv_iconst (v := (-1)) hx hb dX4_readClause_73 (by decide) ?_
                          refine lv_icmp_eq (tgt := 86) hx hb dX4_readClause_74 (by decide) (fun cb => absurd cb (by decide)) (fun _ => ?_)
                          refine lv_iload_n hx hb dX4_readClause_77 rfl (lv_at hl 2 rfl) ?_
                          refine lv_iconst (v := 1) hx hb dX4_readClause_78 (by decide) ?_
                          refine lv_iload hx hb dX4_readClause_79 (lv_at hl 0 rfl) ?_
                          refine lv_ishl hx hb dX4_readClause_81 ?_
                          refine lv_eqi (y := 1) (by decide) ?_
                          refine lv_iand hx hb dX4_readClause_82 ?_
                          refine lv_eqi (y := 1) (by decide) ?_
                          refine lv_if_eq (tgt := 95) hx hb dX4_readClause_83 (by decide) (fun cb => absurd cb (by decide)) (fun _ => ?_)
                          refine lv_aload_n hx hb dX4_readClause_86 rfl (lv_at hl 4 rfl) ?_
                          refine lv_aload_n hx hb dX4_readClause_87 rfl (lv_at hl 4 rfl) ?_
                          refine va_get (D := D) (ci := 4) (v := .int (nI axx_204)) (C := RX4) (T := TX4) (N := 7) hx hb hts iX4 hown hK hP 1 rfl rfl 2 (by decide) f28 (fun _ h9 => h9) rfl dX4_readClause_88 ?_
                          refine va_put (D := D) (ci := 4) (v := .int (nI axx_204)) (ty := .int) (C := RX4) (T := TX4) (N := 7) hx hb hts iX4 tyX4 tyX4_ok nmX4 hown hK hP hD hS 1 rfl rfl 3 (by decide) f31 (fun _ h9 => h9) rfl (by decide +kernel) (rfl) (rfl) (Nat.le_of_ble_eq_true rfl) dX4_readClause_91 (fun H locs hP2 hD2 hS2 => ?_)
                          clear hP hD hS
                          have hPD : PD D A [(Rv, .inl (g 0, 21, .inl fvalx_192)), (Rd, .inr (4, [.ref Tp, .int (nI ln), .int (nI axx_204), .int (nI axx_204), .int (nI htx_4), .int (nI ctx_5), .ref Rv])), (Tp, .inl (g 0, 160, .inl ftp))] H := ⟨hP2, hD2⟩
                          have hS := hS2; clear hP2 hD2 hS2; have hP := hPD.1; have hD := hPD.2; clear hPD
                          have hPD9 : PD D A [(Rd, .inr (4, [.ref Tp, .int (nI ln), .int (nI axx_204), .int (nI axx_204), .int (nI htx_4), .int (nI ctx_5), .ref Rv])), (Tp, .inl (g 0, 160, .inl ftp)), (Rv, .inl (g 0, 21, .inl fvalx_192))] H := ⟨hP.sub [1, 2, 0] rfl, hD.sub [1, 2, 0] (by decide) rfl⟩
                          have hP9 := hPD9.1; have hD9 := hPD9.2
                          subst hQ
                          refine W.widen (k := 0) (n := 0) (Nat.le_of_ble_eq_true rfl) (Nat.le_of_ble_eq_true rfl) ?_
                          exact W.vret hx hb hr (fun tS htS _ => ⟨⟨_, rfl, ⟨axx_204, (nI axx_204), htx_4, ctx_5, fvalx_192, rfl, ⟨(show axx_204 ≤ ln by omega), (show htx_4 ≤ 3 by omega), (show ctx_5 ≤ 3 by omega), (hf_194), (cl_bad hf_7.2.2.2.1.symm (show cl_15 < 7 by omega) (hR_199.trans (itR_again (f := 1) (q := 0) hf_206 qi_214 (by decide) (by decide))) (show axx_204 < ln by omega) cb_211).1, (cl_bad hf_7.2.2.2.1.symm (show cl_15 < 7 by omega) (hR_199.trans (itR_again (f := 1) (q := 0) hf_206 qi_214 (by decide) (by decide))) (show axx_204 < ln by omega) cb_211).2, (fun q => absurd q (m1_ne (show axx_204 < 2 ^ 31 by omega))), (fun q => absurd q (m1_ne (show axx_204 < 2 ^ 31 by omega)))⟩⟩, by rw [htS]; exact hP9, hD9⟩, hS.F htS⟩) hS.2.2 dX4_readClause_94
                        · skip
                          refine lv_eqi (y := 1) (qi_214) ?_
                          refine lv_istore (lv' := [(5, .int 1), (4, .int 2), (3, .int 3), (2, .int (nI cl_15)), (0, .ref Rd), (1, .int zf)]) hx hb dX4_readClause_69 hl (by decide) rfl (fun ls hl => ?_)
                          refine lv_iload hx hb dX4_readClause_71 (lv_at hl 0 rfl) ?_
                          refine lv_iconst (v := (-1)) hx hb dX4_readClause_73 (by decide) ?_
                          refine lv_icmp_eq (tgt := 86) hx hb dX4_readClause_74 (by decide) (fun cb => absurd cb (by decide)) (fun _ => ?_)
                          refine lv_iload_n hx hb dX4_readClause_77 rfl (lv_at hl 2 rfl) ?_
                          refine lv_iconst (v := 1) hx hb dX4_readClause_78 (by decide) ?_
                          refine lv_iload hx hb dX4_readClause_79 (lv_at hl 0 rfl) ?_
                          refine lv_ishl hx hb dX4_readClause_81 ?_
                          refine lv_eqi (y := 2) (by decide) ?_
                          refine lv_iand hx hb dX4_readClause_82 ?_
                          refine lv_eqi (y := 2) (by decide) ?_
                          refine lv_if_eq (tgt := 95) hx hb dX4_readClause_83 (by decide) (fun cb => absurd cb (by decide)) (fun _ => ?_)
                          refine lv_aload_n hx hb dX4_readClause_86 rfl (lv_at hl 4 rfl) ?_
                          refine lv_aload_n hx hb dX4_readClause_87 rfl (lv_at hl 4 rfl) ?_
                          refine va_get (D := D) (ci := 4) (v := .int (nI axx_204)) (C := RX4) (T := TX4) (N := 7) hx hb hts iX4 hown hK hP 1 rfl rfl 2 (by decide) f28 (fun _ h9 => h9) rfl dX4_readClause_88 ?_
                          refine va_put (D := D) (ci := 4) (v := .int (nI axx_204)) (ty := .int) (C := RX4) (T := TX4) (N := 7) hx hb hts iX4 tyX4 tyX4_ok nmX4 hown hK hP hD hS 1 rfl rfl 3 (by decide) f31 (fun _ h9 => h9) rfl (by decide +kernel) (rfl) (rfl) (Nat.le_of_ble_eq_true rfl) dX4_readClause_91 (fun H locs hP2 hD2 hS2 => ?_)
                          clear hP hD hS
                          have hPD : PD D A [(Rv, .inl (g 0, 21, .inl fvalx_192)), (Rd, .inr (4, [.ref Tp, .int (nI ln), .int (nI axx_204), .int (nI axx_204), .int (nI htx_4), .int (nI ctx_5), .ref Rv])), (Tp, .inl (g 0, 160, .inl ftp))] H := ⟨hP2, hD2⟩
                          have hS := hS2; clear hP2 hD2 hS2; have hP := hPD.1; have hD := hPD.2; clear hPD
                          have hPD9 : PD D A [(Rd, .inr (4, [.ref Tp, .int (nI ln), .int (nI axx_204), .int (nI axx_204), .int (nI htx_4), .int (nI ctx_5), .ref Rv])), (Tp, .inl (g 0, 160, .inl ftp)), (Rv, .inl (g 0, 21, .inl fvalx_192))] H := ⟨hP.sub [1, 2, 0] rfl, hD.sub [1, 2, 0] (by decide) rfl⟩
                          have hP9 := hPD9.1; have hD9 := hPD9.2
                          subst hQ
                          refine W.widen (k := 0) (n := 0) (Nat.le_of_ble_eq_true rfl) (Nat.le_of_ble_eq_true rfl) ?_
                          exact W.vret hx hb hr (fun tS htS _ => ⟨⟨_, rfl, ⟨axx_204, (nI axx_204), htx_4, ctx_5, fvalx_192, rfl, ⟨(show axx_204 ≤ ln by omega), (show htx_4 ≤ 3 by omega), (show ctx_5 ≤ 3 by omega), (hf_194), (cl_bad hf_7.2.2.2.1.symm (show cl_15 < 7 by omega) (hR_199.trans (itR_again (f := 1) (q := 1) hf_206 qi_214 (by decide) (by decide))) (show axx_204 < ln by omega) cb_211).1, (cl_bad hf_7.2.2.2.1.symm (show cl_15 < 7 by omega) (hR_199.trans (itR_again (f := 1) (q := 1) hf_206 qi_214 (by decide) (by decide))) (show axx_204 < ln by omega) cb_211).2, (fun q => absurd q (m1_ne (show axx_204 < 2 ^ 31 by omega))), (fun q => absurd q (m1_ne (show axx_204 < 2 ^ 31 by omega)))⟩⟩, by rw [htS]; exact hP9, hD9⟩, hS.F htS⟩) hS.2.2 dX4_readClause_94
                        · skip
                          refine lv_eqi (y := 2) (qi_214) ?_
                          refine lv_istore (lv' := [(5, .int 2), (4, .int 2), (3, .int 3), (2, .int (nI cl_15)), (0, .ref Rd), (1, .int zf)]) hx hb dX4_readClause_69 hl (by decide) rfl (fun ls hl => ?_)
                          refine lv_iload hx hb dX4_readClause_71 (lv_at hl 0 rfl) ?_
                          refine lv_iconst (v := (-1)) hx hb dX4_readClause_73 (by decide) ?_
                          refine lv_icmp_eq (tgt := 86) hx hb dX4_readClause_74 (by decide) (fun cb => absurd cb (by decide)) (fun _ => ?_)
                          refine lv_iload_n hx hb dX4_readClause_77 rfl (lv_at hl 2 rfl) ?_
                          refine lv_iconst (v := 1) hx hb dX4_readClause_78 (by decide) ?_
                          refine lv_iload hx hb dX4_readClause_79 (lv_at hl 0 rfl) ?_
                          refine lv_ishl hx hb dX4_readClause_81 ?_
                          refine lv_eqi (y := 4) (by decide) ?_
                          refine lv_iand hx hb dX4_readClause_82 ?_
                          refine lv_eqi (y := 0) (by decide) ?_
                          refine lv_if_eq (tgt := 95) hx hb dX4_readClause_83 (by decide) (fun _ => ?_) (fun cb => absurd (by decide) cb)
                          refine lv_iload_n hx hb dX4_readClause_95 rfl (lv_at hl 2 rfl) ?_
                          refine lv_iconst (v := 1) hx hb dX4_readClause_96 (by decide) ?_
                          refine lv_iload hx hb dX4_readClause_97 (lv_at hl 0 rfl) ?_
                          refine lv_ishl hx hb dX4_readClause_99 ?_
                          refine lv_eqi (y := 4) (by decide) ?_
                          refine lv_ior hx hb dX4_readClause_100 ?_
                          refine lv_eqi (y := 7) (by decide) ?_
                          refine lv_istore_n (lv' := [(3, .int 7), (5, .int 2), (4, .int 2), (2, .int (nI cl_15)), (0, .ref Rd), (1, .int zf)]) hx hb dX4_readClause_101 rfl hl (by decide) rfl (fun ls hl => ?_)
                          refine lv_aload_n hx hb dX4_readClause_102 rfl (lv_at hl 4 rfl) ?_
                          refine lv_dup hx hb dX4_readClause_103 rfl ?_
                          refine va_get (D := D) (ci := 4) (v := .int (nI axx_204)) (C := RX4) (T := TX4) (N := 7) hx hb hts iX4 hown hK hP 1 rfl rfl 2 (by decide) f28 (fun _ h9 => h9) rfl dX4_readClause_104 ?_
                          refine lv_iconst (v := 1) hx hb dX4_readClause_107 (by decide) ?_
                          refine lv_iadd hx hb dX4_readClause_108 ?_
                          refine lv_eqi (y := (nI (axx_204 + 1))) (nI_add (axx_204) (1)) ?_
                          refine va_put (D := D) (ci := 4) (v := .int (nI (axx_204 + 1))) (ty := .int) (C := RX4) (T := TX4) (N := 7) hx hb hts iX4 tyX4 tyX4_ok nmX4 hown hK hP hD hS 1 rfl rfl 2 (by decide) f28 (fun _ h9 => h9) rfl (by decide +kernel) (rfl) (rfl) (Nat.le_of_ble_eq_true rfl) dX4_readClause_109 (fun H locs hP2 hD2 hS2 => ?_)
                          clear hP hD hS
                          have hPD : PD D A [(Rv, .inl (g 0, 21, .inl fvalx_192)), (Rd, .inr (4, [.ref Tp, .int (nI ln), .int (nI (axx_204 + 1)), .int (-1), .int (nI htx_4), .int (nI ctx_5), .ref Rv])), (Tp, .inl (g 0, 160, .inl ftp))] H := ⟨hP2, hD2⟩
                          have hS := hS2; clear hP2 hD2 hS2; have hP := hPD.1; have hD := hPD.2; clear hPD
                          refine lv_aload_n hx hb dX4_readClause_112 rfl (lv_at hl 4 rfl) ?_
                          refine lv_iload_n hx hb dX4_readClause_113 rfl (lv_at hl 3 rfl) ?_
                          refine lv_iload hx hb dX4_readClause_114 (lv_at hl 1 rfl) ?_
                          refine ky_Vv (As := [.int (nI cl_15), .int 2]) (rest := []) ⟨hx, hb, hml, hown, hts⟩ ⟨hK, hN⟩ hZ hP hD hS hA [1, 2, 0] [] (wc := [(Rd, .inr (4, [.ref Tp, .int (nI ln), .int (nI (axx_204 + 1)), .int (-1), .int (nI htx_4), .int (nI ctx_5), .ref Rv])), (Tp, .inl (g 0, 160, .inl ftp)), (Rv, .inl (g 0, 21, .inl fvalx_192))]) (wr := []) rfl rfl rfl rfl (by decide) (r_X4_readNumber l D g H.size Rd cl_15 2 Tp ln (axx_204 + 1) htx_4 ctx_5 Rv ftp fvalx_192 (show ln ≤ 160 by omega) (show (axx_204 + 1) ≤ ln by omega) (hf_194) (show cl_15 < 7 by omega) (show 2 < 3 by omega)) (cwV 2 hts gX4_readClause_X4_readNumber rfl rfl rfl (by decide +kernel) ⟨(Nat.le_of_ble_eq_true rfl), (Nat.le_of_ble_eq_true rfl)⟩) 1 4 rfl rfl rfl rfl hl.1 rfl (Nat.le_of_ble_eq_true rfl) dX4_readClause_116 ⟨(Nat.le_of_ble_eq_true rfl), (Nat.le_of_ble_eq_true rfl)⟩ (fun u H locs hw hP2 hD2 hS2 => ?_)
                          clear hP hD hS
                          obtain ⟨axx_216, zfax_217, fvalx_218, rfl, hf_219, hf_220, hf_221, hf_222⟩ := hw
                          have hPD : PD D A [(Rd, .inr (4, [.ref Tp, .int (nI ln), .int (nI axx_216), .int zfax_217, .int (nI htx_4), .int (nI ctx_5), .ref Rv])), (Tp, .inl (g 0, 160, .inl ftp)), (Rv, .inl (g 0, 21, .inl fvalx_218))] H := ⟨hP2, hD2⟩
                          have hS := hS2; clear hP2 hD2 hS2; have hP := hPD.1; have hD := hPD.2; clear hPD
                          refine W.widen (k := 0) (n := 0) (Nat.le_of_ble_eq_true rfl) (Nat.le_of_ble_eq_true rfl) ?_
                          refine lv_aload_n hx hb dX4_readClause_119 rfl (lv_at hl 4 rfl) ?_
                          refine va_get (D := D) (ci := 4) (v := .int zfax_217) (C := RX4) (T := TX4) (N := 7) hx hb hts iX4 hown hK hP 0 rfl rfl 3 (by decide) f31 (fun _ h9 => h9) rfl dX4_readClause_120 ?_
                          refine lv_iconst (v := (-1)) hx hb dX4_readClause_123 (by decide) ?_
                          refine lv_icmp_eq (tgt := 128) hx hb dX4_readClause_124 (by decide) (fun cb_223 => ?_) (fun cb_223 => ?_)
                          · skip
                            have hPq_224 := hP; have hDq_224 := hD; have hSq_224 := hS; have hlq_224 := hl; clear hP hD hS hl
                            subst cb_223
                            have hP := hPq_224; have hD := hDq_224; have hS := hSq_224; have hl := hlq_224; clear hPq_224 hDq_224 hSq_224 hlq_224
                            have hne_226 := (hf_222 rfl).1
                            have hne_226g := nmE_gt (T := ftp) (n := ln) (i := axx_204 + 1) (by omega)
                            have hR_225 : itR ftp ln (kdN cl_15) 4 0 (sB ftp ln ax + 1) = itR ftp ln (kdN cl_15) 1 7 axx_216 := hR_199.trans ((itR_go (f := 1) (m := 3) (q := 2) hf_206 (show axx_204 < ln by omega) qi_214 (by decide) (by decide) hf_221.symm).trans (by rw [hne_226]))
                            have hnv_228 := hf_222 rfl
                            have hW_227 : itW ftp ln (kdN cl_15) (3 * cl_15) 4 0 (sB ftp ln ax + 1) fval = itW ftp ln (kdN cl_15) (3 * cl_15) 1 7 axx_216 fvalx_218 := hW_201.trans ((itW_go (f := 1) (m := 3) (q := 2) hf_206 (show axx_204 < ln by omega) qi_214 (by decide) (by decide) hf_221.symm).trans (by rw [hnv_228.1, hnv_228.2]))
                            refine lv_iinc (v := 3) (lv' := [(4, .int 3), (3, .int 7), (5, .int 2), (2, .int (nI cl_15)), (0, .ref Rd), (1, .int zf)]) hx hb dX4_readClause_128 hl (k := 2) rfl (by decide) (by decide) rfl (fun ls hl => ?_)
                            refine lv_goto (tgt := 17) hx hb dX4_readClause_131 (by decide) ?_
                            refine lv_iload hx hb dX4_readClause_17 (lv_at hl 0 rfl) ?_
                            refine lv_iconst (v := 3) hx hb dX4_readClause_19 (by decide) ?_
                            refine lv_icmp_gt (tgt := 134) hx hb dX4_readClause_20 (by decide) (fun cb => absurd cb (by decide)) (fun _ => ?_)
                            refine lv_aload_n hx hb dX4_readClause_23 rfl (lv_at hl 4 rfl) ?_
                            refine ky_Vv (As := []) (rest := []) ⟨hx, hb, hml, hown, hts⟩ ⟨hK, hN⟩ hZ hP hD hS hA [0, 1] [2] (wc := [(Rd, .inr (4, [.ref Tp, .int (nI ln), .int (nI axx_216), .int (-1), .int (nI htx_4), .int (nI ctx_5), .ref Rv])), (Tp, .inl (g 0, 160, .inl ftp))]) (wr := [(Rv, .inl (g 0, 21, .inl fvalx_218))]) rfl rfl rfl rfl (by decide) (r_X4_passBlanks l D g H.size Rd Tp ln axx_216 (-1) htx_4 ctx_5 Rv ftp (show ln ≤ 160 by omega) (show axx_216 ≤ ln by omega)) (cwV 0 hts gX4_readClause_X4_passBlanks rfl rfl rfl (by decide +kernel) ⟨(Nat.le_of_ble_eq_true rfl), (Nat.le_of_ble_eq_true rfl)⟩) 0 4 rfl rfl rfl rfl hl.1 rfl (Nat.le_of_ble_eq_true rfl) dX4_readClause_24 ⟨(Nat.le_of_ble_eq_true rfl), (Nat.le_of_ble_eq_true rfl)⟩ (fun u H locs hw hP2 hD2 hS2 => ?_)
                            clear hP hD hS
                            obtain ⟨axx_230, rfl, hf_231, hf_232⟩ := hw
                            have hPD : PD D A [(Rv, .inl (g 0, 21, .inl fvalx_218)), (Rd, .inr (4, [.ref Tp, .int (nI ln), .int (nI axx_230), .int (-1), .int (nI htx_4), .int (nI ctx_5), .ref Rv])), (Tp, .inl (g 0, 160, .inl ftp))] H := ⟨hP2, hD2⟩
                            have hS := hS2; clear hP2 hD2 hS2; have hP := hPD.1; have hD := hPD.2; clear hPD
                            refine W.widen (k := 0) (n := 0) (Nat.le_of_ble_eq_true rfl) (Nat.le_of_ble_eq_true rfl) ?_
                            have hge_233 := sB_ge (T := ftp) (n := ln) (i := axx_216) (by omega)
                            refine lv_aload_n hx hb dX4_readClause_27 rfl (lv_at hl 4 rfl) ?_
                            refine va_get (D := D) (ci := 4) (v := .int (nI axx_230)) (C := RX4) (T := TX4) (N := 7) hx hb hts iX4 hown hK hP 1 rfl rfl 2 (by decide) f28 (fun _ h9 => h9) rfl dX4_readClause_28 ?_
                            refine lv_aload_n hx hb dX4_readClause_31 rfl (lv_at hl 4 rfl) ?_
                            refine va_get (D := D) (ci := 4) (v := .int (nI ln)) (C := RX4) (T := TX4) (N := 7) hx hb hts iX4 hown hK hP 1 rfl rfl 1 (by decide) f24 (fun _ h9 => h9) rfl dX4_readClause_32 ?_
                            refine lv_icmp_ge (tgt := 52) hx hb dX4_readClause_35 (by decide) (fun cb_234 => ?_) (fun cb_234 => ?_)
                            · skip
                              have cn_235 : ln ≤ axx_230 := (nI_leI (show ln < 2 ^ 31 by omega) (show axx_230 < 2 ^ 31 by omega)).mp cb_234
                              have hPD9 : PD D A [(Rd, .inr (4, [.ref Tp, .int (nI ln), .int (nI axx_230), .int (-1), .int (nI htx_4), .int (nI ctx_5), .ref Rv])), (Tp, .inl (g 0, 160, .inl ftp)), (Rv, .inl (g 0, 21, .inl fvalx_218))] H := ⟨hP.sub [1, 2, 0] rfl, hD.sub [1, 2, 0] (by decide) rfl⟩
                              have hP9 := hPD9.1; have hD9 := hPD9.2
                              subst hQ
                              refine W.widen (k := 0) (n := 0) (Nat.le_of_ble_eq_true rfl) (Nat.le_of_ble_eq_true rfl) ?_
                              exact W.vret hx hb hr (fun tS htS _ => ⟨⟨_, rfl, ⟨axx_230, (-1), htx_4, ctx_5, fvalx_218, rfl, ⟨(show axx_230 ≤ ln by omega), (show htx_4 ≤ 3 by omega), (show ctx_5 ≤ 3 by omega), (hf_220), (cl_end hf_7.2.2.2.1.symm (show cl_15 < 7 by omega) (hR_225.trans (itR_end (f := 0) hf_232 (show ¬ axx_230 < ln by omega))) (fun q => absurd q.1 (show ¬ axx_230 < ln by omega))).1, (cl_end hf_7.2.2.2.1.symm (show cl_15 < 7 by omega) (hR_225.trans (itR_end (f := 0) hf_232 (show ¬ axx_230 < ln by omega))) (fun q => absurd q.1 (show ¬ axx_230 < ln by omega))).2.1, (fun _ => ⟨(cl_end hf_7.2.2.2.1.symm (show cl_15 < 7 by omega) (hR_225.trans (itR_end (f := 0) hf_232 (show ¬ axx_230 < ln by omega))) (fun q => absurd q.1 (show ¬ axx_230 < ln by omega))).2.2, show ax < axx_230 by omega⟩), (fun _ => ((clW_cl hf_7.2.2.2.1.symm (show cl_15 < 7 by omega)).trans (hW_227.trans (itW_end (f := 0) hf_232 (show ¬ axx_230 < ln by omega)))).symm)⟩⟩, by rw [htS]; exact hP9, hD9⟩, hS.F htS⟩) hS.2.2 dX4_readClause_52
                            · skip
                              have cn_236 : axx_230 < ln := Nat.lt_of_not_le (fun q9 => cb_234 ((nI_leI (show ln < 2 ^ 31 by omega) (show axx_230 < 2 ^ 31 by omega)).mpr q9))
                              refine lv_aload_n hx hb dX4_readClause_38 rfl (lv_at hl 4 rfl) ?_
                              refine va_get (D := D) (ci := 4) (v := .ref Tp) (C := RX4) (T := TX4) (N := 7) hx hb hts iX4 hown hK hP 1 rfl rfl 0 (by decide) f9 (fun _ h9 => h9) rfl dX4_readClause_39 ?_
                              refine lv_aload_n hx hb dX4_readClause_42 rfl (lv_at hl 4 rfl) ?_
                              refine va_get (D := D) (ci := 4) (v := .int (nI axx_230)) (C := RX4) (T := TX4) (N := 7) hx hb hts iX4 hown hK hP 1 rfl rfl 2 (by decide) f28 (fun _ h9 => h9) rfl dX4_readClause_43 ?_
                              refine va_iald hx hb hK hP 2 0 rfl rfl (vp_in_nI (show axx_230 < 160 by omega) (by decide)) dX4_readClause_46 ?_
                              refine lv_eqi (y := (ftp (axx_230))) (congrArg ftp (nI_clamp (show axx_230 < 2 ^ 31 by omega))) ?_
                              refine lv_bipush (v := 59) hx hb dX4_readClause_47 (by decide) ?_
                              refine lv_icmp_ne (tgt := 53) hx hb dX4_readClause_49 (by decide) (fun cb_237 => ?_) (fun cb_237 => ?_)
                              · skip
                                refine lv_iload_n hx hb dX4_readClause_53 rfl (lv_at hl 3 rfl) ?_
                                refine ky_Si (As := [.int (nI cl_15)]) (rest := []) ⟨hx, hb, hml, hown, hts⟩ ⟨hK, hN⟩ hZ hP hD hS hA [] [0, 1, 2] (wc := []) (wr := [(Rv, .inl (g 0, 21, .inl fvalx_218)), (Rd, .inr (4, [.ref Tp, .int (nI ln), .int (nI axx_230), .int (-1), .int (nI htx_4), .int (nI ctx_5), .ref Rv])), (Tp, .inl (g 0, 160, .inl ftp))]) rfl rfl rfl rfl (by decide) (r_X4_kindOf l D g H.size cl_15 (show cl_15 < 7 by omega)) (va_cwS 1 hts gX4_readClause_X4_kindOf rfl rfl rfl (by decide +kernel) ⟨(Nat.le_of_ble_eq_true rfl), (Nat.le_of_ble_eq_true rfl)⟩) rfl hl.1 rfl (Nat.le_of_ble_eq_true rfl) dX4_readClause_54 ⟨(Nat.le_of_ble_eq_true rfl), (Nat.le_of_ble_eq_true rfl)⟩ (fun r_238 u H locs hw hP2 hD2 hS2 => ?_)
                                clear hP hD hS
                                obtain ⟨rfl, rfl⟩ := hw
                                have hPD : PD D A [(Rv, .inl (g 0, 21, .inl fvalx_218)), (Rd, .inr (4, [.ref Tp, .int (nI ln), .int (nI axx_230), .int (-1), .int (nI htx_4), .int (nI ctx_5), .ref Rv])), (Tp, .inl (g 0, 160, .inl ftp))] H := ⟨hP2, hD2⟩
                                have hS := hS2; clear hP2 hD2 hS2; have hP := hPD.1; have hD := hPD.2; clear hPD
                                refine W.widen (k := 0) (n := 0) (Nat.le_of_ble_eq_true rfl) (Nat.le_of_ble_eq_true rfl) ?_
                                refine lv_aload_n hx hb dX4_readClause_57 rfl (lv_at hl 4 rfl) ?_
                                refine va_get (D := D) (ci := 4) (v := .ref Tp) (C := RX4) (T := TX4) (N := 7) hx hb hts iX4 hown hK hP 1 rfl rfl 0 (by decide) f9 (fun _ h9 => h9) rfl dX4_readClause_58 ?_
                                refine lv_aload_n hx hb dX4_readClause_61 rfl (lv_at hl 4 rfl) ?_
                                refine va_get (D := D) (ci := 4) (v := .int (nI axx_230)) (C := RX4) (T := TX4) (N := 7) hx hb hts iX4 hown hK hP 1 rfl rfl 2 (by decide) f28 (fun _ h9 => h9) rfl dX4_readClause_62 ?_
                                refine va_iald hx hb hK hP 2 0 rfl rfl (vp_in_nI (show axx_230 < 160 by omega) (by decide)) dX4_readClause_65 ?_
                                refine lv_eqi (y := (ftp (axx_230))) (congrArg ftp (nI_clamp (show axx_230 < 2 ^ 31 by omega))) ?_
                                refine ky_Si (As := [.int (nI (kdN cl_15)), .int (ftp (axx_230))]) (rest := []) ⟨hx, hb, hml, hown, hts⟩ ⟨hK, hN⟩ hZ hP hD hS hA [] [0, 1, 2] (wc := []) (wr := [(Rv, .inl (g 0, 21, .inl fvalx_218)), (Rd, .inr (4, [.ref Tp, .int (nI ln), .int (nI axx_230), .int (-1), .int (nI htx_4), .int (nI ctx_5), .ref Rv])), (Tp, .inl (g 0, 160, .inl ftp))]) rfl rfl rfl rfl (by decide) (r_X4_itemOf l D g H.size (kdN cl_15) (ftp (axx_230)) (show (kdN cl_15) < 3 by omega)) (va_cwS 2 hts gX4_readClause_X4_itemOf rfl rfl rfl (by decide +kernel) ⟨(Nat.le_of_ble_eq_true rfl), (Nat.le_of_ble_eq_true rfl)⟩) rfl hl.1 rfl (Nat.le_of_ble_eq_true rfl) dX4_readClause_66 ⟨(Nat.le_of_ble_eq_true rfl), (Nat.le_of_ble_eq_true rfl)⟩ (fun r_239 u H locs hw hP2 hD2 hS2 => ?_)
                                clear hP hD hS
                                obtain ⟨rfl, rfl⟩ := hw
                                have hPD : PD D A [(Rv, .inl (g 0, 21, .inl fvalx_218)), (Rd, .inr (4, [.ref Tp, .int (nI ln), .int (nI axx_230), .int (-1), .int (nI htx_4), .int (nI ctx_5), .ref Rv])), (Tp, .inl (g 0, 160, .inl ftp))] H := ⟨hP2, hD2⟩
                                have hS := hS2; clear hP2 hD2 hS2; have hP := hPD.1; have hD := hPD.2; clear hPD
                                refine W.widen (k := 0) (n := 0) (Nat.le_of_ble_eq_true rfl) (Nat.le_of_ble_eq_true rfl) ?_
                                rcases itK_c (kdN cl_15) (ftp (axx_230)) with qi_240 | qi_240 | qi_240 | qi_240
                                · skip
                                  refine lv_eqi (y := (-1)) (qi_240) ?_
                                  refine lv_istore (lv' := [(5, .int (-1)), (4, .int 3), (3, .int 7), (2, .int (nI cl_15)), (0, .ref Rd), (1, .int zf)]) hx hb dX4_readClause_69 hl (by decide) rfl (fun ls hl => ?_)
                                  refine lv_iload hx hb dX4_readClause_71 (lv_at hl 0 rfl) ?_
                                  refine lv_iconst (v := (-1)) hx hb dX4_readClause_73 (by decide) ?_
                                  refine lv_icmp_eq (tgt := 86) hx hb dX4_readClause_74 (by decide) (fun _ => ?_) (fun cb => absurd (by decide) cb)
                                  refine lv_aload_n hx hb dX4_readClause_86 rfl (lv_at hl 4 rfl) ?_
                                  refine lv_aload_n hx hb dX4_readClause_87 rfl (lv_at hl 4 rfl) ?_
                                  refine va_get (D := D) (ci := 4) (v := .int (nI axx_230)) (C := RX4) (T := TX4) (N := 7) hx hb hts iX4 hown hK hP 1 rfl rfl 2 (by decide) f28 (fun _ h9 => h9) rfl dX4_readClause_88 ?_
                                  refine va_put (D := D) (ci := 4) (v := .int (nI axx_230)) (ty := .int) (C := RX4) (T := TX4) (N := 7) hx hb hts iX4 tyX4 tyX4_ok nmX4 hown hK hP hD hS 1 rfl rfl 3 (by decide) f31 (fun _ h9 => h9) rfl (by decide +kernel) (rfl) (rfl) (Nat.le_of_ble_eq_true rfl) dX4_readClause_91 (fun H locs hP2 hD2 hS2 => ?_)
                                  clear hP hD hS
                                  have hPD : PD D A [(Rv, .inl (g 0, 21, .inl fvalx_218)), (Rd, .inr (4, [.ref Tp, .int (nI ln), .int (nI axx_230), .int (nI axx_230), .int (nI htx_4), .int (nI ctx_5), .ref Rv])), (Tp, .inl (g 0, 160, .inl ftp))] H := ⟨hP2, hD2⟩
                                  have hS := hS2; clear hP2 hD2 hS2; have hP := hPD.1; have hD := hPD.2; clear hPD
                                  have hPD9 : PD D A [(Rd, .inr (4, [.ref Tp, .int (nI ln), .int (nI axx_230), .int (nI axx_230), .int (nI htx_4), .int (nI ctx_5), .ref Rv])), (Tp, .inl (g 0, 160, .inl ftp)), (Rv, .inl (g 0, 21, .inl fvalx_218))] H := ⟨hP.sub [1, 2, 0] rfl, hD.sub [1, 2, 0] (by decide) rfl⟩
                                  have hP9 := hPD9.1; have hD9 := hPD9.2
                                  subst hQ
                                  refine W.widen (k := 0) (n := 0) (Nat.le_of_ble_eq_true rfl) (Nat.le_of_ble_eq_true rfl) ?_
                                  exact W.vret hx hb hr (fun tS htS _ => ⟨⟨_, rfl, ⟨axx_230, (nI axx_230), htx_4, ctx_5, fvalx_218, rfl, ⟨(show axx_230 ≤ ln by omega), (show htx_4 ≤ 3 by omega), (show ctx_5 ≤ 3 by omega), (hf_220), (cl_bad hf_7.2.2.2.1.symm (show cl_15 < 7 by omega) (hR_225.trans (itR_no (f := 0) hf_232 qi_240)) (show axx_230 < ln by omega) cb_237).1, (cl_bad hf_7.2.2.2.1.symm (show cl_15 < 7 by omega) (hR_225.trans (itR_no (f := 0) hf_232 qi_240)) (show axx_230 < ln by omega) cb_237).2, (fun q => absurd q (m1_ne (show axx_230 < 2 ^ 31 by omega))), (fun q => absurd q (m1_ne (show axx_230 < 2 ^ 31 by omega)))⟩⟩, by rw [htS]; exact hP9, hD9⟩, hS.F htS⟩) hS.2.2 dX4_readClause_94
                                · skip
                                  refine lv_eqi (y := 0) (qi_240) ?_
                                  refine lv_istore (lv' := [(5, .int 0), (4, .int 3), (3, .int 7), (2, .int (nI cl_15)), (0, .ref Rd), (1, .int zf)]) hx hb dX4_readClause_69 hl (by decide) rfl (fun ls hl => ?_)
                                  refine lv_iload hx hb dX4_readClause_71 (lv_at hl 0 rfl) ?_
                                  refine lv_iconst (v := (-1)) hx hb dX4_readClause_73 (by decide) ?_
                                  refine lv_icmp_eq (tgt := 86) hx hb dX4_readClause_74 (by decide) (fun cb => absurd cb (by decide)) (fun _ => ?_)
                                  refine lv_iload_n hx hb dX4_readClause_77 rfl (lv_at hl 2 rfl) ?_
                                  refine lv_iconst (v := 1) hx hb dX4_readClause_78 (by decide) ?_
                                  refine lv_iload hx hb dX4_readClause_79 (lv_at hl 0 rfl) ?_
                                  refine lv_ishl hx hb dX4_readClause_81 ?_
                                  refine lv_eqi (y := 1) (by decide) ?_
                                  refine lv_iand hx hb dX4_readClause_82 ?_
                                  refine lv_eqi (y := 1) (by decide) ?_
                                  refine lv_if_eq (tgt := 95) hx hb dX4_readClause_83 (by decide) (fun cb => absurd cb (by decide)) (fun _ => ?_)
                                  refine lv_aload_n hx hb dX4_readClause_86 rfl (lv_at hl 4 rfl) ?_
                                  refine lv_aload_n hx hb dX4_readClause_87 rfl (lv_at hl 4 rfl) ?_
                                  refine va_get (D := D) (ci := 4) (v := .int (nI axx_230)) (C := RX4) (T := TX4) (N := 7) hx hb hts iX4 hown hK hP 1 rfl rfl 2 (by decide) f28 (fun _ h9 => h9) rfl dX4_readClause_88 ?_
                                  refine va_put (D := D) (ci := 4) (v := .int (nI axx_230)) (ty := .int) (C := RX4) (T := TX4) (N := 7) hx hb hts iX4 tyX4 tyX4_ok nmX4 hown hK hP hD hS 1 rfl rfl 3 (by decide) f31 (fun _ h9 => h9) rfl (by decide +kernel) (rfl) (rfl) (Nat.le_of_ble_eq_true rfl) dX4_readClause_91 (fun H locs hP2 hD2 hS2 => ?_)
                                  clear hP hD hS
                                  have hPD : PD D A [(Rv, .inl (g 0, 21, .inl fvalx_218)), (Rd, .inr (4, [.ref Tp, .int (nI ln), .int (nI axx_230), .int (nI axx_230), .int (nI htx_4), .int (nI ctx_5), .ref Rv])), (Tp, .inl (g 0, 160, .inl ftp))] H := ⟨hP2, hD2⟩
                                  have hS := hS2; clear hP2 hD2 hS2; have hP := hPD.1; have hD := hPD.2; clear hPD
                                  have hPD9 : PD D A [(Rd, .inr (4, [.ref Tp, .int (nI ln), .int (nI axx_230), .int (nI axx_230), .int (nI htx_4), .int (nI ctx_5), .ref Rv])), (Tp, .inl (g 0, 160, .inl ftp)), (Rv, .inl (g 0, 21, .inl fvalx_218))] H := ⟨hP.sub [1, 2, 0] rfl, hD.sub [1, 2, 0] (by decide) rfl⟩
                                  have hP9 := hPD9.1; have hD9 := hPD9.2
                                  subst hQ
                                  refine W.widen (k := 0) (n := 0) (Nat.le_of_ble_eq_true rfl) (Nat.le_of_ble_eq_true rfl) ?_
                                  exact W.vret hx hb hr (fun tS htS _ => ⟨⟨_, rfl, ⟨axx_230, (nI axx_230), htx_4, ctx_5, fvalx_218, rfl, ⟨(show axx_230 ≤ ln by omega), (show htx_4 ≤ 3 by omega), (show ctx_5 ≤ 3 by omega), (hf_220), (cl_bad hf_7.2.2.2.1.symm (show cl_15 < 7 by omega) (hR_225.trans (itR_again (f := 0) (q := 0) hf_232 qi_240 (by decide) (by decide))) (show axx_230 < ln by omega) cb_237).1, (cl_bad hf_7.2.2.2.1.symm (show cl_15 < 7 by omega) (hR_225.trans (itR_again (f := 0) (q := 0) hf_232 qi_240 (by decide) (by decide))) (show axx_230 < ln by omega) cb_237).2, (fun q => absurd q (m1_ne (show axx_230 < 2 ^ 31 by omega))), (fun q => absurd q (m1_ne (show axx_230 < 2 ^ 31 by omega)))⟩⟩, by rw [htS]; exact hP9, hD9⟩, hS.F htS⟩) hS.2.2 dX4_readClause_94
                                · skip
                                  refine lv_eqi (y := 1) (qi_240) ?_
                                  refine lv_istore (lv' := [(5, .int 1), (4, .int 3), (3, .int 7), (2, .int (nI cl_15)), (0, .ref Rd), (1, .int zf)]) hx hb dX4_readClause_69 hl (by decide) rfl (fun ls hl => ?_)
                                  refine lv_iload hx hb dX4_readClause_71 (lv_at hl 0 rfl) ?_
                                  refine lv_iconst (v := (-1)) hx hb dX4_readClause_73 (by decide) ?_
                                  refine lv_icmp_eq (tgt := 86) hx hb dX4_readClause_74 (by decide) (fun cb => absurd cb (by decide)) (fun _ => ?_)
                                  refine lv_iload_n hx hb dX4_readClause_77 rfl (lv_at hl 2 rfl) ?_
                                  refine lv_iconst (v := 1) hx hb dX4_readClause_78 (by decide) ?_
                                  refine lv_iload hx hb dX4_readClause_79 (lv_at hl 0 rfl) ?_
                                  refine lv_ishl hx hb dX4_readClause_81 ?_
                                  refine lv_eqi (y := 2) (by decide) ?_
                                  refine lv_iand hx hb dX4_readClause_82 ?_
                                  refine lv_eqi (y := 2) (by decide) ?_
                                  refine lv_if_eq (tgt := 95) hx hb dX4_readClause_83 (by decide) (fun cb => absurd cb (by decide)) (fun _ => ?_)
                                  refine lv_aload_n hx hb dX4_readClause_86 rfl (lv_at hl 4 rfl) ?_
                                  refine lv_aload_n hx hb dX4_readClause_87 rfl (lv_at hl 4 rfl) ?_
                                  refine va_get (D := D) (ci := 4) (v := .int (nI axx_230)) (C := RX4) (T := TX4) (N := 7) hx hb hts iX4 hown hK hP 1 rfl rfl 2 (by decide) f28 (fun _ h9 => h9) rfl dX4_readClause_88 ?_
                                  refine va_put (D := D) (ci := 4) (v := .int (nI axx_230)) (ty := .int) (C := RX4) (T := TX4) (N := 7) hx hb hts iX4 tyX4 tyX4_ok nmX4 hown hK hP hD hS 1 rfl rfl 3 (by decide) f31 (fun _ h9 => h9) rfl (by decide +kernel) (rfl) (rfl) (Nat.le_of_ble_eq_true rfl) dX4_readClause_91 (fun H locs hP2 hD2 hS2 => ?_)
                                  clear hP hD hS
                                  have hPD : PD D A [(Rv, .inl (g 0, 21, .inl fvalx_218)), (Rd, .inr (4, [.ref Tp, .int (nI ln), .int (nI axx_230), .int (nI axx_230), .int (nI htx_4), .int (nI ctx_5), .ref Rv])), (Tp, .inl (g 0, 160, .inl ftp))] H := ⟨hP2, hD2⟩
                                  have hS := hS2; clear hP2 hD2 hS2; have hP := hPD.1; have hD := hPD.2; clear hPD
                                  have hPD9 : PD D A [(Rd, .inr (4, [.ref Tp, .int (nI ln), .int (nI axx_230), .int (nI axx_230), .int (nI htx_4), .int (nI ctx_5), .ref Rv])), (Tp, .inl (g 0, 160, .inl ftp)), (Rv, .inl (g 0, 21, .inl fvalx_218))] H := ⟨hP.sub [1, 2, 0] rfl, hD.sub [1, 2, 0] (by decide) rfl⟩
                                  have hP9 := hPD9.1; have hD9 := hPD9.2
                                  subst hQ
                                  refine W.widen (k := 0) (n := 0) (Nat.le_of_ble_eq_true rfl) (Nat.le_of_ble_eq_true rfl) ?_
                                  exact W.vret hx hb hr (fun tS htS _ => ⟨⟨_, rfl, ⟨axx_230, (nI axx_230), htx_4, ctx_5, fvalx_218, rfl, ⟨(show axx_230 ≤ ln by omega), (show htx_4 ≤ 3 by omega), (show ctx_5 ≤ 3 by omega), (hf_220), (cl_bad hf_7.2.2.2.1.symm (show cl_15 < 7 by omega) (hR_225.trans (itR_again (f := 0) (q := 1) hf_232 qi_240 (by decide) (by decide))) (show axx_230 < ln by omega) cb_237).1, (cl_bad hf_7.2.2.2.1.symm (show cl_15 < 7 by omega) (hR_225.trans (itR_again (f := 0) (q := 1) hf_232 qi_240 (by decide) (by decide))) (show axx_230 < ln by omega) cb_237).2, (fun q => absurd q (m1_ne (show axx_230 < 2 ^ 31 by omega))), (fun q => absurd q (m1_ne (show axx_230 < 2 ^ 31 by omega)))⟩⟩, by rw [htS]; exact hP9, hD9⟩, hS.F htS⟩) hS.2.2 dX4_readClause_94
                                · skip
                                  refine lv_eqi (y := 2) (qi_240) ?_
                                  refine lv_istore (lv' := [(5, .int 2), (4, .int 3), (3, .int 7), (2, .int (nI cl_15)), (0, .ref Rd), (1, .int zf)]) hx hb dX4_readClause_69 hl (by decide) rfl (fun ls hl => ?_)
                                  refine lv_iload hx hb dX4_readClause_71 (lv_at hl 0 rfl) ?_
                                  refine lv_iconst (v := (-1)) hx hb dX4_readClause_73 (by decide) ?_
                                  refine lv_icmp_eq (tgt := 86) hx hb dX4_readClause_74 (by decide) (fun cb => absurd cb (by decide)) (fun _ => ?_)
                                  refine lv_iload_n hx hb dX4_readClause_77 rfl (lv_at hl 2 rfl) ?_
                                  refine lv_iconst (v := 1) hx hb dX4_readClause_78 (by decide) ?_
                                  refine lv_iload hx hb dX4_readClause_79 (lv_at hl 0 rfl) ?_
                                  refine lv_ishl hx hb dX4_readClause_81 ?_
                                  refine lv_eqi (y := 4) (by decide) ?_
                                  refine lv_iand hx hb dX4_readClause_82 ?_
                                  refine lv_eqi (y := 4) (by decide) ?_
                                  refine lv_if_eq (tgt := 95) hx hb dX4_readClause_83 (by decide) (fun cb => absurd cb (by decide)) (fun _ => ?_)
                                  refine lv_aload_n hx hb dX4_readClause_86 rfl (lv_at hl 4 rfl) ?_
                                  refine lv_aload_n hx hb dX4_readClause_87 rfl (lv_at hl 4 rfl) ?_
                                  refine va_get (D := D) (ci := 4) (v := .int (nI axx_230)) (C := RX4) (T := TX4) (N := 7) hx hb hts iX4 hown hK hP 1 rfl rfl 2 (by decide) f28 (fun _ h9 => h9) rfl dX4_readClause_88 ?_
                                  refine va_put (D := D) (ci := 4) (v := .int (nI axx_230)) (ty := .int) (C := RX4) (T := TX4) (N := 7) hx hb hts iX4 tyX4 tyX4_ok nmX4 hown hK hP hD hS 1 rfl rfl 3 (by decide) f31 (fun _ h9 => h9) rfl (by decide +kernel) (rfl) (rfl) (Nat.le_of_ble_eq_true rfl) dX4_readClause_91 (fun H locs hP2 hD2 hS2 => ?_)
                                  clear hP hD hS
                                  have hPD : PD D A [(Rv, .inl (g 0, 21, .inl fvalx_218)), (Rd, .inr (4, [.ref Tp, .int (nI ln), .int (nI axx_230), .int (nI axx_230), .int (nI htx_4), .int (nI ctx_5), .ref Rv])), (Tp, .inl (g 0, 160, .inl ftp))] H := ⟨hP2, hD2⟩
                                  have hS := hS2; clear hP2 hD2 hS2; have hP := hPD.1; have hD := hPD.2; clear hPD
                                  have hPD9 : PD D A [(Rd, .inr (4, [.ref Tp, .int (nI ln), .int (nI axx_230), .int (nI axx_230), .int (nI htx_4), .int (nI ctx_5), .ref Rv])), (Tp, .inl (g 0, 160, .inl ftp)), (Rv, .inl (g 0, 21, .inl fvalx_218))] H := ⟨hP.sub [1, 2, 0] rfl, hD.sub [1, 2, 0] (by decide) rfl⟩
                                  have hP9 := hPD9.1; have hD9 := hPD9.2
                                  subst hQ
                                  refine W.widen (k := 0) (n := 0) (Nat.le_of_ble_eq_true rfl) (Nat.le_of_ble_eq_true rfl) ?_
                                  exact W.vret hx hb hr (fun tS htS _ => ⟨⟨_, rfl, ⟨axx_230, (nI axx_230), htx_4, ctx_5, fvalx_218, rfl, ⟨(show axx_230 ≤ ln by omega), (show htx_4 ≤ 3 by omega), (show ctx_5 ≤ 3 by omega), (hf_220), (cl_bad hf_7.2.2.2.1.symm (show cl_15 < 7 by omega) (hR_225.trans (itR_again (f := 0) (q := 2) hf_232 qi_240 (by decide) (by decide))) (show axx_230 < ln by omega) cb_237).1, (cl_bad hf_7.2.2.2.1.symm (show cl_15 < 7 by omega) (hR_225.trans (itR_again (f := 0) (q := 2) hf_232 qi_240 (by decide) (by decide))) (show axx_230 < ln by omega) cb_237).2, (fun q => absurd q (m1_ne (show axx_230 < 2 ^ 31 by omega))), (fun q => absurd q (m1_ne (show axx_230 < 2 ^ 31 by omega)))⟩⟩, by rw [htS]; exact hP9, hD9⟩, hS.F htS⟩) hS.2.2 dX4_readClause_94
                              · skip
                                have hPD9 : PD D A [(Rd, .inr (4, [.ref Tp, .int (nI ln), .int (nI axx_230), .int (-1), .int (nI htx_4), .int (nI ctx_5), .ref Rv])), (Tp, .inl (g 0, 160, .inl ftp)), (Rv, .inl (g 0, 21, .inl fvalx_218))] H := ⟨hP.sub [1, 2, 0] rfl, hD.sub [1, 2, 0] (by decide) rfl⟩
                                have hP9 := hPD9.1; have hD9 := hPD9.2
                                subst hQ
                                refine W.widen (k := 0) (n := 0) (Nat.le_of_ble_eq_true rfl) (Nat.le_of_ble_eq_true rfl) ?_
                                exact W.vret hx hb hr (fun tS htS _ => ⟨⟨_, rfl, ⟨axx_230, (-1), htx_4, ctx_5, fvalx_218, rfl, ⟨(show axx_230 ≤ ln by omega), (show htx_4 ≤ 3 by omega), (show ctx_5 ≤ 3 by omega), (hf_220), (cl_end hf_7.2.2.2.1.symm (show cl_15 < 7 by omega) (hR_225.trans (itR_no (f := 0) hf_232 (by rw [cb_237]; exact itK_59 _))) (fun q => q.2 cb_237)).1, (cl_end hf_7.2.2.2.1.symm (show cl_15 < 7 by omega) (hR_225.trans (itR_no (f := 0) hf_232 (by rw [cb_237]; exact itK_59 _))) (fun q => q.2 cb_237)).2.1, (fun _ => ⟨(cl_end hf_7.2.2.2.1.symm (show cl_15 < 7 by omega) (hR_225.trans (itR_no (f := 0) hf_232 (by rw [cb_237]; exact itK_59 _))) (fun q => q.2 cb_237)).2.2, show ax < axx_230 by omega⟩), (fun _ => ((clW_cl hf_7.2.2.2.1.symm (show cl_15 < 7 by omega)).trans (hW_227.trans (itW_no (f := 0) hf_232 (by rw [cb_237]; exact itK_59 _)))).symm)⟩⟩, by rw [htS]; exact hP9, hD9⟩, hS.F htS⟩) hS.2.2 dX4_readClause_52
                          · skip
                            have hP9 := hP; have hD9 := hD
                            subst hQ
                            refine W.widen (k := 0) (n := 0) (Nat.le_of_ble_eq_true rfl) (Nat.le_of_ble_eq_true rfl) ?_
                            exact W.vret hx hb hr (fun tS htS _ => ⟨⟨_, rfl, ⟨axx_216, zfax_217, htx_4, ctx_5, fvalx_218, rfl, ⟨(show axx_216 ≤ ln by omega), (show htx_4 ≤ 3 by omega), (show ctx_5 ≤ 3 by omega), (hf_220), (cl_num hf_7.2.2.2.1.symm (show cl_15 < 7 by omega) ((congrArg Prod.fst hR_199).trans ((itR_w (f := 1) (q := 2) hf_206 (show axx_204 < ln by omega) qi_214 (by decide) (by decide) (fun q => cb_223 (hf_221.trans q))).trans hf_221.symm)) cb_223).1, (cl_num hf_7.2.2.2.1.symm (show cl_15 < 7 by omega) ((congrArg Prod.fst hR_199).trans ((itR_w (f := 1) (q := 2) hf_206 (show axx_204 < ln by omega) qi_214 (by decide) (by decide) (fun q => cb_223 (hf_221.trans q))).trans hf_221.symm)) cb_223).2, (fun q => absurd q cb_223), (fun q => absurd q cb_223)⟩⟩, by rw [htS]; exact hP9, hD9⟩, hS.F htS⟩) hS.2.2 dX4_readClause_127
                      · skip
                        have hPD9 : PD D A [(Rd, .inr (4, [.ref Tp, .int (nI ln), .int (nI axx_204), .int (-1), .int (nI htx_4), .int (nI ctx_5), .ref Rv])), (Tp, .inl (g 0, 160, .inl ftp)), (Rv, .inl (g 0, 21, .inl fvalx_192))] H := ⟨hP.sub [1, 2, 0] rfl, hD.sub [1, 2, 0] (by decide) rfl⟩
                        have hP9 := hPD9.1; have hD9 := hPD9.2
                        subst hQ
                        refine W.widen (k := 0) (n := 0) (Nat.le_of_ble_eq_true rfl) (Nat.le_of_ble_eq_true rfl) ?_
                        exact W.vret hx hb hr (fun tS htS _ => ⟨⟨_, rfl, ⟨axx_204, (-1), htx_4, ctx_5, fvalx_192, rfl, ⟨(show axx_204 ≤ ln by omega), (show htx_4 ≤ 3 by omega), (show ctx_5 ≤ 3 by omega), (hf_194), (cl_end hf_7.2.2.2.1.symm (show cl_15 < 7 by omega) (hR_199.trans (itR_no (f := 1) hf_206 (by rw [cb_211]; exact itK_59 _))) (fun q => q.2 cb_211)).1, (cl_end hf_7.2.2.2.1.symm (show cl_15 < 7 by omega) (hR_199.trans (itR_no (f := 1) hf_206 (by rw [cb_211]; exact itK_59 _))) (fun q => q.2 cb_211)).2.1, (fun _ => ⟨(cl_end hf_7.2.2.2.1.symm (show cl_15 < 7 by omega) (hR_199.trans (itR_no (f := 1) hf_206 (by rw [cb_211]; exact itK_59 _))) (fun q => q.2 cb_211)).2.2, show ax < axx_204 by omega⟩), (fun _ => ((clW_cl hf_7.2.2.2.1.symm (show cl_15 < 7 by omega)).trans (hW_201.trans (itW_no (f := 1) hf_206 (by rw [cb_211]; exact itK_59 _)))).symm)⟩⟩, by rw [htS]; exact hP9, hD9⟩, hS.F htS⟩) hS.2.2 dX4_readClause_52
                  · skip
                    have hP9 := hP; have hD9 := hD
                    subst hQ
                    refine W.widen (k := 0) (n := 0) (Nat.le_of_ble_eq_true rfl) (Nat.le_of_ble_eq_true rfl) ?_
                    exact W.vret hx hb hr (fun tS htS _ => ⟨⟨_, rfl, ⟨axx_190, zfax_191, htx_4, ctx_5, fvalx_192, rfl, ⟨(show axx_190 ≤ ln by omega), (show htx_4 ≤ 3 by omega), (show ctx_5 ≤ 3 by omega), (hf_194), (cl_num hf_7.2.2.2.1.symm (show cl_15 < 7 by omega) ((congrArg Prod.fst hR_173).trans ((itR_w (f := 2) (q := 0) hf_180 (show axx_178 < ln by omega) qi_188 (by decide) (by decide) (fun q => cb_197 (hf_195.trans q))).trans hf_195.symm)) cb_197).1, (cl_num hf_7.2.2.2.1.symm (show cl_15 < 7 by omega) ((congrArg Prod.fst hR_173).trans ((itR_w (f := 2) (q := 0) hf_180 (show axx_178 < ln by omega) qi_188 (by decide) (by decide) (fun q => cb_197 (hf_195.trans q))).trans hf_195.symm)) cb_197).2, (fun q => absurd q cb_197), (fun q => absurd q cb_197)⟩⟩, by rw [htS]; exact hP9, hD9⟩, hS.F htS⟩) hS.2.2 dX4_readClause_127
                · skip
                  refine lv_eqi (y := 1) (qi_188) ?_
                  refine lv_istore (lv' := [(5, .int 1), (4, .int 1), (3, .int 2), (2, .int (nI cl_15)), (0, .ref Rd), (1, .int zf)]) hx hb dX4_readClause_69 hl (by decide) rfl (fun ls hl => ?_)
                  refine lv_iload hx hb dX4_readClause_71 (lv_at hl 0 rfl) ?_
                  refine lv_iconst (v := (-1)) hx hb dX4_readClause_73 (by decide) ?_
                  refine lv_icmp_eq (tgt := 86) hx hb dX4_readClause_74 (by decide) (fun cb => absurd cb (by decide)) (fun _ => ?_)
                  refine lv_iload_n hx hb dX4_readClause_77 rfl (lv_at hl 2 rfl) ?_
                  refine lv_iconst (v := 1) hx hb dX4_readClause_78 (by decide) ?_
                  refine lv_iload hx hb dX4_readClause_79 (lv_at hl 0 rfl) ?_
                  refine lv_ishl hx hb dX4_readClause_81 ?_
                  refine lv_eqi (y := 2) (by decide) ?_
                  refine lv_iand hx hb dX4_readClause_82 ?_
                  refine lv_eqi (y := 2) (by decide) ?_
                  refine lv_if_eq (tgt := 95) hx hb dX4_readClause_83 (by decide) (fun cb => absurd cb (by decide)) (fun _ => ?_)
                  refine lv_aload_n hx hb dX4_readClause_86 rfl (lv_at hl 4 rfl) ?_
                  refine lv_aload_n hx hb dX4_readClause_87 rfl (lv_at hl 4 rfl) ?_
                  refine va_get (D := D) (ci := 4) (v := .int (nI axx_178)) (C := RX4) (T := TX4) (N := 7) hx hb hts iX4 hown hK hP 1 rfl rfl 2 (by decide) f28 (fun _ h9 => h9) rfl dX4_readClause_88 ?_
                  refine va_put (D := D) (ci := 4) (v := .int (nI axx_178)) (ty := .int) (C := RX4) (T := TX4) (N := 7) hx hb hts iX4 tyX4 tyX4_ok nmX4 hown hK hP hD hS 1 rfl rfl 3 (by decide) f31 (fun _ h9 => h9) rfl (by decide +kernel) (rfl) (rfl) (Nat.le_of_ble_eq_true rfl) dX4_readClause_91 (fun H locs hP2 hD2 hS2 => ?_)
                  clear hP hD hS
                  have hPD : PD D A [(Rv, .inl (g 0, 21, .inl fvalx_166)), (Rd, .inr (4, [.ref Tp, .int (nI ln), .int (nI axx_178), .int (nI axx_178), .int (nI htx_4), .int (nI ctx_5), .ref Rv])), (Tp, .inl (g 0, 160, .inl ftp))] H := ⟨hP2, hD2⟩
                  have hS := hS2; clear hP2 hD2 hS2; have hP := hPD.1; have hD := hPD.2; clear hPD
                  have hPD9 : PD D A [(Rd, .inr (4, [.ref Tp, .int (nI ln), .int (nI axx_178), .int (nI axx_178), .int (nI htx_4), .int (nI ctx_5), .ref Rv])), (Tp, .inl (g 0, 160, .inl ftp)), (Rv, .inl (g 0, 21, .inl fvalx_166))] H := ⟨hP.sub [1, 2, 0] rfl, hD.sub [1, 2, 0] (by decide) rfl⟩
                  have hP9 := hPD9.1; have hD9 := hPD9.2
                  subst hQ
                  refine W.widen (k := 0) (n := 0) (Nat.le_of_ble_eq_true rfl) (Nat.le_of_ble_eq_true rfl) ?_
                  exact W.vret hx hb hr (fun tS htS _ => ⟨⟨_, rfl, ⟨axx_178, (nI axx_178), htx_4, ctx_5, fvalx_166, rfl, ⟨(show axx_178 ≤ ln by omega), (show htx_4 ≤ 3 by omega), (show ctx_5 ≤ 3 by omega), (hf_168), (cl_bad hf_7.2.2.2.1.symm (show cl_15 < 7 by omega) (hR_173.trans (itR_again (f := 2) (q := 1) hf_180 qi_188 (by decide) (by decide))) (show axx_178 < ln by omega) cb_185).1, (cl_bad hf_7.2.2.2.1.symm (show cl_15 < 7 by omega) (hR_173.trans (itR_again (f := 2) (q := 1) hf_180 qi_188 (by decide) (by decide))) (show axx_178 < ln by omega) cb_185).2, (fun q => absurd q (m1_ne (show axx_178 < 2 ^ 31 by omega))), (fun q => absurd q (m1_ne (show axx_178 < 2 ^ 31 by omega)))⟩⟩, by rw [htS]; exact hP9, hD9⟩, hS.F htS⟩) hS.2.2 dX4_readClause_94
                · skip
                  refine lv_eqi (y := 2) (qi_188) ?_
                  refine lv_istore (lv' := [(5, .int 2), (4, .int 1), (3, .int 2), (2, .int (nI cl_15)), (0, .ref Rd), (1, .int zf)]) hx hb dX4_readClause_69 hl (by decide) rfl (fun ls hl => ?_)
                  refine lv_iload hx hb dX4_readClause_71 (lv_at hl 0 rfl) ?_
                  refine lv_iconst (v := (-1)) hx hb dX4_readClause_73 (by decide) ?_
                  refine lv_icmp_eq (tgt := 86) hx hb dX4_readClause_74 (by decide) (fun cb => absurd cb (by decide)) (fun _ => ?_)
                  refine lv_iload_n hx hb dX4_readClause_77 rfl (lv_at hl 2 rfl) ?_
                  refine lv_iconst (v := 1) hx hb dX4_readClause_78 (by decide) ?_
                  refine lv_iload hx hb dX4_readClause_79 (lv_at hl 0 rfl) ?_
                  refine lv_ishl hx hb dX4_readClause_81 ?_
                  refine lv_eqi (y := 4) (by decide) ?_
                  refine lv_iand hx hb dX4_readClause_82 ?_
                  refine lv_eqi (y := 0) (by decide) ?_
                  refine lv_if_eq (tgt := 95) hx hb dX4_readClause_83 (by decide) (fun _ => ?_) (fun cb => absurd (by decide) cb)
                  refine lv_iload_n hx hb dX4_readClause_95 rfl (lv_at hl 2 rfl) ?_
                  refine lv_iconst (v := 1) hx hb dX4_readClause_96 (by decide) ?_
                  refine lv_iload hx hb dX4_readClause_97 (lv_at hl 0 rfl) ?_
                  refine lv_ishl hx hb dX4_readClause_99 ?_
                  refine lv_eqi (y := 4) (by decide) ?_
                  refine lv_ior hx hb dX4_readClause_100 ?_
                  refine lv_eqi (y := 6) (by decide) ?_
                  refine lv_istore_n (lv' := [(3, .int 6), (5, .int 2), (4, .int 1), (2, .int (nI cl_15)), (0, .ref Rd), (1, .int zf)]) hx hb dX4_readClause_101 rfl hl (by decide) rfl (fun ls hl => ?_)
                  refine lv_aload_n hx hb dX4_readClause_102 rfl (lv_at hl 4 rfl) ?_
                  refine lv_dup hx hb dX4_readClause_103 rfl ?_
                  refine va_get (D := D) (ci := 4) (v := .int (nI axx_178)) (C := RX4) (T := TX4) (N := 7) hx hb hts iX4 hown hK hP 1 rfl rfl 2 (by decide) f28 (fun _ h9 => h9) rfl dX4_readClause_104 ?_
                  refine lv_iconst (v := 1) hx hb dX4_readClause_107 (by decide) ?_
                  refine lv_iadd hx hb dX4_readClause_108 ?_
                  refine lv_eqi (y := (nI (axx_178 + 1))) (nI_add (axx_178) (1)) ?_
                  refine va_put (D := D) (ci := 4) (v := .int (nI (axx_178 + 1))) (ty := .int) (C := RX4) (T := TX4) (N := 7) hx hb hts iX4 tyX4 tyX4_ok nmX4 hown hK hP hD hS 1 rfl rfl 2 (by decide) f28 (fun _ h9 => h9) rfl (by decide +kernel) (rfl) (rfl) (Nat.le_of_ble_eq_true rfl) dX4_readClause_109 (fun H locs hP2 hD2 hS2 => ?_)
                  clear hP hD hS
                  have hPD : PD D A [(Rv, .inl (g 0, 21, .inl fvalx_166)), (Rd, .inr (4, [.ref Tp, .int (nI ln), .int (nI (axx_178 + 1)), .int (-1), .int (nI htx_4), .int (nI ctx_5), .ref Rv])), (Tp, .inl (g 0, 160, .inl ftp))] H := ⟨hP2, hD2⟩
                  have hS := hS2; clear hP2 hD2 hS2; have hP := hPD.1; have hD := hPD.2; clear hPD
                  refine lv_aload_n hx hb dX4_readClause_112 rfl (lv_at hl 4 rfl) ?_
                  refine lv_iload_n hx hb dX4_readClause_113 rfl (lv_at hl 3 rfl) ?_
                  refine lv_iload hx hb dX4_readClause_114 (lv_at hl 1 rfl) ?_
                  refine ky_Vv (As := [.int (nI cl_15), .int 2]) (rest := []) ⟨hx, hb, hml, hown, hts⟩ ⟨hK, hN⟩ hZ hP hD hS hA [1, 2, 0] [] (wc := [(Rd, .inr (4, [.ref Tp, .int (nI ln), .int (nI (axx_178 + 1)), .int (-1), .int (nI htx_4), .int (nI ctx_5), .ref Rv])), (Tp, .inl (g 0, 160, .inl ftp)), (Rv, .inl (g 0, 21, .inl fvalx_166))]) (wr := []) rfl rfl rfl rfl (by decide) (r_X4_readNumber l D g H.size Rd cl_15 2 Tp ln (axx_178 + 1) htx_4 ctx_5 Rv ftp fvalx_166 (show ln ≤ 160 by omega) (show (axx_178 + 1) ≤ ln by omega) (hf_168) (show cl_15 < 7 by omega) (show 2 < 3 by omega)) (cwV 2 hts gX4_readClause_X4_readNumber rfl rfl rfl (by decide +kernel) ⟨(Nat.le_of_ble_eq_true rfl), (Nat.le_of_ble_eq_true rfl)⟩) 1 4 rfl rfl rfl rfl hl.1 rfl (Nat.le_of_ble_eq_true rfl) dX4_readClause_116 ⟨(Nat.le_of_ble_eq_true rfl), (Nat.le_of_ble_eq_true rfl)⟩ (fun u H locs hw hP2 hD2 hS2 => ?_)
                  clear hP hD hS
                  obtain ⟨axx_242, zfax_243, fvalx_244, rfl, hf_245, hf_246, hf_247, hf_248⟩ := hw
                  have hPD : PD D A [(Rd, .inr (4, [.ref Tp, .int (nI ln), .int (nI axx_242), .int zfax_243, .int (nI htx_4), .int (nI ctx_5), .ref Rv])), (Tp, .inl (g 0, 160, .inl ftp)), (Rv, .inl (g 0, 21, .inl fvalx_244))] H := ⟨hP2, hD2⟩
                  have hS := hS2; clear hP2 hD2 hS2; have hP := hPD.1; have hD := hPD.2; clear hPD
                  refine W.widen (k := 0) (n := 0) (Nat.le_of_ble_eq_true rfl) (Nat.le_of_ble_eq_true rfl) ?_
                  refine lv_aload_n hx hb dX4_readClause_119 rfl (lv_at hl 4 rfl) ?_
                  refine va_get (D := D) (ci := 4) (v := .int zfax_243) (C := RX4) (T := TX4) (N := 7) hx hb hts iX4 hown hK hP 0 rfl rfl 3 (by decide) f31 (fun _ h9 => h9) rfl dX4_readClause_120 ?_
                  refine lv_iconst (v := (-1)) hx hb dX4_readClause_123 (by decide) ?_
                  refine lv_icmp_eq (tgt := 128) hx hb dX4_readClause_124 (by decide) (fun cb_249 => ?_) (fun cb_249 => ?_)
                  · skip
                    have hPq_250 := hP; have hDq_250 := hD; have hSq_250 := hS; have hlq_250 := hl; clear hP hD hS hl
                    subst cb_249
                    have hP := hPq_250; have hD := hDq_250; have hS := hSq_250; have hl := hlq_250; clear hPq_250 hDq_250 hSq_250 hlq_250
                    have hne_252 := (hf_248 rfl).1
                    have hne_252g := nmE_gt (T := ftp) (n := ln) (i := axx_178 + 1) (by omega)
                    have hR_251 : itR ftp ln (kdN cl_15) 4 0 (sB ftp ln ax + 1) = itR ftp ln (kdN cl_15) 2 6 axx_242 := hR_173.trans ((itR_go (f := 2) (m := 2) (q := 2) hf_180 (show axx_178 < ln by omega) qi_188 (by decide) (by decide) hf_247.symm).trans (by rw [hne_252]))
                    have hnv_254 := hf_248 rfl
                    have hW_253 : itW ftp ln (kdN cl_15) (3 * cl_15) 4 0 (sB ftp ln ax + 1) fval = itW ftp ln (kdN cl_15) (3 * cl_15) 2 6 axx_242 fvalx_244 := hW_175.trans ((itW_go (f := 2) (m := 2) (q := 2) hf_180 (show axx_178 < ln by omega) qi_188 (by decide) (by decide) hf_247.symm).trans (by rw [hnv_254.1, hnv_254.2]))
                    refine lv_iinc (v := 2) (lv' := [(4, .int 2), (3, .int 6), (5, .int 2), (2, .int (nI cl_15)), (0, .ref Rd), (1, .int zf)]) hx hb dX4_readClause_128 hl (k := 2) rfl (by decide) (by decide) rfl (fun ls hl => ?_)
                    refine lv_goto (tgt := 17) hx hb dX4_readClause_131 (by decide) ?_
                    refine lv_iload hx hb dX4_readClause_17 (lv_at hl 0 rfl) ?_
                    refine lv_iconst (v := 3) hx hb dX4_readClause_19 (by decide) ?_
                    refine lv_icmp_gt (tgt := 134) hx hb dX4_readClause_20 (by decide) (fun cb => absurd cb (by decide)) (fun _ => ?_)
                    refine lv_aload_n hx hb dX4_readClause_23 rfl (lv_at hl 4 rfl) ?_
                    refine ky_Vv (As := []) (rest := []) ⟨hx, hb, hml, hown, hts⟩ ⟨hK, hN⟩ hZ hP hD hS hA [0, 1] [2] (wc := [(Rd, .inr (4, [.ref Tp, .int (nI ln), .int (nI axx_242), .int (-1), .int (nI htx_4), .int (nI ctx_5), .ref Rv])), (Tp, .inl (g 0, 160, .inl ftp))]) (wr := [(Rv, .inl (g 0, 21, .inl fvalx_244))]) rfl rfl rfl rfl (by decide) (r_X4_passBlanks l D g H.size Rd Tp ln axx_242 (-1) htx_4 ctx_5 Rv ftp (show ln ≤ 160 by omega) (show axx_242 ≤ ln by omega)) (cwV 0 hts gX4_readClause_X4_passBlanks rfl rfl rfl (by decide +kernel) ⟨(Nat.le_of_ble_eq_true rfl), (Nat.le_of_ble_eq_true rfl)⟩) 0 4 rfl rfl rfl rfl hl.1 rfl (Nat.le_of_ble_eq_true rfl) dX4_readClause_24 ⟨(Nat.le_of_ble_eq_true rfl), (Nat.le_of_ble_eq_true rfl)⟩ (fun u H locs hw hP2 hD2 hS2 => ?_)
                    clear hP hD hS
                    obtain ⟨axx_256, rfl, hf_257, hf_258⟩ := hw
                    have hPD : PD D A [(Rv, .inl (g 0, 21, .inl fvalx_244)), (Rd, .inr (4, [.ref Tp, .int (nI ln), .int (nI axx_256), .int (-1), .int (nI htx_4), .int (nI ctx_5), .ref Rv])), (Tp, .inl (g 0, 160, .inl ftp))] H := ⟨hP2, hD2⟩
                    have hS := hS2; clear hP2 hD2 hS2; have hP := hPD.1; have hD := hPD.2; clear hPD
                    refine W.widen (k := 0) (n := 0) (Nat.le_of_ble_eq_true rfl) (Nat.le_of_ble_eq_true rfl) ?_
                    have hge_259 := sB_ge (T := ftp) (n := ln) (i := axx_242) (by omega)
                    refine lv_aload_n hx hb dX4_readClause_27 rfl (lv_at hl 4 rfl) ?_
                    refine va_get (D := D) (ci := 4) (v := .int (nI axx_256)) (C := RX4) (T := TX4) (N := 7) hx hb hts iX4 hown hK hP 1 rfl rfl 2 (by decide) f28 (fun _ h9 => h9) rfl dX4_readClause_28 ?_
                    refine lv_aload_n hx hb dX4_readClause_31 rfl (lv_at hl 4 rfl) ?_
                    refine va_get (D := D) (ci := 4) (v := .int (nI ln)) (C := RX4) (T := TX4) (N := 7) hx hb hts iX4 hown hK hP 1 rfl rfl 1 (by decide) f24 (fun _ h9 => h9) rfl dX4_readClause_32 ?_
                    refine lv_icmp_ge (tgt := 52) hx hb dX4_readClause_35 (by decide) (fun cb_260 => ?_) (fun cb_260 => ?_)
                    · skip
                      have cn_261 : ln ≤ axx_256 := (nI_leI (show ln < 2 ^ 31 by omega) (show axx_256 < 2 ^ 31 by omega)).mp cb_260
                      have hPD9 : PD D A [(Rd, .inr (4, [.ref Tp, .int (nI ln), .int (nI axx_256), .int (-1), .int (nI htx_4), .int (nI ctx_5), .ref Rv])), (Tp, .inl (g 0, 160, .inl ftp)), (Rv, .inl (g 0, 21, .inl fvalx_244))] H := ⟨hP.sub [1, 2, 0] rfl, hD.sub [1, 2, 0] (by decide) rfl⟩
                      have hP9 := hPD9.1; have hD9 := hPD9.2
                      subst hQ
                      refine W.widen (k := 0) (n := 0) (Nat.le_of_ble_eq_true rfl) (Nat.le_of_ble_eq_true rfl) ?_
                      exact W.vret hx hb hr (fun tS htS _ => ⟨⟨_, rfl, ⟨axx_256, (-1), htx_4, ctx_5, fvalx_244, rfl, ⟨(show axx_256 ≤ ln by omega), (show htx_4 ≤ 3 by omega), (show ctx_5 ≤ 3 by omega), (hf_246), (cl_end hf_7.2.2.2.1.symm (show cl_15 < 7 by omega) (hR_251.trans (itR_end (f := 1) hf_258 (show ¬ axx_256 < ln by omega))) (fun q => absurd q.1 (show ¬ axx_256 < ln by omega))).1, (cl_end hf_7.2.2.2.1.symm (show cl_15 < 7 by omega) (hR_251.trans (itR_end (f := 1) hf_258 (show ¬ axx_256 < ln by omega))) (fun q => absurd q.1 (show ¬ axx_256 < ln by omega))).2.1, (fun _ => ⟨(cl_end hf_7.2.2.2.1.symm (show cl_15 < 7 by omega) (hR_251.trans (itR_end (f := 1) hf_258 (show ¬ axx_256 < ln by omega))) (fun q => absurd q.1 (show ¬ axx_256 < ln by omega))).2.2, show ax < axx_256 by omega⟩), (fun _ => ((clW_cl hf_7.2.2.2.1.symm (show cl_15 < 7 by omega)).trans (hW_253.trans (itW_end (f := 1) hf_258 (show ¬ axx_256 < ln by omega)))).symm)⟩⟩, by rw [htS]; exact hP9, hD9⟩, hS.F htS⟩) hS.2.2 dX4_readClause_52
                    · skip
                      have cn_262 : axx_256 < ln := Nat.lt_of_not_le (fun q9 => cb_260 ((nI_leI (show ln < 2 ^ 31 by omega) (show axx_256 < 2 ^ 31 by omega)).mpr q9))
                      refine lv_aload_n hx hb dX4_readClause_38 rfl (lv_at hl 4 rfl) ?_
                      refine va_get (D := D) (ci := 4) (v := .ref Tp) (C := RX4) (T := TX4) (N := 7) hx hb hts iX4 hown hK hP 1 rfl rfl 0 (by decide) f9 (fun _ h9 => h9) rfl dX4_readClause_39 ?_
                      refine lv_aload_n hx hb dX4_readClause_42 rfl (lv_at hl 4 rfl) ?_
                      refine va_get (D := D) (ci := 4) (v := .int (nI axx_256)) (C := RX4) (T := TX4) (N := 7) hx hb hts iX4 hown hK hP 1 rfl rfl 2 (by decide) f28 (fun _ h9 => h9) rfl dX4_readClause_43 ?_
                      refine va_iald hx hb hK hP 2 0 rfl rfl (vp_in_nI (show axx_256 < 160 by omega) (by decide)) dX4_readClause_46 ?_
                      refine lv_eqi (y := (ftp (axx_256))) (congrArg ftp (nI_clamp (show axx_256 < 2 ^ 31 by omega))) ?_
                      refine lv_bipush (v := 59) hx hb dX4_readClause_47 (by decide) ?_
                      refine lv_icmp_ne (tgt := 53) hx hb dX4_readClause_49 (by decide) (fun cb_263 => ?_) (fun cb_263 => ?_)
                      · skip
                        refine lv_iload_n hx hb dX4_readClause_53 rfl (lv_at hl 3 rfl) ?_
                        refine ky_Si (As := [.int (nI cl_15)]) (rest := []) ⟨hx, hb, hml, hown, hts⟩ ⟨hK, hN⟩ hZ hP hD hS hA [] [0, 1, 2] (wc := []) (wr := [(Rv, .inl (g 0, 21, .inl fvalx_244)), (Rd, .inr (4, [.ref Tp, .int (nI ln), .int (nI axx_256), .int (-1), .int (nI htx_4), .int (nI ctx_5), .ref Rv])), (Tp, .inl (g 0, 160, .inl ftp))]) rfl rfl rfl rfl (by decide) (r_X4_kindOf l D g H.size cl_15 (show cl_15 < 7 by omega)) (va_cwS 1 hts gX4_readClause_X4_kindOf rfl rfl rfl (by decide +kernel) ⟨(Nat.le_of_ble_eq_true rfl), (Nat.le_of_ble_eq_true rfl)⟩) rfl hl.1 rfl (Nat.le_of_ble_eq_true rfl) dX4_readClause_54 ⟨(Nat.le_of_ble_eq_true rfl), (Nat.le_of_ble_eq_true rfl)⟩ (fun r_264 u H locs hw hP2 hD2 hS2 => ?_)
                        clear hP hD hS
                        obtain ⟨rfl, rfl⟩ := hw
                        have hPD : PD D A [(Rv, .inl (g 0, 21, .inl fvalx_244)), (Rd, .inr (4, [.ref Tp, .int (nI ln), .int (nI axx_256), .int (-1), .int (nI htx_4), .int (nI ctx_5), .ref Rv])), (Tp, .inl (g 0, 160, .inl ftp))] H := ⟨hP2, hD2⟩
                        have hS := hS2; clear hP2 hD2 hS2; have hP := hPD.1; have hD := hPD.2; clear hPD
                        refine W.widen (k := 0) (n := 0) (Nat.le_of_ble_eq_true rfl) (Nat.le_of_ble_eq_true rfl) ?_
                        refine lv_aload_n hx hb dX4_readClause_57 rfl (lv_at hl 4 rfl) ?_
                        refine va_get (D := D) (ci := 4) (v := .ref Tp) (C := RX4) (T := TX4) (N := 7) hx hb hts iX4 hown hK hP 1 rfl rfl 0 (by decide) f9 (fun _ h9 => h9) rfl dX4_readClause_58 ?_
                        refine lv_aload_n hx hb dX4_readClause_61 rfl (lv_at hl 4 rfl) ?_
                        refine va_get (D := D) (ci := 4) (v := .int (nI axx_256)) (C := RX4) (T := TX4) (N := 7) hx hb hts iX4 hown hK hP 1 rfl rfl 2 (by decide) f28 (fun _ h9 => h9) rfl dX4_readClause_62 ?_
                        refine va_iald hx hb hK hP 2 0 rfl rfl (vp_in_nI (show axx_256 < 160 by omega) (by decide)) dX4_readClause_65 ?_
                        refine lv_eqi (y := (ftp (axx_256))) (congrArg ftp (nI_clamp (show axx_256 < 2 ^ 31 by omega))) ?_
                        refine ky_Si (As := [.int (nI (kdN cl_15)), .int (ftp (axx_256))]) (rest := []) ⟨hx, hb, hml, hown, hts⟩ ⟨hK, hN⟩ hZ hP hD hS hA [] [0, 1, 2] (wc := []) (wr := [(Rv, .inl (g 0, 21, .inl fvalx_244)), (Rd, .inr (4, [.ref Tp, .int (nI ln), .int (nI axx_256), .int (-1), .int (nI htx_4), .int (nI ctx_5), .ref Rv])), (Tp, .inl (g 0, 160, .inl ftp))]) rfl rfl rfl rfl (by decide) (r_X4_itemOf l D g H.size (kdN cl_15) (ftp (axx_256)) (show (kdN cl_15) < 3 by omega)) (va_cwS 2 hts gX4_readClause_X4_itemOf rfl rfl rfl (by decide +kernel) ⟨(Nat.le_of_ble_eq_true rfl), (Nat.le_of_ble_eq_true rfl)⟩) rfl hl.1 rfl (Nat.le_of_ble_eq_true rfl) dX4_readClause_66 ⟨(Nat.le_of_ble_eq_true rfl), (Nat.le_of_ble_eq_true rfl)⟩ (fun r_265 u H locs hw hP2 hD2 hS2 => ?_)
                        clear hP hD hS
                        obtain ⟨rfl, rfl⟩ := hw
                        have hPD : PD D A [(Rv, .inl (g 0, 21, .inl fvalx_244)), (Rd, .inr (4, [.ref Tp, .int (nI ln), .int (nI axx_256), .int (-1), .int (nI htx_4), .int (nI ctx_5), .ref Rv])), (Tp, .inl (g 0, 160, .inl ftp))] H := ⟨hP2, hD2⟩
                        have hS := hS2; clear hP2 hD2 hS2; have hP := hPD.1; have hD := hPD.2; clear hPD
                        refine W.widen (k := 0) (n := 0) (Nat.le_of_ble_eq_true rfl) (Nat.le_of_ble_eq_true rfl) ?_
                        rcases itK_c (kdN cl_15) (ftp (axx_256)) with qi_266 | qi_266 | qi_266 | qi_266
                        · skip
                          refine lv_eqi (y := (-1)) (qi_266) ?_
                          refine lv_istore (lv' := [(5, .int (-1)), (4, .int 2), (3, .int 6), (2, .int (nI cl_15)), (0, .ref Rd), (1, .int zf)]) hx hb dX4_readClause_69 hl (by decide) rfl (fun ls hl => ?_)
                          refine lv_iload hx hb dX4_readClause_71 (lv_at hl 0 rfl) ?_
                          refine lv_iconst (v := (-1)) hx hb dX4_readClause_73 (by decide) ?_
                          refine lv_icmp_eq (tgt := 86) hx hb dX4_readClause_74 (by decide) (fun _ => ?_) (fun cb => absurd (by decide) cb)
                          refine lv_aload_n hx hb dX4_readClause_86 rfl (lv_at hl 4 rfl) ?_
                          refine lv_aload_n hx hb dX4_readClause_87 rfl (lv_at hl 4 rfl) ?_
                          refine va_get (D := D) (ci := 4) (v := .int (nI axx_256)) (C := RX4) (T := TX4) (N := 7) hx hb hts iX4 hown hK hP 1 rfl rfl 2 (by decide) f28 (fun _ h9 => h9) rfl dX4_readClause_88 ?_
                          refine va_put (D := D) (ci := 4) (v := .int (nI axx_256)) (ty := .int) (C := RX4) (T := TX4) (N := 7) hx hb hts iX4 tyX4 tyX4_ok nmX4 hown hK hP hD hS 1 rfl rfl 3 (by decide) f31 (fun _ h9 => h9) rfl (by decide +kernel) (rfl) (rfl) (Nat.le_of_ble_eq_true rfl) dX4_readClause_91 (fun H locs hP2 hD2 hS2 => ?_)
                          clear hP hD hS
                          have hPD : PD D A [(Rv, .inl (g 0, 21, .inl fvalx_244)), (Rd, .inr (4, [.ref Tp, .int (nI ln), .int (nI axx_256), .int (nI axx_256), .int (nI htx_4), .int (nI ctx_5), .ref Rv])), (Tp, .inl (g 0, 160, .inl ftp))] H := ⟨hP2, hD2⟩
                          have hS := hS2; clear hP2 hD2 hS2; have hP := hPD.1; have hD := hPD.2; clear hPD
                          have hPD9 : PD D A [(Rd, .inr (4, [.ref Tp, .int (nI ln), .int (nI axx_256), .int (nI axx_256), .int (nI htx_4), .int (nI ctx_5), .ref Rv])), (Tp, .inl (g 0, 160, .inl ftp)), (Rv, .inl (g 0, 21, .inl fvalx_244))] H := ⟨hP.sub [1, 2, 0] rfl, hD.sub [1, 2, 0] (by decide) rfl⟩
                          have hP9 := hPD9.1; have hD9 := hPD9.2
                          subst hQ
                          refine W.widen (k := 0) (n := 0) (Nat.le_of_ble_eq_true rfl) (Nat.le_of_ble_eq_true rfl) ?_
                          exact W.vret hx hb hr (fun tS htS _ => ⟨⟨_, rfl, ⟨axx_256, (nI axx_256), htx_4, ctx_5, fvalx_244, rfl, ⟨(show axx_256 ≤ ln by omega), (show htx_4 ≤ 3 by omega), (show ctx_5 ≤ 3 by omega), (hf_246), (cl_bad hf_7.2.2.2.1.symm (show cl_15 < 7 by omega) (hR_251.trans (itR_no (f := 1) hf_258 qi_266)) (show axx_256 < ln by omega) cb_263).1, (cl_bad hf_7.2.2.2.1.symm (show cl_15 < 7 by omega) (hR_251.trans (itR_no (f := 1) hf_258 qi_266)) (show axx_256 < ln by omega) cb_263).2, (fun q => absurd q (m1_ne (show axx_256 < 2 ^ 31 by omega))), (fun q => absurd q (m1_ne (show axx_256 < 2 ^ 31 by omega)))⟩⟩, by rw [htS]; exact hP9, hD9⟩, hS.F htS⟩) hS.2.2 dX4_readClause_94
                        · skip
                          refine lv_eqi (y := 0) (qi_266) ?_
                          refine lv_istore (lv' := [(5, .int 0), (4, .int 2), (3, .int 6), (2, .int (nI cl_15)), (0, .ref Rd), (1, .int zf)]) hx hb dX4_readClause_69 hl (by decide) rfl (fun ls hl => ?_)
                          refine lv_iload hx hb dX4_readClause_71 (lv_at hl 0 rfl) ?_
                          refine lv_iconst (v := (-1)) hx hb dX4_readClause_73 (by decide) ?_
                          refine lv_icmp_eq (tgt := 86) hx hb dX4_readClause_74 (by decide) (fun cb => absurd cb (by decide)) (fun _ => ?_)
                          refine lv_iload_n hx hb dX4_readClause_77 rfl (lv_at hl 2 rfl) ?_
                          refine lv_iconst (v := 1) hx hb dX4_readClause_78 (by decide) ?_
                          refine lv_iload hx hb dX4_readClause_79 (lv_at hl 0 rfl) ?_
                          refine lv_ishl hx hb dX4_readClause_81 ?_
                          refine lv_eqi (y := 1) (by decide) ?_
                          refine lv_iand hx hb dX4_readClause_82 ?_
                          refine lv_eqi (y := 0) (by decide) ?_
                          refine lv_if_eq (tgt := 95) hx hb dX4_readClause_83 (by decide) (fun _ => ?_) (fun cb => absurd (by decide) cb)
                          refine lv_iload_n hx hb dX4_readClause_95 rfl (lv_at hl 2 rfl) ?_
                          refine lv_iconst (v := 1) hx hb dX4_readClause_96 (by decide) ?_
                          refine lv_iload hx hb dX4_readClause_97 (lv_at hl 0 rfl) ?_
                          refine lv_ishl hx hb dX4_readClause_99 ?_
                          refine lv_eqi (y := 1) (by decide) ?_
                          refine lv_ior hx hb dX4_readClause_100 ?_
                          refine lv_eqi (y := 7) (by decide) ?_
                          refine lv_istore_n (lv' := [(3, .int 7), (5, .int 0), (4, .int 2), (2, .int (nI cl_15)), (0, .ref Rd), (1, .int zf)]) hx hb dX4_readClause_101 rfl hl (by decide) rfl (fun ls hl => ?_)
                          refine lv_aload_n hx hb dX4_readClause_102 rfl (lv_at hl 4 rfl) ?_
                          refine lv_dup hx hb dX4_readClause_103 rfl ?_
                          refine va_get (D := D) (ci := 4) (v := .int (nI axx_256)) (C := RX4) (T := TX4) (N := 7) hx hb hts iX4 hown hK hP 1 rfl rfl 2 (by decide) f28 (fun _ h9 => h9) rfl dX4_readClause_104 ?_
                          refine lv_iconst (v := 1) hx hb dX4_readClause_107 (by decide) ?_
                          refine lv_iadd hx hb dX4_readClause_108 ?_
                          refine lv_eqi (y := (nI (axx_256 + 1))) (nI_add (axx_256) (1)) ?_
                          refine va_put (D := D) (ci := 4) (v := .int (nI (axx_256 + 1))) (ty := .int) (C := RX4) (T := TX4) (N := 7) hx hb hts iX4 tyX4 tyX4_ok nmX4 hown hK hP hD hS 1 rfl rfl 2 (by decide) f28 (fun _ h9 => h9) rfl (by decide +kernel) (rfl) (rfl) (Nat.le_of_ble_eq_true rfl) dX4_readClause_109 (fun H locs hP2 hD2 hS2 => ?_)
                          clear hP hD hS
                          have hPD : PD D A [(Rv, .inl (g 0, 21, .inl fvalx_244)), (Rd, .inr (4, [.ref Tp, .int (nI ln), .int (nI (axx_256 + 1)), .int (-1), .int (nI htx_4), .int (nI ctx_5), .ref Rv])), (Tp, .inl (g 0, 160, .inl ftp))] H := ⟨hP2, hD2⟩
                          have hS := hS2; clear hP2 hD2 hS2; have hP := hPD.1; have hD := hPD.2; clear hPD
                          refine lv_aload_n hx hb dX4_readClause_112 rfl (lv_at hl 4 rfl) ?_
                          refine lv_iload_n hx hb dX4_readClause_113 rfl (lv_at hl 3 rfl) ?_
                          refine lv_iload hx hb dX4_readClause_114 (lv_at hl 1 rfl) ?_
                          refine ky_Vv (As := [.int (nI cl_15), .int 0]) (rest := []) ⟨hx, hb, hml, hown, hts⟩ ⟨hK, hN⟩ hZ hP hD hS hA [1, 2, 0] [] (wc := [(Rd, .inr (4, [.ref Tp, .int (nI ln), .int (nI (axx_256 + 1)), .int (-1), .int (nI htx_4), .int (nI ctx_5), .ref Rv])), (Tp, .inl (g 0, 160, .inl ftp)), (Rv, .inl (g 0, 21, .inl fvalx_244))]) (wr := []) rfl rfl rfl rfl (by decide) (r_X4_readNumber l D g H.size Rd cl_15 0 Tp ln (axx_256 + 1) htx_4 ctx_5 Rv ftp fvalx_244 (show ln ≤ 160 by omega) (show (axx_256 + 1) ≤ ln by omega) (hf_246) (show cl_15 < 7 by omega) (show 0 < 3 by omega)) (cwV 2 hts gX4_readClause_X4_readNumber rfl rfl rfl (by decide +kernel) ⟨(Nat.le_of_ble_eq_true rfl), (Nat.le_of_ble_eq_true rfl)⟩) 1 4 rfl rfl rfl rfl hl.1 rfl (Nat.le_of_ble_eq_true rfl) dX4_readClause_116 ⟨(Nat.le_of_ble_eq_true rfl), (Nat.le_of_ble_eq_true rfl)⟩ (fun u H locs hw hP2 hD2 hS2 => ?_)
                          clear hP hD hS
                          obtain ⟨axx_268, zfax_269, fvalx_270, rfl, hf_271, hf_272, hf_273, hf_274⟩ := hw
                          have hPD : PD D A [(Rd, .inr (4, [.ref Tp, .int (nI ln), .int (nI axx_268), .int zfax_269, .int (nI htx_4), .int (nI ctx_5), .ref Rv])), (Tp, .inl (g 0, 160, .inl ftp)), (Rv, .inl (g 0, 21, .inl fvalx_270))] H := ⟨hP2, hD2⟩
                          have hS := hS2; clear hP2 hD2 hS2; have hP := hPD.1; have hD := hPD.2; clear hPD
                          refine W.widen (k := 0) (n := 0) (Nat.le_of_ble_eq_true rfl) (Nat.le_of_ble_eq_true rfl) ?_
                          refine lv_aload_n hx hb dX4_readClause_119 rfl (lv_at hl 4 rfl) ?_
                          refine va_get (D := D) (ci := 4) (v := .int zfax_269) (C := RX4) (T := TX4) (N := 7) hx hb hts iX4 hown hK hP 0 rfl rfl 3 (by decide) f31 (fun _ h9 => h9) rfl dX4_readClause_120 ?_
                          refine lv_iconst (v := (-1)) hx hb dX4_readClause_123 (by decide) ?_
                          refine lv_icmp_eq (tgt := 128) hx hb dX4_readClause_124 (by decide) (fun cb_275 => ?_) (fun cb_275 => ?_)
                          · skip
                            have hPq_276 := hP; have hDq_276 := hD; have hSq_276 := hS; have hlq_276 := hl; clear hP hD hS hl
                            subst cb_275
                            have hP := hPq_276; have hD := hDq_276; have hS := hSq_276; have hl := hlq_276; clear hPq_276 hDq_276 hSq_276 hlq_276
                            have hne_278 := (hf_274 rfl).1
                            have hne_278g := nmE_gt (T := ftp) (n := ln) (i := axx_256 + 1) (by omega)
                            have hR_277 : itR ftp ln (kdN cl_15) 4 0 (sB ftp ln ax + 1) = itR ftp ln (kdN cl_15) 1 7 axx_268 := hR_251.trans ((itR_go (f := 1) (m := 6) (q := 0) hf_258 (show axx_256 < ln by omega) qi_266 (by decide) (by decide) hf_273.symm).trans (by rw [hne_278]))
                            have hnv_280 := hf_274 rfl
                            have hW_279 : itW ftp ln (kdN cl_15) (3 * cl_15) 4 0 (sB ftp ln ax + 1) fval = itW ftp ln (kdN cl_15) (3 * cl_15) 1 7 axx_268 fvalx_270 := hW_253.trans ((itW_go (f := 1) (m := 6) (q := 0) hf_258 (show axx_256 < ln by omega) qi_266 (by decide) (by decide) hf_273.symm).trans (by rw [hnv_280.1, hnv_280.2]))
                            refine lv_iinc (v := 3) (lv' := [(4, .int 3), (3, .int 7), (5, .int 0), (2, .int (nI cl_15)), (0, .ref Rd), (1, .int zf)]) hx hb dX4_readClause_128 hl (k := 2) rfl (by decide) (by decide) rfl (fun ls hl => ?_)
                            refine lv_goto (tgt := 17) hx hb dX4_readClause_131 (by decide) ?_
                            refine lv_iload hx hb dX4_readClause_17 (lv_at hl 0 rfl) ?_
                            refine lv_iconst (v := 3) hx hb dX4_readClause_19 (by decide) ?_
                            refine lv_icmp_gt (tgt := 134) hx hb dX4_readClause_20 (by decide) (fun cb => absurd cb (by decide)) (fun _ => ?_)
                            refine lv_aload_n hx hb dX4_readClause_23 rfl (lv_at hl 4 rfl) ?_
                            refine ky_Vv (As := []) (rest := []) ⟨hx, hb, hml, hown, hts⟩ ⟨hK, hN⟩ hZ hP hD hS hA [0, 1] [2] (wc := [(Rd, .inr (4, [.ref Tp, .int (nI ln), .int (nI axx_268), .int (-1), .int (nI htx_4), .int (nI ctx_5), .ref Rv])), (Tp, .inl (g 0, 160, .inl ftp))]) (wr := [(Rv, .inl (g 0, 21, .inl fvalx_270))]) rfl rfl rfl rfl (by decide) (r_X4_passBlanks l D g H.size Rd Tp ln axx_268 (-1) htx_4 ctx_5 Rv ftp (show ln ≤ 160 by omega) (show axx_268 ≤ ln by omega)) (cwV 0 hts gX4_readClause_X4_passBlanks rfl rfl rfl (by decide +kernel) ⟨(Nat.le_of_ble_eq_true rfl), (Nat.le_of_ble_eq_true rfl)⟩) 0 4 rfl rfl rfl rfl hl.1 rfl (Nat.le_of_ble_eq_true rfl) dX4_readClause_24 ⟨(Nat.le_of_ble_eq_true rfl), (Nat.le_of_ble_eq_true rfl)⟩ (fun u H locs hw hP2 hD2 hS2 => ?_)
                            clear hP hD hS
                            obtain ⟨axx_282, rfl, hf_283, hf_284⟩ := hw
                            have hPD : PD D A [(Rv, .inl (g 0, 21, .inl fvalx_270)), (Rd, .inr (4, [.ref Tp, .int (nI ln), .int (nI axx_282), .int (-1), .int (nI htx_4), .int (nI ctx_5), .ref Rv])), (Tp, .inl (g 0, 160, .inl ftp))] H := ⟨hP2, hD2⟩
                            have hS := hS2; clear hP2 hD2 hS2; have hP := hPD.1; have hD := hPD.2; clear hPD
                            refine W.widen (k := 0) (n := 0) (Nat.le_of_ble_eq_true rfl) (Nat.le_of_ble_eq_true rfl) ?_
                            have hge_285 := sB_ge (T := ftp) (n := ln) (i := axx_268) (by omega)
                            refine lv_aload_n hx hb dX4_readClause_27 rfl (lv_at hl 4 rfl) ?_
                            refine va_get (D := D) (ci := 4) (v := .int (nI axx_282)) (C := RX4) (T := TX4) (N := 7) hx hb hts iX4 hown hK hP 1 rfl rfl 2 (by decide) f28 (fun _ h9 => h9) rfl dX4_readClause_28 ?_
                            refine lv_aload_n hx hb dX4_readClause_31 rfl (lv_at hl 4 rfl) ?_
                            refine va_get (D := D) (ci := 4) (v := .int (nI ln)) (C := RX4) (T := TX4) (N := 7) hx hb hts iX4 hown hK hP 1 rfl rfl 1 (by decide) f24 (fun _ h9 => h9) rfl dX4_readClause_32 ?_
                            refine lv_icmp_ge (tgt := 52) hx hb dX4_readClause_35 (by decide) (fun cb_286 => ?_) (fun cb_286 => ?_)
                            · skip
                              have cn_287 : ln ≤ axx_282 := (nI_leI (show ln < 2 ^ 31 by omega) (show axx_282 < 2 ^ 31 by omega)).mp cb_286
                              have hPD9 : PD D A [(Rd, .inr (4, [.ref Tp, .int (nI ln), .int (nI axx_282), .int (-1), .int (nI htx_4), .int (nI ctx_5), .ref Rv])), (Tp, .inl (g 0, 160, .inl ftp)), (Rv, .inl (g 0, 21, .inl fvalx_270))] H := ⟨hP.sub [1, 2, 0] rfl, hD.sub [1, 2, 0] (by decide) rfl⟩
                              have hP9 := hPD9.1; have hD9 := hPD9.2
                              subst hQ
                              refine W.widen (k := 0) (n := 0) (Nat.le_of_ble_eq_true rfl) (Nat.le_of_ble_eq_true rfl) ?_
                              exact W.vret hx hb hr (fun tS htS _ => ⟨⟨_, rfl, ⟨axx_282, (-1), htx_4, ctx_5, fvalx_270, rfl, ⟨(show axx_282 ≤ ln by omega), (show htx_4 ≤ 3 by omega), (show ctx_5 ≤ 3 by omega), (hf_272), (cl_end hf_7.2.2.2.1.symm (show cl_15 < 7 by omega) (hR_277.trans (itR_end (f := 0) hf_284 (show ¬ axx_282 < ln by omega))) (fun q => absurd q.1 (show ¬ axx_282 < ln by omega))).1, (cl_end hf_7.2.2.2.1.symm (show cl_15 < 7 by omega) (hR_277.trans (itR_end (f := 0) hf_284 (show ¬ axx_282 < ln by omega))) (fun q => absurd q.1 (show ¬ axx_282 < ln by omega))).2.1, (fun _ => ⟨(cl_end hf_7.2.2.2.1.symm (show cl_15 < 7 by omega) (hR_277.trans (itR_end (f := 0) hf_284 (show ¬ axx_282 < ln by omega))) (fun q => absurd q.1 (show ¬ axx_282 < ln by omega))).2.2, show ax < axx_282 by omega⟩), (fun _ => ((clW_cl hf_7.2.2.2.1.symm (show cl_15 < 7 by omega)).trans (hW_279.trans (itW_end (f := 0) hf_284 (show ¬ axx_282 < ln by omega)))).symm)⟩⟩, by rw [htS]; exact hP9, hD9⟩, hS.F htS⟩) hS.2.2 dX4_readClause_52
                            · skip
                              have cn_288 : axx_282 < ln := Nat.lt_of_not_le (fun q9 => cb_286 ((nI_leI (show ln < 2 ^ 31 by omega) (show axx_282 < 2 ^ 31 by omega)).mpr q9))
                              refine lv_aload_n hx hb dX4_readClause_38 rfl (lv_at hl 4 rfl) ?_
                              refine va_get (D := D) (ci := 4) (v := .ref Tp) (C := RX4) (T := TX4) (N := 7) hx hb hts iX4 hown hK hP 1 rfl rfl 0 (by decide) f9 (fun _ h9 => h9) rfl dX4_readClause_39 ?_
                              refine lv_aload_n hx hb dX4_readClause_42 rfl (lv_at hl 4 rfl) ?_
                              refine va_get (D := D) (ci := 4) (v := .int (nI axx_282)) (C := RX4) (T := TX4) (N := 7) hx hb hts iX4 hown hK hP 1 rfl rfl 2 (by decide) f28 (fun _ h9 => h9) rfl dX4_readClause_43 ?_
                              refine va_iald hx hb hK hP 2 0 rfl rfl (vp_in_nI (show axx_282 < 160 by omega) (by decide)) dX4_readClause_46 ?_
                              refine lv_eqi (y := (ftp (axx_282))) (congrArg ftp (nI_clamp (show axx_282 < 2 ^ 31 by omega))) ?_
                              refine lv_bipush (v := 59) hx hb dX4_readClause_47 (by decide) ?_
                              refine lv_icmp_ne (tgt := 53) hx hb dX4_readClause_49 (by decide) (fun cb_289 => ?_) (fun cb_289 => ?_)
                              · skip
                                refine lv_iload_n hx hb dX4_readClause_53 rfl (lv_at hl 3 rfl) ?_
                                refine ky_Si (As := [.int (nI cl_15)]) (rest := []) ⟨hx, hb, hml, hown, hts⟩ ⟨hK, hN⟩ hZ hP hD hS hA [] [0, 1, 2] (wc := []) (wr := [(Rv, .inl (g 0, 21, .inl fvalx_270)), (Rd, .inr (4, [.ref Tp, .int (nI ln), .int (nI axx_282), .int (-1), .int (nI htx_4), .int (nI ctx_5), .ref Rv])), (Tp, .inl (g 0, 160, .inl ftp))]) rfl rfl rfl rfl (by decide) (r_X4_kindOf l D g H.size cl_15 (show cl_15 < 7 by omega)) (va_cwS 1 hts gX4_readClause_X4_kindOf rfl rfl rfl (by decide +kernel) ⟨(Nat.le_of_ble_eq_true rfl), (Nat.le_of_ble_eq_true rfl)⟩) rfl hl.1 rfl (Nat.le_of_ble_eq_true rfl) dX4_readClause_54 ⟨(Nat.le_of_ble_eq_true rfl), (Nat.le_of_ble_eq_true rfl)⟩ (fun r_290 u H locs hw hP2 hD2 hS2 => ?_)
                                clear hP hD hS
                                obtain ⟨rfl, rfl⟩ := hw
                                have hPD : PD D A [(Rv, .inl (g 0, 21, .inl fvalx_270)), (Rd, .inr (4, [.ref Tp, .int (nI ln), .int (nI axx_282), .int (-1), .int (nI htx_4), .int (nI ctx_5), .ref Rv])), (Tp, .inl (g 0, 160, .inl ftp))] H := ⟨hP2, hD2⟩
                                have hS := hS2; clear hP2 hD2 hS2; have hP := hPD.1; have hD := hPD.2; clear hPD
                                refine W.widen (k := 0) (n := 0) (Nat.le_of_ble_eq_true rfl) (Nat.le_of_ble_eq_true rfl) ?_
                                refine lv_aload_n hx hb dX4_readClause_57 rfl (lv_at hl 4 rfl) ?_
                                refine va_get (D := D) (ci := 4) (v := .ref Tp) (C := RX4) (T := TX4) (N := 7) hx hb hts iX4 hown hK hP 1 rfl rfl 0 (by decide) f9 (fun _ h9 => h9) rfl dX4_readClause_58 ?_
                                refine lv_aload_n hx hb dX4_readClause_61 rfl (lv_at hl 4 rfl) ?_
                                refine va_get (D := D) (ci := 4) (v := .int (nI axx_282)) (C := RX4) (T := TX4) (N := 7) hx hb hts iX4 hown hK hP 1 rfl rfl 2 (by decide) f28 (fun _ h9 => h9) rfl dX4_readClause_62 ?_
                                refine va_iald hx hb hK hP 2 0 rfl rfl (vp_in_nI (show axx_282 < 160 by omega) (by decide)) dX4_readClause_65 ?_
                                refine lv_eqi (y := (ftp (axx_282))) (congrArg ftp (nI_clamp (show axx_282 < 2 ^ 31 by omega))) ?_
                                refine ky_Si (As := [.int (nI (kdN cl_15)), .int (ftp (axx_282))]) (rest := []) ⟨hx, hb, hml, hown, hts⟩ ⟨hK, hN⟩ hZ hP hD hS hA [] [0, 1, 2] (wc := []) (wr := [(Rv, .inl (g 0, 21, .inl fvalx_270)), (Rd, .inr (4, [.ref Tp, .int (nI ln), .int (nI axx_282), .int (-1), .int (nI htx_4), .int (nI ctx_5), .ref Rv])), (Tp, .inl (g 0, 160, .inl ftp))]) rfl rfl rfl rfl (by decide) (r_X4_itemOf l D g H.size (kdN cl_15) (ftp (axx_282)) (show (kdN cl_15) < 3 by omega)) (va_cwS 2 hts gX4_readClause_X4_itemOf rfl rfl rfl (by decide +kernel) ⟨(Nat.le_of_ble_eq_true rfl), (Nat.le_of_ble_eq_true rfl)⟩) rfl hl.1 rfl (Nat.le_of_ble_eq_true rfl) dX4_readClause_66 ⟨(Nat.le_of_ble_eq_true rfl), (Nat.le_of_ble_eq_true rfl)⟩ (fun r_291 u H locs hw hP2 hD2 hS2 => ?_)
                                clear hP hD hS
                                obtain ⟨rfl, rfl⟩ := hw
                                have hPD : PD D A [(Rv, .inl (g 0, 21, .inl fvalx_270)), (Rd, .inr (4, [.ref Tp, .int (nI ln), .int (nI axx_282), .int (-1), .int (nI htx_4), .int (nI ctx_5), .ref Rv])), (Tp, .inl (g 0, 160, .inl ftp))] H := ⟨hP2, hD2⟩
                                have hS := hS2; clear hP2 hD2 hS2; have hP := hPD.1; have hD := hPD.2; clear hPD
                                refine W.widen (k := 0) (n := 0) (Nat.le_of_ble_eq_true rfl) (Nat.le_of_ble_eq_true rfl) ?_
                                rcases itK_c (kdN cl_15) (ftp (axx_282)) with qi_292 | qi_292 | qi_292 | qi_292
                                · skip
                                  refine lv_eqi (y := (-1)) (qi_292) ?_
                                  refine lv_istore (lv' := [(5, .int (-1)), (4, .int 3), (3, .int 7), (2, .int (nI cl_15)), (0, .ref Rd), (1, .int zf)]) hx hb dX4_readClause_69 hl (by decide) rfl (fun ls hl => ?_)
                                  refine lv_iload hx hb dX4_readClause_71 (lv_at hl 0 rfl) ?_
                                  refine lv_iconst (v := (-1)) hx hb dX4_readClause_73 (by decide) ?_
                                  refine lv_icmp_eq (tgt := 86) hx hb dX4_readClause_74 (by decide) (fun _ => ?_) (fun cb => absurd (by decide) cb)
                                  refine lv_aload_n hx hb dX4_readClause_86 rfl (lv_at hl 4 rfl) ?_
                                  refine lv_aload_n hx hb dX4_readClause_87 rfl (lv_at hl 4 rfl) ?_
                                  refine va_get (D := D) (ci := 4) (v := .int (nI axx_282)) (C := RX4) (T := TX4) (N := 7) hx hb hts iX4 hown hK hP 1 rfl rfl 2 (by decide) f28 (fun _ h9 => h9) rfl dX4_readClause_88 ?_
                                  refine va_put (D := D) (ci := 4) (v := .int (nI axx_282)) (ty := .int) (C := RX4) (T := TX4) (N := 7) hx hb hts iX4 tyX4 tyX4_ok nmX4 hown hK hP hD hS 1 rfl rfl 3 (by decide) f31 (fun _ h9 => h9) rfl (by decide +kernel) (rfl) (rfl) (Nat.le_of_ble_eq_true rfl) dX4_readClause_91 (fun H locs hP2 hD2 hS2 => ?_)
                                  clear hP hD hS
                                  have hPD : PD D A [(Rv, .inl (g 0, 21, .inl fvalx_270)), (Rd, .inr (4, [.ref Tp, .int (nI ln), .int (nI axx_282), .int (nI axx_282), .int (nI htx_4), .int (nI ctx_5), .ref Rv])), (Tp, .inl (g 0, 160, .inl ftp))] H := ⟨hP2, hD2⟩
                                  have hS := hS2; clear hP2 hD2 hS2; have hP := hPD.1; have hD := hPD.2; clear hPD
                                  have hPD9 : PD D A [(Rd, .inr (4, [.ref Tp, .int (nI ln), .int (nI axx_282), .int (nI axx_282), .int (nI htx_4), .int (nI ctx_5), .ref Rv])), (Tp, .inl (g 0, 160, .inl ftp)), (Rv, .inl (g 0, 21, .inl fvalx_270))] H := ⟨hP.sub [1, 2, 0] rfl, hD.sub [1, 2, 0] (by decide) rfl⟩
                                  have hP9 := hPD9.1; have hD9 := hPD9.2
                                  subst hQ
                                  refine W.widen (k := 0) (n := 0) (Nat.le_of_ble_eq_true rfl) (Nat.le_of_ble_eq_true rfl) ?_
                                  exact W.vret hx hb hr (fun tS htS _ => ⟨⟨_, rfl, ⟨axx_282, (nI axx_282), htx_4, ctx_5, fvalx_270, rfl, ⟨(show axx_282 ≤ ln by omega), (show htx_4 ≤ 3 by omega), (show ctx_5 ≤ 3 by omega), (hf_272), (cl_bad hf_7.2.2.2.1.symm (show cl_15 < 7 by omega) (hR_277.trans (itR_no (f := 0) hf_284 qi_292)) (show axx_282 < ln by omega) cb_289).1, (cl_bad hf_7.2.2.2.1.symm (show cl_15 < 7 by omega) (hR_277.trans (itR_no (f := 0) hf_284 qi_292)) (show axx_282 < ln by omega) cb_289).2, (fun q => absurd q (m1_ne (show axx_282 < 2 ^ 31 by omega))), (fun q => absurd q (m1_ne (show axx_282 < 2 ^ 31 by omega)))⟩⟩, by rw [htS]; exact hP9, hD9⟩, hS.F htS⟩) hS.2.2 dX4_readClause_94
                                · skip
                                  refine lv_eqi (y := 0) (qi_292) ?_
                                  refine lv_istore (lv' := [(5, .int 0), (4, .int 3), (3, .int 7), (2, .int (nI cl_15)), (0, .ref Rd), (1, .int zf)]) hx hb dX4_readClause_69 hl (by decide) rfl (fun ls hl => ?_)
                                  refine lv_iload hx hb dX4_readClause_71 (lv_at hl 0 rfl) ?_
                                  refine lv_iconst (v := (-1)) hx hb dX4_readClause_73 (by decide) ?_
                                  refine lv_icmp_eq (tgt := 86) hx hb dX4_readClause_74 (by decide) (fun cb => absurd cb (by decide)) (fun _ => ?_)
                                  refine lv_iload_n hx hb dX4_readClause_77 rfl (lv_at hl 2 rfl) ?_
                                  refine lv_iconst (v := 1) hx hb dX4_readClause_78 (by decide) ?_
                                  refine lv_iload hx hb dX4_readClause_79 (lv_at hl 0 rfl) ?_
                                  refine lv_ishl hx hb dX4_readClause_81 ?_
                                  refine lv_eqi (y := 1) (by decide) ?_
                                  refine lv_iand hx hb dX4_readClause_82 ?_
                                  refine lv_eqi (y := 1) (by decide) ?_
                                  refine lv_if_eq (tgt := 95) hx hb dX4_readClause_83 (by decide) (fun cb => absurd cb (by decide)) (fun _ => ?_)
                                  refine lv_aload_n hx hb dX4_readClause_86 rfl (lv_at hl 4 rfl) ?_
                                  refine lv_aload_n hx hb dX4_readClause_87 rfl (lv_at hl 4 rfl) ?_
                                  refine va_get (D := D) (ci := 4) (v := .int (nI axx_282)) (C := RX4) (T := TX4) (N := 7) hx hb hts iX4 hown hK hP 1 rfl rfl 2 (by decide) f28 (fun _ h9 => h9) rfl dX4_readClause_88 ?_
                                  refine va_put (D := D) (ci := 4) (v := .int (nI axx_282)) (ty := .int) (C := RX4) (T := TX4) (N := 7) hx hb hts iX4 tyX4 tyX4_ok nmX4 hown hK hP hD hS 1 rfl rfl 3 (by decide) f31 (fun _ h9 => h9) rfl (by decide +kernel) (rfl) (rfl) (Nat.le_of_ble_eq_true rfl) dX4_readClause_91 (fun H locs hP2 hD2 hS2 => ?_)
                                  clear hP hD hS
                                  have hPD : PD D A [(Rv, .inl (g 0, 21, .inl fvalx_270)), (Rd, .inr (4, [.ref Tp, .int (nI ln), .int (nI axx_282), .int (nI axx_282), .int (nI htx_4), .int (nI ctx_5), .ref Rv])), (Tp, .inl (g 0, 160, .inl ftp))] H := ⟨hP2, hD2⟩
                                  have hS := hS2; clear hP2 hD2 hS2; have hP := hPD.1; have hD := hPD.2; clear hPD
                                  have hPD9 : PD D A [(Rd, .inr (4, [.ref Tp, .int (nI ln), .int (nI axx_282), .int (nI axx_282), .int (nI htx_4), .int (nI ctx_5), .ref Rv])), (Tp, .inl (g 0, 160, .inl ftp)), (Rv, .inl (g 0, 21, .inl fvalx_270))] H := ⟨hP.sub [1, 2, 0] rfl, hD.sub [1, 2, 0] (by decide) rfl⟩
                                  have hP9 := hPD9.1; have hD9 := hPD9.2
                                  subst hQ
                                  refine W.widen (k := 0) (n := 0) (Nat.le_of_ble_eq_true rfl) (Nat.le_of_ble_eq_true rfl) ?_
                                  exact W.vret hx hb hr (fun tS htS _ => ⟨⟨_, rfl, ⟨axx_282, (nI axx_282), htx_4, ctx_5, fvalx_270, rfl, ⟨(show axx_282 ≤ ln by omega), (show htx_4 ≤ 3 by omega), (show ctx_5 ≤ 3 by omega), (hf_272), (cl_bad hf_7.2.2.2.1.symm (show cl_15 < 7 by omega) (hR_277.trans (itR_again (f := 0) (q := 0) hf_284 qi_292 (by decide) (by decide))) (show axx_282 < ln by omega) cb_289).1, (cl_bad hf_7.2.2.2.1.symm (show cl_15 < 7 by omega) (hR_277.trans (itR_again (f := 0) (q := 0) hf_284 qi_292 (by decide) (by decide))) (show axx_282 < ln by omega) cb_289).2, (fun q => absurd q (m1_ne (show axx_282 < 2 ^ 31 by omega))), (fun q => absurd q (m1_ne (show axx_282 < 2 ^ 31 by omega)))⟩⟩, by rw [htS]; exact hP9, hD9⟩, hS.F htS⟩) hS.2.2 dX4_readClause_94
                                · skip
                                  refine lv_eqi (y := 1) (qi_292) ?_
                                  refine lv_istore (lv' := [(5, .int 1), (4, .int 3), (3, .int 7), (2, .int (nI cl_15)), (0, .ref Rd), (1, .int zf)]) hx hb dX4_readClause_69 hl (by decide) rfl (fun ls hl => ?_)
                                  refine lv_iload hx hb dX4_readClause_71 (lv_at hl 0 rfl) ?_
                                  refine lv_iconst (v := (-1)) hx hb dX4_readClause_73 (by decide) ?_
                                  refine lv_icmp_eq (tgt := 86) hx hb dX4_readClause_74 (by decide) (fun cb => absurd cb (by decide)) (fun _ => ?_)
                                  refine lv_iload_n hx hb dX4_readClause_77 rfl (lv_at hl 2 rfl) ?_
                                  refine lv_iconst (v := 1) hx hb dX4_readClause_78 (by decide) ?_
                                  refine lv_iload hx hb dX4_readClause_79 (lv_at hl 0 rfl) ?_
                                  refine lv_ishl hx hb dX4_readClause_81 ?_
                                  refine lv_eqi (y := 2) (by decide) ?_
                                  refine lv_iand hx hb dX4_readClause_82 ?_
                                  refine lv_eqi (y := 2) (by decide) ?_
                                  refine lv_if_eq (tgt := 95) hx hb dX4_readClause_83 (by decide) (fun cb => absurd cb (by decide)) (fun _ => ?_)
                                  refine lv_aload_n hx hb dX4_readClause_86 rfl (lv_at hl 4 rfl) ?_
                                  refine lv_aload_n hx hb dX4_readClause_87 rfl (lv_at hl 4 rfl) ?_
                                  refine va_get (D := D) (ci := 4) (v := .int (nI axx_282)) (C := RX4) (T := TX4) (N := 7) hx hb hts iX4 hown hK hP 1 rfl rfl 2 (by decide) f28 (fun _ h9 => h9) rfl dX4_readClause_88 ?_
                                  refine va_put (D := D) (ci := 4) (v := .int (nI axx_282)) (ty := .int) (C := RX4) (T := TX4) (N := 7) hx hb hts iX4 tyX4 tyX4_ok nmX4 hown hK hP hD hS 1 rfl rfl 3 (by decide) f31 (fun _ h9 => h9) rfl (by decide +kernel) (rfl) (rfl) (Nat.le_of_ble_eq_true rfl) dX4_readClause_91 (fun H locs hP2 hD2 hS2 => ?_)
                                  clear hP hD hS
                                  have hPD : PD D A [(Rv, .inl (g 0, 21, .inl fvalx_270)), (Rd, .inr (4, [.ref Tp, .int (nI ln), .int (nI axx_282), .int (nI axx_282), .int (nI htx_4), .int (nI ctx_5), .ref Rv])), (Tp, .inl (g 0, 160, .inl ftp))] H := ⟨hP2, hD2⟩
                                  have hS := hS2; clear hP2 hD2 hS2; have hP := hPD.1; have hD := hPD.2; clear hPD
                                  have hPD9 : PD D A [(Rd, .inr (4, [.ref Tp, .int (nI ln), .int (nI axx_282), .int (nI axx_282), .int (nI htx_4), .int (nI ctx_5), .ref Rv])), (Tp, .inl (g 0, 160, .inl ftp)), (Rv, .inl (g 0, 21, .inl fvalx_270))] H := ⟨hP.sub [1, 2, 0] rfl, hD.sub [1, 2, 0] (by decide) rfl⟩
                                  have hP9 := hPD9.1; have hD9 := hPD9.2
                                  subst hQ
                                  refine W.widen (k := 0) (n := 0) (Nat.le_of_ble_eq_true rfl) (Nat.le_of_ble_eq_true rfl) ?_
                                  exact W.vret hx hb hr (fun tS htS _ => ⟨⟨_, rfl, ⟨axx_282, (nI axx_282), htx_4, ctx_5, fvalx_270, rfl, ⟨(show axx_282 ≤ ln by omega), (show htx_4 ≤ 3 by omega), (show ctx_5 ≤ 3 by omega), (hf_272), (cl_bad hf_7.2.2.2.1.symm (show cl_15 < 7 by omega) (hR_277.trans (itR_again (f := 0) (q := 1) hf_284 qi_292 (by decide) (by decide))) (show axx_282 < ln by omega) cb_289).1, (cl_bad hf_7.2.2.2.1.symm (show cl_15 < 7 by omega) (hR_277.trans (itR_again (f := 0) (q := 1) hf_284 qi_292 (by decide) (by decide))) (show axx_282 < ln by omega) cb_289).2, (fun q => absurd q (m1_ne (show axx_282 < 2 ^ 31 by omega))), (fun q => absurd q (m1_ne (show axx_282 < 2 ^ 31 by omega)))⟩⟩, by rw [htS]; exact hP9, hD9⟩, hS.F htS⟩) hS.2.2 dX4_readClause_94
                                · skip
                                  refine lv_eqi (y := 2) (qi_292) ?_
                                  refine lv_istore (lv' := [(5, .int 2), (4, .int 3), (3, .int 7), (2, .int (nI cl_15)), (0, .ref Rd), (1, .int zf)]) hx hb dX4_readClause_69 hl (by decide) rfl (fun ls hl => ?_)
                                  refine lv_iload hx hb dX4_readClause_71 (lv_at hl 0 rfl) ?_
                                  refine lv_iconst (v := (-1)) hx hb dX4_readClause_73 (by decide) ?_
                                  refine lv_icmp_eq (tgt := 86) hx hb dX4_readClause_74 (by decide) (fun cb => absurd cb (by decide)) (fun _ => ?_)
                                  refine lv_iload_n hx hb dX4_readClause_77 rfl (lv_at hl 2 rfl) ?_
                                  refine lv_iconst (v := 1) hx hb dX4_readClause_78 (by decide) ?_
                                  refine lv_iload hx hb dX4_readClause_79 (lv_at hl 0 rfl) ?_
                                  refine lv_ishl hx hb dX4_readClause_81 ?_
                                  refine lv_eqi (y := 4) (by decide) ?_
                                  refine lv_iand hx hb dX4_readClause_82 ?_
                                  refine lv_eqi (y := 4) (by decide) ?_
                                  refine lv_if_eq (tgt := 95) hx hb dX4_readClause_83 (by decide) (fun cb => absurd cb (by decide)) (fun _ => ?_)
                                  refine lv_aload_n hx hb dX4_readClause_86 rfl (lv_at hl 4 rfl) ?_
                                  refine lv_aload_n hx hb dX4_readClause_87 rfl (lv_at hl 4 rfl) ?_
                                  refine va_get (D := D) (ci := 4) (v := .int (nI axx_282)) (C := RX4) (T := TX4) (N := 7) hx hb hts iX4 hown hK hP 1 rfl rfl 2 (by decide) f28 (fun _ h9 => h9) rfl dX4_readClause_88 ?_
                                  refine va_put (D := D) (ci := 4) (v := .int (nI axx_282)) (ty := .int) (C := RX4) (T := TX4) (N := 7) hx hb hts iX4 tyX4 tyX4_ok nmX4 hown hK hP hD hS 1 rfl rfl 3 (by decide) f31 (fun _ h9 => h9) rfl (by decide +kernel) (rfl) (rfl) (Nat.le_of_ble_eq_true rfl) dX4_readClause_91 (fun H locs hP2 hD2 hS2 => ?_)
                                  clear hP hD hS
                                  have hPD : PD D A [(Rv, .inl (g 0, 21, .inl fvalx_270)), (Rd, .inr (4, [.ref Tp, .int (nI ln), .int (nI axx_282), .int (nI axx_282), .int (nI htx_4), .int (nI ctx_5), .ref Rv])), (Tp, .inl (g 0, 160, .inl ftp))] H := ⟨hP2, hD2⟩
                                  have hS := hS2; clear hP2 hD2 hS2; have hP := hPD.1; have hD := hPD.2; clear hPD
                                  have hPD9 : PD D A [(Rd, .inr (4, [.ref Tp, .int (nI ln), .int (nI axx_282), .int (nI axx_282), .int (nI htx_4), .int (nI ctx_5), .ref Rv])), (Tp, .inl (g 0, 160, .inl ftp)), (Rv, .inl (g 0, 21, .inl fvalx_270))] H := ⟨hP.sub [1, 2, 0] rfl, hD.sub [1, 2, 0] (by decide) rfl⟩
                                  have hP9 := hPD9.1; have hD9 := hPD9.2
                                  subst hQ
                                  refine W.widen (k := 0) (n := 0) (Nat.le_of_ble_eq_true rfl) (Nat.le_of_ble_eq_true rfl) ?_
                                  exact W.vret hx hb hr (fun tS htS _ => ⟨⟨_, rfl, ⟨axx_282, (nI axx_282), htx_4, ctx_5, fvalx_270, rfl, ⟨(show axx_282 ≤ ln by omega), (show htx_4 ≤ 3 by omega), (show ctx_5 ≤ 3 by omega), (hf_272), (cl_bad hf_7.2.2.2.1.symm (show cl_15 < 7 by omega) (hR_277.trans (itR_again (f := 0) (q := 2) hf_284 qi_292 (by decide) (by decide))) (show axx_282 < ln by omega) cb_289).1, (cl_bad hf_7.2.2.2.1.symm (show cl_15 < 7 by omega) (hR_277.trans (itR_again (f := 0) (q := 2) hf_284 qi_292 (by decide) (by decide))) (show axx_282 < ln by omega) cb_289).2, (fun q => absurd q (m1_ne (show axx_282 < 2 ^ 31 by omega))), (fun q => absurd q (m1_ne (show axx_282 < 2 ^ 31 by omega)))⟩⟩, by rw [htS]; exact hP9, hD9⟩, hS.F htS⟩) hS.2.2 dX4_readClause_94
                              · skip
                                have hPD9 : PD D A [(Rd, .inr (4, [.ref Tp, .int (nI ln), .int (nI axx_282), .int (-1), .int (nI htx_4), .int (nI ctx_5), .ref Rv])), (Tp, .inl (g 0, 160, .inl ftp)), (Rv, .inl (g 0, 21, .inl fvalx_270))] H := ⟨hP.sub [1, 2, 0] rfl, hD.sub [1, 2, 0] (by decide) rfl⟩
                                have hP9 := hPD9.1; have hD9 := hPD9.2
                                subst hQ
                                refine W.widen (k := 0) (n := 0) (Nat.le_of_ble_eq_true rfl) (Nat.le_of_ble_eq_true rfl) ?_
                                exact W.vret hx hb hr (fun tS htS _ => ⟨⟨_, rfl, ⟨axx_282, (-1), htx_4, ctx_5, fvalx_270, rfl, ⟨(show axx_282 ≤ ln by omega), (show htx_4 ≤ 3 by omega), (show ctx_5 ≤ 3 by omega), (hf_272), (cl_end hf_7.2.2.2.1.symm (show cl_15 < 7 by omega) (hR_277.trans (itR_no (f := 0) hf_284 (by rw [cb_289]; exact itK_59 _))) (fun q => q.2 cb_289)).1, (cl_end hf_7.2.2.2.1.symm (show cl_15 < 7 by omega) (hR_277.trans (itR_no (f := 0) hf_284 (by rw [cb_289]; exact itK_59 _))) (fun q => q.2 cb_289)).2.1, (fun _ => ⟨(cl_end hf_7.2.2.2.1.symm (show cl_15 < 7 by omega) (hR_277.trans (itR_no (f := 0) hf_284 (by rw [cb_289]; exact itK_59 _))) (fun q => q.2 cb_289)).2.2, show ax < axx_282 by omega⟩), (fun _ => ((clW_cl hf_7.2.2.2.1.symm (show cl_15 < 7 by omega)).trans (hW_279.trans (itW_no (f := 0) hf_284 (by rw [cb_289]; exact itK_59 _)))).symm)⟩⟩, by rw [htS]; exact hP9, hD9⟩, hS.F htS⟩) hS.2.2 dX4_readClause_52
                          · skip
                            have hP9 := hP; have hD9 := hD
                            subst hQ
                            refine W.widen (k := 0) (n := 0) (Nat.le_of_ble_eq_true rfl) (Nat.le_of_ble_eq_true rfl) ?_
                            exact W.vret hx hb hr (fun tS htS _ => ⟨⟨_, rfl, ⟨axx_268, zfax_269, htx_4, ctx_5, fvalx_270, rfl, ⟨(show axx_268 ≤ ln by omega), (show htx_4 ≤ 3 by omega), (show ctx_5 ≤ 3 by omega), (hf_272), (cl_num hf_7.2.2.2.1.symm (show cl_15 < 7 by omega) ((congrArg Prod.fst hR_251).trans ((itR_w (f := 1) (q := 0) hf_258 (show axx_256 < ln by omega) qi_266 (by decide) (by decide) (fun q => cb_275 (hf_273.trans q))).trans hf_273.symm)) cb_275).1, (cl_num hf_7.2.2.2.1.symm (show cl_15 < 7 by omega) ((congrArg Prod.fst hR_251).trans ((itR_w (f := 1) (q := 0) hf_258 (show axx_256 < ln by omega) qi_266 (by decide) (by decide) (fun q => cb_275 (hf_273.trans q))).trans hf_273.symm)) cb_275).2, (fun q => absurd q cb_275), (fun q => absurd q cb_275)⟩⟩, by rw [htS]; exact hP9, hD9⟩, hS.F htS⟩) hS.2.2 dX4_readClause_127
                        · skip
                          refine lv_eqi (y := 1) (qi_266) ?_
                          refine lv_istore (lv' := [(5, .int 1), (4, .int 2), (3, .int 6), (2, .int (nI cl_15)), (0, .ref Rd), (1, .int zf)]) hx hb dX4_readClause_69 hl (by decide) rfl (fun ls hl => ?_)
                          refine lv_iload hx hb dX4_readClause_71 (lv_at hl 0 rfl) ?_
                          refine lv_iconst (v := (-1)) hx hb dX4_readClause_73 (by decide) ?_
                          refine lv_icmp_eq (tgt := 86) hx hb dX4_readClause_74 (by decide) (fun cb => absurd cb (by decide)) (fun _ => ?_)
                          refine lv_iload_n hx hb dX4_readClause_77 rfl (lv_at hl 2 rfl) ?_
                          refine lv_iconst (v := 1) hx hb dX4_readClause_78 (by decide) ?_
                          refine lv_iload hx hb dX4_readClause_79 (lv_at hl 0 rfl) ?_
                          refine lv_ishl hx hb dX4_readClause_81 ?_
                          refine lv_eqi (y := 2) (by decide) ?_
                          refine lv_iand hx hb dX4_readClause_82 ?_
                          refine lv_eqi (y := 2) (by decide) ?_
                          refine lv_if_eq (tgt := 95) hx hb dX4_readClause_83 (by decide) (fun cb => absurd cb (by decide)) (fun _ => ?_)
                          refine lv_aload_n hx hb dX4_readClause_86 rfl (lv_at hl 4 rfl) ?_
                          refine lv_aload_n hx hb dX4_readClause_87 rfl (lv_at hl 4 rfl) ?_
                          refine va_get (D := D) (ci := 4) (v := .int (nI axx_256)) (C := RX4) (T := TX4) (N := 7) hx hb hts iX4 hown hK hP 1 rfl rfl 2 (by decide) f28 (fun _ h9 => h9) rfl dX4_readClause_88 ?_
                          refine va_put (D := D) (ci := 4) (v := .int (nI axx_256)) (ty := .int) (C := RX4) (T := TX4) (N := 7) hx hb hts iX4 tyX4 tyX4_ok nmX4 hown hK hP hD hS 1 rfl rfl 3 (by decide) f31 (fun _ h9 => h9) rfl (by decide +kernel) (rfl) (rfl) (Nat.le_of_ble_eq_true rfl) dX4_readClause_91 (fun H locs hP2 hD2 hS2 => ?_)
                          clear hP hD hS
                          have hPD : PD D A [(Rv, .inl (g 0, 21, .inl fvalx_244)), (Rd, .inr (4, [.ref Tp, .int (nI ln), .int (nI axx_256), .int (nI axx_256), .int (nI htx_4), .int (nI ctx_5), .ref Rv])), (Tp, .inl (g 0, 160, .inl ftp))] H := ⟨hP2, hD2⟩
                          have hS := hS2; clear hP2 hD2 hS2; have hP := hPD.1; have hD := hPD.2; clear hPD
                          have hPD9 : PD D A [(Rd, .inr (4, [.ref Tp, .int (nI ln), .int (nI axx_256), .int (nI axx_256), .int (nI htx_4), .int (nI ctx_5), .ref Rv])), (Tp, .inl (g 0, 160, .inl ftp)), (Rv, .inl (g 0, 21, .inl fvalx_244))] H := ⟨hP.sub [1, 2, 0] rfl, hD.sub [1, 2, 0] (by decide) rfl⟩
                          have hP9 := hPD9.1; have hD9 := hPD9.2
                          subst hQ
                          refine W.widen (k := 0) (n := 0) (Nat.le_of_ble_eq_true rfl) (Nat.le_of_ble_eq_true rfl) ?_
                          exact W.vret hx hb hr (fun tS htS _ => ⟨⟨_, rfl, ⟨axx_256, (nI axx_256), htx_4, ctx_5, fvalx_244, rfl, ⟨(show axx_256 ≤ ln by omega), (show htx_4 ≤ 3 by omega), (show ctx_5 ≤ 3 by omega), (hf_246), (cl_bad hf_7.2.2.2.1.symm (show cl_15 < 7 by omega) (hR_251.trans (itR_again (f := 1) (q := 1) hf_258 qi_266 (by decide) (by decide))) (show axx_256 < ln by omega) cb_263).1, (cl_bad hf_7.2.2.2.1.symm (show cl_15 < 7 by omega) (hR_251.trans (itR_again (f := 1) (q := 1) hf_258 qi_266 (by decide) (by decide))) (show axx_256 < ln by omega) cb_263).2, (fun q => absurd q (m1_ne (show axx_256 < 2 ^ 31 by omega))), (fun q => absurd q (m1_ne (show axx_256 < 2 ^ 31 by omega)))⟩⟩, by rw [htS]; exact hP9, hD9⟩, hS.F htS⟩) hS.2.2 dX4_readClause_94
                        · skip
                          refine lv_eqi (y := 2) (qi_266) ?_
                          refine lv_istore (lv' := [(5, .int 2), (4, .int 2), (3, .int 6), (2, .int (nI cl_15)), (0, .ref Rd), (1, .int zf)]) hx hb dX4_readClause_69 hl (by decide) rfl (fun ls hl => ?_)
                          refine lv_iload hx hb dX4_readClause_71 (lv_at hl 0 rfl) ?_
                          refine lv_iconst (v := (-1)) hx hb dX4_readClause_73 (by decide) ?_
                          refine lv_icmp_eq (tgt := 86) hx hb dX4_readClause_74 (by decide) (fun cb => absurd cb (by decide)) (fun _ => ?_)
                          refine lv_iload_n hx hb dX4_readClause_77 rfl (lv_at hl 2 rfl) ?_
                          refine lv_iconst (v := 1) hx hb dX4_readClause_78 (by decide) ?_
                          refine lv_iload hx hb dX4_readClause_79 (lv_at hl 0 rfl) ?_
                          refine lv_ishl hx hb dX4_readClause_81 ?_
                          refine lv_eqi (y := 4) (by decide) ?_
                          refine lv_iand hx hb dX4_readClause_82 ?_
                          refine lv_eqi (y := 4) (by decide) ?_
                          refine lv_if_eq (tgt := 95) hx hb dX4_readClause_83 (by decide) (fun cb => absurd cb (by decide)) (fun _ => ?_)
                          refine lv_aload_n hx hb dX4_readClause_86 rfl (lv_at hl 4 rfl) ?_
                          refine lv_aload_n hx hb dX4_readClause_87 rfl (lv_at hl 4 rfl) ?_
                          refine va_get (D := D) (ci := 4) (v := .int (nI axx_256)) (C := RX4) (T := TX4) (N := 7) hx hb hts iX4 hown hK hP 1 rfl rfl 2 (by decide) f28 (fun _ h9 => h9) rfl dX4_readClause_88 ?_
                          refine va_put (D := D) (ci := 4) (v := .int (nI axx_256)) (ty := .int) (C := RX4) (T := TX4) (N := 7) hx hb hts iX4 tyX4 tyX4_ok nmX4 hown hK hP hD hS 1 rfl rfl 3 (by decide) f31 (fun _ h9 => h9) rfl (by decide +kernel) (rfl) (rfl) (Nat.le_of_ble_eq_true rfl) dX4_readClause_91 (fun H locs hP2 hD2 hS2 => ?_)
                          clear hP hD hS
                          have hPD : PD D A [(Rv, .inl (g 0, 21, .inl fvalx_244)), (Rd, .inr (4, [.ref Tp, .int (nI ln), .int (nI axx_256), .int (nI axx_256), .int (nI htx_4), .int (nI ctx_5), .ref Rv])), (Tp, .inl (g 0, 160, .inl ftp))] H := ⟨hP2, hD2⟩
                          have hS := hS2; clear hP2 hD2 hS2; have hP := hPD.1; have hD := hPD.2; clear hPD
                          have hPD9 : PD D A [(Rd, .inr (4, [.ref Tp, .int (nI ln), .int (nI axx_256), .int (nI axx_256), .int (nI htx_4), .int (nI ctx_5), .ref Rv])), (Tp, .inl (g 0, 160, .inl ftp)), (Rv, .inl (g 0, 21, .inl fvalx_244))] H := ⟨hP.sub [1, 2, 0] rfl, hD.sub [1, 2, 0] (by decide) rfl⟩
                          have hP9 := hPD9.1; have hD9 := hPD9.2
                          subst hQ
                          refine W.widen (k := 0) (n := 0) (Nat.le_of_ble_eq_true rfl) (Nat.le_of_ble_eq_true rfl) ?_
                          exact W.vret hx hb hr (fun tS htS _ => ⟨⟨_, rfl, ⟨axx_256, (nI axx_256), htx_4, ctx_5, fvalx_244, rfl, ⟨(show axx_256 ≤ ln by omega), (show htx_4 ≤ 3 by omega), (show ctx_5 ≤ 3 by omega), (hf_246), (cl_bad hf_7.2.2.2.1.symm (show cl_15 < 7 by omega) (hR_251.trans (itR_again (f := 1) (q := 2) hf_258 qi_266 (by decide) (by decide))) (show axx_256 < ln by omega) cb_263).1, (cl_bad hf_7.2.2.2.1.symm (show cl_15 < 7 by omega) (hR_251.trans (itR_again (f := 1) (q := 2) hf_258 qi_266 (by decide) (by decide))) (show axx_256 < ln by omega) cb_263).2, (fun q => absurd q (m1_ne (show axx_256 < 2 ^ 31 by omega))), (fun q => absurd q (m1_ne (show axx_256 < 2 ^ 31 by omega)))⟩⟩, by rw [htS]; exact hP9, hD9⟩, hS.F htS⟩) hS.2.2 dX4_readClause_94
                      · skip
                        have hPD9 : PD D A [(Rd, .inr (4, [.ref Tp, .int (nI ln), .int (nI axx_256), .int (-1), .int (nI htx_4), .int (nI ctx_5), .ref Rv])), (Tp, .inl (g 0, 160, .inl ftp)), (Rv, .inl (g 0, 21, .inl fvalx_244))] H := ⟨hP.sub [1, 2, 0] rfl, hD.sub [1, 2, 0] (by decide) rfl⟩
                        have hP9 := hPD9.1; have hD9 := hPD9.2
                        subst hQ
                        refine W.widen (k := 0) (n := 0) (Nat.le_of_ble_eq_true rfl) (Nat.le_of_ble_eq_true rfl) ?_
                        exact W.vret hx hb hr (fun tS htS _ => ⟨⟨_, rfl, ⟨axx_256, (-1), htx_4, ctx_5, fvalx_244, rfl, ⟨(show axx_256 ≤ ln by omega), (show htx_4 ≤ 3 by omega), (show ctx_5 ≤ 3 by omega), (hf_246), (cl_end hf_7.2.2.2.1.symm (show cl_15 < 7 by omega) (hR_251.trans (itR_no (f := 1) hf_258 (by rw [cb_263]; exact itK_59 _))) (fun q => q.2 cb_263)).1, (cl_end hf_7.2.2.2.1.symm (show cl_15 < 7 by omega) (hR_251.trans (itR_no (f := 1) hf_258 (by rw [cb_263]; exact itK_59 _))) (fun q => q.2 cb_263)).2.1, (fun _ => ⟨(cl_end hf_7.2.2.2.1.symm (show cl_15 < 7 by omega) (hR_251.trans (itR_no (f := 1) hf_258 (by rw [cb_263]; exact itK_59 _))) (fun q => q.2 cb_263)).2.2, show ax < axx_256 by omega⟩), (fun _ => ((clW_cl hf_7.2.2.2.1.symm (show cl_15 < 7 by omega)).trans (hW_253.trans (itW_no (f := 1) hf_258 (by rw [cb_263]; exact itK_59 _)))).symm)⟩⟩, by rw [htS]; exact hP9, hD9⟩, hS.F htS⟩) hS.2.2 dX4_readClause_52
                  · skip
                    have hP9 := hP; have hD9 := hD
                    subst hQ
                    refine W.widen (k := 0) (n := 0) (Nat.le_of_ble_eq_true rfl) (Nat.le_of_ble_eq_true rfl) ?_
                    exact W.vret hx hb hr (fun tS htS _ => ⟨⟨_, rfl, ⟨axx_242, zfax_243, htx_4, ctx_5, fvalx_244, rfl, ⟨(show axx_242 ≤ ln by omega), (show htx_4 ≤ 3 by omega), (show ctx_5 ≤ 3 by omega), (hf_246), (cl_num hf_7.2.2.2.1.symm (show cl_15 < 7 by omega) ((congrArg Prod.fst hR_173).trans ((itR_w (f := 2) (q := 2) hf_180 (show axx_178 < ln by omega) qi_188 (by decide) (by decide) (fun q => cb_249 (hf_247.trans q))).trans hf_247.symm)) cb_249).1, (cl_num hf_7.2.2.2.1.symm (show cl_15 < 7 by omega) ((congrArg Prod.fst hR_173).trans ((itR_w (f := 2) (q := 2) hf_180 (show axx_178 < ln by omega) qi_188 (by decide) (by decide) (fun q => cb_249 (hf_247.trans q))).trans hf_247.symm)) cb_249).2, (fun q => absurd q cb_249), (fun q => absurd q cb_249)⟩⟩, by rw [htS]; exact hP9, hD9⟩, hS.F htS⟩) hS.2.2 dX4_readClause_127
              · skip
                have hPD9 : PD D A [(Rd, .inr (4, [.ref Tp, .int (nI ln), .int (nI axx_178), .int (-1), .int (nI htx_4), .int (nI ctx_5), .ref Rv])), (Tp, .inl (g 0, 160, .inl ftp)), (Rv, .inl (g 0, 21, .inl fvalx_166))] H := ⟨hP.sub [1, 2, 0] rfl, hD.sub [1, 2, 0] (by decide) rfl⟩
                have hP9 := hPD9.1; have hD9 := hPD9.2
                subst hQ
                refine W.widen (k := 0) (n := 0) (Nat.le_of_ble_eq_true rfl) (Nat.le_of_ble_eq_true rfl) ?_
                exact W.vret hx hb hr (fun tS htS _ => ⟨⟨_, rfl, ⟨axx_178, (-1), htx_4, ctx_5, fvalx_166, rfl, ⟨(show axx_178 ≤ ln by omega), (show htx_4 ≤ 3 by omega), (show ctx_5 ≤ 3 by omega), (hf_168), (cl_end hf_7.2.2.2.1.symm (show cl_15 < 7 by omega) (hR_173.trans (itR_no (f := 2) hf_180 (by rw [cb_185]; exact itK_59 _))) (fun q => q.2 cb_185)).1, (cl_end hf_7.2.2.2.1.symm (show cl_15 < 7 by omega) (hR_173.trans (itR_no (f := 2) hf_180 (by rw [cb_185]; exact itK_59 _))) (fun q => q.2 cb_185)).2.1, (fun _ => ⟨(cl_end hf_7.2.2.2.1.symm (show cl_15 < 7 by omega) (hR_173.trans (itR_no (f := 2) hf_180 (by rw [cb_185]; exact itK_59 _))) (fun q => q.2 cb_185)).2.2, show ax < axx_178 by omega⟩), (fun _ => ((clW_cl hf_7.2.2.2.1.symm (show cl_15 < 7 by omega)).trans (hW_175.trans (itW_no (f := 2) hf_180 (by rw [cb_185]; exact itK_59 _)))).symm)⟩⟩, by rw [htS]; exact hP9, hD9⟩, hS.F htS⟩) hS.2.2 dX4_readClause_52
          · skip
            have hP9 := hP; have hD9 := hD
            subst hQ
            refine W.widen (k := 0) (n := 0) (Nat.le_of_ble_eq_true rfl) (Nat.le_of_ble_eq_true rfl) ?_
            exact W.vret hx hb hr (fun tS htS _ => ⟨⟨_, rfl, ⟨axx_164, zfax_165, htx_4, ctx_5, fvalx_166, rfl, ⟨(show axx_164 ≤ ln by omega), (show htx_4 ≤ 3 by omega), (show ctx_5 ≤ 3 by omega), (hf_168), (cl_num hf_7.2.2.2.1.symm (show cl_15 < 7 by omega) ((congrArg Prod.fst hR_19).trans ((itR_w (f := 3) (q := 1) hf_24 (show axx_22 < ln by omega) qi_32 (by decide) (by decide) (fun q => cb_171 (hf_169.trans q))).trans hf_169.symm)) cb_171).1, (cl_num hf_7.2.2.2.1.symm (show cl_15 < 7 by omega) ((congrArg Prod.fst hR_19).trans ((itR_w (f := 3) (q := 1) hf_24 (show axx_22 < ln by omega) qi_32 (by decide) (by decide) (fun q => cb_171 (hf_169.trans q))).trans hf_169.symm)) cb_171).2, (fun q => absurd q cb_171), (fun q => absurd q cb_171)⟩⟩, by rw [htS]; exact hP9, hD9⟩, hS.F htS⟩) hS.2.2 dX4_readClause_127
        · skip
          refine lv_eqi (y := 2) (qi_32) ?_
          refine lv_istore (lv' := [(5, .int 2), (4, .int 0), (3, .int 0), (2, .int (nI cl_15)), (0, .ref Rd), (1, .int zf)]) hx hb dX4_readClause_69 hl (by decide) rfl (fun ls hl => ?_)
          refine lv_iload hx hb dX4_readClause_71 (lv_at hl 0 rfl) ?_
          refine lv_iconst (v := (-1)) hx hb dX4_readClause_73 (by decide) ?_
          refine lv_icmp_eq (tgt := 86) hx hb dX4_readClause_74 (by decide) (fun cb => absurd cb (by decide)) (fun _ => ?_)
          refine lv_iload_n hx hb dX4_readClause_77 rfl (lv_at hl 2 rfl) ?_
          refine lv_iconst (v := 1) hx hb dX4_readClause_78 (by decide) ?_
          refine lv_iload hx hb dX4_readClause_79 (lv_at hl 0 rfl) ?_
          refine lv_ishl hx hb dX4_readClause_81 ?_
          refine lv_eqi (y := 4) (by decide) ?_
          refine lv_iand hx hb dX4_readClause_82 ?_
          refine lv_eqi (y := 0) (by decide) ?_
          refine lv_if_eq (tgt := 95) hx hb dX4_readClause_83 (by decide) (fun _ => ?_) (fun cb => absurd (by decide) cb)
          refine lv_iload_n hx hb dX4_readClause_95 rfl (lv_at hl 2 rfl) ?_
          refine lv_iconst (v := 1) hx hb dX4_readClause_96 (by decide) ?_
          refine lv_iload hx hb dX4_readClause_97 (lv_at hl 0 rfl) ?_
          refine lv_ishl hx hb dX4_readClause_99 ?_
          refine lv_eqi (y := 4) (by decide) ?_
          refine lv_ior hx hb dX4_readClause_100 ?_
          refine lv_eqi (y := 4) (by decide) ?_
          refine lv_istore_n (lv' := [(3, .int 4), (5, .int 2), (4, .int 0), (2, .int (nI cl_15)), (0, .ref Rd), (1, .int zf)]) hx hb dX4_readClause_101 rfl hl (by decide) rfl (fun ls hl => ?_)
          refine lv_aload_n hx hb dX4_readClause_102 rfl (lv_at hl 4 rfl) ?_
          refine lv_dup hx hb dX4_readClause_103 rfl ?_
          refine va_get (D := D) (ci := 4) (v := .int (nI axx_22)) (C := RX4) (T := TX4) (N := 7) hx hb hts iX4 hown hK hP 1 rfl rfl 2 (by decide) f28 (fun _ h9 => h9) rfl dX4_readClause_104 ?_
          refine lv_iconst (v := 1) hx hb dX4_readClause_107 (by decide) ?_
          refine lv_iadd hx hb dX4_readClause_108 ?_
          refine lv_eqi (y := (nI (axx_22 + 1))) (nI_add (axx_22) (1)) ?_
          refine va_put (D := D) (ci := 4) (v := .int (nI (axx_22 + 1))) (ty := .int) (C := RX4) (T := TX4) (N := 7) hx hb hts iX4 tyX4 tyX4_ok nmX4 hown hK hP hD hS 1 rfl rfl 2 (by decide) f28 (fun _ h9 => h9) rfl (by decide +kernel) (rfl) (rfl) (Nat.le_of_ble_eq_true rfl) dX4_readClause_109 (fun H locs hP2 hD2 hS2 => ?_)
          clear hP hD hS
          have hPD : PD D A [(Rv, .inl (g 0, 21, .inl fval)), (Rd, .inr (4, [.ref Tp, .int (nI ln), .int (nI (axx_22 + 1)), .int (-1), .int (nI htx_4), .int (nI ctx_5), .ref Rv])), (Tp, .inl (g 0, 160, .inl ftp))] H := ⟨hP2, hD2⟩
          have hS := hS2; clear hP2 hD2 hS2; have hP := hPD.1; have hD := hPD.2; clear hPD
          refine lv_aload_n hx hb dX4_readClause_112 rfl (lv_at hl 4 rfl) ?_
          refine lv_iload_n hx hb dX4_readClause_113 rfl (lv_at hl 3 rfl) ?_
          refine lv_iload hx hb dX4_readClause_114 (lv_at hl 1 rfl) ?_
          refine ky_Vv (As := [.int (nI cl_15), .int 2]) (rest := []) ⟨hx, hb, hml, hown, hts⟩ ⟨hK, hN⟩ hZ hP hD hS hA [1, 2, 0] [] (wc := [(Rd, .inr (4, [.ref Tp, .int (nI ln), .int (nI (axx_22 + 1)), .int (-1), .int (nI htx_4), .int (nI ctx_5), .ref Rv])), (Tp, .inl (g 0, 160, .inl ftp)), (Rv, .inl (g 0, 21, .inl fval))]) (wr := []) rfl rfl rfl rfl (by decide) (r_X4_readNumber l D g H.size Rd cl_15 2 Tp ln (axx_22 + 1) htx_4 ctx_5 Rv ftp fval (show ln ≤ 160 by omega) (show (axx_22 + 1) ≤ ln by omega) (h4) (show cl_15 < 7 by omega) (show 2 < 3 by omega)) (cwV 2 hts gX4_readClause_X4_readNumber rfl rfl rfl (by decide +kernel) ⟨(Nat.le_of_ble_eq_true rfl), (Nat.le_of_ble_eq_true rfl)⟩) 1 4 rfl rfl rfl rfl hl.1 rfl (Nat.le_of_ble_eq_true rfl) dX4_readClause_116 ⟨(Nat.le_of_ble_eq_true rfl), (Nat.le_of_ble_eq_true rfl)⟩ (fun u H locs hw hP2 hD2 hS2 => ?_)
          clear hP hD hS
          obtain ⟨axx_294, zfax_295, fvalx_296, rfl, hf_297, hf_298, hf_299, hf_300⟩ := hw
          have hPD : PD D A [(Rd, .inr (4, [.ref Tp, .int (nI ln), .int (nI axx_294), .int zfax_295, .int (nI htx_4), .int (nI ctx_5), .ref Rv])), (Tp, .inl (g 0, 160, .inl ftp)), (Rv, .inl (g 0, 21, .inl fvalx_296))] H := ⟨hP2, hD2⟩
          have hS := hS2; clear hP2 hD2 hS2; have hP := hPD.1; have hD := hPD.2; clear hPD
          refine W.widen (k := 0) (n := 0) (Nat.le_of_ble_eq_true rfl) (Nat.le_of_ble_eq_true rfl) ?_
          refine lv_aload_n hx hb dX4_readClause_119 rfl (lv_at hl 4 rfl) ?_
          refine va_get (D := D) (ci := 4) (v := .int zfax_295) (C := RX4) (T := TX4) (N := 7) hx hb hts iX4 hown hK hP 0 rfl rfl 3 (by decide) f31 (fun _ h9 => h9) rfl dX4_readClause_120 ?_
          refine lv_iconst (v := (-1)) hx hb dX4_readClause_123 (by decide) ?_
          refine lv_icmp_eq (tgt := 128) hx hb dX4_readClause_124 (by decide) (fun cb_301 => ?_) (fun cb_301 => ?_)
          · skip
            have hPq_302 := hP; have hDq_302 := hD; have hSq_302 := hS; have hlq_302 := hl; clear hP hD hS hl
            subst cb_301
            have hP := hPq_302; have hD := hDq_302; have hS := hSq_302; have hl := hlq_302; clear hPq_302 hDq_302 hSq_302 hlq_302
            have hne_304 := (hf_300 rfl).1
            have hne_304g := nmE_gt (T := ftp) (n := ln) (i := axx_22 + 1) (by omega)
            have hR_303 : itR ftp ln (kdN cl_15) 4 0 (sB ftp ln ax + 1) = itR ftp ln (kdN cl_15) 3 4 axx_294 := hR_19.trans ((itR_go (f := 3) (m := 0) (q := 2) hf_24 (show axx_22 < ln by omega) qi_32 (by decide) (by decide) hf_299.symm).trans (by rw [hne_304]))
            have hnv_306 := hf_300 rfl
            have hW_305 : itW ftp ln (kdN cl_15) (3 * cl_15) 4 0 (sB ftp ln ax + 1) fval = itW ftp ln (kdN cl_15) (3 * cl_15) 3 4 axx_294 fvalx_296 := hW_20.trans ((itW_go (f := 3) (m := 0) (q := 2) hf_24 (show axx_22 < ln by omega) qi_32 (by decide) (by decide) hf_299.symm).trans (by rw [hnv_306.1, hnv_306.2]))
            refine lv_iinc (v := 1) (lv' := [(4, .int 1), (3, .int 4), (5, .int 2), (2, .int (nI cl_15)), (0, .ref Rd), (1, .int zf)]) hx hb dX4_readClause_128 hl (k := 2) rfl (by decide) (by decide) rfl (fun ls hl => ?_)
            refine lv_goto (tgt := 17) hx hb dX4_readClause_131 (by decide) ?_
            refine lv_iload hx hb dX4_readClause_17 (lv_at hl 0 rfl) ?_
            refine lv_iconst (v := 3) hx hb dX4_readClause_19 (by decide) ?_
            refine lv_icmp_gt (tgt := 134) hx hb dX4_readClause_20 (by decide) (fun cb => absurd cb (by decide)) (fun _ => ?_)
            refine lv_aload_n hx hb dX4_readClause_23 rfl (lv_at hl 4 rfl) ?_
            refine ky_Vv (As := []) (rest := []) ⟨hx, hb, hml, hown, hts⟩ ⟨hK, hN⟩ hZ hP hD hS hA [0, 1] [2] (wc := [(Rd, .inr (4, [.ref Tp, .int (nI ln), .int (nI axx_294), .int (-1), .int (nI htx_4), .int (nI ctx_5), .ref Rv])), (Tp, .inl (g 0, 160, .inl ftp))]) (wr := [(Rv, .inl (g 0, 21, .inl fvalx_296))]) rfl rfl rfl rfl (by decide) (r_X4_passBlanks l D g H.size Rd Tp ln axx_294 (-1) htx_4 ctx_5 Rv ftp (show ln ≤ 160 by omega) (show axx_294 ≤ ln by omega)) (cwV 0 hts gX4_readClause_X4_passBlanks rfl rfl rfl (by decide +kernel) ⟨(Nat.le_of_ble_eq_true rfl), (Nat.le_of_ble_eq_true rfl)⟩) 0 4 rfl rfl rfl rfl hl.1 rfl (Nat.le_of_ble_eq_true rfl) dX4_readClause_24 ⟨(Nat.le_of_ble_eq_true rfl), (Nat.le_of_ble_eq_true rfl)⟩ (fun u H locs hw hP2 hD2 hS2 => ?_)
            clear hP hD hS
            obtain ⟨axx_308, rfl, hf_309, hf_310⟩ := hw
            have hPD : PD D A [(Rv, .inl (g 0, 21, .inl fvalx_296)), (Rd, .inr (4, [.ref Tp, .int (nI ln), .int (nI axx_308), .int (-1), .int (nI htx_4), .int (nI ctx_5), .ref Rv])), (Tp, .inl (g 0, 160, .inl ftp))] H := ⟨hP2, hD2⟩
            have hS := hS2; clear hP2 hD2 hS2; have hP := hPD.1; have hD := hPD.2; clear hPD
            refine W.widen (k := 0) (n := 0) (Nat.le_of_ble_eq_true rfl) (Nat.le_of_ble_eq_true rfl) ?_
            have hge_311 := sB_ge (T := ftp) (n := ln) (i := axx_294) (by omega)
            refine lv_aload_n hx hb dX4_readClause_27 rfl (lv_at hl 4 rfl) ?_
            refine va_get (D := D) (ci := 4) (v := .int (nI axx_308)) (C := RX4) (T := TX4) (N := 7) hx hb hts iX4 hown hK hP 1 rfl rfl 2 (by decide) f28 (fun _ h9 => h9) rfl dX4_readClause_28 ?_
            refine lv_aload_n hx hb dX4_readClause_31 rfl (lv_at hl 4 rfl) ?_
            refine va_get (D := D) (ci := 4) (v := .int (nI ln)) (C := RX4) (T := TX4) (N := 7) hx hb hts iX4 hown hK hP 1 rfl rfl 1 (by decide) f24 (fun _ h9 => h9) rfl dX4_readClause_32 ?_
            refine lv_icmp_ge (tgt := 52) hx hb dX4_readClause_35 (by decide) (fun cb_312 => ?_) (fun cb_312 => ?_)
            · skip
              have cn_313 : ln ≤ axx_308 := (nI_leI (show ln < 2 ^ 31 by omega) (show axx_308 < 2 ^ 31 by omega)).mp cb_312
              have hPD9 : PD D A [(Rd, .inr (4, [.ref Tp, .int (nI ln), .int (nI axx_308), .int (-1), .int (nI htx_4), .int (nI ctx_5), .ref Rv])), (Tp, .inl (g 0, 160, .inl ftp)), (Rv, .inl (g 0, 21, .inl fvalx_296))] H := ⟨hP.sub [1, 2, 0] rfl, hD.sub [1, 2, 0] (by decide) rfl⟩
              have hP9 := hPD9.1; have hD9 := hPD9.2
              subst hQ
              refine W.widen (k := 0) (n := 0) (Nat.le_of_ble_eq_true rfl) (Nat.le_of_ble_eq_true rfl) ?_
              exact W.vret hx hb hr (fun tS htS _ => ⟨⟨_, rfl, ⟨axx_308, (-1), htx_4, ctx_5, fvalx_296, rfl, ⟨(show axx_308 ≤ ln by omega), (show htx_4 ≤ 3 by omega), (show ctx_5 ≤ 3 by omega), (hf_298), (cl_end hf_7.2.2.2.1.symm (show cl_15 < 7 by omega) (hR_303.trans (itR_end (f := 2) hf_310 (show ¬ axx_308 < ln by omega))) (fun q => absurd q.1 (show ¬ axx_308 < ln by omega))).1, (cl_end hf_7.2.2.2.1.symm (show cl_15 < 7 by omega) (hR_303.trans (itR_end (f := 2) hf_310 (show ¬ axx_308 < ln by omega))) (fun q => absurd q.1 (show ¬ axx_308 < ln by omega))).2.1, (fun _ => ⟨(cl_end hf_7.2.2.2.1.symm (show cl_15 < 7 by omega) (hR_303.trans (itR_end (f := 2) hf_310 (show ¬ axx_308 < ln by omega))) (fun q => absurd q.1 (show ¬ axx_308 < ln by omega))).2.2, show ax < axx_308 by omega⟩), (fun _ => ((clW_cl hf_7.2.2.2.1.symm (show cl_15 < 7 by omega)).trans (hW_305.trans (itW_end (f := 2) hf_310 (show ¬ axx_308 < ln by omega)))).symm)⟩⟩, by rw [htS]; exact hP9, hD9⟩, hS.F htS⟩) hS.2.2 dX4_readClause_52
            · skip
              have cn_314 : axx_308 < ln := Nat.lt_of_not_le (fun q9 => cb_312 ((nI_leI (show ln < 2 ^ 31 by omega) (show axx_308 < 2 ^ 31 by omega)).mpr q9))
              refine lv_aload_n hx hb dX4_readClause_38 rfl (lv_at hl 4 rfl) ?_
              refine va_get (D := D) (ci := 4) (v := .ref Tp) (C := RX4) (T := TX4) (N := 7) hx hb hts iX4 hown hK hP 1 rfl rfl 0 (by decide) f9 (fun _ h9 => h9) rfl dX4_readClause_39 ?_
              refine lv_aload_n hx hb dX4_readClause_42 rfl (lv_at hl 4 rfl) ?_
              refine va_get (D := D) (ci := 4) (v := .int (nI axx_308)) (C := RX4) (T := TX4) (N := 7) hx hb hts iX4 hown hK hP 1 rfl rfl 2 (by decide) f28 (fun _ h9 => h9) rfl dX4_readClause_43 ?_
              refine va_iald hx hb hK hP 2 0 rfl rfl (vp_in_nI (show axx_308 < 160 by omega) (by decide)) dX4_readClause_46 ?_
              refine lv_eqi (y := (ftp (axx_308))) (congrArg ftp (nI_clamp (show axx_308 < 2 ^ 31 by omega))) ?_
              refine lv_bipush (v := 59) hx hb dX4_readClause_47 (by decide) ?_
              refine lv_icmp_ne (tgt := 53) hx hb dX4_readClause_49 (by decide) (fun cb_315 => ?_) (fun cb_315 => ?_)
              · skip
                refine lv_iload_n hx hb dX4_readClause_53 rfl (lv_at hl 3 rfl) ?_
                refine ky_Si (As := [.int (nI cl_15)]) (rest := []) ⟨hx, hb, hml, hown, hts⟩ ⟨hK, hN⟩ hZ hP hD hS hA [] [0, 1, 2] (wc := []) (wr := [(Rv, .inl (g 0, 21, .inl fvalx_296)), (Rd, .inr (4, [.ref Tp, .int (nI ln), .int (nI axx_308), .int (-1), .int (nI htx_4), .int (nI ctx_5), .ref Rv])), (Tp, .inl (g 0, 160, .inl ftp))]) rfl rfl rfl rfl (by decide) (r_X4_kindOf l D g H.size cl_15 (show cl_15 < 7 by omega)) (va_cwS 1 hts gX4_readClause_X4_kindOf rfl rfl rfl (by decide +kernel) ⟨(Nat.le_of_ble_eq_true rfl), (Nat.le_of_ble_eq_true rfl)⟩) rfl hl.1 rfl (Nat.le_of_ble_eq_true rfl) dX4_readClause_54 ⟨(Nat.le_of_ble_eq_true rfl), (Nat.le_of_ble_eq_true rfl)⟩ (fun r_316 u H locs hw hP2 hD2 hS2 => ?_)
                clear hP hD hS
                obtain ⟨rfl, rfl⟩ := hw
                have hPD : PD D A [(Rv, .inl (g 0, 21, .inl fvalx_296)), (Rd, .inr (4, [.ref Tp, .int (nI ln), .int (nI axx_308), .int (-1), .int (nI htx_4), .int (nI ctx_5), .ref Rv])), (Tp, .inl (g 0, 160, .inl ftp))] H := ⟨hP2, hD2⟩
                have hS := hS2; clear hP2 hD2 hS2; have hP := hPD.1; have hD := hPD.2; clear hPD
                refine W.widen (k := 0) (n := 0) (Nat.le_of_ble_eq_true rfl) (Nat.le_of_ble_eq_true rfl) ?_
                refine lv_aload_n hx hb dX4_readClause_57 rfl (lv_at hl 4 rfl) ?_
                refine va_get (D := D) (ci := 4) (v := .ref Tp) (C := RX4) (T := TX4) (N := 7) hx hb hts iX4 hown hK hP 1 rfl rfl 0 (by decide) f9 (fun _ h9 => h9) rfl dX4_readClause_58 ?_
                refine lv_aload_n hx hb dX4_readClause_61 rfl (lv_at hl 4 rfl) ?_
                refine va_get (D := D) (ci := 4) (v := .int (nI axx_308)) (C := RX4) (T := TX4) (N := 7) hx hb hts iX4 hown hK hP 1 rfl rfl 2 (by decide) f28 (fun _ h9 => h9) rfl dX4_readClause_62 ?_
                refine va_iald hx hb hK hP 2 0 rfl rfl (vp_in_nI (show axx_308 < 160 by omega) (by decide)) dX4_readClause_65 ?_
                refine lv_eqi (y := (ftp (axx_308))) (congrArg ftp (nI_clamp (show axx_308 < 2 ^ 31 by omega))) ?_
                refine ky_Si (As := [.int (nI (kdN cl_15)), .int (ftp (axx_308))]) (rest := []) ⟨hx, hb, hml, hown, hts⟩ ⟨hK, hN⟩ hZ hP hD hS hA [] [0, 1, 2] (wc := []) (wr := [(Rv, .inl (g 0, 21, .inl fvalx_296)), (Rd, .inr (4, [.ref Tp, .int (nI ln), .int (nI axx_308), .int (-1), .int (nI htx_4), .int (nI ctx_5), .ref Rv])), (Tp, .inl (g 0, 160, .inl ftp))]) rfl rfl rfl rfl (by decide) (r_X4_itemOf l D g H.size (kdN cl_15) (ftp (axx_308)) (show (kdN cl_15) < 3 by omega)) (va_cwS 2 hts gX4_readClause_X4_itemOf rfl rfl rfl (by decide +kernel) ⟨(Nat.le_of_ble_eq_true rfl), (Nat.le_of_ble_eq_true rfl)⟩) rfl hl.1 rfl (Nat.le_of_ble_eq_true rfl) dX4_readClause_66 ⟨(Nat.le_of_ble_eq_true rfl), (Nat.le_of_ble_eq_true rfl)⟩ (fun r_317 u H locs hw hP2 hD2 hS2 => ?_)
                clear hP hD hS
                obtain ⟨rfl, rfl⟩ := hw
                have hPD : PD D A [(Rv, .inl (g 0, 21, .inl fvalx_296)), (Rd, .inr (4, [.ref Tp, .int (nI ln), .int (nI axx_308), .int (-1), .int (nI htx_4), .int (nI ctx_5), .ref Rv])), (Tp, .inl (g 0, 160, .inl ftp))] H := ⟨hP2, hD2⟩
                have hS := hS2; clear hP2 hD2 hS2; have hP := hPD.1; have hD := hPD.2; clear hPD
                refine W.widen (k := 0) (n := 0) (Nat.le_of_ble_eq_true rfl) (Nat.le_of_ble_eq_true rfl) ?_
                rcases itK_c (kdN cl_15) (ftp (axx_308)) with qi_318 | qi_318 | qi_318 | qi_318
                · skip
                  refine lv_eqi (y := (-1)) (qi_318) ?_
                  refine lv_istore (lv' := [(5, .int (-1)), (4, .int 1), (3, .int 4), (2, .int (nI cl_15)), (0, .ref Rd), (1, .int zf)]) hx hb dX4_readClause_69 hl (by decide) rfl (fun ls hl => ?_)
                  refine lv_iload hx hb dX4_readClause_71 (lv_at hl 0 rfl) ?_
                  refine lv_iconst (v := (-1)) hx hb dX4_readClause_73 (by decide) ?_
                  refine lv_icmp_eq (tgt := 86) hx hb dX4_readClause_74 (by decide) (fun _ => ?_) (fun cb => absurd (by decide) cb)
                  refine lv_aload_n hx hb dX4_readClause_86 rfl (lv_at hl 4 rfl) ?_
                  refine lv_aload_n hx hb dX4_readClause_87 rfl (lv_at hl 4 rfl) ?_
                  refine va_get (D := D) (ci := 4) (v := .int (nI axx_308)) (C := RX4) (T := TX4) (N := 7) hx hb hts iX4 hown hK hP 1 rfl rfl 2 (by decide) f28 (fun _ h9 => h9) rfl dX4_readClause_88 ?_
                  refine va_put (D := D) (ci := 4) (v := .int (nI axx_308)) (ty := .int) (C := RX4) (T := TX4) (N := 7) hx hb hts iX4 tyX4 tyX4_ok nmX4 hown hK hP hD hS 1 rfl rfl 3 (by decide) f31 (fun _ h9 => h9) rfl (by decide +kernel) (rfl) (rfl) (Nat.le_of_ble_eq_true rfl) dX4_readClause_91 (fun H locs hP2 hD2 hS2 => ?_)
                  clear hP hD hS
                  have hPD : PD D A [(Rv, .inl (g 0, 21, .inl fvalx_296)), (Rd, .inr (4, [.ref Tp, .int (nI ln), .int (nI axx_308), .int (nI axx_308), .int (nI htx_4), .int (nI ctx_5), .ref Rv])), (Tp, .inl (g 0, 160, .inl ftp))] H := ⟨hP2, hD2⟩
                  have hS := hS2; clear hP2 hD2 hS2; have hP := hPD.1; have hD := hPD.2; clear hPD
                  have hPD9 : PD D A [(Rd, .inr (4, [.ref Tp, .int (nI ln), .int (nI axx_308), .int (nI axx_308), .int (nI htx_4), .int (nI ctx_5), .ref Rv])), (Tp, .inl (g 0, 160, .inl ftp)), (Rv, .inl (g 0, 21, .inl fvalx_296))] H := ⟨hP.sub [1, 2, 0] rfl, hD.sub [1, 2, 0] (by decide) rfl⟩
                  have hP9 := hPD9.1; have hD9 := hPD9.2
                  subst hQ
                  refine W.widen (k := 0) (n := 0) (Nat.le_of_ble_eq_true rfl) (Nat.le_of_ble_eq_true rfl) ?_
                  exact W.vret hx hb hr (fun tS htS _ => ⟨⟨_, rfl, ⟨axx_308, (nI axx_308), htx_4, ctx_5, fvalx_296, rfl, ⟨(show axx_308 ≤ ln by omega), (show htx_4 ≤ 3 by omega), (show ctx_5 ≤ 3 by omega), (hf_298), (cl_bad hf_7.2.2.2.1.symm (show cl_15 < 7 by omega) (hR_303.trans (itR_no (f := 2) hf_310 qi_318)) (show axx_308 < ln by omega) cb_315).1, (cl_bad hf_7.2.2.2.1.symm (show cl_15 < 7 by omega) (hR_303.trans (itR_no (f := 2) hf_310 qi_318)) (show axx_308 < ln by omega) cb_315).2, (fun q => absurd q (m1_ne (show axx_308 < 2 ^ 31 by omega))), (fun q => absurd q (m1_ne (show axx_308 < 2 ^ 31 by omega)))⟩⟩, by rw [htS]; exact hP9, hD9⟩, hS.F htS⟩) hS.2.2 dX4_readClause_94
                · skip
                  refine lv_eqi (y := 0) (qi_318) ?_
                  refine lv_istore (lv' := [(5, .int 0), (4, .int 1), (3, .int 4), (2, .int (nI cl_15)), (0, .ref Rd), (1, .int zf)]) hx hb dX4_readClause_69 hl (by decide) rfl (fun ls hl => ?_)
                  refine lv_iload hx hb dX4_readClause_71 (lv_at hl 0 rfl) ?_
                  refine lv_iconst (v := (-1)) hx hb dX4_readClause_73 (by decide) ?_
                  refine lv_icmp_eq (tgt := 86) hx hb dX4_readClause_74 (by decide) (fun cb => absurd cb (by decide)) (fun _ => ?_)
                  refine lv_iload_n hx hb dX4_readClause_77 rfl (lv_at hl 2 rfl) ?_
                  refine lv_iconst (v := 1) hx hb dX4_readClause_78 (by decide) ?_
                  refine lv_iload hx hb dX4_readClause_79 (lv_at hl 0 rfl) ?_
                  refine lv_ishl hx hb dX4_readClause_81 ?_
                  refine lv_eqi (y := 1) (by decide) ?_
                  refine lv_iand hx hb dX4_readClause_82 ?_
                  refine lv_eqi (y := 0) (by decide) ?_
                  refine lv_if_eq (tgt := 95) hx hb dX4_readClause_83 (by decide) (fun _ => ?_) (fun cb => absurd (by decide) cb)
                  refine lv_iload_n hx hb dX4_readClause_95 rfl (lv_at hl 2 rfl) ?_
                  refine lv_iconst (v := 1) hx hb dX4_readClause_96 (by decide) ?_
                  refine lv_iload hx hb dX4_readClause_97 (lv_at hl 0 rfl) ?_
                  refine lv_ishl hx hb dX4_readClause_99 ?_
                  refine lv_eqi (y := 1) (by decide) ?_
                  refine lv_ior hx hb dX4_readClause_100 ?_
                  refine lv_eqi (y := 5) (by decide) ?_
                  refine lv_istore_n (lv' := [(3, .int 5), (5, .int 0), (4, .int 1), (2, .int (nI cl_15)), (0, .ref Rd), (1, .int zf)]) hx hb dX4_readClause_101 rfl hl (by decide) rfl (fun ls hl => ?_)
                  refine lv_aload_n hx hb dX4_readClause_102 rfl (lv_at hl 4 rfl) ?_
                  refine lv_dup hx hb dX4_readClause_103 rfl ?_
                  refine va_get (D := D) (ci := 4) (v := .int (nI axx_308)) (C := RX4) (T := TX4) (N := 7) hx hb hts iX4 hown hK hP 1 rfl rfl 2 (by decide) f28 (fun _ h9 => h9) rfl dX4_readClause_104 ?_
                  refine lv_iconst (v := 1) hx hb dX4_readClause_107 (by decide) ?_
                  refine lv_iadd hx hb dX4_readClause_108 ?_
                  refine lv_eqi (y := (nI (axx_308 + 1))) (nI_add (axx_308) (1)) ?_
                  refine va_put (D := D) (ci := 4) (v := .int (nI (axx_308 + 1))) (ty := .int) (C := RX4) (T := TX4) (N := 7) hx hb hts iX4 tyX4 tyX4_ok nmX4 hown hK hP hD hS 1 rfl rfl 2 (by decide) f28 (fun _ h9 => h9) rfl (by decide +kernel) (rfl) (rfl) (Nat.le_of_ble_eq_true rfl) dX4_readClause_109 (fun H locs hP2 hD2 hS2 => ?_)
                  clear hP hD hS
                  have hPD : PD D A [(Rv, .inl (g 0, 21, .inl fvalx_296)), (Rd, .inr (4, [.ref Tp, .int (nI ln), .int (nI (axx_308 + 1)), .int (-1), .int (nI htx_4), .int (nI ctx_5), .ref Rv])), (Tp, .inl (g 0, 160, .inl ftp))] H := ⟨hP2, hD2⟩
                  have hS := hS2; clear hP2 hD2 hS2; have hP := hPD.1; have hD := hPD.2; clear hPD
                  refine lv_aload_n hx hb dX4_readClause_112 rfl (lv_at hl 4 rfl) ?_
                  refine lv_iload_n hx hb dX4_readClause_113 rfl (lv_at hl 3 rfl) ?_
                  refine lv_iload hx hb dX4_readClause_114 (lv_at hl 1 rfl) ?_
                  refine ky_Vv (As := [.int (nI cl_15), .int 0]) (rest := []) ⟨hx, hb, hml, hown, hts⟩ ⟨hK, hN⟩ hZ hP hD hS hA [1, 2, 0] [] (wc := [(Rd, .inr (4, [.ref Tp, .int (nI ln), .int (nI (axx_308 + 1)), .int (-1), .int (nI htx_4), .int (nI ctx_5), .ref Rv])), (Tp, .inl (g 0, 160, .inl ftp)), (Rv, .inl (g 0, 21, .inl fvalx_296))]) (wr := []) rfl rfl rfl rfl (by decide) (r_X4_readNumber l D g H.size Rd cl_15 0 Tp ln (axx_308 + 1) htx_4 ctx_5 Rv ftp fvalx_296 (show ln ≤ 160 by omega) (show (axx_308 + 1) ≤ ln by omega) (hf_298) (show cl_15 < 7 by omega) (show 0 < 3 by omega)) (cwV 2 hts gX4_readClause_X4_readNumber rfl rfl rfl (by decide +kernel) ⟨(Nat.le_of_ble_eq_true rfl), (Nat.le_of_ble_eq_true rfl)⟩) 1 4 rfl rfl rfl rfl hl.1 rfl (Nat.le_of_ble_eq_true rfl) dX4_readClause_116 ⟨(Nat.le_of_ble_eq_true rfl), (Nat.le_of_ble_eq_true rfl)⟩ (fun u H locs hw hP2 hD2 hS2 => ?_)
                  clear hP hD hS
                  obtain ⟨axx_320, zfax_321, fvalx_322, rfl, hf_323, hf_324, hf_325, hf_326⟩ := hw
                  have hPD : PD D A [(Rd, .inr (4, [.ref Tp, .int (nI ln), .int (nI axx_320), .int zfax_321, .int (nI htx_4), .int (nI ctx_5), .ref Rv])), (Tp, .inl (g 0, 160, .inl ftp)), (Rv, .inl (g 0, 21, .inl fvalx_322))] H := ⟨hP2, hD2⟩
                  have hS := hS2; clear hP2 hD2 hS2; have hP := hPD.1; have hD := hPD.2; clear hPD
                  refine W.widen (k := 0) (n := 0) (Nat.le_of_ble_eq_true rfl) (Nat.le_of_ble_eq_true rfl) ?_
                  refine lv_aload_n hx hb dX4_readClause_119 rfl (lv_at hl 4 rfl) ?_
                  refine va_get (D := D) (ci := 4) (v := .int zfax_321) (C := RX4) (T := TX4) (N := 7) hx hb hts iX4 hown hK hP 0 rfl rfl 3 (by decide) f31 (fun _ h9 => h9) rfl dX4_readClause_120 ?_
                  refine lv_iconst (v := (-1)) hx hb dX4_readClause_123 (by decide) ?_
                  refine lv_icmp_eq (tgt := 128) hx hb dX4_readClause_124 (by decide) (fun cb_327 => ?_) (fun cb_327 => ?_)
                  · skip
                    have hPq_328 := hP; have hDq_328 := hD; have hSq_328 := hS; have hlq_328 := hl; clear hP hD hS hl
                    subst cb_327
                    have hP := hPq_328; have hD := hDq_328; have hS := hSq_328; have hl := hlq_328; clear hPq_328 hDq_328 hSq_328 hlq_328
                    have hne_330 := (hf_326 rfl).1
                    have hne_330g := nmE_gt (T := ftp) (n := ln) (i := axx_308 + 1) (by omega)
                    have hR_329 : itR ftp ln (kdN cl_15) 4 0 (sB ftp ln ax + 1) = itR ftp ln (kdN cl_15) 2 5 axx_320 := hR_303.trans ((itR_go (f := 2) (m := 4) (q := 0) hf_310 (show axx_308 < ln by omega) qi_318 (by decide) (by decide) hf_325.symm).trans (by rw [hne_330]))
                    have hnv_332 := hf_326 rfl
                    have hW_331 : itW ftp ln (kdN cl_15) (3 * cl_15) 4 0 (sB ftp ln ax + 1) fval = itW ftp ln (kdN cl_15) (3 * cl_15) 2 5 axx_320 fvalx_322 := hW_305.trans ((itW_go (f := 2) (m := 4) (q := 0) hf_310 (show axx_308 < ln by omega) qi_318 (by decide) (by decide) hf_325.symm).trans (by rw [hnv_332.1, hnv_332.2]))
                    refine lv_iinc (v := 2) (lv' := [(4, .int 2), (3, .int 5), (5, .int 0), (2, .int (nI cl_15)), (0, .ref Rd), (1, .int zf)]) hx hb dX4_readClause_128 hl (k := 2) rfl (by decide) (by decide) rfl (fun ls hl => ?_)
                    refine lv_goto (tgt := 17) hx hb dX4_readClause_131 (by decide) ?_
                    refine lv_iload hx hb dX4_readClause_17 (lv_at hl 0 rfl) ?_
                    refine lv_iconst (v := 3) hx hb dX4_readClause_19 (by decide) ?_
                    refine lv_icmp_gt (tgt := 134) hx hb dX4_readClause_20 (by decide) (fun cb => absurd cb (by decide)) (fun _ => ?_)
                    refine lv_aload_n hx hb dX4_readClause_23 rfl (lv_at hl 4 rfl) ?_
                    refine ky_Vv (As := []) (rest := []) ⟨hx, hb, hml, hown, hts⟩ ⟨hK, hN⟩ hZ hP hD hS hA [0, 1] [2] (wc := [(Rd, .inr (4, [.ref Tp, .int (nI ln), .int (nI axx_320), .int (-1), .int (nI htx_4), .int (nI ctx_5), .ref Rv])), (Tp, .inl (g 0, 160, .inl ftp))]) (wr := [(Rv, .inl (g 0, 21, .inl fvalx_322))]) rfl rfl rfl rfl (by decide) (r_X4_passBlanks l D g H.size Rd Tp ln axx_320 (-1) htx_4 ctx_5 Rv ftp (show ln ≤ 160 by omega) (show axx_320 ≤ ln by omega)) (cwV 0 hts gX4_readClause_X4_passBlanks rfl rfl rfl (by decide +kernel) ⟨(Nat.le_of_ble_eq_true rfl), (Nat.le_of_ble_eq_true rfl)⟩) 0 4 rfl rfl rfl rfl hl.1 rfl (Nat.le_of_ble_eq_true rfl) dX4_readClause_24 ⟨(Nat.le_of_ble_eq_true rfl), (Nat.le_of_ble_eq_true rfl)⟩ (fun u H locs hw hP2 hD2 hS2 => ?_)
                    clear hP hD hS
                    obtain ⟨axx_334, rfl, hf_335, hf_336⟩ := hw
                    have hPD : PD D A [(Rv, .inl (g 0, 21, .inl fvalx_322)), (Rd, .inr (4, [.ref Tp, .int (nI ln), .int (nI axx_334), .int (-1), .int (nI htx_4), .int (nI ctx_5), .ref Rv])), (Tp, .inl (g 0, 160, .inl ftp))] H := ⟨hP2, hD2⟩
                    have hS := hS2; clear hP2 hD2 hS2; have hP := hPD.1; have hD := hPD.2; clear hPD
                    refine W.widen (k := 0) (n := 0) (Nat.le_of_ble_eq_true rfl) (Nat.le_of_ble_eq_true rfl) ?_
                    have hge_337 := sB_ge (T := ftp) (n := ln) (i := axx_320) (by omega)
                    refine lv_aload_n hx hb dX4_readClause_27 rfl (lv_at hl 4 rfl) ?_
                    refine va_get (D := D) (ci := 4) (v := .int (nI axx_334)) (C := RX4) (T := TX4) (N := 7) hx hb hts iX4 hown hK hP 1 rfl rfl 2 (by decide) f28 (fun _ h9 => h9) rfl dX4_readClause_28 ?_
                    refine lv_aload_n hx hb dX4_readClause_31 rfl (lv_at hl 4 rfl) ?_
                    refine va_get (D := D) (ci := 4) (v := .int (nI ln)) (C := RX4) (T := TX4) (N := 7) hx hb hts iX4 hown hK hP 1 rfl rfl 1 (by decide) f24 (fun _ h9 => h9) rfl dX4_readClause_32 ?_
                    refine lv_icmp_ge (tgt := 52) hx hb dX4_readClause_35 (by decide) (fun cb_338 => ?_) (fun cb_338 => ?_)
                    · skip
                      have cn_339 : ln ≤ axx_334 := (nI_leI (show ln < 2 ^ 31 by omega) (show axx_334 < 2 ^ 31 by omega)).mp cb_338
                      have hPD9 : PD D A [(Rd, .inr (4, [.ref Tp, .int (nI ln), .int (nI axx_334), .int (-1), .int (nI htx_4), .int (nI ctx_5), .ref Rv])), (Tp, .inl (g 0, 160, .inl ftp)), (Rv, .inl (g 0, 21, .inl fvalx_322))] H := ⟨hP.sub [1, 2, 0] rfl, hD.sub [1, 2, 0] (by decide) rfl⟩
                      have hP9 := hPD9.1; have hD9 := hPD9.2
                      subst hQ
                      refine W.widen (k := 0) (n := 0) (Nat.le_of_ble_eq_true rfl) (Nat.le_of_ble_eq_true rfl) ?_
                      exact W.vret hx hb hr (fun tS htS _ => ⟨⟨_, rfl, ⟨axx_334, (-1), htx_4, ctx_5, fvalx_322, rfl, ⟨(show axx_334 ≤ ln by omega), (show htx_4 ≤ 3 by omega), (show ctx_5 ≤ 3 by omega), (hf_324), (cl_end hf_7.2.2.2.1.symm (show cl_15 < 7 by omega) (hR_329.trans (itR_end (f := 1) hf_336 (show ¬ axx_334 < ln by omega))) (fun q => absurd q.1 (show ¬ axx_334 < ln by omega))).1, (cl_end hf_7.2.2.2.1.symm (show cl_15 < 7 by omega) (hR_329.trans (itR_end (f := 1) hf_336 (show ¬ axx_334 < ln by omega))) (fun q => absurd q.1 (show ¬ axx_334 < ln by omega))).2.1, (fun _ => ⟨(cl_end hf_7.2.2.2.1.symm (show cl_15 < 7 by omega) (hR_329.trans (itR_end (f := 1) hf_336 (show ¬ axx_334 < ln by omega))) (fun q => absurd q.1 (show ¬ axx_334 < ln by omega))).2.2, show ax < axx_334 by omega⟩), (fun _ => ((clW_cl hf_7.2.2.2.1.symm (show cl_15 < 7 by omega)).trans (hW_331.trans (itW_end (f := 1) hf_336 (show ¬ axx_334 < ln by omega)))).symm)⟩⟩, by rw [htS]; exact hP9, hD9⟩, hS.F htS⟩) hS.2.2 dX4_readClause_52
                    · skip
                      have cn_340 : axx_334 < ln := Nat.lt_of_not_le (fun q9 => cb_338 ((nI_leI (show ln < 2 ^ 31 by omega) (show axx_334 < 2 ^ 31 by omega)).mpr q9))
                      refine lv_aload_n hx hb dX4_readClause_38 rfl (lv_at hl 4 rfl) ?_
                      refine va_get (D := D) (ci := 4) (v := .ref Tp) (C := RX4) (T := TX4) (N := 7) hx hb hts iX4 hown hK hP 1 rfl rfl 0 (by decide) f9 (fun _ h9 => h9) rfl dX4_readClause_39 ?_
                      refine lv_aload_n hx hb dX4_readClause_42 rfl (lv_at hl 4 rfl) ?_
                      refine va_get (D := D) (ci := 4) (v := .int (nI axx_334)) (C := RX4) (T := TX4) (N := 7) hx hb hts iX4 hown hK hP 1 rfl rfl 2 (by decide) f28 (fun _ h9 => h9) rfl dX4_readClause_43 ?_
                      refine va_iald hx hb hK hP 2 0 rfl rfl (vp_in_nI (show axx_334 < 160 by omega) (by decide)) dX4_readClause_46 ?_
                      refine lv_eqi (y := (ftp (axx_334))) (congrArg ftp (nI_clamp (show axx_334 < 2 ^ 31 by omega))) ?_
                      refine lv_bipush (v := 59) hx hb dX4_readClause_47 (by decide) ?_
                      refine lv_icmp_ne (tgt := 53) hx hb dX4_readClause_49 (by decide) (fun cb_341 => ?_) (fun cb_341 => ?_)
                      · skip
                        refine lv_iload_n hx hb dX4_readClause_53 rfl (lv_at hl 3 rfl) ?_
                        refine ky_Si (As := [.int (nI cl_15)]) (rest := []) ⟨hx, hb, hml, hown, hts⟩ ⟨hK, hN⟩ hZ hP hD hS hA [] [0, 1, 2] (wc := []) (wr := [(Rv, .inl (g 0, 21, .inl fvalx_322)), (Rd, .inr (4, [.ref Tp, .int (nI ln), .int (nI axx_334), .int (-1), .int (nI htx_4), .int (nI ctx_5), .ref Rv])), (Tp, .inl (g 0, 160, .inl ftp))]) rfl rfl rfl rfl (by decide) (r_X4_kindOf l D g H.size cl_15 (show cl_15 < 7 by omega)) (va_cwS 1 hts gX4_readClause_X4_kindOf rfl rfl rfl (by decide +kernel) ⟨(Nat.le_of_ble_eq_true rfl), (Nat.le_of_ble_eq_true rfl)⟩) rfl hl.1 rfl (Nat.le_of_ble_eq_true rfl) dX4_readClause_54 ⟨(Nat.le_of_ble_eq_true rfl), (Nat.le_of_ble_eq_true rfl)⟩ (fun r_342 u H locs hw hP2 hD2 hS2 => ?_)
                        clear hP hD hS
                        obtain ⟨rfl, rfl⟩ := hw
                        have hPD : PD D A [(Rv, .inl (g 0, 21, .inl fvalx_322)), (Rd, .inr (4, [.ref Tp, .int (nI ln), .int (nI axx_334), .int (-1), .int (nI htx_4), .int (nI ctx_5), .ref Rv])), (Tp, .inl (g 0, 160, .inl ftp))] H := ⟨hP2, hD2⟩
                        have hS := hS2; clear hP2 hD2 hS2; have hP := hPD.1; have hD := hPD.2; clear hPD
                        refine W.widen (k := 0) (n := 0) (Nat.le_of_ble_eq_true rfl) (Nat.le_of_ble_eq_true rfl) ?_
                        refine lv_aload_n hx hb dX4_readClause_57 rfl (lv_at hl 4 rfl) ?_
                        refine va_get (D := D) (ci := 4) (v := .ref Tp) (C := RX4) (T := TX4) (N := 7) hx hb hts iX4 hown hK hP 1 rfl rfl 0 (by decide) f9 (fun _ h9 => h9) rfl dX4_readClause_58 ?_
                        refine lv_aload_n hx hb dX4_readClause_61 rfl (lv_at hl 4 rfl) ?_
                        refine va_get (D := D) (ci := 4) (v := .int (nI axx_334)) (C := RX4) (T := TX4) (N := 7) hx hb hts iX4 hown hK hP 1 rfl rfl 2 (by decide) f28 (fun _ h9 => h9) rfl dX4_readClause_62 ?_
                        refine va_iald hx hb hK hP 2 0 rfl rfl (vp_in_nI (show axx_334 < 160 by omega) (by decide)) dX4_readClause_65 ?_
                        refine lv_eqi (y := (ftp (axx_334))) (congrArg ftp (nI_clamp (show axx_334 < 2 ^ 31 by omega))) ?_
                        refine ky_Si (As := [.int (nI (kdN cl_15)), .int (ftp (axx_334))]) (rest := []) ⟨hx, hb, hml, hown, hts⟩ ⟨hK, hN⟩ hZ hP hD hS hA [] [0, 1, 2] (wc := []) (wr := [(Rv, .inl (g 0, 21, .inl fvalx_322)), (Rd, .inr (4, [.ref Tp, .int (nI ln), .int (nI axx_334), .int (-1), .int (nI htx_4), .int (nI ctx_5), .ref Rv])), (Tp, .inl (g 0, 160, .inl ftp))]) rfl rfl rfl rfl (by decide) (r_X4_itemOf l D g H.size (kdN cl_15) (ftp (axx_334)) (show (kdN cl_15) < 3 by omega)) (va_cwS 2 hts gX4_readClause_X4_itemOf rfl rfl rfl (by decide +kernel) ⟨(Nat.le_of_ble_eq_true rfl), (Nat.le_of_ble_eq_true rfl)⟩) rfl hl.1 rfl (Nat.le_of_ble_eq_true rfl) dX4_readClause_66 ⟨(Nat.le_of_ble_eq_true rfl), (Nat.le_of_ble_eq_true rfl)⟩ (fun r_343 u H locs hw hP2 hD2 hS2 => ?_)
                        clear hP hD hS
                        obtain ⟨rfl, rfl⟩ := hw
                        have hPD : PD D A [(Rv, .inl (g 0, 21, .inl fvalx_322)), (Rd, .inr (4, [.ref Tp, .int (nI ln), .int (nI axx_334), .int (-1), .int (nI htx_4), .int (nI ctx_5), .ref Rv])), (Tp, .inl (g 0, 160, .inl ftp))] H := ⟨hP2, hD2⟩
                        have hS := hS2; clear hP2 hD2 hS2; have hP := hPD.1; have hD := hPD.2; clear hPD
                        refine W.widen (k := 0) (n := 0) (Nat.le_of_ble_eq_true rfl) (Nat.le_of_ble_eq_true rfl) ?_
                        rcases itK_c (kdN cl_15) (ftp (axx_334)) with qi_344 | qi_344 | qi_344 | qi_344
                        · skip
                          refine lv_eqi (y := (-1)) (qi_344) ?_
                          refine lv_istore (lv' := [(5, .int (-1)), (4, .int 2), (3, .int 5), (2, .int (nI cl_15)), (0, .ref Rd), (1, .int zf)]) hx hb dX4_readClause_69 hl (by decide) rfl (fun ls hl => ?_)
                          refine lv_iload hx hb dX4_readClause_71 (lv_at hl 0 rfl) ?_
                          refine lv_iconst (v := (-1)) hx hb dX4_readClause_73 (by decide) ?_
                          refine lv_icmp_eq (tgt := 86) hx hb dX4_readClause_74 (by decide) (fun _ => ?_) (fun cb => absurd (by decide) cb)
                          refine lv_aload_n hx hb dX4_readClause_86 rfl (lv_at hl 4 rfl) ?_
                          refine lv_aload_n hx hb dX4_readClause_87 rfl (lv_at hl 4 rfl) ?_
                          refine va_get (D := D) (ci := 4) (v := .int (nI axx_334)) (C := RX4) (T := TX4) (N := 7) hx hb hts iX4 hown hK hP 1 rfl rfl 2 (by decide) f28 (fun _ h9 => h9) rfl dX4_readClause_88 ?_
                          refine va_put (D := D) (ci := 4) (v := .int (nI axx_334)) (ty := .int) (C := RX4) (T := TX4) (N := 7) hx hb hts iX4 tyX4 tyX4_ok nmX4 hown hK hP hD hS 1 rfl rfl 3 (by decide) f31 (fun _ h9 => h9) rfl (by decide +kernel) (rfl) (rfl) (Nat.le_of_ble_eq_true rfl) dX4_readClause_91 (fun H locs hP2 hD2 hS2 => ?_)
                          clear hP hD hS
                          have hPD : PD D A [(Rv, .inl (g 0, 21, .inl fvalx_322)), (Rd, .inr (4, [.ref Tp, .int (nI ln), .int (nI axx_334), .int (nI axx_334), .int (nI htx_4), .int (nI ctx_5), .ref Rv])), (Tp, .inl (g 0, 160, .inl ftp))] H := ⟨hP2, hD2⟩
                          have hS := hS2; clear hP2 hD2 hS2; have hP := hPD.1; have hD := hPD.2; clear hPD
                          have hPD9 : PD D A [(Rd, .inr (4, [.ref Tp, .int (nI ln), .int (nI axx_334), .int (nI axx_334), .int (nI htx_4), .int (nI ctx_5), .ref Rv])), (Tp, .inl (g 0, 160, .inl ftp)), (Rv, .inl (g 0, 21, .inl fvalx_322))] H := ⟨hP.sub [1, 2, 0] rfl, hD.sub [1, 2, 0] (by decide) rfl⟩
                          have hP9 := hPD9.1; have hD9 := hPD9.2
                          subst hQ
                          refine W.widen (k := 0) (n := 0) (Nat.le_of_ble_eq_true rfl) (Nat.le_of_ble_eq_true rfl) ?_
                          exact W.vret hx hb hr (fun tS htS _ => ⟨⟨_, rfl, ⟨axx_334, (nI axx_334), htx_4, ctx_5, fvalx_322, rfl, ⟨(show axx_334 ≤ ln by omega), (show htx_4 ≤ 3 by omega), (show ctx_5 ≤ 3 by omega), (hf_324), (cl_bad hf_7.2.2.2.1.symm (show cl_15 < 7 by omega) (hR_329.trans (itR_no (f := 1) hf_336 qi_344)) (show axx_334 < ln by omega) cb_341).1, (cl_bad hf_7.2.2.2.1.symm (show cl_15 < 7 by omega) (hR_329.trans (itR_no (f := 1) hf_336 qi_344)) (show axx_334 < ln by omega) cb_341).2, (fun q => absurd q (m1_ne (show axx_334 < 2 ^ 31 by omega))), (fun q => absurd q (m1_ne (show axx_334 < 2 ^ 31 by omega)))⟩⟩, by rw [htS]; exact hP9, hD9⟩, hS.F htS⟩) hS.2.2 dX4_readClause_94
                        · skip
                          refine lv_eqi (y := 0) (qi_344) ?_
                          refine lv_istore (lv' := [(5, .int 0), (4, .int 2), (3, .int 5), (2, .int (nI cl_15)), (0, .ref Rd), (1, .int zf)]) hx hb dX4_readClause_69 hl (by decide) rfl (fun ls hl => ?_)
                          refine lv_iload hx hb dX4_readClause_71 (lv_at hl 0 rfl) ?_
                          refine lv_iconst (v := (-1)) hx hb dX4_readClause_73 (by decide) ?_
                          refine lv_icmp_eq (tgt := 86) hx hb dX4_readClause_74 (by decide) (fun cb => absurd cb (by decide)) (fun _ => ?_)
                          refine lv_iload_n hx hb dX4_readClause_77 rfl (lv_at hl 2 rfl) ?_
                          refine lv_iconst (v := 1) hx hb dX4_readClause_78 (by decide) ?_
                          refine lv_iload hx hb dX4_readClause_79 (lv_at hl 0 rfl) ?_
                          refine lv_ishl hx hb dX4_readClause_81 ?_
                          refine lv_eqi (y := 1) (by decide) ?_
                          refine lv_iand hx hb dX4_readClause_82 ?_
                          refine lv_eqi (y := 1) (by decide) ?_
                          refine lv_if_eq (tgt := 95) hx hb dX4_readClause_83 (by decide) (fun cb => absurd cb (by decide)) (fun _ => ?_)
                          refine lv_aload_n hx hb dX4_readClause_86 rfl (lv_at hl 4 rfl) ?_
                          refine lv_aload_n hx hb dX4_readClause_87 rfl (lv_at hl 4 rfl) ?_
                          refine va_get (D := D) (ci := 4) (v := .int (nI axx_334)) (C := RX4) (T := TX4) (N := 7) hx hb hts iX4 hown hK hP 1 rfl rfl 2 (by decide) f28 (fun _ h9 => h9) rfl dX4_readClause_88 ?_
                          refine va_put (D := D) (ci := 4) (v := .int (nI axx_334)) (ty := .int) (C := RX4) (T := TX4) (N := 7) hx hb hts iX4 tyX4 tyX4_ok nmX4 hown hK hP hD hS 1 rfl rfl 3 (by decide) f31 (fun _ h9 => h9) rfl (by decide +kernel) (rfl) (rfl) (Nat.le_of_ble_eq_true rfl) dX4_readClause_91 (fun H locs hP2 hD2 hS2 => ?_)
                          clear hP hD hS
                          have hPD : PD D A [(Rv, .inl (g 0, 21, .inl fvalx_322)), (Rd, .inr (4, [.ref Tp, .int (nI ln), .int (nI axx_334), .int (nI axx_334), .int (nI htx_4), .int (nI ctx_5), .ref Rv])), (Tp, .inl (g 0, 160, .inl ftp))] H := ⟨hP2, hD2⟩
                          have hS := hS2; clear hP2 hD2 hS2; have hP := hPD.1; have hD := hPD.2; clear hPD
                          have hPD9 : PD D A [(Rd, .inr (4, [.ref Tp, .int (nI ln), .int (nI axx_334), .int (nI axx_334), .int (nI htx_4), .int (nI ctx_5), .ref Rv])), (Tp, .inl (g 0, 160, .inl ftp)), (Rv, .inl (g 0, 21, .inl fvalx_322))] H := ⟨hP.sub [1, 2, 0] rfl, hD.sub [1, 2, 0] (by decide) rfl⟩
                          have hP9 := hPD9.1; have hD9 := hPD9.2
                          subst hQ
                          refine W.widen (k := 0) (n := 0) (Nat.le_of_ble_eq_true rfl) (Nat.le_of_ble_eq_true rfl) ?_
                          exact W.vret hx hb hr (fun tS htS _ => ⟨⟨_, rfl, ⟨axx_334, (nI axx_334), htx_4, ctx_5, fvalx_322, rfl, ⟨(show axx_334 ≤ ln by omega), (show htx_4 ≤ 3 by omega), (show ctx_5 ≤ 3 by omega), (hf_324), (cl_bad hf_7.2.2.2.1.symm (show cl_15 < 7 by omega) (hR_329.trans (itR_again (f := 1) (q := 0) hf_336 qi_344 (by decide) (by decide))) (show axx_334 < ln by omega) cb_341).1, (cl_bad hf_7.2.2.2.1.symm (show cl_15 < 7 by omega) (hR_329.trans (itR_again (f := 1) (q := 0) hf_336 qi_344 (by decide) (by decide))) (show axx_334 < ln by omega) cb_341).2, (fun q => absurd q (m1_ne (show axx_334 < 2 ^ 31 by omega))), (fun q => absurd q (m1_ne (show axx_334 < 2 ^ 31 by omega)))⟩⟩, by rw [htS]; exact hP9, hD9⟩, hS.F htS⟩) hS.2.2 dX4_readClause_94
                        · skip
                          refine lv_eqi (y := 1) (qi_344) ?_
                          refine lv_istore (lv' := [(5, .int 1), (4, .int 2), (3, .int 5), (2, .int (nI cl_15)), (0, .ref Rd), (1, .int zf)]) hx hb dX4_readClause_69 hl (by decide) rfl (fun ls hl => ?_)
                          refine lv_iload hx hb dX4_readClause_71 (lv_at hl 0 rfl) ?_
                          refine lv_iconst (v := (-1)) hx hb dX4_readClause_73 (by decide) ?_
                          refine lv_icmp_eq (tgt := 86) hx hb dX4_readClause_74 (by decide) (fun cb => absurd cb (by decide)) (fun _ => ?_)
                          refine lv_iload_n hx hb dX4_readClause_77 rfl (lv_at hl 2 rfl) ?_
                          refine lv_iconst (v := 1) hx hb dX4_readClause_78 (by decide) ?_
                          refine lv_iload hx hb dX4_readClause_79 (lv_at hl 0 rfl) ?_
                          refine lv_ishl hx hb dX4_readClause_81 ?_
                          refine lv_eqi (y := 2) (by decide) ?_
                          refine lv_iand hx hb dX4_readClause_82 ?_
                          refine lv_eqi (y := 0) (by decide) ?_
                          refine lv_if_eq (tgt := 95) hx hb dX4_readClause_83 (by decide) (fun _ => ?_) (fun cb => absurd (by decide) cb)
                          refine lv_iload_n hx hb dX4_readClause_95 rfl (lv_at hl 2 rfl) ?_
                          refine lv_iconst (v := 1) hx hb dX4_readClause_96 (by decide) ?_
                          refine lv_iload hx hb dX4_readClause_97 (lv_at hl 0 rfl) ?_
                          refine lv_ishl hx hb dX4_readClause_99 ?_
                          refine lv_eqi (y := 2) (by decide) ?_
                          refine lv_ior hx hb dX4_readClause_100 ?_
                          refine lv_eqi (y := 7) (by decide) ?_
                          refine lv_istore_n (lv' := [(3, .int 7), (5, .int 1), (4, .int 2), (2, .int (nI cl_15)), (0, .ref Rd), (1, .int zf)]) hx hb dX4_readClause_101 rfl hl (by decide) rfl (fun ls hl => ?_)
                          refine lv_aload_n hx hb dX4_readClause_102 rfl (lv_at hl 4 rfl) ?_
                          refine lv_dup hx hb dX4_readClause_103 rfl ?_
                          refine va_get (D := D) (ci := 4) (v := .int (nI axx_334)) (C := RX4) (T := TX4) (N := 7) hx hb hts iX4 hown hK hP 1 rfl rfl 2 (by decide) f28 (fun _ h9 => h9) rfl dX4_readClause_104 ?_
                          refine lv_iconst (v := 1) hx hb dX4_readClause_107 (by decide) ?_
                          refine lv_iadd hx hb dX4_readClause_108 ?_
                          refine lv_eqi (y := (nI (axx_334 + 1))) (nI_add (axx_334) (1)) ?_
                          refine va_put (D := D) (ci := 4) (v := .int (nI (axx_334 + 1))) (ty := .int) (C := RX4) (T := TX4) (N := 7) hx hb hts iX4 tyX4 tyX4_ok nmX4 hown hK hP hD hS 1 rfl rfl 2 (by decide) f28 (fun _ h9 => h9) rfl (by decide +kernel) (rfl) (rfl) (Nat.le_of_ble_eq_true rfl) dX4_readClause_109 (fun H locs hP2 hD2 hS2 => ?_)
                          clear hP hD hS
                          have hPD : PD D A [(Rv, .inl (g 0, 21, .inl fvalx_322)), (Rd, .inr (4, [.ref Tp, .int (nI ln), .int (nI (axx_334 + 1)), .int (-1), .int (nI htx_4), .int (nI ctx_5), .ref Rv])), (Tp, .inl (g 0, 160, .inl ftp))] H := ⟨hP2, hD2⟩
                          have hS := hS2; clear hP2 hD2 hS2; have hP := hPD.1; have hD := hPD.2; clear hPD
                          refine lv_aload_n hx hb dX4_readClause_112 rfl (lv_at hl 4 rfl) ?_
                          refine lv_iload_n hx hb dX4_readClause_113 rfl (lv_at hl 3 rfl) ?_
                          refine lv_iload hx hb dX4_readClause_114 (lv_at hl 1 rfl) ?_
                          refine ky_Vv (As := [.int (nI cl_15), .int 1]) (rest := []) ⟨hx, hb, hml, hown, hts⟩ ⟨hK, hN⟩ hZ hP hD hS hA [1, 2, 0] [] (wc := [(Rd, .inr (4, [.ref Tp, .int (nI ln), .int (nI (axx_334 + 1)), .int (-1), .int (nI htx_4), .int (nI ctx_5), .ref Rv])), (Tp, .inl (g 0, 160, .inl ftp)), (Rv, .inl (g 0, 21, .inl fvalx_322))]) (wr := []) rfl rfl rfl rfl (by decide) (r_X4_readNumber l D g H.size Rd cl_15 1 Tp ln (axx_334 + 1) htx_4 ctx_5 Rv ftp fvalx_322 (show ln ≤ 160 by omega) (show (axx_334 + 1) ≤ ln by omega) (hf_324) (show cl_15 < 7 by omega) (show 1 < 3 by omega)) (cwV 2 hts gX4_readClause_X4_readNumber rfl rfl rfl (by decide +kernel) ⟨(Nat.le_of_ble_eq_true rfl), (Nat.le_of_ble_eq_true rfl)⟩) 1 4 rfl rfl rfl rfl hl.1 rfl (Nat.le_of_ble_eq_true rfl) dX4_readClause_116 ⟨(Nat.le_of_ble_eq_true rfl), (Nat.le_of_ble_eq_true rfl)⟩ (fun u H locs hw hP2 hD2 hS2 => ?_)
                          clear hP hD hS
                          obtain ⟨axx_346, zfax_347, fvalx_348, rfl, hf_349, hf_350, hf_351, hf_352⟩ := hw
                          have hPD : PD D A [(Rd, .inr (4, [.ref Tp, .int (nI ln), .int (nI axx_346), .int zfax_347, .int (nI htx_4), .int (nI ctx_5), .ref Rv])), (Tp, .inl (g 0, 160, .inl ftp)), (Rv, .inl (g 0, 21, .inl fvalx_348))] H := ⟨hP2, hD2⟩
                          have hS := hS2; clear hP2 hD2 hS2; have hP := hPD.1; have hD := hPD.2; clear hPD
                          refine W.widen (k := 0) (n := 0) (Nat.le_of_ble_eq_true rfl) (Nat.le_of_ble_eq_true rfl) ?_
                          refine lv_aload_n hx hb dX4_readClause_119 rfl (lv_at hl 4 rfl) ?_
                          refine va_get (D := D) (ci := 4) (v := .int zfax_347) (C := RX4) (T := TX4) (N := 7) hx hb hts iX4 hown hK hP 0 rfl rfl 3 (by decide) f31 (fun _ h9 => h9) rfl dX4_readClause_120 ?_
                          refine lv_iconst (v := (-1)) hx hb dX4_readClause_123 (by decide) ?_
                          refine lv_icmp_eq (tgt := 128) hx hb dX4_readClause_124 (by decide) (fun cb_353 => ?_) (fun cb_353 => ?_)
                          · skip
                            have hPq_354 := hP; have hDq_354 := hD; have hSq_354 := hS; have hlq_354 := hl; clear hP hD hS hl
                            subst cb_353
                            have hP := hPq_354; have hD := hDq_354; have hS := hSq_354; have hl := hlq_354; clear hPq_354 hDq_354 hSq_354 hlq_354
                            have hne_356 := (hf_352 rfl).1
                            have hne_356g := nmE_gt (T := ftp) (n := ln) (i := axx_334 + 1) (by omega)
                            have hR_355 : itR ftp ln (kdN cl_15) 4 0 (sB ftp ln ax + 1) = itR ftp ln (kdN cl_15) 1 7 axx_346 := hR_329.trans ((itR_go (f := 1) (m := 5) (q := 1) hf_336 (show axx_334 < ln by omega) qi_344 (by decide) (by decide) hf_351.symm).trans (by rw [hne_356]))
                            have hnv_358 := hf_352 rfl
                            have hW_357 : itW ftp ln (kdN cl_15) (3 * cl_15) 4 0 (sB ftp ln ax + 1) fval = itW ftp ln (kdN cl_15) (3 * cl_15) 1 7 axx_346 fvalx_348 := hW_331.trans ((itW_go (f := 1) (m := 5) (q := 1) hf_336 (show axx_334 < ln by omega) qi_344 (by decide) (by decide) hf_351.symm).trans (by rw [hnv_358.1, hnv_358.2]))
                            refine lv_iinc (v := 3) (lv' := [(4, .int 3), (3, .int 7), (5, .int 1), (2, .int (nI cl_15)), (0, .ref Rd), (1, .int zf)]) hx hb dX4_readClause_128 hl (k := 2) rfl (by decide) (by decide) rfl (fun ls hl => ?_)
                            refine lv_goto (tgt := 17) hx hb dX4_readClause_131 (by decide) ?_
                            refine lv_iload hx hb dX4_readClause_17 (lv_at hl 0 rfl) ?_
                            refine lv_iconst (v := 3) hx hb dX4_readClause_19 (by decide) ?_
                            refine lv_icmp_gt (tgt := 134) hx hb dX4_readClause_20 (by decide) (fun cb => absurd cb (by decide)) (fun _ => ?_)
                            refine lv_aload_n hx hb dX4_readClause_23 rfl (lv_at hl 4 rfl) ?_
                            refine ky_Vv (As := []) (rest := []) ⟨hx, hb, hml, hown, hts⟩ ⟨hK, hN⟩ hZ hP hD hS hA [0, 1] [2] (wc := [(Rd, .inr (4, [.ref Tp, .int (nI ln), .int (nI axx_346), .int (-1), .int (nI htx_4), .int (nI ctx_5), .ref Rv])), (Tp, .inl (g 0, 160, .inl ftp))]) (wr := [(Rv, .inl (g 0, 21, .inl fvalx_348))]) rfl rfl rfl rfl (by decide) (r_X4_passBlanks l D g H.size Rd Tp ln axx_346 (-1) htx_4 ctx_5 Rv ftp (show ln ≤ 160 by omega) (show axx_346 ≤ ln by omega)) (cwV 0 hts gX4_readClause_X4_passBlanks rfl rfl rfl (by decide +kernel) ⟨(Nat.le_of_ble_eq_true rfl), (Nat.le_of_ble_eq_true rfl)⟩) 0 4 rfl rfl rfl rfl hl.1 rfl (Nat.le_of_ble_eq_true rfl) dX4_readClause_24 ⟨(Nat.le_of_ble_eq_true rfl), (Nat.le_of_ble_eq_true rfl)⟩ (fun u H locs hw hP2 hD2 hS2 => ?_)
                            clear hP hD hS
                            obtain ⟨axx_360, rfl, hf_361, hf_362⟩ := hw
                            have hPD : PD D A [(Rv, .inl (g 0, 21, .inl fvalx_348)), (Rd, .inr (4, [.ref Tp, .int (nI ln), .int (nI axx_360), .int (-1), .int (nI htx_4), .int (nI ctx_5), .ref Rv])), (Tp, .inl (g 0, 160, .inl ftp))] H := ⟨hP2, hD2⟩
                            have hS := hS2; clear hP2 hD2 hS2; have hP := hPD.1; have hD := hPD.2; clear hPD
                            refine W.widen (k := 0) (n := 0) (Nat.le_of_ble_eq_true rfl) (Nat.le_of_ble_eq_true rfl) ?_
                            have hge_363 := sB_ge (T := ftp) (n := ln) (i := axx_346) (by omega)
                            refine lv_aload_n hx hb dX4_readClause_27 rfl (lv_at hl 4 rfl) ?_
                            refine va_get (D := D) (ci := 4) (v := .int (nI axx_360)) (C := RX4) (T := TX4) (N := 7) hx hb hts iX4 hown hK hP 1 rfl rfl 2 (by decide) f28 (fun _ h9 => h9) rfl dX4_readClause_28 ?_
                            refine lv_aload_n hx hb dX4_readClause_31 rfl (lv_at hl 4 rfl) ?_
                            refine va_get (D := D) (ci := 4) (v := .int (nI ln)) (C := RX4) (T := TX4) (N := 7) hx hb hts iX4 hown hK hP 1 rfl rfl 1 (by decide) f24 (fun _ h9 => h9) rfl dX4_readClause_32 ?_
                            refine lv_icmp_ge (tgt := 52) hx hb dX4_readClause_35 (by decide) (fun cb_364 => ?_) (fun cb_364 => ?_)
                            · skip
                              have cn_365 : ln ≤ axx_360 := (nI_leI (show ln < 2 ^ 31 by omega) (show axx_360 < 2 ^ 31 by omega)).mp cb_364
                              have hPD9 : PD D A [(Rd, .inr (4, [.ref Tp, .int (nI ln), .int (nI axx_360), .int (-1), .int (nI htx_4), .int (nI ctx_5), .ref Rv])), (Tp, .inl (g 0, 160, .inl ftp)), (Rv, .inl (g 0, 21, .inl fvalx_348))] H := ⟨hP.sub [1, 2, 0] rfl, hD.sub [1, 2, 0] (by decide) rfl⟩
                              have hP9 := hPD9.1; have hD9 := hPD9.2
                              subst hQ
                              refine W.widen (k := 0) (n := 0) (Nat.le_of_ble_eq_true rfl) (Nat.le_of_ble_eq_true rfl) ?_
                              exact W.vret hx hb hr (fun tS htS _ => ⟨⟨_, rfl, ⟨axx_360, (-1), htx_4, ctx_5, fvalx_348, rfl, ⟨(show axx_360 ≤ ln by omega), (show htx_4 ≤ 3 by omega), (show ctx_5 ≤ 3 by omega), (hf_350), (cl_end hf_7.2.2.2.1.symm (show cl_15 < 7 by omega) (hR_355.trans (itR_end (f := 0) hf_362 (show ¬ axx_360 < ln by omega))) (fun q => absurd q.1 (show ¬ axx_360 < ln by omega))).1, (cl_end hf_7.2.2.2.1.symm (show cl_15 < 7 by omega) (hR_355.trans (itR_end (f := 0) hf_362 (show ¬ axx_360 < ln by omega))) (fun q => absurd q.1 (show ¬ axx_360 < ln by omega))).2.1, (fun _ => ⟨(cl_end hf_7.2.2.2.1.symm (show cl_15 < 7 by omega) (hR_355.trans (itR_end (f := 0) hf_362 (show ¬ axx_360 < ln by omega))) (fun q => absurd q.1 (show ¬ axx_360 < ln by omega))).2.2, show ax < axx_360 by omega⟩), (fun _ => ((clW_cl hf_7.2.2.2.1.symm (show cl_15 < 7 by omega)).trans (hW_357.trans (itW_end (f := 0) hf_362 (show ¬ axx_360 < ln by omega)))).symm)⟩⟩, by rw [htS]; exact hP9, hD9⟩, hS.F htS⟩) hS.2.2 dX4_readClause_52
                            · skip
                              have cn_366 : axx_360 < ln := Nat.lt_of_not_le (fun q9 => cb_364 ((nI_leI (show ln < 2 ^ 31 by omega) (show axx_360 < 2 ^ 31 by omega)).mpr q9))
                              refine lv_aload_n hx hb dX4_readClause_38 rfl (lv_at hl 4 rfl) ?_
                              refine va_get (D := D) (ci := 4) (v := .ref Tp) (C := RX4) (T := TX4) (N := 7) hx hb hts iX4 hown hK hP 1 rfl rfl 0 (by decide) f9 (fun _ h9 => h9) rfl dX4_readClause_39 ?_
                              refine lv_aload_n hx hb dX4_readClause_42 rfl (lv_at hl 4 rfl) ?_
                              refine va_get (D := D) (ci := 4) (v := .int (nI axx_360)) (C := RX4) (T := TX4) (N := 7) hx hb hts iX4 hown hK hP 1 rfl rfl 2 (by decide) f28 (fun _ h9 => h9) rfl dX4_readClause_43 ?_
                              refine va_iald hx hb hK hP 2 0 rfl rfl (vp_in_nI (show axx_360 < 160 by omega) (by decide)) dX4_readClause_46 ?_
                              refine lv_eqi (y := (ftp (axx_360))) (congrArg ftp (nI_clamp (show axx_360 < 2 ^ 31 by omega))) ?_
                              refine lv_bipush (v := 59) hx hb dX4_readClause_47 (by decide) ?_
                              refine lv_icmp_ne (tgt := 53) hx hb dX4_readClause_49 (by decide) (fun cb_367 => ?_) (fun cb_367 => ?_)
                              · skip
                                refine lv_iload_n hx hb dX4_readClause_53 rfl (lv_at hl 3 rfl) ?_
                                refine ky_Si (As := [.int (nI cl_15)]) (rest := []) ⟨hx, hb, hml, hown, hts⟩ ⟨hK, hN⟩ hZ hP hD hS hA [] [0, 1, 2] (wc := []) (wr := [(Rv, .inl (g 0, 21, .inl fvalx_348)), (Rd, .inr (4, [.ref Tp, .int (nI ln), .int (nI axx_360), .int (-1), .int (nI htx_4), .int (nI ctx_5), .ref Rv])), (Tp, .inl (g 0, 160, .inl ftp))]) rfl rfl rfl rfl (by decide) (r_X4_kindOf l D g H.size cl_15 (show cl_15 < 7 by omega)) (va_cwS 1 hts gX4_readClause_X4_kindOf rfl rfl rfl (by decide +kernel) ⟨(Nat.le_of_ble_eq_true rfl), (Nat.le_of_ble_eq_true rfl)⟩) rfl hl.1 rfl (Nat.le_of_ble_eq_true rfl) dX4_readClause_54 ⟨(Nat.le_of_ble_eq_true rfl), (Nat.le_of_ble_eq_true rfl)⟩ (fun r_368 u H locs hw hP2 hD2 hS2 => ?_)
                                clear hP hD hS
                                obtain ⟨rfl, rfl⟩ := hw
                                have hPD : PD D A [(Rv, .inl (g 0, 21, .inl fvalx_348)), (Rd, .inr (4, [.ref Tp, .int (nI ln), .int (nI axx_360), .int (-1), .int (nI htx_4), .int (nI ctx_5), .ref Rv])), (Tp, .inl (g 0, 160, .inl ftp))] H := ⟨hP2, hD2⟩
                                have hS := hS2; clear hP2 hD2 hS2; have hP := hPD.1; have hD := hPD.2; clear hPD
                                refine W.widen (k := 0) (n := 0) (Nat.le_of_ble_eq_true rfl) (Nat.le_of_ble_eq_true rfl) ?_
                                refine lv_aload_n hx hb dX4_readClause_57 rfl (lv_at hl 4 rfl) ?_
                                refine va_get (D := D) (ci := 4) (v := .ref Tp) (C := RX4) (T := TX4) (N := 7) hx hb hts iX4 hown hK hP 1 rfl rfl 0 (by decide) f9 (fun _ h9 => h9) rfl dX4_readClause_58 ?_
                                refine lv_aload_n hx hb dX4_readClause_61 rfl (lv_at hl 4 rfl) ?_
                                refine va_get (D := D) (ci := 4) (v := .int (nI axx_360)) (C := RX4) (T := TX4) (N := 7) hx hb hts iX4 hown hK hP 1 rfl rfl 2 (by decide) f28 (fun _ h9 => h9) rfl dX4_readClause_62 ?_
                                refine va_iald hx hb hK hP 2 0 rfl rfl (vp_in_nI (show axx_360 < 160 by omega) (by decide)) dX4_readClause_65 ?_
                                refine lv_eqi (y := (ftp (axx_360))) (congrArg ftp (nI_clamp (show axx_360 < 2 ^ 31 by omega))) ?_
                                refine ky_Si (As := [.int (nI (kdN cl_15)), .int (ftp (axx_360))]) (rest := []) ⟨hx, hb, hml, hown, hts⟩ ⟨hK, hN⟩ hZ hP hD hS hA [] [0, 1, 2] (wc := []) (wr := [(Rv, .inl (g 0, 21, .inl fvalx_348)), (Rd, .inr (4, [.ref Tp, .int (nI ln), .int (nI axx_360), .int (-1), .int (nI htx_4), .int (nI ctx_5), .ref Rv])), (Tp, .inl (g 0, 160, .inl ftp))]) rfl rfl rfl rfl (by decide) (r_X4_itemOf l D g H.size (kdN cl_15) (ftp (axx_360)) (show (kdN cl_15) < 3 by omega)) (va_cwS 2 hts gX4_readClause_X4_itemOf rfl rfl rfl (by decide +kernel) ⟨(Nat.le_of_ble_eq_true rfl), (Nat.le_of_ble_eq_true rfl)⟩) rfl hl.1 rfl (Nat.le_of_ble_eq_true rfl) dX4_readClause_66 ⟨(Nat.le_of_ble_eq_true rfl), (Nat.le_of_ble_eq_true rfl)⟩ (fun r_369 u H locs hw hP2 hD2 hS2 => ?_)
                                clear hP hD hS
                                obtain ⟨rfl, rfl⟩ := hw
                                have hPD : PD D A [(Rv, .inl (g 0, 21, .inl fvalx_348)), (Rd, .inr (4, [.ref Tp, .int (nI ln), .int (nI axx_360), .int (-1), .int (nI htx_4), .int (nI ctx_5), .ref Rv])), (Tp, .inl (g 0, 160, .inl ftp))] H := ⟨hP2, hD2⟩
                                have hS := hS2; clear hP2 hD2 hS2; have hP := hPD.1; have hD := hPD.2; clear hPD
                                refine W.widen (k := 0) (n := 0) (Nat.le_of_ble_eq_true rfl) (Nat.le_of_ble_eq_true rfl) ?_
                                rcases itK_c (kdN cl_15) (ftp (axx_360)) with qi_370 | qi_370 | qi_370 | qi_370
                                · skip
                                  refine lv_eqi (y := (-1)) (qi_370) ?_
                                  refine lv_istore (lv' := [(5, .int (-1)), (4, .int 3), (3, .int 7), (2, .int (nI cl_15)), (0, .ref Rd), (1, .int zf)]) hx hb dX4_readClause_69 hl (by decide) rfl (fun ls hl => ?_)
                                  refine lv_iload hx hb dX4_readClause_71 (lv_at hl 0 rfl) ?_
                                  refine lv_iconst (v := (-1)) hx hb dX4_readClause_73 (by decide) ?_
                                  refine lv_icmp_eq (tgt := 86) hx hb dX4_readClause_74 (by decide) (fun _ => ?_) (fun cb => absurd (by decide) cb)
                                  refine lv_aload_n hx hb dX4_readClause_86 rfl (lv_at hl 4 rfl) ?_
                                  refine lv_aload_n hx hb dX4_readClause_87 rfl (lv_at hl 4 rfl) ?_
                                  refine va_get (D := D) (ci := 4) (v := .int (nI axx_360)) (C := RX4) (T := TX4) (N := 7) hx hb hts iX4 hown hK hP 1 rfl rfl 2 (by decide) f28 (fun _ h9 => h9) rfl dX4_readClause_88 ?_
                                  refine va_put (D := D) (ci := 4) (v := .int (nI axx_360)) (ty := .int) (C := RX4) (T := TX4) (N := 7) hx hb hts iX4 tyX4 tyX4_ok nmX4 hown hK hP hD hS 1 rfl rfl 3 (by decide) f31 (fun _ h9 => h9) rfl (by decide +kernel) (rfl) (rfl) (Nat.le_of_ble_eq_true rfl) dX4_readClause_91 (fun H locs hP2 hD2 hS2 => ?_)
                                  clear hP hD hS
                                  have hPD : PD D A [(Rv, .inl (g 0, 21, .inl fvalx_348)), (Rd, .inr (4, [.ref Tp, .int (nI ln), .int (nI axx_360), .int (nI axx_360), .int (nI htx_4), .int (nI ctx_5), .ref Rv])), (Tp, .inl (g 0, 160, .inl ftp))] H := ⟨hP2, hD2⟩
                                  have hS := hS2; clear hP2 hD2 hS2; have hP := hPD.1; have hD := hPD.2; clear hPD
                                  have hPD9 : PD D A [(Rd, .inr (4, [.ref Tp, .int (nI ln), .int (nI axx_360), .int (nI axx_360), .int (nI htx_4), .int (nI ctx_5), .ref Rv])), (Tp, .inl (g 0, 160, .inl ftp)), (Rv, .inl (g 0, 21, .inl fvalx_348))] H := ⟨hP.sub [1, 2, 0] rfl, hD.sub [1, 2, 0] (by decide) rfl⟩
                                  have hP9 := hPD9.1; have hD9 := hPD9.2
                                  subst hQ
                                  refine W.widen (k := 0) (n := 0) (Nat.le_of_ble_eq_true rfl) (Nat.le_of_ble_eq_true rfl) ?_
                                  exact W.vret hx hb hr (fun tS htS _ => ⟨⟨_, rfl, ⟨axx_360, (nI axx_360), htx_4, ctx_5, fvalx_348, rfl, ⟨(show axx_360 ≤ ln by omega), (show htx_4 ≤ 3 by omega), (show ctx_5 ≤ 3 by omega), (hf_350), (cl_bad hf_7.2.2.2.1.symm (show cl_15 < 7 by omega) (hR_355.trans (itR_no (f := 0) hf_362 qi_370)) (show axx_360 < ln by omega) cb_367).1, (cl_bad hf_7.2.2.2.1.symm (show cl_15 < 7 by omega) (hR_355.trans (itR_no (f := 0) hf_362 qi_370)) (show axx_360 < ln by omega) cb_367).2, (fun q => absurd q (m1_ne (show axx_360 < 2 ^ 31 by omega))), (fun q => absurd q (m1_ne (show axx_360 < 2 ^ 31 by omega)))⟩⟩, by rw [htS]; exact hP9, hD9⟩, hS.F htS⟩) hS.2.2 dX4_readClause_94
                                · skip
                                  refine lv_eqi (y := 0) (qi_370) ?_
                                  refine lv_istore (lv' := [(5, .int 0), (4, .int 3), (3, .int 7), (2, .int (nI cl_15)), (0, .ref Rd), (1, .int zf)]) hx hb dX4_readClause_69 hl (by decide) rfl (fun ls hl => ?_)
                                  refine lv_iload hx hb dX4_readClause_71 (lv_at hl 0 rfl) ?_
                                  refine lv_iconst (v := (-1)) hx hb dX4_readClause_73 (by decide) ?_
                                  refine lv_icmp_eq (tgt := 86) hx hb dX4_readClause_74 (by decide) (fun cb => absurd cb (by decide)) (fun _ => ?_)
                                  refine lv_iload_n hx hb dX4_readClause_77 rfl (lv_at hl 2 rfl) ?_
                                  refine lv_iconst (v := 1) hx hb dX4_readClause_78 (by decide) ?_
                                  refine lv_iload hx hb dX4_readClause_79 (lv_at hl 0 rfl) ?_
                                  refine lv_ishl hx hb dX4_readClause_81 ?_
                                  refine lv_eqi (y := 1) (by decide) ?_
                                  refine lv_iand hx hb dX4_readClause_82 ?_
                                  refine lv_eqi (y := 1) (by decide) ?_
                                  refine lv_if_eq (tgt := 95) hx hb dX4_readClause_83 (by decide) (fun cb => absurd cb (by decide)) (fun _ => ?_)
                                  refine lv_aload_n hx hb dX4_readClause_86 rfl (lv_at hl 4 rfl) ?_
                                  refine lv_aload_n hx hb dX4_readClause_87 rfl (lv_at hl 4 rfl) ?_
                                  refine va_get (D := D) (ci := 4) (v := .int (nI axx_360)) (C := RX4) (T := TX4) (N := 7) hx hb hts iX4 hown hK hP 1 rfl rfl 2 (by decide) f28 (fun _ h9 => h9) rfl dX4_readClause_88 ?_
                                  refine va_put (D := D) (ci := 4) (v := .int (nI axx_360)) (ty := .int) (C := RX4) (T := TX4) (N := 7) hx hb hts iX4 tyX4 tyX4_ok nmX4 hown hK hP hD hS 1 rfl rfl 3 (by decide) f31 (fun _ h9 => h9) rfl (by decide +kernel) (rfl) (rfl) (Nat.le_of_ble_eq_true rfl) dX4_readClause_91 (fun H locs hP2 hD2 hS2 => ?_)
                                  clear hP hD hS
                                  have hPD : PD D A [(Rv, .inl (g 0, 21, .inl fvalx_348)), (Rd, .inr (4, [.ref Tp, .int (nI ln), .int (nI axx_360), .int (nI axx_360), .int (nI htx_4), .int (nI ctx_5), .ref Rv])), (Tp, .inl (g 0, 160, .inl ftp))] H := ⟨hP2, hD2⟩
                                  have hS := hS2; clear hP2 hD2 hS2; have hP := hPD.1; have hD := hPD.2; clear hPD
                                  have hPD9 : PD D A [(Rd, .inr (4, [.ref Tp, .int (nI ln), .int (nI axx_360), .int (nI axx_360), .int (nI htx_4), .int (nI ctx_5), .ref Rv])), (Tp, .inl (g 0, 160, .inl ftp)), (Rv, .inl (g 0, 21, .inl fvalx_348))] H := ⟨hP.sub [1, 2, 0] rfl, hD.sub [1, 2, 0] (by decide) rfl⟩
                                  have hP9 := hPD9.1; have hD9 := hPD9.2
                                  subst hQ
                                  refine W.widen (k := 0) (n := 0) (Nat.le_of_ble_eq_true rfl) (Nat.le_of_ble_eq_true rfl) ?_
                                  exact W.vret hx hb hr (fun tS htS _ => ⟨⟨_, rfl, ⟨axx_360, (nI axx_360), htx_4, ctx_5, fvalx_348, rfl, ⟨(show axx_360 ≤ ln by omega), (show htx_4 ≤ 3 by omega), (show ctx_5 ≤ 3 by omega), (hf_350), (cl_bad hf_7.2.2.2.1.symm (show cl_15 < 7 by omega) (hR_355.trans (itR_again (f := 0) (q := 0) hf_362 qi_370 (by decide) (by decide))) (show axx_360 < ln by omega) cb_367).1, (cl_bad hf_7.2.2.2.1.symm (show cl_15 < 7 by omega) (hR_355.trans (itR_again (f := 0) (q := 0) hf_362 qi_370 (by decide) (by decide))) (show axx_360 < ln by omega) cb_367).2, (fun q => absurd q (m1_ne (show axx_360 < 2 ^ 31 by omega))), (fun q => absurd q (m1_ne (show axx_360 < 2 ^ 31 by omega)))⟩⟩, by rw [htS]; exact hP9, hD9⟩, hS.F htS⟩) hS.2.2 dX4_readClause_94
                                · skip
                                  refine lv_eqi (y := 1) (qi_370) ?_
                                  refine lv_istore (lv' := [(5, .int 1), (4, .int 3), (3, .int 7), (2, .int (nI cl_15)), (0, .ref Rd), (1, .int zf)]) hx hb dX4_readClause_69 hl (by decide) rfl (fun ls hl => ?_)
                                  refine lv_iload hx hb dX4_readClause_71 (lv_at hl 0 rfl) ?_
                                  refine lv_iconst (v := (-1)) hx hb dX4_readClause_73 (by decide) ?_
                                  refine lv_icmp_eq (tgt := 86) hx hb dX4_readClause_74 (by decide) (fun cb => absurd cb (by decide)) (fun _ => ?_)
                                  refine lv_iload_n hx hb dX4_readClause_77 rfl (lv_at hl 2 rfl) ?_
                                  refine lv_iconst (v := 1) hx hb dX4_readClause_78 (by decide) ?_
                                  refine lv_iload hx hb dX4_readClause_79 (lv_at hl 0 rfl) ?_
                                  refine lv_ishl hx hb dX4_readClause_81 ?_
                                  refine lv_eqi (y := 2) (by decide) ?_
                                  refine lv_iand hx hb dX4_readClause_82 ?_
                                  refine lv_eqi (y := 2) (by decide) ?_
                                  refine lv_if_eq (tgt := 95) hx hb dX4_readClause_83 (by decide) (fun cb => absurd cb (by decide)) (fun _ => ?_)
                                  refine lv_aload_n hx hb dX4_readClause_86 rfl (lv_at hl 4 rfl) ?_
                                  refine lv_aload_n hx hb dX4_readClause_87 rfl (lv_at hl 4 rfl) ?_
                                  refine va_get (D := D) (ci := 4) (v := .int (nI axx_360)) (C := RX4) (T := TX4) (N := 7) hx hb hts iX4 hown hK hP 1 rfl rfl 2 (by decide) f28 (fun _ h9 => h9) rfl dX4_readClause_88 ?_
                                  refine va_put (D := D) (ci := 4) (v := .int (nI axx_360)) (ty := .int) (C := RX4) (T := TX4) (N := 7) hx hb hts iX4 tyX4 tyX4_ok nmX4 hown hK hP hD hS 1 rfl rfl 3 (by decide) f31 (fun _ h9 => h9) rfl (by decide +kernel) (rfl) (rfl) (Nat.le_of_ble_eq_true rfl) dX4_readClause_91 (fun H locs hP2 hD2 hS2 => ?_)
                                  clear hP hD hS
                                  have hPD : PD D A [(Rv, .inl (g 0, 21, .inl fvalx_348)), (Rd, .inr (4, [.ref Tp, .int (nI ln), .int (nI axx_360), .int (nI axx_360), .int (nI htx_4), .int (nI ctx_5), .ref Rv])), (Tp, .inl (g 0, 160, .inl ftp))] H := ⟨hP2, hD2⟩
                                  have hS := hS2; clear hP2 hD2 hS2; have hP := hPD.1; have hD := hPD.2; clear hPD
                                  have hPD9 : PD D A [(Rd, .inr (4, [.ref Tp, .int (nI ln), .int (nI axx_360), .int (nI axx_360), .int (nI htx_4), .int (nI ctx_5), .ref Rv])), (Tp, .inl (g 0, 160, .inl ftp)), (Rv, .inl (g 0, 21, .inl fvalx_348))] H := ⟨hP.sub [1, 2, 0] rfl, hD.sub [1, 2, 0] (by decide) rfl⟩
                                  have hP9 := hPD9.1; have hD9 := hPD9.2
                                  subst hQ
                                  refine W.widen (k := 0) (n := 0) (Nat.le_of_ble_eq_true rfl) (Nat.le_of_ble_eq_true rfl) ?_
                                  exact W.vret hx hb hr (fun tS htS _ => ⟨⟨_, rfl, ⟨axx_360, (nI axx_360), htx_4, ctx_5, fvalx_348, rfl, ⟨(show axx_360 ≤ ln by omega), (show htx_4 ≤ 3 by omega), (show ctx_5 ≤ 3 by omega), (hf_350), (cl_bad hf_7.2.2.2.1.symm (show cl_15 < 7 by omega) (hR_355.trans (itR_again (f := 0) (q := 1) hf_362 qi_370 (by decide) (by decide))) (show axx_360 < ln by omega) cb_367).1, (cl_bad hf_7.2.2.2.1.symm (show cl_15 < 7 by omega) (hR_355.trans (itR_again (f := 0) (q := 1) hf_362 qi_370 (by decide) (by decide))) (show axx_360 < ln by omega) cb_367).2, (fun q => absurd q (m1_ne (show axx_360 < 2 ^ 31 by omega))), (fun q => absurd q (m1_ne (show axx_360 < 2 ^ 31 by omega)))⟩⟩, by rw [htS]; exact hP9, hD9⟩, hS.F htS⟩) hS.2.2 dX4_readClause_94
                                · skip
                                  refine lv_eqi (y := 2) (qi_370) ?_
                                  refine lv_istore (lv' := [(5, .int 2), (4, .int 3), (3, .int 7), (2, .int (nI cl_15)), (0, .ref Rd), (1, .int zf)]) hx hb dX4_readClause_69 hl (by decide) rfl (fun ls hl => ?_)
                                  refine lv_iload hx hb dX4_readClause_71 (lv_at hl 0 rfl) ?_
                                  refine lv_iconst (v := (-1)) hx hb dX4_readClause_73 (by decide) ?_
                                  refine lv_icmp_eq (tgt := 86) hx hb dX4_readClause_74 (by decide) (fun cb => absurd cb (by decide)) (fun _ => ?_)
                                  refine lv_iload_n hx hb dX4_readClause_77 rfl (lv_at hl 2 rfl) ?_
                                  refine lv_iconst (v := 1) hx hb dX4_readClause_78 (by decide) ?_
                                  refine lv_iload hx hb dX4_readClause_79 (lv_at hl 0 rfl) ?_
                                  refine lv_ishl hx hb dX4_readClause_81 ?_
                                  refine lv_eqi (y := 4) (by decide) ?_
                                  refine lv_iand hx hb dX4_readClause_82 ?_
                                  refine lv_eqi (y := 4) (by decide) ?_
                                  refine lv_if_eq (tgt := 95) hx hb dX4_readClause_83 (by decide) (fun cb => absurd cb (by decide)) (fun _ => ?_)
                                  refine lv_aload_n hx hb dX4_readClause_86 rfl (lv_at hl 4 rfl) ?_
                                  refine lv_aload_n hx hb dX4_readClause_87 rfl (lv_at hl 4 rfl) ?_
                                  refine va_get (D := D) (ci := 4) (v := .int (nI axx_360)) (C := RX4) (T := TX4) (N := 7) hx hb hts iX4 hown hK hP 1 rfl rfl 2 (by decide) f28 (fun _ h9 => h9) rfl dX4_readClause_88 ?_
                                  refine va_put (D := D) (ci := 4) (v := .int (nI axx_360)) (ty := .int) (C := RX4) (T := TX4) (N := 7) hx hb hts iX4 tyX4 tyX4_ok nmX4 hown hK hP hD hS 1 rfl rfl 3 (by decide) f31 (fun _ h9 => h9) rfl (by decide +kernel) (rfl) (rfl) (Nat.le_of_ble_eq_true rfl) dX4_readClause_91 (fun H locs hP2 hD2 hS2 => ?_)
                                  clear hP hD hS
                                  have hPD : PD D A [(Rv, .inl (g 0, 21, .inl fvalx_348)), (Rd, .inr (4, [.ref Tp, .int (nI ln), .int (nI axx_360), .int (nI axx_360), .int (nI htx_4), .int (nI ctx_5), .ref Rv])), (Tp, .inl (g 0, 160, .inl ftp))] H := ⟨hP2, hD2⟩
                                  have hS := hS2; clear hP2 hD2 hS2; have hP := hPD.1; have hD := hPD.2; clear hPD
                                  have hPD9 : PD D A [(Rd, .inr (4, [.ref Tp, .int (nI ln), .int (nI axx_360), .int (nI axx_360), .int (nI htx_4), .int (nI ctx_5), .ref Rv])), (Tp, .inl (g 0, 160, .inl ftp)), (Rv, .inl (g 0, 21, .inl fvalx_348))] H := ⟨hP.sub [1, 2, 0] rfl, hD.sub [1, 2, 0] (by decide) rfl⟩
                                  have hP9 := hPD9.1; have hD9 := hPD9.2
                                  subst hQ
                                  refine W.widen (k := 0) (n := 0) (Nat.le_of_ble_eq_true rfl) (Nat.le_of_ble_eq_true rfl) ?_
                                  exact W.vret hx hb hr (fun tS htS _ => ⟨⟨_, rfl, ⟨axx_360, (nI axx_360), htx_4, ctx_5, fvalx_348, rfl, ⟨(show axx_360 ≤ ln by omega), (show htx_4 ≤ 3 by omega), (show ctx_5 ≤ 3 by omega), (hf_350), (cl_bad hf_7.2.2.2.1.symm (show cl_15 < 7 by omega) (hR_355.trans (itR_again (f := 0) (q := 2) hf_362 qi_370 (by decide) (by decide))) (show axx_360 < ln by omega) cb_367).1, (cl_bad hf_7.2.2.2.1.symm (show cl_15 < 7 by omega) (hR_355.trans (itR_again (f := 0) (q := 2) hf_362 qi_370 (by decide) (by decide))) (show axx_360 < ln by omega) cb_367).2, (fun q => absurd q (m1_ne (show axx_360 < 2 ^ 31 by omega))), (fun q => absurd q (m1_ne (show axx_360 < 2 ^ 31 by omega)))⟩⟩, by rw [htS]; exact hP9, hD9⟩, hS.F htS⟩) hS.2.2 dX4_readClause_94
                              · skip
                                have hPD9 : PD D A [(Rd, .inr (4, [.ref Tp, .int (nI ln), .int (nI axx_360), .int (-1), .int (nI htx_4), .int (nI ctx_5), .ref Rv])), (Tp, .inl (g 0, 160, .inl ftp)), (Rv, .inl (g 0, 21, .inl fvalx_348))] H := ⟨hP.sub [1, 2, 0] rfl, hD.sub [1, 2, 0] (by decide) rfl⟩
                                have hP9 := hPD9.1; have hD9 := hPD9.2
                                subst hQ
                                refine W.widen (k := 0) (n := 0) (Nat.le_of_ble_eq_true rfl) (Nat.le_of_ble_eq_true rfl) ?_
                                exact W.vret hx hb hr (fun tS htS _ => ⟨⟨_, rfl, ⟨axx_360, (-1), htx_4, ctx_5, fvalx_348, rfl, ⟨(show axx_360 ≤ ln by omega), (show htx_4 ≤ 3 by omega), (show ctx_5 ≤ 3 by omega), (hf_350), (cl_end hf_7.2.2.2.1.symm (show cl_15 < 7 by omega) (hR_355.trans (itR_no (f := 0) hf_362 (by rw [cb_367]; exact itK_59 _))) (fun q => q.2 cb_367)).1, (cl_end hf_7.2.2.2.1.symm (show cl_15 < 7 by omega) (hR_355.trans (itR_no (f := 0) hf_362 (by rw [cb_367]; exact itK_59 _))) (fun q => q.2 cb_367)).2.1, (fun _ => ⟨(cl_end hf_7.2.2.2.1.symm (show cl_15 < 7 by omega) (hR_355.trans (itR_no (f := 0) hf_362 (by rw [cb_367]; exact itK_59 _))) (fun q => q.2 cb_367)).2.2, show ax < axx_360 by omega⟩), (fun _ => ((clW_cl hf_7.2.2.2.1.symm (show cl_15 < 7 by omega)).trans (hW_357.trans (itW_no (f := 0) hf_362 (by rw [cb_367]; exact itK_59 _)))).symm)⟩⟩, by rw [htS]; exact hP9, hD9⟩, hS.F htS⟩) hS.2.2 dX4_readClause_52
                          · skip
                            have hP9 := hP; have hD9 := hD
                            subst hQ
                            refine W.widen (k := 0) (n := 0) (Nat.le_of_ble_eq_true rfl) (Nat.le_of_ble_eq_true rfl) ?_
                            exact W.vret hx hb hr (fun tS htS _ => ⟨⟨_, rfl, ⟨axx_346, zfax_347, htx_4, ctx_5, fvalx_348, rfl, ⟨(show axx_346 ≤ ln by omega), (show htx_4 ≤ 3 by omega), (show ctx_5 ≤ 3 by omega), (hf_350), (cl_num hf_7.2.2.2.1.symm (show cl_15 < 7 by omega) ((congrArg Prod.fst hR_329).trans ((itR_w (f := 1) (q := 1) hf_336 (show axx_334 < ln by omega) qi_344 (by decide) (by decide) (fun q => cb_353 (hf_351.trans q))).trans hf_351.symm)) cb_353).1, (cl_num hf_7.2.2.2.1.symm (show cl_15 < 7 by omega) ((congrArg Prod.fst hR_329).trans ((itR_w (f := 1) (q := 1) hf_336 (show axx_334 < ln by omega) qi_344 (by decide) (by decide) (fun q => cb_353 (hf_351.trans q))).trans hf_351.symm)) cb_353).2, (fun q => absurd q cb_353), (fun q => absurd q cb_353)⟩⟩, by rw [htS]; exact hP9, hD9⟩, hS.F htS⟩) hS.2.2 dX4_readClause_127
                        · skip
                          refine lv_eqi (y := 2) (qi_344) ?_
                          refine lv_istore (lv' := [(5, .int 2), (4, .int 2), (3, .int 5), (2, .int (nI cl_15)), (0, .ref Rd), (1, .int zf)]) hx hb dX4_readClause_69 hl (by decide) rfl (fun ls hl => ?_)
                          refine lv_iload hx hb dX4_readClause_71 (lv_at hl 0 rfl) ?_
                          refine lv_iconst (v := (-1)) hx hb dX4_readClause_73 (by decide) ?_
                          refine lv_icmp_eq (tgt := 86) hx hb dX4_readClause_74 (by decide) (fun cb => absurd cb (by decide)) (fun _ => ?_)
                          refine lv_iload_n hx hb dX4_readClause_77 rfl (lv_at hl 2 rfl) ?_
                          refine lv_iconst (v := 1) hx hb dX4_readClause_78 (by decide) ?_
                          refine lv_iload hx hb dX4_readClause_79 (lv_at hl 0 rfl) ?_
                          refine lv_ishl hx hb dX4_readClause_81 ?_
                          refine lv_eqi (y := 4) (by decide) ?_
                          refine lv_iand hx hb dX4_readClause_82 ?_
                          refine lv_eqi (y := 4) (by decide) ?_
                          refine lv_if_eq (tgt := 95) hx hb dX4_readClause_83 (by decide) (fun cb => absurd cb (by decide)) (fun _ => ?_)
                          refine lv_aload_n hx hb dX4_readClause_86 rfl (lv_at hl 4 rfl) ?_
                          refine lv_aload_n hx hb dX4_readClause_87 rfl (lv_at hl 4 rfl) ?_
                          refine va_get (D := D) (ci := 4) (v := .int (nI axx_334)) (C := RX4) (T := TX4) (N := 7) hx hb hts iX4 hown hK hP 1 rfl rfl 2 (by decide) f28 (fun _ h9 => h9) rfl dX4_readClause_88 ?_
                          refine va_put (D := D) (ci := 4) (v := .int (nI axx_334)) (ty := .int) (C := RX4) (T := TX4) (N := 7) hx hb hts iX4 tyX4 tyX4_ok nmX4 hown hK hP hD hS 1 rfl rfl 3 (by decide) f31 (fun _ h9 => h9) rfl (by decide +kernel) (rfl) (rfl) (Nat.le_of_ble_eq_true rfl) dX4_readClause_91 (fun H locs hP2 hD2 hS2 => ?_)
                          clear hP hD hS
                          have hPD : PD D A [(Rv, .inl (g 0, 21, .inl fvalx_322)), (Rd, .inr (4, [.ref Tp, .int (nI ln), .int (nI axx_334), .int (nI axx_334), .int (nI htx_4), .int (nI ctx_5), .ref Rv])), (Tp, .inl (g 0, 160, .inl ftp))] H := ⟨hP2, hD2⟩
                          have hS := hS2; clear hP2 hD2 hS2; have hP := hPD.1; have hD := hPD.2; clear hPD
                          have hPD9 : PD D A [(Rd, .inr (4, [.ref Tp, .int (nI ln), .int (nI axx_334), .int (nI axx_334), .int (nI htx_4), .int (nI ctx_5), .ref Rv])), (Tp, .inl (g 0, 160, .inl ftp)), (Rv, .inl (g 0, 21, .inl fvalx_322))] H := ⟨hP.sub [1, 2, 0] rfl, hD.sub [1, 2, 0] (by decide) rfl⟩
                          have hP9 := hPD9.1; have hD9 := hPD9.2
                          subst hQ
                          refine W.widen (k := 0) (n := 0) (Nat.le_of_ble_eq_true rfl) (Nat.le_of_ble_eq_true rfl) ?_
                          exact W.vret hx hb hr (fun tS htS _ => ⟨⟨_, rfl, ⟨axx_334, (nI axx_334), htx_4, ctx_5, fvalx_322, rfl, ⟨(show axx_334 ≤ ln by omega), (show htx_4 ≤ 3 by omega), (show ctx_5 ≤ 3 by omega), (hf_324), (cl_bad hf_7.2.2.2.1.symm (show cl_15 < 7 by omega) (hR_329.trans (itR_again (f := 1) (q := 2) hf_336 qi_344 (by decide) (by decide))) (show axx_334 < ln by omega) cb_341).1, (cl_bad hf_7.2.2.2.1.symm (show cl_15 < 7 by omega) (hR_329.trans (itR_again (f := 1) (q := 2) hf_336 qi_344 (by decide) (by decide))) (show axx_334 < ln by omega) cb_341).2, (fun q => absurd q (m1_ne (show axx_334 < 2 ^ 31 by omega))), (fun q => absurd q (m1_ne (show axx_334 < 2 ^ 31 by omega)))⟩⟩, by rw [htS]; exact hP9, hD9⟩, hS.F htS⟩) hS.2.2 dX4_readClause_94
                      · skip
                        have hPD9 : PD D A [(Rd, .inr (4, [.ref Tp, .int (nI ln), .int (nI axx_334), .int (-1), .int (nI htx_4), .int (nI ctx_5), .ref Rv])), (Tp, .inl (g 0, 160, .inl ftp)), (Rv, .inl (g 0, 21, .inl fvalx_322))] H := ⟨hP.sub [1, 2, 0] rfl, hD.sub [1, 2, 0] (by decide) rfl⟩
                        have hP9 := hPD9.1; have hD9 := hPD9.2
                        subst hQ
                        refine W.widen (k := 0) (n := 0) (Nat.le_of_ble_eq_true rfl) (Nat.le_of_ble_eq_true rfl) ?_
                        exact W.vret hx hb hr (fun tS htS _ => ⟨⟨_, rfl, ⟨axx_334, (-1), htx_4, ctx_5, fvalx_322, rfl, ⟨(show axx_334 ≤ ln by omega), (show htx_4 ≤ 3 by omega), (show ctx_5 ≤ 3 by omega), (hf_324), (cl_end hf_7.2.2.2.1.symm (show cl_15 < 7 by omega) (hR_329.trans (itR_no (f := 1) hf_336 (by rw [cb_341]; exact itK_59 _))) (fun q => q.2 cb_341)).1, (cl_end hf_7.2.2.2.1.symm (show cl_15 < 7 by omega) (hR_329.trans (itR_no (f := 1) hf_336 (by rw [cb_341]; exact itK_59 _))) (fun q => q.2 cb_341)).2.1, (fun _ => ⟨(cl_end hf_7.2.2.2.1.symm (show cl_15 < 7 by omega) (hR_329.trans (itR_no (f := 1) hf_336 (by rw [cb_341]; exact itK_59 _))) (fun q => q.2 cb_341)).2.2, show ax < axx_334 by omega⟩), (fun _ => ((clW_cl hf_7.2.2.2.1.symm (show cl_15 < 7 by omega)).trans (hW_331.trans (itW_no (f := 1) hf_336 (by rw [cb_341]; exact itK_59 _)))).symm)⟩⟩, by rw [htS]; exact hP9, hD9⟩, hS.F htS⟩) hS.2.2 dX4_readClause_52
                  · skip
                    have hP9 := hP; have hD9 := hD
                    subst hQ
                    refine W.widen (k := 0) (n := 0) (Nat.le_of_ble_eq_true rfl) (Nat.le_of_ble_eq_true rfl) ?_
                    exact W.vret hx hb hr (fun tS htS _ => ⟨⟨_, rfl, ⟨axx_320, zfax_321, htx_4, ctx_5, fvalx_322, rfl, ⟨(show axx_320 ≤ ln by omega), (show htx_4 ≤ 3 by omega), (show ctx_5 ≤ 3 by omega), (hf_324), (cl_num hf_7.2.2.2.1.symm (show cl_15 < 7 by omega) ((congrArg Prod.fst hR_303).trans ((itR_w (f := 2) (q := 0) hf_310 (show axx_308 < ln by omega) qi_318 (by decide) (by decide) (fun q => cb_327 (hf_325.trans q))).trans hf_325.symm)) cb_327).1, (cl_num hf_7.2.2.2.1.symm (show cl_15 < 7 by omega) ((congrArg Prod.fst hR_303).trans ((itR_w (f := 2) (q := 0) hf_310 (show axx_308 < ln by omega) qi_318 (by decide) (by decide) (fun q => cb_327 (hf_325.trans q))).trans hf_325.symm)) cb_327).2, (fun q => absurd q cb_327), (fun q => absurd q cb_327)⟩⟩, by rw [htS]; exact hP9, hD9⟩, hS.F htS⟩) hS.2.2 dX4_readClause_127
                · skip
                  refine lv_eqi (y := 1) (qi_318) ?_
                  refine lv_istore (lv' := [(5, .int 1), (4, .int 1), (3, .int 4), (2, .int (nI cl_15)), (0, .ref Rd), (1, .int zf)]) hx hb dX4_readClause_69 hl (by decide) rfl (fun ls hl => ?_)
                  refine lv_iload hx hb dX4_readClause_71 (lv_at hl 0 rfl) ?_
                  refine lv_iconst (v := (-1)) hx hb dX4_readClause_73 (by decide) ?_
                  refine lv_icmp_eq (tgt := 86) hx hb dX4_readClause_74 (by decide) (fun cb => absurd cb (by decide)) (fun _ => ?_)
                  refine lv_iload_n hx hb dX4_readClause_77 rfl (lv_at hl 2 rfl) ?_
                  refine lv_iconst (v := 1) hx hb dX4_readClause_78 (by decide) ?_
                  refine lv_iload hx hb dX4_readClause_79 (lv_at hl 0 rfl) ?_
                  refine lv_ishl hx hb dX4_readClause_81 ?_
                  refine lv_eqi (y := 2) (by decide) ?_
                  refine lv_iand hx hb dX4_readClause_82 ?_
                  refine lv_eqi (y := 0) (by decide) ?_
                  refine lv_if_eq (tgt := 95) hx hb dX4_readClause_83 (by decide) (fun _ => ?_) (fun cb => absurd (by decide) cb)
                  refine lv_iload_n hx hb dX4_readClause_95 rfl (lv_at hl 2 rfl) ?_
                  refine lv_iconst (v := 1) hx hb dX4_readClause_96 (by decide) ?_
                  refine lv_iload hx hb dX4_readClause_97 (lv_at hl 0 rfl) ?_
                  refine lv_ishl hx hb dX4_readClause_99 ?_
                  refine lv_eqi (y := 2) (by decide) ?_
                  refine lv_ior hx hb dX4_readClause_100 ?_
                  refine lv_eqi (y := 6) (by decide) ?_
                  refine lv_istore_n (lv' := [(3, .int 6), (5, .int 1), (4, .int 1), (2, .int (nI cl_15)), (0, .ref Rd), (1, .int zf)]) hx hb dX4_readClause_101 rfl hl (by decide) rfl (fun ls hl => ?_)
                  refine lv_aload_n hx hb dX4_readClause_102 rfl (lv_at hl 4 rfl) ?_
                  refine lv_dup hx hb dX4_readClause_103 rfl ?_
                  refine va_get (D := D) (ci := 4) (v := .int (nI axx_308)) (C := RX4) (T := TX4) (N := 7) hx hb hts iX4 hown hK hP 1 rfl rfl 2 (by decide) f28 (fun _ h9 => h9) rfl dX4_readClause_104 ?_
                  refine lv_iconst (v := 1) hx hb dX4_readClause_107 (by decide) ?_
                  refine lv_iadd hx hb dX4_readClause_108 ?_
                  refine lv_eqi (y := (nI (axx_308 + 1))) (nI_add (axx_308) (1)) ?_
                  refine va_put (D := D) (ci := 4) (v := .int (nI (axx_308 + 1))) (ty := .int) (C := RX4) (T := TX4) (N := 7) hx hb hts iX4 tyX4 tyX4_ok nmX4 hown hK hP hD hS 1 rfl rfl 2 (by decide) f28 (fun _ h9 => h9) rfl (by decide +kernel) (rfl) (rfl) (Nat.le_of_ble_eq_true rfl) dX4_readClause_109 (fun H locs hP2 hD2 hS2 => ?_)
                  clear hP hD hS
                  have hPD : PD D A [(Rv, .inl (g 0, 21, .inl fvalx_296)), (Rd, .inr (4, [.ref Tp, .int (nI ln), .int (nI (axx_308 + 1)), .int (-1), .int (nI htx_4), .int (nI ctx_5), .ref Rv])), (Tp, .inl (g 0, 160, .inl ftp))] H := ⟨hP2, hD2⟩
                  have hS := hS2; clear hP2 hD2 hS2; have hP := hPD.1; have hD := hPD.2; clear hPD
                  refine lv_aload_n hx hb dX4_readClause_112 rfl (lv_at hl 4 rfl) ?_
                  refine lv_iload_n hx hb dX4_readClause_113 rfl (lv_at hl 3 rfl) ?_
                  refine lv_iload hx hb dX4_readClause_114 (lv_at hl 1 rfl) ?_
                  refine ky_Vv (As := [.int (nI cl_15), .int 1]) (rest := []) ⟨hx, hb, hml, hown, hts⟩ ⟨hK, hN⟩ hZ hP hD hS hA [1, 2, 0] [] (wc := [(Rd, .inr (4, [.ref Tp, .int (nI ln), .int (nI (axx_308 + 1)), .int (-1), .int (nI htx_4), .int (nI ctx_5), .ref Rv])), (Tp, .inl (g 0, 160, .inl ftp)), (Rv, .inl (g 0, 21, .inl fvalx_296))]) (wr := []) rfl rfl rfl rfl (by decide) (r_X4_readNumber l D g H.size Rd cl_15 1 Tp ln (axx_308 + 1) htx_4 ctx_5 Rv ftp fvalx_296 (show ln ≤ 160 by omega) (show (axx_308 + 1) ≤ ln by omega) (hf_298) (show cl_15 < 7 by omega) (show 1 < 3 by omega)) (cwV 2 hts gX4_readClause_X4_readNumber rfl rfl rfl (by decide +kernel) ⟨(Nat.le_of_ble_eq_true rfl), (Nat.le_of_ble_eq_true rfl)⟩) 1 4 rfl rfl rfl rfl hl.1 rfl (Nat.le_of_ble_eq_true rfl) dX4_readClause_116 ⟨(Nat.le_of_ble_eq_true rfl), (Nat.le_of_ble_eq_true rfl)⟩ (fun u H locs hw hP2 hD2 hS2 => ?_)
                  clear hP hD hS
                  obtain ⟨axx_372, zfax_373, fvalx_374, rfl, hf_375, hf_376, hf_377, hf_378⟩ := hw
                  have hPD : PD D A [(Rd, .inr (4, [.ref Tp, .int (nI ln), .int (nI axx_372), .int zfax_373, .int (nI htx_4), .int (nI ctx_5), .ref Rv])), (Tp, .inl (g 0, 160, .inl ftp)), (Rv, .inl (g 0, 21, .inl fvalx_374))] H := ⟨hP2, hD2⟩
                  have hS := hS2; clear hP2 hD2 hS2; have hP := hPD.1; have hD := hPD.2; clear hPD
                  refine W.widen (k := 0) (n := 0) (Nat.le_of_ble_eq_true rfl) (Nat.le_of_ble_eq_true rfl) ?_
                  refine lv_aload_n hx hb dX4_readClause_119 rfl (lv_at hl 4 rfl) ?_
                  refine va_get (D := D) (ci := 4) (v := .int zfax_373) (C := RX4) (T := TX4) (N := 7) hx hb hts iX4 hown hK hP 0 rfl rfl 3 (by decide) f31 (fun _ h9 => h9) rfl dX4_readClause_120 ?_
                  refine lv_iconst (v := (-1)) hx hb dX4_readClause_123 (by decide) ?_
                  refine lv_icmp_eq (tgt := 128) hx hb dX4_readClause_124 (by decide) (fun cb_379 => ?_) (fun cb_379 => ?_)
                  · skip
                    have hPq_380 := hP; have hDq_380 := hD; have hSq_380 := hS; have hlq_380 := hl; clear hP hD hS hl
                    subst cb_379
                    have hP := hPq_380; have hD := hDq_380; have hS := hSq_380; have hl := hlq_380; clear hPq_380 hDq_380 hSq_380 hlq_380
                    have hne_382 := (hf_378 rfl).1
                    have hne_382g := nmE_gt (T := ftp) (n := ln) (i := axx_308 + 1) (by omega)
                    have hR_381 : itR ftp ln (kdN cl_15) 4 0 (sB ftp ln ax + 1) = itR ftp ln (kdN cl_15) 2 6 axx_372 := hR_303.trans ((itR_go (f := 2) (m := 4) (q := 1) hf_310 (show axx_308 < ln by omega) qi_318 (by decide) (by decide) hf_377.symm).trans (by rw [hne_382]))
                    have hnv_384 := hf_378 rfl
                    have hW_383 : itW ftp ln (kdN cl_15) (3 * cl_15) 4 0 (sB ftp ln ax + 1) fval = itW ftp ln (kdN cl_15) (3 * cl_15) 2 6 axx_372 fvalx_374 := hW_305.trans ((itW_go (f := 2) (m := 4) (q := 1) hf_310 (show axx_308 < ln by omega) qi_318 (by decide) (by decide) hf_377.symm).trans (by rw [hnv_384.1, hnv_384.2]))
                    refine lv_iinc (v := 2) (lv' := [(4, .int 2), (3, .int 6), (5, .int 1), (2, .int (nI cl_15)), (0, .ref Rd), (1, .int zf)]) hx hb dX4_readClause_128 hl (k := 2) rfl (by decide) (by decide) rfl (fun ls hl => ?_)
                    refine lv_goto (tgt := 17) hx hb dX4_readClause_131 (by decide) ?_
                    refine lv_iload hx hb dX4_readClause_17 (lv_at hl 0 rfl) ?_
                    refine lv_iconst (v := 3) hx hb dX4_readClause_19 (by decide) ?_
                    refine lv_icmp_gt (tgt := 134) hx hb dX4_readClause_20 (by decide) (fun cb => absurd cb (by decide)) (fun _ => ?_)
                    refine lv_aload_n hx hb dX4_readClause_23 rfl (lv_at hl 4 rfl) ?_
                    refine ky_Vv (As := []) (rest := []) ⟨hx, hb, hml, hown, hts⟩ ⟨hK, hN⟩ hZ hP hD hS hA [0, 1] [2] (wc := [(Rd, .inr (4, [.ref Tp, .int (nI ln), .int (nI axx_372), .int (-1), .int (nI htx_4), .int (nI ctx_5), .ref Rv])), (Tp, .inl (g 0, 160, .inl ftp))]) (wr := [(Rv, .inl (g 0, 21, .inl fvalx_374))]) rfl rfl rfl rfl (by decide) (r_X4_passBlanks l D g H.size Rd Tp ln axx_372 (-1) htx_4 ctx_5 Rv ftp (show ln ≤ 160 by omega) (show axx_372 ≤ ln by omega)) (cwV 0 hts gX4_readClause_X4_passBlanks rfl rfl rfl (by decide +kernel) ⟨(Nat.le_of_ble_eq_true rfl), (Nat.le_of_ble_eq_true rfl)⟩) 0 4 rfl rfl rfl rfl hl.1 rfl (Nat.le_of_ble_eq_true rfl) dX4_readClause_24 ⟨(Nat.le_of_ble_eq_true rfl), (Nat.le_of_ble_eq_true rfl)⟩ (fun u H locs hw hP2 hD2 hS2 => ?_)
                    clear hP hD hS
                    obtain ⟨axx_386, rfl, hf_387, hf_388⟩ := hw
                    have hPD : PD D A [(Rv, .inl (g 0, 21, .inl fvalx_374)), (Rd, .inr (4, [.ref Tp, .int (nI ln), .int (nI axx_386), .int (-1), .int (nI htx_4), .int (nI ctx_5), .ref Rv])), (Tp, .inl (g 0, 160, .inl ftp))] H := ⟨hP2, hD2⟩
                    have hS := hS2; clear hP2 hD2 hS2; have hP := hPD.1; have hD := hPD.2; clear hPD
                    refine W.widen (k := 0) (n := 0) (Nat.le_of_ble_eq_true rfl) (Nat.le_of_ble_eq_true rfl) ?_
                    have hge_389 := sB_ge (T := ftp) (n := ln) (i := axx_372) (by omega)
                    refine lv_aload_n hx hb dX4_readClause_27 rfl (lv_at hl 4 rfl) ?_
                    refine va_get (D := D) (ci := 4) (v := .int (nI axx_386)) (C := RX4) (T := TX4) (N := 7) hx hb hts iX4 hown hK hP 1 rfl rfl 2 (by decide) f28 (fun _ h9 => h9) rfl dX4_readClause_28 ?_
                    refine lv_aload_n hx hb dX4_readClause_31 rfl (lv_at hl 4 rfl) ?_
                    refine va_get (D := D) (ci := 4) (v := .int (nI ln)) (C := RX4) (T := TX4) (N := 7) hx hb hts iX4 hown hK hP 1 rfl rfl 1 (by decide) f24 (fun _ h9 => h9) rfl dX4_readClause_32 ?_
                    refine lv_icmp_ge (tgt := 52) hx hb dX4_readClause_35 (by decide) (fun cb_390 => ?_) (fun cb_390 => ?_)
                    · skip
                      have cn_391 : ln ≤ axx_386 := (nI_leI (show ln < 2 ^ 31 by omega) (show axx_386 < 2 ^ 31 by omega)).mp cb_390
                      have hPD9 : PD D A [(Rd, .inr (4, [.ref Tp, .int (nI ln), .int (nI axx_386), .int (-1), .int (nI htx_4), .int (nI ctx_5), .ref Rv])), (Tp, .inl (g 0, 160, .inl ftp)), (Rv, .inl (g 0, 21, .inl fvalx_374))] H := ⟨hP.sub [1, 2, 0] rfl, hD.sub [1, 2, 0] (by decide) rfl⟩
                      have hP9 := hPD9.1; have hD9 := hPD9.2
                      subst hQ
                      refine W.widen (k := 0) (n := 0) (Nat.le_of_ble_eq_true rfl) (Nat.le_of_ble_eq_true rfl) ?_
                      exact W.vret hx hb hr (fun tS htS _ => ⟨⟨_, rfl, ⟨axx_386, (-1), htx_4, ctx_5, fvalx_374, rfl, ⟨(show axx_386 ≤ ln by omega), (show htx_4 ≤ 3 by omega), (show ctx_5 ≤ 3 by omega), (hf_376), (cl_end hf_7.2.2.2.1.symm (show cl_15 < 7 by omega) (hR_381.trans (itR_end (f := 1) hf_388 (show ¬ axx_386 < ln by omega))) (fun q => absurd q.1 (show ¬ axx_386 < ln by omega))).1, (cl_end hf_7.2.2.2.1.symm (show cl_15 < 7 by omega) (hR_381.trans (itR_end (f := 1) hf_388 (show ¬ axx_386 < ln by omega))) (fun q => absurd q.1 (show ¬ axx_386 < ln by omega))).2.1, (fun _ => ⟨(cl_end hf_7.2.2.2.1.symm (show cl_15 < 7 by omega) (hR_381.trans (itR_end (f := 1) hf_388 (show ¬ axx_386 < ln by omega))) (fun q => absurd q.1 (show ¬ axx_386 < ln by omega))).2.2, show ax < axx_386 by omega⟩), (fun _ => ((clW_cl hf_7.2.2.2.1.symm (show cl_15 < 7 by omega)).trans (hW_383.trans (itW_end (f := 1) hf_388 (show ¬ axx_386 < ln by omega)))).symm)⟩⟩, by rw [htS]; exact hP9, hD9⟩, hS.F htS⟩) hS.2.2 dX4_readClause_52
                    · skip
                      have cn_392 : axx_386 < ln := Nat.lt_of_not_le (fun q9 => cb_390 ((nI_leI (show ln < 2 ^ 31 by omega) (show axx_386 < 2 ^ 31 by omega)).mpr q9))
                      refine lv_aload_n hx hb dX4_readClause_38 rfl (lv_at hl 4 rfl) ?_
                      refine va_get (D := D) (ci := 4) (v := .ref Tp) (C := RX4) (T := TX4) (N := 7) hx hb hts iX4 hown hK hP 1 rfl rfl 0 (by decide) f9 (fun _ h9 => h9) rfl dX4_readClause_39 ?_
                      refine lv_aload_n hx hb dX4_readClause_42 rfl (lv_at hl 4 rfl) ?_
                      refine va_get (D := D) (ci := 4) (v := .int (nI axx_386)) (C := RX4) (T := TX4) (N := 7) hx hb hts iX4 hown hK hP 1 rfl rfl 2 (by decide) f28 (fun _ h9 => h9) rfl dX4_readClause_43 ?_
                      refine va_iald hx hb hK hP 2 0 rfl rfl (vp_in_nI (show axx_386 < 160 by omega) (by decide)) dX4_readClause_46 ?_
                      refine lv_eqi (y := (ftp (axx_386))) (congrArg ftp (nI_clamp (show axx_386 < 2 ^ 31 by omega))) ?_
                      refine lv_bipush (v := 59) hx hb dX4_readClause_47 (by decide) ?_
                      refine lv_icmp_ne (tgt := 53) hx hb dX4_readClause_49 (by decide) (fun cb_393 => ?_) (fun cb_393 => ?_)
                      · skip
                        refine lv_iload_n hx hb dX4_readClause_53 rfl (lv_at hl 3 rfl) ?_
                        refine ky_Si (As := [.int (nI cl_15)]) (rest := []) ⟨hx, hb, hml, hown, hts⟩ ⟨hK, hN⟩ hZ hP hD hS hA [] [0, 1, 2] (wc := []) (wr := [(Rv, .inl (g 0, 21, .inl fvalx_374)), (Rd, .inr (4, [.ref Tp, .int (nI ln), .int (nI axx_386), .int (-1), .int (nI htx_4), .int (nI ctx_5), .ref Rv])), (Tp, .inl (g 0, 160, .inl ftp))]) rfl rfl rfl rfl (by decide) (r_X4_kindOf l D g H.size cl_15 (show cl_15 < 7 by omega)) (va_cwS 1 hts gX4_readClause_X4_kindOf rfl rfl rfl (by decide +kernel) ⟨(Nat.le_of_ble_eq_true rfl), (Nat.le_of_ble_eq_true rfl)⟩) rfl hl.1 rfl (Nat.le_of_ble_eq_true rfl) dX4_readClause_54 ⟨(Nat.le_of_ble_eq_true rfl), (Nat.le_of_ble_eq_true rfl)⟩ (fun r_394 u H locs hw hP2 hD2 hS2 => ?_)
                        clear hP hD hS
                        obtain ⟨rfl, rfl⟩ := hw
                        have hPD : PD D A [(Rv, .inl (g 0, 21, .inl fvalx_374)), (Rd, .inr (4, [.ref Tp, .int (nI ln), .int (nI axx_386), .int (-1), .int (nI htx_4), .int (nI ctx_5), .ref Rv])), (Tp, .inl (g 0, 160, .inl ftp))] H := ⟨hP2, hD2⟩
                        have hS := hS2; clear hP2 hD2 hS2; have hP := hPD.1; have hD := hPD.2; clear hPD
                        refine W.widen (k := 0) (n := 0) (Nat.le_of_ble_eq_true rfl) (Nat.le_of_ble_eq_true rfl) ?_
                        refine lv_aload_n hx hb dX4_readClause_57 rfl (lv_at hl 4 rfl) ?_
                        refine va_get (D := D) (ci := 4) (v := .ref Tp) (C := RX4) (T := TX4) (N := 7) hx hb hts iX4 hown hK hP 1 rfl rfl 0 (by decide) f9 (fun _ h9 => h9) rfl dX4_readClause_58 ?_
                        refine lv_aload_n hx hb dX4_readClause_61 rfl (lv_at hl 4 rfl) ?_
                        refine va_get (D := D) (ci := 4) (v := .int (nI axx_386)) (C := RX4) (T := TX4) (N := 7) hx hb hts iX4 hown hK hP 1 rfl rfl 2 (by decide) f28 (fun _ h9 => h9) rfl dX4_readClause_62 ?_
                        refine va_iald hx hb hK hP 2 0 rfl rfl (vp_in_nI (show axx_386 < 160 by omega) (by decide)) dX4_readClause_65 ?_
                        refine lv_eqi (y := (ftp (axx_386))) (congrArg ftp (nI_clamp (show axx_386 < 2 ^ 31 by omega))) ?_
                        refine ky_Si (As := [.int (nI (kdN cl_15)), .int (ftp (axx_386))]) (rest := []) ⟨hx, hb, hml, hown, hts⟩ ⟨hK, hN⟩ hZ hP hD hS hA [] [0, 1, 2] (wc := []) (wr := [(Rv, .inl (g 0, 21, .inl fvalx_374)), (Rd, .inr (4, [.ref Tp, .int (nI ln), .int (nI axx_386), .int (-1), .int (nI htx_4), .int (nI ctx_5), .ref Rv])), (Tp, .inl (g 0, 160, .inl ftp))]) rfl rfl rfl rfl (by decide) (r_X4_itemOf l D g H.size (kdN cl_15) (ftp (axx_386)) (show (kdN cl_15) < 3 by omega)) (va_cwS 2 hts gX4_readClause_X4_itemOf rfl rfl rfl (by decide +kernel) ⟨(Nat.le_of_ble_eq_true rfl), (Nat.le_of_ble_eq_true rfl)⟩) rfl hl.1 rfl (Nat.le_of_ble_eq_true rfl) dX4_readClause_66 ⟨(Nat.le_of_ble_eq_true rfl), (Nat.le_of_ble_eq_true rfl)⟩ (fun r_395 u H locs hw hP2 hD2 hS2 => ?_)
                        clear hP hD hS
                        obtain ⟨rfl, rfl⟩ := hw
                        have hPD : PD D A [(Rv, .inl (g 0, 21, .inl fvalx_374)), (Rd, .inr (4, [.ref Tp, .int (nI ln), .int (nI axx_386), .int (-1), .int (nI htx_4), .int (nI ctx_5), .ref Rv])), (Tp, .inl (g 0, 160, .inl ftp))] H := ⟨hP2, hD2⟩
                        have hS := hS2; clear hP2 hD2 hS2; have hP := hPD.1; have hD := hPD.2; clear hPD
                        refine W.widen (k := 0) (n := 0) (Nat.le_of_ble_eq_true rfl) (Nat.le_of_ble_eq_true rfl) ?_
                        rcases itK_c (kdN cl_15) (ftp (axx_386)) with qi_396 | qi_396 | qi_396 | qi_396
                        · skip
                          refine lv_eqi (y := (-1)) (qi_396) ?_
                          refine lv_istore (lv' := [(5, .int (-1)), (4, .int 2), (3, .int 6), (2, .int (nI cl_15)), (0, .ref Rd), (1, .int zf)]) hx hb dX4_readClause_69 hl (by decide) rfl (fun ls hl => ?_)
                          refine lv_iload hx hb dX4_readClause_71 (lv_at hl 0 rfl) ?_
                          refine lv_iconst (v := (-1)) hx hb dX4_readClause_73 (by decide) ?_
                          refine lv_icmp_eq (tgt := 86) hx hb dX4_readClause_74 (by decide) (fun _ => ?_) (fun cb => absurd (by decide) cb)
                          refine lv_aload_n hx hb dX4_readClause_86 rfl (lv_at hl 4 rfl) ?_
                          refine lv_aload_n hx hb dX4_readClause_87 rfl (lv_at hl 4 rfl) ?_
                          refine va_get (D := D) (ci := 4) (v := .int (nI axx_386)) (C := RX4) (T := TX4) (N := 7) hx hb hts iX4 hown hK hP 1 rfl rfl 2 (by decide) f28 (fun _ h9 => h9) rfl dX4_readClause_88 ?_
                          refine va_put (D := D) (ci := 4) (v := .int (nI axx_386)) (ty := .int) (C := RX4) (T := TX4) (N := 7) hx hb hts iX4 tyX4 tyX4_ok nmX4 hown hK hP hD hS 1 rfl rfl 3 (by decide) f31 (fun _ h9 => h9) rfl (by decide +kernel) (rfl) (rfl) (Nat.le_of_ble_eq_true rfl) dX4_readClause_91 (fun H locs hP2 hD2 hS2 => ?_)
                          clear hP hD hS
                          have hPD : PD D A [(Rv, .inl (g 0, 21, .inl fvalx_374)), (Rd, .inr (4, [.ref Tp, .int (nI ln), .int (nI axx_386), .int (nI axx_386), .int (nI htx_4), .int (nI ctx_5), .ref Rv])), (Tp, .inl (g 0, 160, .inl ftp))] H := ⟨hP2, hD2⟩
                          have hS := hS2; clear hP2 hD2 hS2; have hP := hPD.1; have hD := hPD.2; clear hPD
                          have hPD9 : PD D A [(Rd, .inr (4, [.ref Tp, .int (nI ln), .int (nI axx_386), .int (nI axx_386), .int (nI htx_4), .int (nI ctx_5), .ref Rv])), (Tp, .inl (g 0, 160, .inl ftp)), (Rv, .inl (g 0, 21, .inl fvalx_374))] H := ⟨hP.sub [1, 2, 0] rfl, hD.sub [1, 2, 0] (by decide) rfl⟩
                          have hP9 := hPD9.1; have hD9 := hPD9.2
                          subst hQ
                          refine W.widen (k := 0) (n := 0) (Nat.le_of_ble_eq_true rfl) (Nat.le_of_ble_eq_true rfl) ?_
                          exact W.vret hx hb hr (fun tS htS _ => ⟨⟨_, rfl, ⟨axx_386, (nI axx_386), htx_4, ctx_5, fvalx_374, rfl, ⟨(show axx_386 ≤ ln by omega), (show htx_4 ≤ 3 by omega), (show ctx_5 ≤ 3 by omega), (hf_376), (cl_bad hf_7.2.2.2.1.symm (show cl_15 < 7 by omega) (hR_381.trans (itR_no (f := 1) hf_388 qi_396)) (show axx_386 < ln by omega) cb_393).1, (cl_bad hf_7.2.2.2.1.symm (show cl_15 < 7 by omega) (hR_381.trans (itR_no (f := 1) hf_388 qi_396)) (show axx_386 < ln by omega) cb_393).2, (fun q => absurd q (m1_ne (show axx_386 < 2 ^ 31 by omega))), (fun q => absurd q (m1_ne (show axx_386 < 2 ^ 31 by omega)))⟩⟩, by rw [htS]; exact hP9, hD9⟩, hS.F htS⟩) hS.2.2 dX4_readClause_94
                        · skip
                          refine lv_eqi (y := 0) (qi_396) ?_
                          refine lv_istore (lv' := [(5, .int 0), (4, .int 2), (3, .int 6), (2, .int (nI cl_15)), (0, .ref Rd), (1, .int zf)]) hx hb dX4_readClause_69 hl (by decide) rfl (fun ls hl => ?_)
                          refine lv_iload hx hb dX4_readClause_71 (lv_at hl 0 rfl) ?_
                          refine lv_iconst (v := (-1)) hx hb dX4_readClause_73 (by decide) ?_
                          refine lv_icmp_eq (tgt := 86) hx hb dX4_readClause_74 (by decide) (fun cb => absurd cb (by decide)) (fun _ => ?_)
                          refine lv_iload_n hx hb dX4_readClause_77 rfl (lv_at hl 2 rfl) ?_
                          refine lv_iconst (v := 1) hx hb dX4_readClause_78 (by decide) ?_
                          refine lv_iload hx hb dX4_readClause_79 (lv_at hl 0 rfl) ?_
                          refine lv_ishl hx hb dX4_readClause_81 ?_
                          refine lv_eqi (y := 1) (by decide) ?_
                          refine lv_iand hx hb dX4_readClause_82 ?_
                          refine lv_eqi (y := 0) (by decide) ?_
                          refine lv_if_eq (tgt := 95) hx hb dX4_readClause_83 (by decide) (fun _ => ?_) (fun cb => absurd (by decide) cb)
                          refine lv_iload_n hx hb dX4_readClause_95 rfl (lv_at hl 2 rfl) ?_
                          refine lv_iconst (v := 1) hx hb dX4_readClause_96 (by decide) ?_
                          refine lv_iload hx hb dX4_readClause_97 (lv_at hl 0 rfl) ?_
                          refine lv_ishl hx hb dX4_readClause_99 ?_
                          refine lv_eqi (y := 1) (by decide) ?_
                          refine lv_ior hx hb dX4_readClause_100 ?_
                          refine lv_eqi (y := 7) (by decide) ?_
                          refine lv_istore_n (lv' := [(3, .int 7), (5, .int 0), (4, .int 2), (2, .int (nI cl_15)), (0, .ref Rd), (1, .int zf)]) hx hb dX4_readClause_101 rfl hl (by decide) rfl (fun ls hl => ?_)
                          refine lv_aload_n hx hb dX4_readClause_102 rfl (lv_at hl 4 rfl) ?_
                          refine lv_dup hx hb dX4_readClause_103 rfl ?_
                          refine va_get (D := D) (ci := 4) (v := .int (nI axx_386)) (C := RX4) (T := TX4) (N := 7) hx hb hts iX4 hown hK hP 1 rfl rfl 2 (by decide) f28 (fun _ h9 => h9) rfl dX4_readClause_104 ?_
                          refine lv_iconst (v := 1) hx hb dX4_readClause_107 (by decide) ?_
                          refine lv_iadd hx hb dX4_readClause_108 ?_
                          refine lv_eqi (y := (nI (axx_386 + 1))) (nI_add (axx_386) (1)) ?_
                          refine va_put (D := D) (ci := 4) (v := .int (nI (axx_386 + 1))) (ty := .int) (C := RX4) (T := TX4) (N := 7) hx hb hts iX4 tyX4 tyX4_ok nmX4 hown hK hP hD hS 1 rfl rfl 2 (by decide) f28 (fun _ h9 => h9) rfl (by decide +kernel) (rfl) (rfl) (Nat.le_of_ble_eq_true rfl) dX4_readClause_109 (fun H locs hP2 hD2 hS2 => ?_)
                          clear hP hD hS
                          have hPD : PD D A [(Rv, .inl (g 0, 21, .inl fvalx_374)), (Rd, .inr (4, [.ref Tp, .int (nI ln), .int (nI (axx_386 + 1)), .int (-1), .int (nI htx_4), .int (nI ctx_5), .ref Rv])), (Tp, .inl (g 0, 160, .inl ftp))] H := ⟨hP2, hD2⟩
                          have hS := hS2; clear hP2 hD2 hS2; have hP := hPD.1; have hD := hPD.2; clear hPD
                          refine lv_aload_n hx hb dX4_readClause_112 rfl (lv_at hl 4 rfl) ?_
                          refine lv_iload_n hx hb dX4_readClause_113 rfl (lv_at hl 3 rfl) ?_
                          refine lv_iload hx hb dX4_readClause_114 (lv_at hl 1 rfl) ?_
                          refine ky_Vv (As := [.int (nI cl_15), .int 0]) (rest := []) ⟨hx, hb, hml, hown, hts⟩ ⟨hK, hN⟩ hZ hP hD hS hA [1, 2, 0] [] (wc := [(Rd, .inr (4, [.ref Tp, .int (nI ln), .int (nI (axx_386 + 1)), .int (-1), .int (nI htx_4), .int (nI ctx_5), .ref Rv])), (Tp, .inl (g 0, 160, .inl ftp)), (Rv, .inl (g 0, 21, .inl fvalx_374))]) (wr := []) rfl rfl rfl rfl (by decide) (r_X4_readNumber l D g H.size Rd cl_15 0 Tp ln (axx_386 + 1) htx_4 ctx_5 Rv ftp fvalx_374 (show ln ≤ 160 by omega) (show (axx_386 + 1) ≤ ln by omega) (hf_376) (show cl_15 < 7 by omega) (show 0 < 3 by omega)) (cwV 2 hts gX4_readClause_X4_readNumber rfl rfl rfl (by decide +kernel) ⟨(Nat.le_of_ble_eq_true rfl), (Nat.le_of_ble_eq_true rfl)⟩) 1 4 rfl rfl rfl rfl hl.1 rfl (Nat.le_of_ble_eq_true rfl) dX4_readClause_116 ⟨(Nat.le_of_ble_eq_true rfl), (Nat.le_of_ble_eq_true rfl)⟩ (fun u H locs hw hP2 hD2 hS2 => ?_)
                          clear hP hD hS
                          obtain ⟨axx_398, zfax_399, fvalx_400, rfl, hf_401, hf_402, hf_403, hf_404⟩ := hw
                          have hPD : PD D A [(Rd, .inr (4, [.ref Tp, .int (nI ln), .int (nI axx_398), .int zfax_399, .int (nI htx_4), .int (nI ctx_5), .ref Rv])), (Tp, .inl (g 0, 160, .inl ftp)), (Rv, .inl (g 0, 21, .inl fvalx_400))] H := ⟨hP2, hD2⟩
                          have hS := hS2; clear hP2 hD2 hS2; have hP := hPD.1; have hD := hPD.2; clear hPD
                          refine W.widen (k := 0) (n := 0) (Nat.le_of_ble_eq_true rfl) (Nat.le_of_ble_eq_true rfl) ?_
                          refine lv_aload_n hx hb dX4_readClause_119 rfl (lv_at hl 4 rfl) ?_
                          refine va_get (D := D) (ci := 4) (v := .int zfax_399) (C := RX4) (T := TX4) (N := 7) hx hb hts iX4 hown hK hP 0 rfl rfl 3 (by decide) f31 (fun _ h9 => h9) rfl dX4_readClause_120 ?_
                          refine lv_iconst (v := (-1)) hx hb dX4_readClause_123 (by decide) ?_
                          refine lv_icmp_eq (tgt := 128) hx hb dX4_readClause_124 (by decide) (fun cb_405 => ?_) (fun cb_405 => ?_)
                          · skip
                            have hPq_406 := hP; have hDq_406 := hD; have hSq_406 := hS; have hlq_406 := hl; clear hP hD hS hl
                            subst cb_405
                            have hP := hPq_406; have hD := hDq_406; have hS := hSq_406; have hl := hlq_406; clear hPq_406 hDq_406 hSq_406 hlq_406
                            have hne_408 := (hf_404 rfl).1
                            have hne_408g := nmE_gt (T := ftp) (n := ln) (i := axx_386 + 1) (by omega)
                            have hR_407 : itR ftp ln (kdN cl_15) 4 0 (sB ftp ln ax + 1) = itR ftp ln (kdN cl_15) 1 7 axx_398 := hR_381.trans ((itR_go (f := 1) (m := 6) (q := 0) hf_388 (show axx_386 < ln by omega) qi_396 (by decide) (by decide) hf_403.symm).trans (by rw [hne_408]))
                            have hnv_410 := hf_404 rfl
                            have hW_409 : itW ftp ln (kdN cl_15) (3 * cl_15) 4 0 (sB ftp ln ax + 1) fval = itW ftp ln (kdN cl_15) (3 * cl_15) 1 7 axx_398 fvalx_400 := hW_383.trans ((itW_go (f := 1) (m := 6) (q := 0) hf_388 (show axx_386 < ln by omega) qi_396 (by decide) (by decide) hf_403.symm).trans (by rw [hnv_410.1, hnv_410.2]))
                            refine lv_iinc (v := 3) (lv' := [(4, .int 3), (3, .int 7), (5, .int 0), (2, .int (nI cl_15)), (0, .ref Rd), (1, .int zf)]) hx hb dX4_readClause_128 hl (k := 2) rfl (by decide) (by decide) rfl (fun ls hl => ?_)
                            refine lv_goto (tgt := 17) hx hb dX4_readClause_131 (by decide) ?_
                            refine lv_iload hx hb dX4_readClause_17 (lv_at hl 0 rfl) ?_
                            refine lv_iconst (v := 3) hx hb dX4_readClause_19 (by decide) ?_
                            refine lv_icmp_gt (tgt := 134) hx hb dX4_readClause_20 (by decide) (fun cb => absurd cb (by decide)) (fun _ => ?_)
                            refine lv_aload_n hx hb dX4_readClause_23 rfl (lv_at hl 4 rfl) ?_
                            refine ky_Vv (As := []) (rest := []) ⟨hx, hb, hml, hown, hts⟩ ⟨hK, hN⟩ hZ hP hD hS hA [0, 1] [2] (wc := [(Rd, .inr (4, [.ref Tp, .int (nI ln), .int (nI axx_398), .int (-1), .int (nI htx_4), .int (nI ctx_5), .ref Rv])), (Tp, .inl (g 0, 160, .inl ftp))]) (wr := [(Rv, .inl (g 0, 21, .inl fvalx_400))]) rfl rfl rfl rfl (by decide) (r_X4_passBlanks l D g H.size Rd Tp ln axx_398 (-1) htx_4 ctx_5 Rv ftp (show ln ≤ 160 by omega) (show axx_398 ≤ ln by omega)) (cwV 0 hts gX4_readClause_X4_passBlanks rfl rfl rfl (by decide +kernel) ⟨(Nat.le_of_ble_eq_true rfl), (Nat.le_of_ble_eq_true rfl)⟩) 0 4 rfl rfl rfl rfl hl.1 rfl (Nat.le_of_ble_eq_true rfl) dX4_readClause_24 ⟨(Nat.le_of_ble_eq_true rfl), (Nat.le_of_ble_eq_true rfl)⟩ (fun u H locs hw hP2 hD2 hS2 => ?_)
                            clear hP hD hS
                            obtain ⟨axx_412, rfl, hf_413, hf_414⟩ := hw
                            have hPD : PD D A [(Rv, .inl (g 0, 21, .inl fvalx_400)), (Rd, .inr (4, [.ref Tp, .int (nI ln), .int (nI axx_412), .int (-1), .int (nI htx_4), .int (nI ctx_5), .ref Rv])), (Tp, .inl (g 0, 160, .inl ftp))] H := ⟨hP2, hD2⟩
                            have hS := hS2; clear hP2 hD2 hS2; have hP := hPD.1; have hD := hPD.2; clear hPD
                            refine W.widen (k := 0) (n := 0) (Nat.le_of_ble_eq_true rfl) (Nat.le_of_ble_eq_true rfl) ?_
                            have hge_415 := sB_ge (T := ftp) (n := ln) (i := axx_398) (by omega)
                            refine lv_aload_n hx hb dX4_readClause_27 rfl (lv_at hl 4 rfl) ?_
                            refine va_get (D := D) (ci := 4) (v := .int (nI axx_412)) (C := RX4) (T := TX4) (N := 7) hx hb hts iX4 hown hK hP 1 rfl rfl 2 (by decide) f28 (fun _ h9 => h9) rfl dX4_readClause_28 ?_
                            refine lv_aload_n hx hb dX4_readClause_31 rfl (lv_at hl 4 rfl) ?_
                            refine va_get (D := D) (ci := 4) (v := .int (nI ln)) (C := RX4) (T := TX4) (N := 7) hx hb hts iX4 hown hK hP 1 rfl rfl 1 (by decide) f24 (fun _ h9 => h9) rfl dX4_readClause_32 ?_
                            refine lv_icmp_ge (tgt := 52) hx hb dX4_readClause_35 (by decide) (fun cb_416 => ?_) (fun cb_416 => ?_)
                            · skip
                              have cn_417 : ln ≤ axx_412 := (nI_leI (show ln < 2 ^ 31 by omega) (show axx_412 < 2 ^ 31 by omega)).mp cb_416
                              have hPD9 : PD D A [(Rd, .inr (4, [.ref Tp, .int (nI ln), .int (nI axx_412), .int (-1), .int (nI htx_4), .int (nI ctx_5), .ref Rv])), (Tp, .inl (g 0, 160, .inl ftp)), (Rv, .inl (g 0, 21, .inl fvalx_400))] H := ⟨hP.sub [1, 2, 0] rfl, hD.sub [1, 2, 0] (by decide) rfl⟩
                              have hP9 := hPD9.1; have hD9 := hPD9.2
                              subst hQ
                              refine W.widen (k := 0) (n := 0) (Nat.le_of_ble_eq_true rfl) (Nat.le_of_ble_eq_true rfl) ?_
                              exact W.vret hx hb hr (fun tS htS _ => ⟨⟨_, rfl, ⟨axx_412, (-1), htx_4, ctx_5, fvalx_400, rfl, ⟨(show axx_412 ≤ ln by omega), (show htx_4 ≤ 3 by omega), (show ctx_5 ≤ 3 by omega), (hf_402), (cl_end hf_7.2.2.2.1.symm (show cl_15 < 7 by omega) (hR_407.trans (itR_end (f := 0) hf_414 (show ¬ axx_412 < ln by omega))) (fun q => absurd q.1 (show ¬ axx_412 < ln by omega))).1, (cl_end hf_7.2.2.2.1.symm (show cl_15 < 7 by omega) (hR_407.trans (itR_end (f := 0) hf_414 (show ¬ axx_412 < ln by omega))) (fun q => absurd q.1 (show ¬ axx_412 < ln by omega))).2.1, (fun _ => ⟨(cl_end hf_7.2.2.2.1.symm (show cl_15 < 7 by omega) (hR_407.trans (itR_end (f := 0) hf_414 (show ¬ axx_412 < ln by omega))) (fun q => absurd q.1 (show ¬ axx_412 < ln by omega))).2.2, show ax < axx_412 by omega⟩), (fun _ => ((clW_cl hf_7.2.2.2.1.symm (show cl_15 < 7 by omega)).trans (hW_409.trans (itW_end (f := 0) hf_414 (show ¬ axx_412 < ln by omega)))).symm)⟩⟩, by rw [htS]; exact hP9, hD9⟩, hS.F htS⟩) hS.2.2 dX4_readClause_52
                            · skip
                              have cn_418 : axx_412 < ln := Nat.lt_of_not_le (fun q9 => cb_416 ((nI_leI (show ln < 2 ^ 31 by omega) (show axx_412 < 2 ^ 31 by omega)).mpr q9))
                              refine lv_aload_n hx hb dX4_readClause_38 rfl (lv_at hl 4 rfl) ?_
                              refine va_get (D := D) (ci := 4) (v := .ref Tp) (C := RX4) (T := TX4) (N := 7) hx hb hts iX4 hown hK hP 1 rfl rfl 0 (by decide) f9 (fun _ h9 => h9) rfl dX4_readClause_39 ?_
                              refine lv_aload_n hx hb dX4_readClause_42 rfl (lv_at hl 4 rfl) ?_
                              refine va_get (D := D) (ci := 4) (v := .int (nI axx_412)) (C := RX4) (T := TX4) (N := 7) hx hb hts iX4 hown hK hP 1 rfl rfl 2 (by decide) f28 (fun _ h9 => h9) rfl dX4_readClause_43 ?_
                              refine va_iald hx hb hK hP 2 0 rfl rfl (vp_in_nI (show axx_412 < 160 by omega) (by decide)) dX4_readClause_46 ?_
                              refine lv_eqi (y := (ftp (axx_412))) (congrArg ftp (nI_clamp (show axx_412 < 2 ^ 31 by omega))) ?_
                              refine lv_bipush (v := 59) hx hb dX4_readClause_47 (by decide) ?_
                              refine lv_icmp_ne (tgt := 53) hx hb dX4_readClause_49 (by decide) (fun cb_419 => ?_) (fun cb_419 => ?_)
                              · skip
                                refine lv_iload_n hx hb dX4_readClause_53 rfl (lv_at hl 3 rfl) ?_
                                refine ky_Si (As := [.int (nI cl_15)]) (rest := []) ⟨hx, hb, hml, hown, hts⟩ ⟨hK, hN⟩ hZ hP hD hS hA [] [0, 1, 2] (wc := []) (wr := [(Rv, .inl (g 0, 21, .inl fvalx_400)), (Rd, .inr (4, [.ref Tp, .int (nI ln), .int (nI axx_412), .int (-1), .int (nI htx_4), .int (nI ctx_5), .ref Rv])), (Tp, .inl (g 0, 160, .inl ftp))]) rfl rfl rfl rfl (by decide) (r_X4_kindOf l D g H.size cl_15 (show cl_15 < 7 by omega)) (va_cwS 1 hts gX4_readClause_X4_kindOf rfl rfl rfl (by decide +kernel) ⟨(Nat.le_of_ble_eq_true rfl), (Nat.le_of_ble_eq_true rfl)⟩) rfl hl.1 rfl (Nat.le_of_ble_eq_true rfl) dX4_readClause_54 ⟨(Nat.le_of_ble_eq_true rfl), (Nat.le_of_ble_eq_true rfl)⟩ (fun r_420 u H locs hw hP2 hD2 hS2 => ?_)
                                clear hP hD hS
                                obtain ⟨rfl, rfl⟩ := hw
                                have hPD : PD D A [(Rv, .inl (g 0, 21, .inl fvalx_400)), (Rd, .inr (4, [.ref Tp, .int (nI ln), .int (nI axx_412), .int (-1), .int (nI htx_4), .int (nI ctx_5), .ref Rv])), (Tp, .inl (g 0, 160, .inl ftp))] H := ⟨hP2, hD2⟩
                                have hS := hS2; clear hP2 hD2 hS2; have hP := hPD.1; have hD := hPD.2; clear hPD
                                refine W.widen (k := 0) (n := 0) (Nat.le_of_ble_eq_true rfl) (Nat.le_of_ble_eq_true rfl) ?_
                                refine lv_aload_n hx hb dX4_readClause_57 rfl (lv_at hl 4 rfl) ?_
                                refine va_get (D := D) (ci := 4) (v := .ref Tp) (C := RX4) (T := TX4) (N := 7) hx hb hts iX4 hown hK hP 1 rfl rfl 0 (by decide) f9 (fun _ h9 => h9) rfl dX4_readClause_58 ?_
                                refine lv_aload_n hx hb dX4_readClause_61 rfl (lv_at hl 4 rfl) ?_
                                refine va_get (D := D) (ci := 4) (v := .int (nI axx_412)) (C := RX4) (T := TX4) (N := 7) hx hb hts iX4 hown hK hP 1 rfl rfl 2 (by decide) f28 (fun _ h9 => h9) rfl dX4_readClause_62 ?_
                                refine va_iald hx hb hK hP 2 0 rfl rfl (vp_in_nI (show axx_412 < 160 by omega) (by decide)) dX4_readClause_65 ?_
                                refine lv_eqi (y := (ftp (axx_412))) (congrArg ftp (nI_clamp (show axx_412 < 2 ^ 31 by omega))) ?_
                                refine ky_Si (As := [.int (nI (kdN cl_15)), .int (ftp (axx_412))]) (rest := []) ⟨hx, hb, hml, hown, hts⟩ ⟨hK, hN⟩ hZ hP hD hS hA [] [0, 1, 2] (wc := []) (wr := [(Rv, .inl (g 0, 21, .inl fvalx_400)), (Rd, .inr (4, [.ref Tp, .int (nI ln), .int (nI axx_412), .int (-1), .int (nI htx_4), .int (nI ctx_5), .ref Rv])), (Tp, .inl (g 0, 160, .inl ftp))]) rfl rfl rfl rfl (by decide) (r_X4_itemOf l D g H.size (kdN cl_15) (ftp (axx_412)) (show (kdN cl_15) < 3 by omega)) (va_cwS 2 hts gX4_readClause_X4_itemOf rfl rfl rfl (by decide +kernel) ⟨(Nat.le_of_ble_eq_true rfl), (Nat.le_of_ble_eq_true rfl)⟩) rfl hl.1 rfl (Nat.le_of_ble_eq_true rfl) dX4_readClause_66 ⟨(Nat.le_of_ble_eq_true rfl), (Nat.le_of_ble_eq_true rfl)⟩ (fun r_421 u H locs hw hP2 hD2 hS2 => ?_)
                                clear hP hD hS
                                obtain ⟨rfl, rfl⟩ := hw
                                have hPD : PD D A [(Rv, .inl (g 0, 21, .inl fvalx_400)), (Rd, .inr (4, [.ref Tp, .int (nI ln), .int (nI axx_412), .int (-1), .int (nI htx_4), .int (nI ctx_5), .ref Rv])), (Tp, .inl (g 0, 160, .inl ftp))] H := ⟨hP2, hD2⟩
                                have hS := hS2; clear hP2 hD2 hS2; have hP := hPD.1; have hD := hPD.2; clear hPD
                                refine W.widen (k := 0) (n := 0) (Nat.le_of_ble_eq_true rfl) (Nat.le_of_ble_eq_true rfl) ?_
                                rcases itK_c (kdN cl_15) (ftp (axx_412)) with qi_422 | qi_422 | qi_422 | qi_422
                                · skip
                                  refine lv_eqi (y := (-1)) (qi_422) ?_
                                  refine lv_istore (lv' := [(5, .int (-1)), (4, .int 3), (3, .int 7), (2, .int (nI cl_15)), (0, .ref Rd), (1, .int zf)]) hx hb dX4_readClause_69 hl (by decide) rfl (fun ls hl => ?_)
                                  refine lv_iload hx hb dX4_readClause_71 (lv_at hl 0 rfl) ?_
                                  refine lv_iconst (v := (-1)) hx hb dX4_readClause_73 (by decide) ?_
                                  refine lv_icmp_eq (tgt := 86) hx hb dX4_readClause_74 (by decide) (fun _ => ?_) (fun cb => absurd (by decide) cb)
                                  refine lv_aload_n hx hb dX4_readClause_86 rfl (lv_at hl 4 rfl) ?_
                                  refine lv_aload_n hx hb dX4_readClause_87 rfl (lv_at hl 4 rfl) ?_
                                  refine va_get (D := D) (ci := 4) (v := .int (nI axx_412)) (C := RX4) (T := TX4) (N := 7) hx hb hts iX4 hown hK hP 1 rfl rfl 2 (by decide) f28 (fun _ h9 => h9) rfl dX4_readClause_88 ?_
                                  refine va_put (D := D) (ci := 4) (v := .int (nI axx_412)) (ty := .int) (C := RX4) (T := TX4) (N := 7) hx hb hts iX4 tyX4 tyX4_ok nmX4 hown hK hP hD hS 1 rfl rfl 3 (by decide) f31 (fun _ h9 => h9) rfl (by decide +kernel) (rfl) (rfl) (Nat.le_of_ble_eq_true rfl) dX4_readClause_91 (fun H locs hP2 hD2 hS2 => ?_)
                                  clear hP hD hS
                                  have hPD : PD D A [(Rv, .inl (g 0, 21, .inl fvalx_400)), (Rd, .inr (4, [.ref Tp, .int (nI ln), .int (nI axx_412), .int (nI axx_412), .int (nI htx_4), .int (nI ctx_5), .ref Rv])), (Tp, .inl (g 0, 160, .inl ftp))] H := ⟨hP2, hD2⟩
                                  have hS := hS2; clear hP2 hD2 hS2; have hP := hPD.1; have hD := hPD.2; clear hPD
                                  have hPD9 : PD D A [(Rd, .inr (4, [.ref Tp, .int (nI ln), .int (nI axx_412), .int (nI axx_412), .int (nI htx_4), .int (nI ctx_5), .ref Rv])), (Tp, .inl (g 0, 160, .inl ftp)), (Rv, .inl (g 0, 21, .inl fvalx_400))] H := ⟨hP.sub [1, 2, 0] rfl, hD.sub [1, 2, 0] (by decide) rfl⟩
                                  have hP9 := hPD9.1; have hD9 := hPD9.2
                                  subst hQ
                                  refine W.widen (k := 0) (n := 0) (Nat.le_of_ble_eq_true rfl) (Nat.le_of_ble_eq_true rfl) ?_
                                  exact W.vret hx hb hr (fun tS htS _ => ⟨⟨_, rfl, ⟨axx_412, (nI axx_412), htx_4, ctx_5, fvalx_400, rfl, ⟨(show axx_412 ≤ ln by omega), (show htx_4 ≤ 3 by omega), (show ctx_5 ≤ 3 by omega), (hf_402), (cl_bad hf_7.2.2.2.1.symm (show cl_15 < 7 by omega) (hR_407.trans (itR_no (f := 0) hf_414 qi_422)) (show axx_412 < ln by omega) cb_419).1, (cl_bad hf_7.2.2.2.1.symm (show cl_15 < 7 by omega) (hR_407.trans (itR_no (f := 0) hf_414 qi_422)) (show axx_412 < ln by omega) cb_419).2, (fun q => absurd q (m1_ne (show axx_412 < 2 ^ 31 by omega))), (fun q => absurd q (m1_ne (show axx_412 < 2 ^ 31 by omega)))⟩⟩, by rw [htS]; exact hP9, hD9⟩, hS.F htS⟩) hS.2.2 dX4_readClause_94
                                · skip
                                  refine lv_eqi (y := 0) (qi_422) ?_
                                  refine lv_istore (lv' := [(5, .int 0), (4, .int 3), (3, .int 7), (2, .int (nI cl_15)), (0, .ref Rd), (1, .int zf)]) hx hb dX4_readClause_69 hl (by decide) rfl (fun ls hl => ?_)
                                  refine lv_iload hx hb dX4_readClause_71 (lv_at hl 0 rfl) ?_
                                  refine lv_iconst (v := (-1)) hx hb dX4_readClause_73 (by decide) ?_
                                  refine lv_icmp_eq (tgt := 86) hx hb dX4_readClause_74 (by decide) (fun cb => absurd cb (by decide)) (fun _ => ?_)
                                  refine lv_iload_n hx hb dX4_readClause_77 rfl (lv_at hl 2 rfl) ?_
                                  refine lv_iconst (v := 1) hx hb dX4_readClause_78 (by decide) ?_
                                  refine lv_iload hx hb dX4_readClause_79 (lv_at hl 0 rfl) ?_
                                  refine lv_ishl hx hb dX4_readClause_81 ?_
                                  refine lv_eqi (y := 1) (by decide) ?_
                                  refine lv_iand hx hb dX4_readClause_82 ?_
                                  refine lv_eqi (y := 1) (by decide) ?_
                                  refine lv_if_eq (tgt := 95) hx hb dX4_readClause_83 (by decide) (fun cb => absurd cb (by decide)) (fun _ => ?_)
                                  refine lv_aload_n hx hb dX4_readClause_86 rfl (lv_at hl 4 rfl) ?_
                                  refine lv_aload_n hx hb dX4_readClause_87 rfl (lv_at hl 4 rfl) ?_
                                  refine va_get (D := D) (ci := 4) (v := .int (nI axx_412)) (C := RX4) (T := TX4) (N := 7) hx hb hts iX4 hown hK hP 1 rfl rfl 2 (by decide) f28 (fun _ h9 => h9) rfl dX4_readClause_88 ?_
                                  refine va_put (D := D) (ci := 4) (v := .int (nI axx_412)) (ty := .int) (C := RX4) (T := TX4) (N := 7) hx hb hts iX4 tyX4 tyX4_ok nmX4 hown hK hP hD hS 1 rfl rfl 3 (by decide) f31 (fun _ h9 => h9) rfl (by decide +kernel) (rfl) (rfl) (Nat.le_of_ble_eq_true rfl) dX4_readClause_91 (fun H locs hP2 hD2 hS2 => ?_)
                                  clear hP hD hS
                                  have hPD : PD D A [(Rv, .inl (g 0, 21, .inl fvalx_400)), (Rd, .inr (4, [.ref Tp, .int (nI ln), .int (nI axx_412), .int (nI axx_412), .int (nI htx_4), .int (nI ctx_5), .ref Rv])), (Tp, .inl (g 0, 160, .inl ftp))] H := ⟨hP2, hD2⟩
                                  have hS := hS2; clear hP2 hD2 hS2; have hP := hPD.1; have hD := hPD.2; clear hPD
                                  have hPD9 : PD D A [(Rd, .inr (4, [.ref Tp, .int (nI ln), .int (nI axx_412), .int (nI axx_412), .int (nI htx_4), .int (nI ctx_5), .ref Rv])), (Tp, .inl (g 0, 160, .inl ftp)), (Rv, .inl (g 0, 21, .inl fvalx_400))] H := ⟨hP.sub [1, 2, 0] rfl, hD.sub [1, 2, 0] (by decide) rfl⟩
                                  have hP9 := hPD9.1; have hD9 := hPD9.2
                                  subst hQ
                                  refine W.widen (k := 0) (n := 0) (Nat.le_of_ble_eq_true rfl) (Nat.le_of_ble_eq_true rfl) ?_
                                  exact W.vret hx hb hr (fun tS htS _ => ⟨⟨_, rfl, ⟨axx_412, (nI axx_412), htx_4, ctx_5, fvalx_400, rfl, ⟨(show axx_412 ≤ ln by omega), (show htx_4 ≤ 3 by omega), (show ctx_5 ≤ 3 by omega), (hf_402), (cl_bad hf_7.2.2.2.1.symm (show cl_15 < 7 by omega) (hR_407.trans (itR_again (f := 0) (q := 0) hf_414 qi_422 (by decide) (by decide))) (show axx_412 < ln by omega) cb_419).1, (cl_bad hf_7.2.2.2.1.symm (show cl_15 < 7 by omega) (hR_407.trans (itR_again (f := 0) (q := 0) hf_414 qi_422 (by decide) (by decide))) (show axx_412 < ln by omega) cb_419).2, (fun q => absurd q (m1_ne (show axx_412 < 2 ^ 31 by omega))), (fun q => absurd q (m1_ne (show axx_412 < 2 ^ 31 by omega)))⟩⟩, by rw [htS]; exact hP9, hD9⟩, hS.F htS⟩) hS.2.2 dX4_readClause_94
                                · skip
                                  refine lv_eqi (y := 1) (qi_422) ?_
                                  refine lv_istore (lv' := [(5, .int 1), (4, .int 3), (3, .int 7), (2, .int (nI cl_15)), (0, .ref Rd), (1, .int zf)]) hx hb dX4_readClause_69 hl (by decide) rfl (fun ls hl => ?_)
                                  refine lv_iload hx hb dX4_readClause_71 (lv_at hl 0 rfl) ?_
                                  refine lv_iconst (v := (-1)) hx hb dX4_readClause_73 (by decide) ?_
                                  refine lv_icmp_eq (tgt := 86) hx hb dX4_readClause_74 (by decide) (fun cb => absurd cb (by decide)) (fun _ => ?_)
                                  refine lv_iload_n hx hb dX4_readClause_77 rfl (lv_at hl 2 rfl) ?_
                                  refine lv_iconst (v := 1) hx hb dX4_readClause_78 (by decide) ?_
                                  refine lv_iload hx hb dX4_readClause_79 (lv_at hl 0 rfl) ?_
                                  refine lv_ishl hx hb dX4_readClause_81 ?_
                                  refine lv_eqi (y := 2) (by decide) ?_
                                  refine lv_iand hx hb dX4_readClause_82 ?_
                                  refine lv_eqi (y := 2) (by decide) ?_
                                  refine lv_if_eq (tgt := 95) hx hb dX4_readClause_83 (by decide) (fun cb => absurd cb (by decide)) (fun _ => ?_)
                                  refine lv_aload_n hx hb dX4_readClause_86 rfl (lv_at hl 4 rfl) ?_
                                  refine lv_aload_n hx hb dX4_readClause_87 rfl (lv_at hl 4 rfl) ?_
                                  refine va_get (D := D) (ci := 4) (v := .int (nI axx_412)) (C := RX4) (T := TX4) (N := 7) hx hb hts iX4 hown hK hP 1 rfl rfl 2 (by decide) f28 (fun _ h9 => h9) rfl dX4_readClause_88 ?_
                                  refine va_put (D := D) (ci := 4) (v := .int (nI axx_412)) (ty := .int) (C := RX4) (T := TX4) (N := 7) hx hb hts iX4 tyX4 tyX4_ok nmX4 hown hK hP hD hS 1 rfl rfl 3 (by decide) f31 (fun _ h9 => h9) rfl (by decide +kernel) (rfl) (rfl) (Nat.le_of_ble_eq_true rfl) dX4_readClause_91 (fun H locs hP2 hD2 hS2 => ?_)
                                  clear hP hD hS
                                  have hPD : PD D A [(Rv, .inl (g 0, 21, .inl fvalx_400)), (Rd, .inr (4, [.ref Tp, .int (nI ln), .int (nI axx_412), .int (nI axx_412), .int (nI htx_4), .int (nI ctx_5), .ref Rv])), (Tp, .inl (g 0, 160, .inl ftp))] H := ⟨hP2, hD2⟩
                                  have hS := hS2; clear hP2 hD2 hS2; have hP := hPD.1; have hD := hPD.2; clear hPD
                                  have hPD9 : PD D A [(Rd, .inr (4, [.ref Tp, .int (nI ln), .int (nI axx_412), .int (nI axx_412), .int (nI htx_4), .int (nI ctx_5), .ref Rv])), (Tp, .inl (g 0, 160, .inl ftp)), (Rv, .inl (g 0, 21, .inl fvalx_400))] H := ⟨hP.sub [1, 2, 0] rfl, hD.sub [1, 2, 0] (by decide) rfl⟩
                                  have hP9 := hPD9.1; have hD9 := hPD9.2
                                  subst hQ
                                  refine W.widen (k := 0) (n := 0) (Nat.le_of_ble_eq_true rfl) (Nat.le_of_ble_eq_true rfl) ?_
                                  exact W.vret hx hb hr (fun tS htS _ => ⟨⟨_, rfl, ⟨axx_412, (nI axx_412), htx_4, ctx_5, fvalx_400, rfl, ⟨(show axx_412 ≤ ln by omega), (show htx_4 ≤ 3 by omega), (show ctx_5 ≤ 3 by omega), (hf_402), (cl_bad hf_7.2.2.2.1.symm (show cl_15 < 7 by omega) (hR_407.trans (itR_again (f := 0) (q := 1) hf_414 qi_422 (by decide) (by decide))) (show axx_412 < ln by omega) cb_419).1, (cl_bad hf_7.2.2.2.1.symm (show cl_15 < 7 by omega) (hR_407.trans (itR_again (f := 0) (q := 1) hf_414 qi_422 (by decide) (by decide))) (show axx_412 < ln by omega) cb_419).2, (fun q => absurd q (m1_ne (show axx_412 < 2 ^ 31 by omega))), (fun q => absurd q (m1_ne (show axx_412 < 2 ^ 31 by omega)))⟩⟩, by rw [htS]; exact hP9, hD9⟩, hS.F htS⟩) hS.2.2 dX4_readClause_94
                                · skip
                                  refine lv_eqi (y := 2) (qi_422) ?_
                                  refine lv_istore (lv' := [(5, .int 2), (4, .int 3), (3, .int 7), (2, .int (nI cl_15)), (0, .ref Rd), (1, .int zf)]) hx hb dX4_readClause_69 hl (by decide) rfl (fun ls hl => ?_)
                                  refine lv_iload hx hb dX4_readClause_71 (lv_at hl 0 rfl) ?_
                                  refine lv_iconst (v := (-1)) hx hb dX4_readClause_73 (by decide) ?_
                                  refine lv_icmp_eq (tgt := 86) hx hb dX4_readClause_74 (by decide) (fun cb => absurd cb (by decide)) (fun _ => ?_)
                                  refine lv_iload_n hx hb dX4_readClause_77 rfl (lv_at hl 2 rfl) ?_
                                  refine lv_iconst (v := 1) hx hb dX4_readClause_78 (by decide) ?_
                                  refine lv_iload hx hb dX4_readClause_79 (lv_at hl 0 rfl) ?_
                                  refine lv_ishl hx hb dX4_readClause_81 ?_
                                  refine lv_eqi (y := 4) (by decide) ?_
                                  refine lv_iand hx hb dX4_readClause_82 ?_
                                  refine lv_eqi (y := 4) (by decide) ?_
                                  refine lv_if_eq (tgt := 95) hx hb dX4_readClause_83 (by decide) (fun cb => absurd cb (by decide)) (fun _ => ?_)
                                  refine lv_aload_n hx hb dX4_readClause_86 rfl (lv_at hl 4 rfl) ?_
                                  refine lv_aload_n hx hb dX4_readClause_87 rfl (lv_at hl 4 rfl) ?_
                                  refine va_get (D := D) (ci := 4) (v := .int (nI axx_412)) (C := RX4) (T := TX4) (N := 7) hx hb hts iX4 hown hK hP 1 rfl rfl 2 (by decide) f28 (fun _ h9 => h9) rfl dX4_readClause_88 ?_
                                  refine va_put (D := D) (ci := 4) (v := .int (nI axx_412)) (ty := .int) (C := RX4) (T := TX4) (N := 7) hx hb hts iX4 tyX4 tyX4_ok nmX4 hown hK hP hD hS 1 rfl rfl 3 (by decide) f31 (fun _ h9 => h9) rfl (by decide +kernel) (rfl) (rfl) (Nat.le_of_ble_eq_true rfl) dX4_readClause_91 (fun H locs hP2 hD2 hS2 => ?_)
                                  clear hP hD hS
                                  have hPD : PD D A [(Rv, .inl (g 0, 21, .inl fvalx_400)), (Rd, .inr (4, [.ref Tp, .int (nI ln), .int (nI axx_412), .int (nI axx_412), .int (nI htx_4), .int (nI ctx_5), .ref Rv])), (Tp, .inl (g 0, 160, .inl ftp))] H := ⟨hP2, hD2⟩
                                  have hS := hS2; clear hP2 hD2 hS2; have hP := hPD.1; have hD := hPD.2; clear hPD
                                  have hPD9 : PD D A [(Rd, .inr (4, [.ref Tp, .int (nI ln), .int (nI axx_412), .int (nI axx_412), .int (nI htx_4), .int (nI ctx_5), .ref Rv])), (Tp, .inl (g 0, 160, .inl ftp)), (Rv, .inl (g 0, 21, .inl fvalx_400))] H := ⟨hP.sub [1, 2, 0] rfl, hD.sub [1, 2, 0] (by decide) rfl⟩
                                  have hP9 := hPD9.1; have hD9 := hPD9.2
                                  subst hQ
                                  refine W.widen (k := 0) (n := 0) (Nat.le_of_ble_eq_true rfl) (Nat.le_of_ble_eq_true rfl) ?_
                                  exact W.vret hx hb hr (fun tS htS _ => ⟨⟨_, rfl, ⟨axx_412, (nI axx_412), htx_4, ctx_5, fvalx_400, rfl, ⟨(show axx_412 ≤ ln by omega), (show htx_4 ≤ 3 by omega), (show ctx_5 ≤ 3 by omega), (hf_402), (cl_bad hf_7.2.2.2.1.symm (show cl_15 < 7 by omega) (hR_407.trans (itR_again (f := 0) (q := 2) hf_414 qi_422 (by decide) (by decide))) (show axx_412 < ln by omega) cb_419).1, (cl_bad hf_7.2.2.2.1.symm (show cl_15 < 7 by omega) (hR_407.trans (itR_again (f := 0) (q := 2) hf_414 qi_422 (by decide) (by decide))) (show axx_412 < ln by omega) cb_419).2, (fun q => absurd q (m1_ne (show axx_412 < 2 ^ 31 by omega))), (fun q => absurd q (m1_ne (show axx_412 < 2 ^ 31 by omega)))⟩⟩, by rw [htS]; exact hP9, hD9⟩, hS.F htS⟩) hS.2.2 dX4_readClause_94
                              · skip
                                have hPD9 : PD D A [(Rd, .inr (4, [.ref Tp, .int (nI ln), .int (nI axx_412), .int (-1), .int (nI htx_4), .int (nI ctx_5), .ref Rv])), (Tp, .inl (g 0, 160, .inl ftp)), (Rv, .inl (g 0, 21, .inl fvalx_400))] H := ⟨hP.sub [1, 2, 0] rfl, hD.sub [1, 2, 0] (by decide) rfl⟩
                                have hP9 := hPD9.1; have hD9 := hPD9.2
                                subst hQ
                                refine W.widen (k := 0) (n := 0) (Nat.le_of_ble_eq_true rfl) (Nat.le_of_ble_eq_true rfl) ?_
                                exact W.vret hx hb hr (fun tS htS _ => ⟨⟨_, rfl, ⟨axx_412, (-1), htx_4, ctx_5, fvalx_400, rfl, ⟨(show axx_412 ≤ ln by omega), (show htx_4 ≤ 3 by omega), (show ctx_5 ≤ 3 by omega), (hf_402), (cl_end hf_7.2.2.2.1.symm (show cl_15 < 7 by omega) (hR_407.trans (itR_no (f := 0) hf_414 (by rw [cb_419]; exact itK_59 _))) (fun q => q.2 cb_419)).1, (cl_end hf_7.2.2.2.1.symm (show cl_15 < 7 by omega) (hR_407.trans (itR_no (f := 0) hf_414 (by rw [cb_419]; exact itK_59 _))) (fun q => q.2 cb_419)).2.1, (fun _ => ⟨(cl_end hf_7.2.2.2.1.symm (show cl_15 < 7 by omega) (hR_407.trans (itR_no (f := 0) hf_414 (by rw [cb_419]; exact itK_59 _))) (fun q => q.2 cb_419)).2.2, show ax < axx_412 by omega⟩), (fun _ => ((clW_cl hf_7.2.2.2.1.symm (show cl_15 < 7 by omega)).trans (hW_409.trans (itW_no (f := 0) hf_414 (by rw [cb_419]; exact itK_59 _)))).symm)⟩⟩, by rw [htS]; exact hP9, hD9⟩, hS.F htS⟩) hS.2.2 dX4_readClause_52
                          · skip
                            have hP9 := hP; have hD9 := hD
                            subst hQ
                            refine W.widen (k := 0) (n := 0) (Nat.le_of_ble_eq_true rfl) (Nat.le_of_ble_eq_true rfl) ?_
                            exact W.vret hx hb hr (fun tS htS _ => ⟨⟨_, rfl, ⟨axx_398, zfax_399, htx_4, ctx_5, fvalx_400, rfl, ⟨(show axx_398 ≤ ln by omega), (show htx_4 ≤ 3 by omega), (show ctx_5 ≤ 3 by omega), (hf_402), (cl_num hf_7.2.2.2.1.symm (show cl_15 < 7 by omega) ((congrArg Prod.fst hR_381).trans ((itR_w (f := 1) (q := 0) hf_388 (show axx_386 < ln by omega) qi_396 (by decide) (by decide) (fun q => cb_405 (hf_403.trans q))).trans hf_403.symm)) cb_405).1, (cl_num hf_7.2.2.2.1.symm (show cl_15 < 7 by omega) ((congrArg Prod.fst hR_381).trans ((itR_w (f := 1) (q := 0) hf_388 (show axx_386 < ln by omega) qi_396 (by decide) (by decide) (fun q => cb_405 (hf_403.trans q))).trans hf_403.symm)) cb_405).2, (fun q => absurd q cb_405), (fun q => absurd q cb_405)⟩⟩, by rw [htS]; exact hP9, hD9⟩, hS.F htS⟩) hS.2.2 dX4_readClause_127
                        · skip
                          refine lv_eqi (y := 1) (qi_396) ?_
                          refine lv_istore (lv' := [(5, .int 1), (4, .int 2), (3, .int 6), (2, .int (nI cl_15)), (0, .ref Rd), (1, .int zf)]) hx hb dX4_readClause_69 hl (by decide) rfl (fun ls hl => ?_)
                          refine lv_iload hx hb dX4_readClause_71 (lv_at hl 0 rfl) ?_
                          refine lv_iconst (v := (-1)) hx hb dX4_readClause_73 (by decide) ?_
                          refine lv_icmp_eq (tgt := 86) hx hb dX4_readClause_74 (by decide) (fun cb => absurd cb (by decide)) (fun _ => ?_)
                          refine lv_iload_n hx hb dX4_readClause_77 rfl (lv_at hl 2 rfl) ?_
                          refine lv_iconst (v := 1) hx hb dX4_readClause_78 (by decide) ?_
                          refine lv_iload hx hb dX4_readClause_79 (lv_at hl 0 rfl) ?_
                          refine lv_ishl hx hb dX4_readClause_81 ?_
                          refine lv_eqi (y := 2) (by decide) ?_
                          refine lv_iand hx hb dX4_readClause_82 ?_
                          refine lv_eqi (y := 2) (by decide) ?_
                          refine lv_if_eq (tgt := 95) hx hb dX4_readClause_83 (by decide) (fun cb => absurd cb (by decide)) (fun _ => ?_)
                          refine lv_aload_n hx hb dX4_readClause_86 rfl (lv_at hl 4 rfl) ?_
                          refine lv_aload_n hx hb dX4_readClause_87 rfl (lv_at hl 4 rfl) ?_
                          refine va_get (D := D) (ci := 4) (v := .int (nI axx_386)) (C := RX4) (T := TX4) (N := 7) hx hb hts iX4 hown hK hP 1 rfl rfl 2 (by decide) f28 (fun _ h9 => h9) rfl dX4_readClause_88 ?_
                          refine va_put (D := D) (ci := 4) (v := .int (nI axx_386)) (ty := .int) (C := RX4) (T := TX4) (N := 7) hx hb hts iX4 tyX4 tyX4_ok nmX4 hown hK hP hD hS 1 rfl rfl 3 (by decide) f31 (fun _ h9 => h9) rfl (by decide +kernel) (rfl) (rfl) (Nat.le_of_ble_eq_true rfl) dX4_readClause_91 (fun H locs hP2 hD2 hS2 => ?_)
                          clear hP hD hS
                          have hPD : PD D A [(Rv, .inl (g 0, 21, .inl fvalx_374)), (Rd, .inr (4, [.ref Tp, .int (nI ln), .int (nI axx_386), .int (nI axx_386), .int (nI htx_4), .int (nI ctx_5), .ref Rv])), (Tp, .inl (g 0, 160, .inl ftp))] H := ⟨hP2, hD2⟩
                          have hS := hS2; clear hP2 hD2 hS2; have hP := hPD.1; have hD := hPD.2; clear hPD
                          have hPD9 : PD D A [(Rd, .inr (4, [.ref Tp, .int (nI ln), .int (nI axx_386), .int (nI axx_386), .int (nI htx_4), .int (nI ctx_5), .ref Rv])), (Tp, .inl (g 0, 160, .inl ftp)), (Rv, .inl (g 0, 21, .inl fvalx_374))] H := ⟨hP.sub [1, 2, 0] rfl, hD.sub [1, 2, 0] (by decide) rfl⟩
                          have hP9 := hPD9.1; have hD9 := hPD9.2
                          subst hQ
                          refine W.widen (k := 0) (n := 0) (Nat.le_of_ble_eq_true rfl) (Nat.le_of_ble_eq_true rfl) ?_
                          exact W.vret hx hb hr (fun tS htS _ => ⟨⟨_, rfl, ⟨axx_386, (nI axx_386), htx_4, ctx_5, fvalx_374, rfl, ⟨(show axx_386 ≤ ln by omega), (show htx_4 ≤ 3 by omega), (show ctx_5 ≤ 3 by omega), (hf_376), (cl_bad hf_7.2.2.2.1.symm (show cl_15 < 7 by omega) (hR_381.trans (itR_again (f := 1) (q := 1) hf_388 qi_396 (by decide) (by decide))) (show axx_386 < ln by omega) cb_393).1, (cl_bad hf_7.2.2.2.1.symm (show cl_15 < 7 by omega) (hR_381.trans (itR_again (f := 1) (q := 1) hf_388 qi_396 (by decide) (by decide))) (show axx_386 < ln by omega) cb_393).2, (fun q => absurd q (m1_ne (show axx_386 < 2 ^ 31 by omega))), (fun q => absurd q (m1_ne (show axx_386 < 2 ^ 31 by omega)))⟩⟩, by rw [htS]; exact hP9, hD9⟩, hS.F htS⟩) hS.2.2 dX4_readClause_94
                        · skip
                          refine lv_eqi (y := 2) (qi_396) ?_
                          refine lv_istore (lv' := [(5, .int 2), (4, .int 2), (3, .int 6), (2, .int (nI cl_15)), (0, .ref Rd), (1, .int zf)]) hx hb dX4_readClause_69 hl (by decide) rfl (fun ls hl => ?_)
                          refine lv_iload hx hb dX4_readClause_71 (lv_at hl 0 rfl) ?_
                          refine lv_iconst (v := (-1)) hx hb dX4_readClause_73 (by decide) ?_
                          refine lv_icmp_eq (tgt := 86) hx hb dX4_readClause_74 (by decide) (fun cb => absurd cb (by decide)) (fun _ => ?_)
                          refine lv_iload_n hx hb dX4_readClause_77 rfl (lv_at hl 2 rfl) ?_
                          refine lv_iconst (v := 1) hx hb dX4_readClause_78 (by decide) ?_
                          refine lv_iload hx hb dX4_readClause_79 (lv_at hl 0 rfl) ?_
                          refine lv_ishl hx hb dX4_readClause_81 ?_
                          refine lv_eqi (y := 4) (by decide) ?_
                          refine lv_iand hx hb dX4_readClause_82 ?_
                          refine lv_eqi (y := 4) (by decide) ?_
                          refine lv_if_eq (tgt := 95) hx hb dX4_readClause_83 (by decide) (fun cb => absurd cb (by decide)) (fun _ => ?_)
                          refine lv_aload_n hx hb dX4_readClause_86 rfl (lv_at hl 4 rfl) ?_
                          refine lv_aload_n hx hb dX4_readClause_87 rfl (lv_at hl 4 rfl) ?_
                          refine va_get (D := D) (ci := 4) (v := .int (nI axx_386)) (C := RX4) (T := TX4) (N := 7) hx hb hts iX4 hown hK hP 1 rfl rfl 2 (by decide) f28 (fun _ h9 => h9) rfl dX4_readClause_88 ?_
                          refine va_put (D := D) (ci := 4) (v := .int (nI axx_386)) (ty := .int) (C := RX4) (T := TX4) (N := 7) hx hb hts iX4 tyX4 tyX4_ok nmX4 hown hK hP hD hS 1 rfl rfl 3 (by decide) f31 (fun _ h9 => h9) rfl (by decide +kernel) (rfl) (rfl) (Nat.le_of_ble_eq_true rfl) dX4_readClause_91 (fun H locs hP2 hD2 hS2 => ?_)
                          clear hP hD hS
                          have hPD : PD D A [(Rv, .inl (g 0, 21, .inl fvalx_374)), (Rd, .inr (4, [.ref Tp, .int (nI ln), .int (nI axx_386), .int (nI axx_386), .int (nI htx_4), .int (nI ctx_5), .ref Rv])), (Tp, .inl (g 0, 160, .inl ftp))] H := ⟨hP2, hD2⟩
                          have hS := hS2; clear hP2 hD2 hS2; have hP := hPD.1; have hD := hPD.2; clear hPD
                          have hPD9 : PD D A [(Rd, .inr (4, [.ref Tp, .int (nI ln), .int (nI axx_386), .int (nI axx_386), .int (nI htx_4), .int (nI ctx_5), .ref Rv])), (Tp, .inl (g 0, 160, .inl ftp)), (Rv, .inl (g 0, 21, .inl fvalx_374))] H := ⟨hP.sub [1, 2, 0] rfl, hD.sub [1, 2, 0] (by decide) rfl⟩
                          have hP9 := hPD9.1; have hD9 := hPD9.2
                          subst hQ
                          refine W.widen (k := 0) (n := 0) (Nat.le_of_ble_eq_true rfl) (Nat.le_of_ble_eq_true rfl) ?_
                          exact W.vret hx hb hr (fun tS htS _ => ⟨⟨_, rfl, ⟨axx_386, (nI axx_386), htx_4, ctx_5, fvalx_374, rfl, ⟨(show axx_386 ≤ ln by omega), (show htx_4 ≤ 3 by omega), (show ctx_5 ≤ 3 by omega), (hf_376), (cl_bad hf_7.2.2.2.1.symm (show cl_15 < 7 by omega) (hR_381.trans (itR_again (f := 1) (q := 2) hf_388 qi_396 (by decide) (by decide))) (show axx_386 < ln by omega) cb_393).1, (cl_bad hf_7.2.2.2.1.symm (show cl_15 < 7 by omega) (hR_381.trans (itR_again (f := 1) (q := 2) hf_388 qi_396 (by decide) (by decide))) (show axx_386 < ln by omega) cb_393).2, (fun q => absurd q (m1_ne (show axx_386 < 2 ^ 31 by omega))), (fun q => absurd q (m1_ne (show axx_386 < 2 ^ 31 by omega)))⟩⟩, by rw [htS]; exact hP9, hD9⟩, hS.F htS⟩) hS.2.2 dX4_readClause_94
                      · skip
                        have hPD9 : PD D A [(Rd, .inr (4, [.ref Tp, .int (nI ln), .int (nI axx_386), .int (-1), .int (nI htx_4), .int (nI ctx_5), .ref Rv])), (Tp, .inl (g 0, 160, .inl ftp)), (Rv, .inl (g 0, 21, .inl fvalx_374))] H := ⟨hP.sub [1, 2, 0] rfl, hD.sub [1, 2, 0] (by decide) rfl⟩
                        have hP9 := hPD9.1; have hD9 := hPD9.2
                        subst hQ
                        refine W.widen (k := 0) (n := 0) (Nat.le_of_ble_eq_true rfl) (Nat.le_of_ble_eq_true rfl) ?_
                        exact W.vret hx hb hr (fun tS htS _ => ⟨⟨_, rfl, ⟨axx_386, (-1), htx_4, ctx_5, fvalx_374, rfl, ⟨(show axx_386 ≤ ln by omega), (show htx_4 ≤ 3 by omega), (show ctx_5 ≤ 3 by omega), (hf_376), (cl_end hf_7.2.2.2.1.symm (show cl_15 < 7 by omega) (hR_381.trans (itR_no (f := 1) hf_388 (by rw [cb_393]; exact itK_59 _))) (fun q => q.2 cb_393)).1, (cl_end hf_7.2.2.2.1.symm (show cl_15 < 7 by omega) (hR_381.trans (itR_no (f := 1) hf_388 (by rw [cb_393]; exact itK_59 _))) (fun q => q.2 cb_393)).2.1, (fun _ => ⟨(cl_end hf_7.2.2.2.1.symm (show cl_15 < 7 by omega) (hR_381.trans (itR_no (f := 1) hf_388 (by rw [cb_393]; exact itK_59 _))) (fun q => q.2 cb_393)).2.2, show ax < axx_386 by omega⟩), (fun _ => ((clW_cl hf_7.2.2.2.1.symm (show cl_15 < 7 by omega)).trans (hW_383.trans (itW_no (f := 1) hf_388 (by rw [cb_393]; exact itK_59 _)))).symm)⟩⟩, by rw [htS]; exact hP9, hD9⟩, hS.F htS⟩) hS.2.2 dX4_readClause_52
                  · skip
                    have hP9 := hP; have hD9 := hD
                    subst hQ
                    refine W.widen (k := 0) (n := 0) (Nat.le_of_ble_eq_true rfl) (Nat.le_of_ble_eq_true rfl) ?_
                    exact W.vret hx hb hr (fun tS htS _ => ⟨⟨_, rfl, ⟨axx_372, zfax_373, htx_4, ctx_5, fvalx_374, rfl, ⟨(show axx_372 ≤ ln by omega), (show htx_4 ≤ 3 by omega), (show ctx_5 ≤ 3 by omega), (hf_376), (cl_num hf_7.2.2.2.1.symm (show cl_15 < 7 by omega) ((congrArg Prod.fst hR_303).trans ((itR_w (f := 2) (q := 1) hf_310 (show axx_308 < ln by omega) qi_318 (by decide) (by decide) (fun q => cb_379 (hf_377.trans q))).trans hf_377.symm)) cb_379).1, (cl_num hf_7.2.2.2.1.symm (show cl_15 < 7 by omega) ((congrArg Prod.fst hR_303).trans ((itR_w (f := 2) (q := 1) hf_310 (show axx_308 < ln by omega) qi_318 (by decide) (by decide) (fun q => cb_379 (hf_377.trans q))).trans hf_377.symm)) cb_379).2, (fun q => absurd q cb_379), (fun q => absurd q cb_379)⟩⟩, by rw [htS]; exact hP9, hD9⟩, hS.F htS⟩) hS.2.2 dX4_readClause_127
                · skip
                  refine lv_eqi (y := 2) (qi_318) ?_
                  refine lv_istore (lv' := [(5, .int 2), (4, .int 1), (3, .int 4), (2, .int (nI cl_15)), (0, .ref Rd), (1, .int zf)]) hx hb dX4_readClause_69 hl (by decide) rfl (fun ls hl => ?_)
                  refine lv_iload hx hb dX4_readClause_71 (lv_at hl 0 rfl) ?_
                  refine lv_iconst (v := (-1)) hx hb dX4_readClause_73 (by decide) ?_
                  refine lv_icmp_eq (tgt := 86) hx hb dX4_readClause_74 (by decide) (fun cb => absurd cb (by decide)) (fun _ => ?_)
                  refine lv_iload_n hx hb dX4_readClause_77 rfl (lv_at hl 2 rfl) ?_
                  refine lv_iconst (v := 1) hx hb dX4_readClause_78 (by decide) ?_
                  refine lv_iload hx hb dX4_readClause_79 (lv_at hl 0 rfl) ?_
                  refine lv_ishl hx hb dX4_readClause_81 ?_
                  refine lv_eqi (y := 4) (by decide) ?_
                  refine lv_iand hx hb dX4_readClause_82 ?_
                  refine lv_eqi (y := 4) (by decide) ?_
                  refine lv_if_eq (tgt := 95) hx hb dX4_readClause_83 (by decide) (fun cb => absurd cb (by decide)) (fun _ => ?_)
                  refine lv_aload_n hx hb dX4_readClause_86 rfl (lv_at hl 4 rfl) ?_
                  refine lv_aload_n hx hb dX4_readClause_87 rfl (lv_at hl 4 rfl) ?_
                  refine va_get (D := D) (ci := 4) (v := .int (nI axx_308)) (C := RX4) (T := TX4) (N := 7) hx hb hts iX4 hown hK hP 1 rfl rfl 2 (by decide) f28 (fun _ h9 => h9) rfl dX4_readClause_88 ?_
                  refine va_put (D := D) (ci := 4) (v := .int (nI axx_308)) (ty := .int) (C := RX4) (T := TX4) (N := 7) hx hb hts iX4 tyX4 tyX4_ok nmX4 hown hK hP hD hS 1 rfl rfl 3 (by decide) f31 (fun _ h9 => h9) rfl (by decide +kernel) (rfl) (rfl) (Nat.le_of_ble_eq_true rfl) dX4_readClause_91 (fun H locs hP2 hD2 hS2 => ?_)
                  clear hP hD hS
                  have hPD : PD D A [(Rv, .inl (g 0, 21, .inl fvalx_296)), (Rd, .inr (4, [.ref Tp, .int (nI ln), .int (nI axx_308), .int (nI axx_308), .int (nI htx_4), .int (nI ctx_5), .ref Rv])), (Tp, .inl (g 0, 160, .inl ftp))] H := ⟨hP2, hD2⟩
                  have hS := hS2; clear hP2 hD2 hS2; have hP := hPD.1; have hD := hPD.2; clear hPD
                  have hPD9 : PD D A [(Rd, .inr (4, [.ref Tp, .int (nI ln), .int (nI axx_308), .int (nI axx_308), .int (nI htx_4), .int (nI ctx_5), .ref Rv])), (Tp, .inl (g 0, 160, .inl ftp)), (Rv, .inl (g 0, 21, .inl fvalx_296))] H := ⟨hP.sub [1, 2, 0] rfl, hD.sub [1, 2, 0] (by decide) rfl⟩
                  have hP9 := hPD9.1; have hD9 := hPD9.2
                  subst hQ
                  refine W.widen (k := 0) (n := 0) (Nat.le_of_ble_eq_true rfl) (Nat.le_of_ble_eq_true rfl) ?_
                  exact W.vret hx hb hr (fun tS htS _ => ⟨⟨_, rfl, ⟨axx_308, (nI axx_308), htx_4, ctx_5, fvalx_296, rfl, ⟨(show axx_308 ≤ ln by omega), (show htx_4 ≤ 3 by omega), (show ctx_5 ≤ 3 by omega), (hf_298), (cl_bad hf_7.2.2.2.1.symm (show cl_15 < 7 by omega) (hR_303.trans (itR_again (f := 2) (q := 2) hf_310 qi_318 (by decide) (by decide))) (show axx_308 < ln by omega) cb_315).1, (cl_bad hf_7.2.2.2.1.symm (show cl_15 < 7 by omega) (hR_303.trans (itR_again (f := 2) (q := 2) hf_310 qi_318 (by decide) (by decide))) (show axx_308 < ln by omega) cb_315).2, (fun q => absurd q (m1_ne (show axx_308 < 2 ^ 31 by omega))), (fun q => absurd q (m1_ne (show axx_308 < 2 ^ 31 by omega)))⟩⟩, by rw [htS]; exact hP9, hD9⟩, hS.F htS⟩) hS.2.2 dX4_readClause_94
              · skip
                have hPD9 : PD D A [(Rd, .inr (4, [.ref Tp, .int (nI ln), .int (nI axx_308), .int (-1), .int (nI htx_4), .int (nI ctx_5), .ref Rv])), (Tp, .inl (g 0, 160, .inl ftp)), (Rv, .inl (g 0, 21, .inl fvalx_296))] H := ⟨hP.sub [1, 2, 0] rfl, hD.sub [1, 2, 0] (by decide) rfl⟩
                have hP9 := hPD9.1; have hD9 := hPD9.2
                subst hQ
                refine W.widen (k := 0) (n := 0) (Nat.le_of_ble_eq_true rfl) (Nat.le_of_ble_eq_true rfl) ?_
                exact W.vret hx hb hr (fun tS htS _ => ⟨⟨_, rfl, ⟨axx_308, (-1), htx_4, ctx_5, fvalx_296, rfl, ⟨(show axx_308 ≤ ln by omega), (show htx_4 ≤ 3 by omega), (show ctx_5 ≤ 3 by omega), (hf_298), (cl_end hf_7.2.2.2.1.symm (show cl_15 < 7 by omega) (hR_303.trans (itR_no (f := 2) hf_310 (by rw [cb_315]; exact itK_59 _))) (fun q => q.2 cb_315)).1, (cl_end hf_7.2.2.2.1.symm (show cl_15 < 7 by omega) (hR_303.trans (itR_no (f := 2) hf_310 (by rw [cb_315]; exact itK_59 _))) (fun q => q.2 cb_315)).2.1, (fun _ => ⟨(cl_end hf_7.2.2.2.1.symm (show cl_15 < 7 by omega) (hR_303.trans (itR_no (f := 2) hf_310 (by rw [cb_315]; exact itK_59 _))) (fun q => q.2 cb_315)).2.2, show ax < axx_308 by omega⟩), (fun _ => ((clW_cl hf_7.2.2.2.1.symm (show cl_15 < 7 by omega)).trans (hW_305.trans (itW_no (f := 2) hf_310 (by rw [cb_315]; exact itK_59 _)))).symm)⟩⟩, by rw [htS]; exact hP9, hD9⟩, hS.F htS⟩) hS.2.2 dX4_readClause_52
          · skip
            have hP9 := hP; have hD9 := hD
            subst hQ
            refine W.widen (k := 0) (n := 0) (Nat.le_of_ble_eq_true rfl) (Nat.le_of_ble_eq_true rfl) ?_
            exact W.vret hx hb hr (fun tS htS _ => ⟨⟨_, rfl, ⟨axx_294, zfax_295, htx_4, ctx_5, fvalx_296, rfl, ⟨(show axx_294 ≤ ln by omega), (show htx_4 ≤ 3 by omega), (show ctx_5 ≤ 3 by omega), (hf_298), (cl_num hf_7.2.2.2.1.symm (show cl_15 < 7 by omega) ((congrArg Prod.fst hR_19).trans ((itR_w (f := 3) (q := 2) hf_24 (show axx_22 < ln by omega) qi_32 (by decide) (by decide) (fun q => cb_301 (hf_299.trans q))).trans hf_299.symm)) cb_301).1, (cl_num hf_7.2.2.2.1.symm (show cl_15 < 7 by omega) ((congrArg Prod.fst hR_19).trans ((itR_w (f := 3) (q := 2) hf_24 (show axx_22 < ln by omega) qi_32 (by decide) (by decide) (fun q => cb_301 (hf_299.trans q))).trans hf_299.symm)) cb_301).2, (fun q => absurd q cb_301), (fun q => absurd q cb_301)⟩⟩, by rw [htS]; exact hP9, hD9⟩, hS.F htS⟩) hS.2.2 dX4_readClause_127
      · skip
        have hPD9 : PD D A [(Rd, .inr (4, [.ref Tp, .int (nI ln), .int (nI axx_22), .int (-1), .int (nI htx_4), .int (nI ctx_5), .ref Rv])), (Tp, .inl (g 0, 160, .inl ftp)), (Rv, .inl (g 0, 21, .inl fval))] H := ⟨hP.sub [1, 2, 0] rfl, hD.sub [1, 2, 0] (by decide) rfl⟩
        have hP9 := hPD9.1; have hD9 := hPD9.2
        subst hQ
        refine W.widen (k := 0) (n := 0) (Nat.le_of_ble_eq_true rfl) (Nat.le_of_ble_eq_true rfl) ?_
        exact W.vret hx hb hr (fun tS htS _ => ⟨⟨_, rfl, ⟨axx_22, (-1), htx_4, ctx_5, fval, rfl, ⟨(show axx_22 ≤ ln by omega), (show htx_4 ≤ 3 by omega), (show ctx_5 ≤ 3 by omega), (h4), (cl_end hf_7.2.2.2.1.symm (show cl_15 < 7 by omega) (hR_19.trans (itR_no (f := 3) hf_24 (by rw [cb_29]; exact itK_59 _))) (fun q => q.2 cb_29)).1, (cl_end hf_7.2.2.2.1.symm (show cl_15 < 7 by omega) (hR_19.trans (itR_no (f := 3) hf_24 (by rw [cb_29]; exact itK_59 _))) (fun q => q.2 cb_29)).2.1, (fun _ => ⟨(cl_end hf_7.2.2.2.1.symm (show cl_15 < 7 by omega) (hR_19.trans (itR_no (f := 3) hf_24 (by rw [cb_29]; exact itK_59 _))) (fun q => q.2 cb_29)).2.2, show ax < axx_22 by omega⟩), (fun _ => ((clW_cl hf_7.2.2.2.1.symm (show cl_15 < 7 by omega)).trans (hW_20.trans (itW_no (f := 3) hf_24 (by rw [cb_29]; exact itK_59 _)))).symm)⟩⟩, by rw [htS]; exact hP9, hD9⟩, hS.F htS⟩) hS.2.2 dX4_readClause_52
