set_option maxHeartbeats 4000000 in
set_option maxRecDepth 100000 in
theorem k_X4_readClause (l : Launch) (D : va_G) (g : Nat → ClassId) (sz : Nat) (Rd : Nat) (zf : Int32) (Tp : Nat) (ln : Nat) (ax : Nat) (zfa : Int32) (ht : Nat) (ct : Nat) (Rv : Nat) (ftp : Nat → Int32) (fval : Nat → Int32) (h0 : ln ≤ 160) (h1 : ax ≤ ln) (h2 : ht ≤ 3) (h3 : ct ≤ 3) (h4 : vOK fval) : Met l yX4_readClause wsX4_readClause ({ frames := 5, cells := 0, slots := 0, locals := 107 }) (va_Pc [.ref Rd, .int zf] (pre D g sz [(Rd, .inr (4, [.ref Tp, .int (nI ln), .int (nI ax), .int zfa, .int (nI ht), .int (nI ct), .ref Rv])), (Tp, .inl (g 0, 160, .inl ftp)), (Rv, .inl (g 0, 21, .inl fval))])) (va_Qv (fun (u : va_W) => ∃ (axx : Nat) (zfax : Int32) (htx : Nat) (ctx : Nat) (fvalx : Nat → Int32), u = [(Rd, .inr (4, [.ref Tp, .int (nI ln), .int (nI axx), .int zfax, .int (nI htx), .int (nI ctx), .ref Rv])), (Tp, .inl (g 0, 160, .inl ftp)), (Rv, .inl (g 0, 21, .inl fvalx))] ∧ (axx ≤ ln) ∧ (htx ≤ 3) ∧ (ctx ≤ 3) ∧ (vOK fvalx)) (wd D (va_A [(Rd, .inr (4, [.ref Tp, .int (nI ln), .int (nI ax), .int zfa, .int (nI ht), .int (nI ct), .ref Rv])), (Tp, .inl (g 0, 160, .inl ftp)), (Rv, .inl (g 0, 21, .inl fval))] sz)) (va_A [(Rd, .inr (4, [.ref Tp, .int (nI ln), .int (nI ax), .int zfa, .int (nI ht), .int (nI ct), .ref Rv])), (Tp, .inl (g 0, 160, .inl ftp)), (Rv, .inl (g 0, 21, .inl fval))] sz)) 0 0 (va_A [(Rd, .inr (4, [.ref Tp, .int (nI ln), .int (nI ax), .int zfa, .int (nI ht), .int (nI ct), .ref Rv])), (Tp, .inl (g 0, 160, .inl ftp)), (Rv, .inl (g 0, 21, .inl fval))] sz) := by
  refine Met.ofW (cc := cX4_readClause) (maxL := 6) (ret := none) (by decide) rfl ?_
  intro p e s m args below meth c s₁ B hml hv
  obtain ⟨rfl, hsz, hP, ⟨hK, hN⟩, hD0, hZ⟩ := hv
  have hx := B.exec
  have hb := B.bytes
  have hr := B.returns
  have hts := atoms_spec (ws := wsX4_readClause) B.pre
  have hown : s.vm.findClass RX4 = some m.cls := findClass_of_methodNamed B.named
  have hlocks := B.notSynchronized
  clear B
  subst hsz
  have hD := hD0.self (sz := s.heap.size)
  clear hD0
  generalize hAe : va_A [(Rd, .inr (4, [.ref Tp, .int (nI ln), .int (nI ax), .int zfa, .int (nI ht), .int (nI ct), .ref Rv])), (Tp, .inl (g 0, 160, .inl ftp)), (Rv, .inl (g 0, 21, .inl fval))] s.heap.size = A at hD hZ ⊢
  have hA : ∀ q : Nat, s.heap.size ≤ q → A q := fun q h => by rw [← hAe]; exact Or.inr h
  have hS : va_S A s.heap s.heap [] := va_S.rf
  have f24 := hts (.fieldLink RX4 24 "HopCredits$Reading" "length" "I") (List.mem_of_getElem? (i := 2) rfl)
  have f28 := hts (.fieldLink RX4 28 "HopCredits$Reading" "at" "I") (List.mem_of_getElem? (i := 1) rfl)
  have f31 := hts (.fieldLink RX4 31 "HopCredits$Reading" "fault" "I") (List.mem_of_getElem? (i := 4) rfl)
  have f9 := hts (.fieldLink RX4 9 "HopCredits$Reading" "text" "[I") (List.mem_of_getElem? (i := 3) rfl)
  have iX4 : ∀ w ∈ u_ws RX4 TX4 7, w ∈ wsX4_readClause := fun w h => List.mem_cons_of_mem _ (List.mem_append_right _ (h))
  have hl := lv_entry ([.ref Rd, .int zf]) (n := 6) (Nat.le_of_ble_eq_true rfl)
  rw [lg_entry_eq]
  generalize (lg_sl ([.ref Rd, .int zf]) ++ List.replicate (6 - (lg_sl ([.ref Rd, .int zf])).length) Slot.unset).toArray = ls at hl ⊢
  have hl : lv_has ls 6 [(0, .ref Rd), (1, .int zf)] := hl
  generalize hQ : MQ below _ _ s _ _ _ = Q
  generalize hH : s.heap = H at hP ⊢
  have hS : va_S A s.heap H [] := by rw [← hH]; exact hS
  clear hH
  refine lv_aload_n hx hb dX4_readClause_0 rfl (lv_at hl 0 rfl) ?_
  refine lv_iload_n hx hb dX4_readClause_1 rfl (lv_at hl 1 rfl) ?_
  refine ky_Vi (As := [.int zf]) (rest := []) ⟨hx, hb, hml, hown, hts⟩ ⟨hK, hN⟩ hZ hP hD hS hA [0, 1] [2] (wc := [(Rd, .inr (4, [.ref Tp, .int (nI ln), .int (nI ax), .int zfa, .int (nI ht), .int (nI ct), .ref Rv])), (Tp, .inl (g 0, 160, .inl ftp))]) (wr := [(Rv, .inl (g 0, 21, .inl fval))]) rfl rfl rfl rfl (by decide) (k_X4_readHead l D g H.size Rd zf Tp ln ax zfa ht ct Rv ftp (show ln ≤ 160 by omega) (show ax ≤ ln by omega) (show ht ≤ 3 by omega) (show ct ≤ 3 by omega)) (cwV 1 hts gX4_readClause_X4_readHead rfl rfl rfl (by decide +kernel) ⟨(Nat.le_of_ble_eq_true rfl), (Nat.le_of_ble_eq_true rfl)⟩) 0 4 rfl rfl rfl rfl hl.1 rfl (Nat.le_of_ble_eq_true rfl) dX4_readClause_2 ⟨(Nat.le_of_ble_eq_true rfl), (Nat.le_of_ble_eq_true rfl)⟩ (fun r_1 u H locs hw hP2 hD2 hS2 => ?_)
  clear hP hD hS
  obtain ⟨axx_2, zfax_3, htx_4, ctx_5, zr_6, rfl, rfl, hf_7, hf_8, hf_9, hf_10⟩ := hw
  have hPD : PD D A [(Rv, .inl (g 0, 21, .inl fval)), (Rd, .inr (4, [.ref Tp, .int (nI ln), .int (nI axx_2), .int zfax_3, .int (nI htx_4), .int (nI ctx_5), .ref Rv])), (Tp, .inl (g 0, 160, .inl ftp))] H := ⟨hP2, hD2⟩
  have hS := hS2; clear hP2 hD2 hS2; have hP := hPD.1; have hD := hPD.2; clear hPD
  refine W.widen (k := 0) (n := 0) (Nat.le_of_ble_eq_true rfl) (Nat.le_of_ble_eq_true rfl) ?_
  refine lv_istore_n (lv' := [(2, .int r_1), (0, .ref Rd), (1, .int zf)]) hx hb dX4_readClause_5 rfl hl (by decide) rfl (fun ls hl => ?_)
  refine lv_iload_n hx hb dX4_readClause_6 rfl (lv_at hl 0 rfl) ?_
  refine lv_iconst (v := (-1)) hx hb dX4_readClause_7 (by decide) ?_
  refine lv_icmp_ne (tgt := 12) hx hb dX4_readClause_8 (by decide) (fun cb_11 => ?_) (fun cb_11 => ?_)
  · skip
    have hPq_14 := hP; have hDq_14 := hD; have hSq_14 := hS; have hlq_14 := hl; clear hP hD hS hl
    obtain ⟨j_12, hj_13, rfl⟩ := ok7_j (hf_7) cb_11
    have hP := hPq_14; have hD := hDq_14; have hS := hSq_14; have hl := hlq_14; clear hPq_14 hDq_14 hSq_14 hlq_14
    refine lv_iconst (v := 0) hx hb dX4_readClause_12 (by decide) ?_
    refine lv_istore_n (lv' := [(3, .int 0), (2, .int (nI j_12)), (0, .ref Rd), (1, .int zf)]) hx hb dX4_readClause_13 rfl hl (by decide) rfl (fun ls hl => ?_)
    refine lv_iconst (v := 0) hx hb dX4_readClause_14 (by decide) ?_
    refine lv_istore (lv' := [(4, .int 0), (3, .int 0), (2, .int (nI j_12)), (0, .ref Rd), (1, .int zf)]) hx hb dX4_readClause_15 hl (by decide) rfl (fun ls hl => ?_)
    have loop_94 : ∀ (Nloop_94 : Nat) (i_50 : Nat) (i_51 : Int32) (z_52 : Nat) (z_53 : Int32) (F_54 : Nat → Int32) (hF_54 : vOK F_54) (hbi_50 : i_50 ≤ 3 + 1) (hv_93 : z_52 ≤ ln) (hmloop_94 : (3 + 1) - i_50 < Nloop_94) (H : Heap) (locs : List Loc) (ls : Array Slot), va_P D vwCl [(Rv, .inl (g 0, 21, .inl F_54)), (Rd, .inr (4, [.ref Tp, .int (nI ln), .int (nI z_52), .int z_53, .int (nI htx_4), .int (nI ctx_5), .ref Rv])), (Tp, .inl (g 0, 160, .inl ftp))] H → va_D A [(Rv, .inl (g 0, 21, .inl F_54)), (Rd, .inr (4, [.ref Tp, .int (nI ln), .int (nI z_52), .int z_53, .int (nI htx_4), .int (nI ctx_5), .ref Rv])), (Tp, .inl (g 0, 160, .inl ftp))] → va_S A s.heap H locs → lv_has ls 6 [(4, .int (nI i_50)), (3, .int i_51), (2, .int (nI j_12)), (0, .ref Rd)] → W p l e (headSpec wsX4_readClause ({ frames := 5, cells := 0, slots := 0, locals := 107 })).room s m ([.ref Rd, .int zf] : List Value).toArray below meth c H locs 0 0 Q (F0 m 17 ls []) := by
      clear hP hD hS hl
      intro Nloop_94
      induction Nloop_94 with
      | zero => intro i_50 i_51 z_52 z_53 F_54 hF_54 hbi_50 hv_93 hm9; exact absurd hm9 (Nat.not_lt_zero _)
      | succ Nloop_94 loop_94_ih =>
        intro i_50 i_51 z_52 z_53 F_54 hF_54 hbi_50 hv_93 hmloop_94 H locs ls hP hD hS hl
        refine lv_iload hx hb dX4_readClause_17 (lv_at hl 0 rfl) ?_
        refine lv_iconst (v := 3) hx hb dX4_readClause_19 (by decide) ?_
        refine lv_icmp_gt (tgt := 134) hx hb dX4_readClause_20 (by decide) (fun cb_95 => ?_) (fun cb_95 => ?_)
        · skip
          have cn_96 : 3 < i_50 := (nI_ltI (show 3 < 2 ^ 31 by omega) (show i_50 < 2 ^ 31 by omega)).mp cb_95
          have hPD9 : PD D A [(Rd, .inr (4, [.ref Tp, .int (nI ln), .int (nI z_52), .int z_53, .int (nI htx_4), .int (nI ctx_5), .ref Rv])), (Tp, .inl (g 0, 160, .inl ftp)), (Rv, .inl (g 0, 21, .inl F_54))] H := ⟨hP.sub [1, 2, 0] rfl, hD.sub [1, 2, 0] (by decide) rfl⟩
          have hP9 := hPD9.1; have hD9 := hPD9.2
          subst hQ
          refine W.widen (k := 0) (n := 0) (Nat.le_of_ble_eq_true rfl) (Nat.le_of_ble_eq_true rfl) ?_
          exact W.vret hx hb hr (fun tS htS _ => ⟨⟨_, rfl, ⟨z_52, z_53, htx_4, ctx_5, F_54, rfl, (show z_52 ≤ ln by omega), (show htx_4 ≤ 3 by omega), (show ctx_5 ≤ 3 by omega), (hF_54)⟩, by rw [htS]; exact hP9, hD9⟩, hS.F htS⟩) hS.2.2 dX4_readClause_134
        · skip
          have cn_97 : i_50 ≤ 3 := Nat.le_of_not_lt (fun q9 => cb_95 ((nI_ltI (show 3 < 2 ^ 31 by omega) (show i_50 < 2 ^ 31 by omega)).mpr q9))
          refine lv_aload_n hx hb dX4_readClause_23 rfl (lv_at hl 3 rfl) ?_
          refine ky_Vv (As := []) (rest := []) ⟨hx, hb, hml, hown, hts⟩ ⟨hK, hN⟩ hZ hP hD hS hA [1, 2] [0] (wc := [(Rd, .inr (4, [.ref Tp, .int (nI ln), .int (nI z_52), .int z_53, .int (nI htx_4), .int (nI ctx_5), .ref Rv])), (Tp, .inl (g 0, 160, .inl ftp))]) (wr := [(Rv, .inl (g 0, 21, .inl F_54))]) rfl rfl rfl rfl (by decide) (k_X4_passBlanks l D g H.size Rd Tp ln z_52 z_53 htx_4 ctx_5 Rv ftp (show ln ≤ 160 by omega) (show z_52 ≤ ln by omega)) (cwV 0 hts gX4_readClause_X4_passBlanks rfl rfl rfl (by decide +kernel) ⟨(Nat.le_of_ble_eq_true rfl), (Nat.le_of_ble_eq_true rfl)⟩) 1 4 rfl rfl rfl rfl hl.1 rfl (Nat.le_of_ble_eq_true rfl) dX4_readClause_24 ⟨(Nat.le_of_ble_eq_true rfl), (Nat.le_of_ble_eq_true rfl)⟩ (fun u H locs hw hP2 hD2 hS2 => ?_)
          clear hP hD hS
          obtain ⟨axx_99, rfl, hf_100⟩ := hw
          have hPD : PD D A [(Rv, .inl (g 0, 21, .inl F_54)), (Rd, .inr (4, [.ref Tp, .int (nI ln), .int (nI axx_99), .int z_53, .int (nI htx_4), .int (nI ctx_5), .ref Rv])), (Tp, .inl (g 0, 160, .inl ftp))] H := ⟨hP2, hD2⟩
          have hS := hS2; clear hP2 hD2 hS2; have hP := hPD.1; have hD := hPD.2; clear hPD
          refine W.widen (k := 0) (n := 0) (Nat.le_of_ble_eq_true rfl) (Nat.le_of_ble_eq_true rfl) ?_
          refine lv_aload_n hx hb dX4_readClause_27 rfl (lv_at hl 3 rfl) ?_
          refine va_get (D := D) (ci := 4) (v := .int (nI axx_99)) (C := RX4) (T := TX4) (N := 7) hx hb hts iX4 hown hK hP 1 rfl rfl 2 (by decide) f28 (fun _ h9 => h9) rfl dX4_readClause_28 ?_
          refine lv_aload_n hx hb dX4_readClause_31 rfl (lv_at hl 3 rfl) ?_
          refine va_get (D := D) (ci := 4) (v := .int (nI ln)) (C := RX4) (T := TX4) (N := 7) hx hb hts iX4 hown hK hP 1 rfl rfl 1 (by decide) f24 (fun _ h9 => h9) rfl dX4_readClause_32 ?_
          refine lv_icmp_ge (tgt := 52) hx hb dX4_readClause_35 (by decide) (fun cb_101 => ?_) (fun cb_101 => ?_)
          · skip
            have cn_102 : ln ≤ axx_99 := (nI_leI (show ln < 2 ^ 31 by omega) (show axx_99 < 2 ^ 31 by omega)).mp cb_101
            have hPD9 : PD D A [(Rd, .inr (4, [.ref Tp, .int (nI ln), .int (nI axx_99), .int z_53, .int (nI htx_4), .int (nI ctx_5), .ref Rv])), (Tp, .inl (g 0, 160, .inl ftp)), (Rv, .inl (g 0, 21, .inl F_54))] H := ⟨hP.sub [1, 2, 0] rfl, hD.sub [1, 2, 0] (by decide) rfl⟩
            have hP9 := hPD9.1; have hD9 := hPD9.2
            subst hQ
            refine W.widen (k := 0) (n := 0) (Nat.le_of_ble_eq_true rfl) (Nat.le_of_ble_eq_true rfl) ?_
            exact W.vret hx hb hr (fun tS htS _ => ⟨⟨_, rfl, ⟨axx_99, z_53, htx_4, ctx_5, F_54, rfl, (show axx_99 ≤ ln by omega), (show htx_4 ≤ 3 by omega), (show ctx_5 ≤ 3 by omega), (hF_54)⟩, by rw [htS]; exact hP9, hD9⟩, hS.F htS⟩) hS.2.2 dX4_readClause_52
          · skip
            have cn_103 : axx_99 < ln := Nat.lt_of_not_le (fun q9 => cb_101 ((nI_leI (show ln < 2 ^ 31 by omega) (show axx_99 < 2 ^ 31 by omega)).mpr q9))
            refine lv_aload_n hx hb dX4_readClause_38 rfl (lv_at hl 3 rfl) ?_
            refine va_get (D := D) (ci := 4) (v := .ref Tp) (C := RX4) (T := TX4) (N := 7) hx hb hts iX4 hown hK hP 1 rfl rfl 0 (by decide) f9 (fun _ h9 => h9) rfl dX4_readClause_39 ?_
            refine lv_aload_n hx hb dX4_readClause_42 rfl (lv_at hl 3 rfl) ?_
            refine va_get (D := D) (ci := 4) (v := .int (nI axx_99)) (C := RX4) (T := TX4) (N := 7) hx hb hts iX4 hown hK hP 1 rfl rfl 2 (by decide) f28 (fun _ h9 => h9) rfl dX4_readClause_43 ?_
            refine va_iald hx hb hK hP 2 0 rfl rfl (vp_in_nI (show axx_99 < 160 by omega) (by decide)) dX4_readClause_46 ?_
            refine lv_eqi (y := (ftp (axx_99))) (congrArg ftp (nI_clamp (show axx_99 < 2 ^ 31 by omega))) ?_
            refine lv_topi (fun y_104 _ => ?_)
            refine lv_bipush (v := 59) hx hb dX4_readClause_47 (by decide) ?_
            refine lv_icmp_ne (tgt := 53) hx hb dX4_readClause_49 (by decide) (fun cb_105 => ?_) (fun cb_105 => ?_)
            · skip
              refine lv_iload_n hx hb dX4_readClause_53 rfl (lv_at hl 2 rfl) ?_
              refine ky_Si (As := [.int (nI j_12)]) (rest := []) ⟨hx, hb, hml, hown, hts⟩ ⟨hK, hN⟩ hZ hP hD hS hA [] [0, 1, 2] (wc := []) (wr := [(Rv, .inl (g 0, 21, .inl F_54)), (Rd, .inr (4, [.ref Tp, .int (nI ln), .int (nI axx_99), .int z_53, .int (nI htx_4), .int (nI ctx_5), .ref Rv])), (Tp, .inl (g 0, 160, .inl ftp))]) rfl rfl rfl rfl (by decide) (k_X4_kindOf l D g H.size j_12 (show j_12 < 7 by omega)) (va_cwS 1 hts gX4_readClause_X4_kindOf rfl rfl rfl (by decide +kernel) ⟨(Nat.le_of_ble_eq_true rfl), (Nat.le_of_ble_eq_true rfl)⟩) rfl hl.1 rfl (Nat.le_of_ble_eq_true rfl) dX4_readClause_54 ⟨(Nat.le_of_ble_eq_true rfl), (Nat.le_of_ble_eq_true rfl)⟩ (fun r_106 u H locs hw hP2 hD2 hS2 => ?_)
              clear hP hD hS
              obtain ⟨ky_107, rfl, rfl, hf_108⟩ := hw
              have hPD : PD D A [(Rv, .inl (g 0, 21, .inl F_54)), (Rd, .inr (4, [.ref Tp, .int (nI ln), .int (nI axx_99), .int z_53, .int (nI htx_4), .int (nI ctx_5), .ref Rv])), (Tp, .inl (g 0, 160, .inl ftp))] H := ⟨hP2, hD2⟩
              have hS := hS2; clear hP2 hD2 hS2; have hP := hPD.1; have hD := hPD.2; clear hPD
              refine W.widen (k := 0) (n := 0) (Nat.le_of_ble_eq_true rfl) (Nat.le_of_ble_eq_true rfl) ?_
              refine lv_aload_n hx hb dX4_readClause_57 rfl (lv_at hl 3 rfl) ?_
              refine va_get (D := D) (ci := 4) (v := .ref Tp) (C := RX4) (T := TX4) (N := 7) hx hb hts iX4 hown hK hP 1 rfl rfl 0 (by decide) f9 (fun _ h9 => h9) rfl dX4_readClause_58 ?_
              refine lv_aload_n hx hb dX4_readClause_61 rfl (lv_at hl 3 rfl) ?_
              refine va_get (D := D) (ci := 4) (v := .int (nI axx_99)) (C := RX4) (T := TX4) (N := 7) hx hb hts iX4 hown hK hP 1 rfl rfl 2 (by decide) f28 (fun _ h9 => h9) rfl dX4_readClause_62 ?_
              refine va_iald hx hb hK hP 2 0 rfl rfl (vp_in_nI (show axx_99 < 160 by omega) (by decide)) dX4_readClause_65 ?_
              refine lv_eqi (y := (ftp (axx_99))) (congrArg ftp (nI_clamp (show axx_99 < 2 ^ 31 by omega))) ?_
              refine lv_topi (fun y_109 _ => ?_)
              refine ky_Si (As := [.int (nI ky_107), .int y_109]) (rest := []) ⟨hx, hb, hml, hown, hts⟩ ⟨hK, hN⟩ hZ hP hD hS hA [] [0, 1, 2] (wc := []) (wr := [(Rv, .inl (g 0, 21, .inl F_54)), (Rd, .inr (4, [.ref Tp, .int (nI ln), .int (nI axx_99), .int z_53, .int (nI htx_4), .int (nI ctx_5), .ref Rv])), (Tp, .inl (g 0, 160, .inl ftp))]) rfl rfl rfl rfl (by decide) (k_X4_itemOf l D g H.size ky_107 y_109 (show ky_107 < 3 by omega)) (va_cwS 2 hts gX4_readClause_X4_itemOf rfl rfl rfl (by decide +kernel) ⟨(Nat.le_of_ble_eq_true rfl), (Nat.le_of_ble_eq_true rfl)⟩) rfl hl.1 rfl (Nat.le_of_ble_eq_true rfl) dX4_readClause_66 ⟨(Nat.le_of_ble_eq_true rfl), (Nat.le_of_ble_eq_true rfl)⟩ (fun r_110 u H locs hw hP2 hD2 hS2 => ?_)
              clear hP hD hS
              obtain ⟨zr_111, rfl, rfl, hf_112⟩ := hw
              have hPD : PD D A [(Rv, .inl (g 0, 21, .inl F_54)), (Rd, .inr (4, [.ref Tp, .int (nI ln), .int (nI axx_99), .int z_53, .int (nI htx_4), .int (nI ctx_5), .ref Rv])), (Tp, .inl (g 0, 160, .inl ftp))] H := ⟨hP2, hD2⟩
              have hS := hS2; clear hP2 hD2 hS2; have hP := hPD.1; have hD := hPD.2; clear hPD
              refine W.widen (k := 0) (n := 0) (Nat.le_of_ble_eq_true rfl) (Nat.le_of_ble_eq_true rfl) ?_
              refine lv_istore (lv' := [(5, .int r_110), (4, .int (nI i_50)), (3, .int i_51), (2, .int (nI j_12)), (0, .ref Rd)]) hx hb dX4_readClause_69 hl (by decide) rfl (fun ls hl => ?_)
              refine lv_iload hx hb dX4_readClause_71 (lv_at hl 0 rfl) ?_
              refine lv_iconst (v := (-1)) hx hb dX4_readClause_73 (by decide) ?_
              refine lv_icmp_eq (tgt := 86) hx hb dX4_readClause_74 (by decide) (fun cb_113 => ?_) (fun cb_113 => ?_)
              · skip
                have hPq_114 := hP; have hDq_114 := hD; have hSq_114 := hS; have hlq_114 := hl; clear hP hD hS hl
                subst cb_113
                have hP := hPq_114; have hD := hDq_114; have hS := hSq_114; have hl := hlq_114; clear hPq_114 hDq_114 hSq_114 hlq_114
                refine lv_aload_n hx hb dX4_readClause_86 rfl (lv_at hl 4 rfl) ?_
                refine lv_aload_n hx hb dX4_readClause_87 rfl (lv_at hl 4 rfl) ?_
                refine va_get (D := D) (ci := 4) (v := .int (nI axx_99)) (C := RX4) (T := TX4) (N := 7) hx hb hts iX4 hown hK hP 1 rfl rfl 2 (by decide) f28 (fun _ h9 => h9) rfl dX4_readClause_88 ?_
                refine va_put (D := D) (ci := 4) (v := .int (nI axx_99)) (ty := .int) (C := RX4) (T := TX4) (N := 7) hx hb hts iX4 tyX4 tyX4_ok nmX4 hown hK hP hD hS 1 rfl rfl 3 (by decide) f31 (fun _ h9 => h9) rfl (by decide +kernel) (rfl) (rfl) (Nat.le_of_ble_eq_true rfl) dX4_readClause_91 (fun H locs hP2 hD2 hS2 => ?_)
                clear hP hD hS
                have hPD : PD D A [(Rv, .inl (g 0, 21, .inl F_54)), (Rd, .inr (4, [.ref Tp, .int (nI ln), .int (nI axx_99), .int (nI axx_99), .int (nI htx_4), .int (nI ctx_5), .ref Rv])), (Tp, .inl (g 0, 160, .inl ftp))] H := ⟨hP2, hD2⟩
                have hS := hS2; clear hP2 hD2 hS2; have hP := hPD.1; have hD := hPD.2; clear hPD
                have hPD9 : PD D A [(Rd, .inr (4, [.ref Tp, .int (nI ln), .int (nI axx_99), .int (nI axx_99), .int (nI htx_4), .int (nI ctx_5), .ref Rv])), (Tp, .inl (g 0, 160, .inl ftp)), (Rv, .inl (g 0, 21, .inl F_54))] H := ⟨hP.sub [1, 2, 0] rfl, hD.sub [1, 2, 0] (by decide) rfl⟩
                have hP9 := hPD9.1; have hD9 := hPD9.2
                subst hQ
                refine W.widen (k := 0) (n := 0) (Nat.le_of_ble_eq_true rfl) (Nat.le_of_ble_eq_true rfl) ?_
                exact W.vret hx hb hr (fun tS htS _ => ⟨⟨_, rfl, ⟨axx_99, (nI axx_99), htx_4, ctx_5, F_54, rfl, (show axx_99 ≤ ln by omega), (show htx_4 ≤ 3 by omega), (show ctx_5 ≤ 3 by omega), (hF_54)⟩, by rw [htS]; exact hP9, hD9⟩, hS.F htS⟩) hS.2.2 dX4_readClause_94
              · skip
                have hPq_117 := hP; have hDq_117 := hD; have hSq_117 := hS; have hlq_117 := hl; clear hP hD hS hl
                obtain ⟨j_115, hj_116, rfl⟩ := okc_j (hf_112) cb_113
                have hP := hPq_117; have hD := hDq_117; have hS := hSq_117; have hl := hlq_117; clear hPq_117 hDq_117 hSq_117 hlq_117
                refine lv_iload_n hx hb dX4_readClause_77 rfl (lv_at hl 2 rfl) ?_
                refine lv_iconst (v := 1) hx hb dX4_readClause_78 (by decide) ?_
                refine lv_iload hx hb dX4_readClause_79 (lv_at hl 0 rfl) ?_
                refine lv_ishl hx hb dX4_readClause_81 ?_
                refine lv_topi (fun y_118 _ => ?_)
                refine lv_iand hx hb dX4_readClause_82 ?_
                refine lv_topi (fun y_119 _ => ?_)
                refine lv_if_eq (tgt := 95) hx hb dX4_readClause_83 (by decide) (fun cb_120 => ?_) (fun cb_120 => ?_)
                · skip
                  have hPq_121 := hP; have hDq_121 := hD; have hSq_121 := hS; have hlq_121 := hl; clear hP hD hS hl
                  subst cb_120
                  have hP := hPq_121; have hD := hDq_121; have hS := hSq_121; have hl := hlq_121; clear hPq_121 hDq_121 hSq_121 hlq_121
                  refine lv_iload_n hx hb dX4_readClause_95 rfl (lv_at hl 2 rfl) ?_
                  refine lv_iconst (v := 1) hx hb dX4_readClause_96 (by decide) ?_
                  refine lv_iload hx hb dX4_readClause_97 (lv_at hl 0 rfl) ?_
                  refine lv_ishl hx hb dX4_readClause_99 ?_
                  refine lv_topi (fun y_122 _ => ?_)
                  refine lv_ior hx hb dX4_readClause_100 ?_
                  refine lv_topi (fun y_123 _ => ?_)
                  refine lv_istore_n (lv' := [(3, .int y_123), (5, .int (nI j_115)), (4, .int (nI i_50)), (2, .int (nI j_12)), (0, .ref Rd)]) hx hb dX4_readClause_101 rfl hl (by decide) rfl (fun ls hl => ?_)
                  refine lv_aload_n hx hb dX4_readClause_102 rfl (lv_at hl 4 rfl) ?_
                  refine lv_dup hx hb dX4_readClause_103 rfl ?_
                  refine va_get (D := D) (ci := 4) (v := .int (nI axx_99)) (C := RX4) (T := TX4) (N := 7) hx hb hts iX4 hown hK hP 1 rfl rfl 2 (by decide) f28 (fun _ h9 => h9) rfl dX4_readClause_104 ?_
                  refine lv_iconst (v := 1) hx hb dX4_readClause_107 (by decide) ?_
                  refine lv_iadd hx hb dX4_readClause_108 ?_
                  refine lv_eqi (y := (nI (axx_99 + 1))) (nI_add (axx_99) (1)) ?_
                  refine va_put (D := D) (ci := 4) (v := .int (nI (axx_99 + 1))) (ty := .int) (C := RX4) (T := TX4) (N := 7) hx hb hts iX4 tyX4 tyX4_ok nmX4 hown hK hP hD hS 1 rfl rfl 2 (by decide) f28 (fun _ h9 => h9) rfl (by decide +kernel) (rfl) (rfl) (Nat.le_of_ble_eq_true rfl) dX4_readClause_109 (fun H locs hP2 hD2 hS2 => ?_)
                  clear hP hD hS
                  have hPD : PD D A [(Rv, .inl (g 0, 21, .inl F_54)), (Rd, .inr (4, [.ref Tp, .int (nI ln), .int (nI (axx_99 + 1)), .int z_53, .int (nI htx_4), .int (nI ctx_5), .ref Rv])), (Tp, .inl (g 0, 160, .inl ftp))] H := ⟨hP2, hD2⟩
                  have hS := hS2; clear hP2 hD2 hS2; have hP := hPD.1; have hD := hPD.2; clear hPD
                  refine lv_aload_n hx hb dX4_readClause_112 rfl (lv_at hl 4 rfl) ?_
                  refine lv_iload_n hx hb dX4_readClause_113 rfl (lv_at hl 3 rfl) ?_
                  refine lv_iload hx hb dX4_readClause_114 (lv_at hl 1 rfl) ?_
                  refine ky_Vv (As := [.int (nI j_12), .int (nI j_115)]) (rest := []) ⟨hx, hb, hml, hown, hts⟩ ⟨hK, hN⟩ hZ hP hD hS hA [1, 2, 0] [] (wc := [(Rd, .inr (4, [.ref Tp, .int (nI ln), .int (nI (axx_99 + 1)), .int z_53, .int (nI htx_4), .int (nI ctx_5), .ref Rv])), (Tp, .inl (g 0, 160, .inl ftp)), (Rv, .inl (g 0, 21, .inl F_54))]) (wr := []) rfl rfl rfl rfl (by decide) (k_X4_readNumber l D g H.size Rd j_12 j_115 Tp ln (axx_99 + 1) z_53 htx_4 ctx_5 Rv ftp F_54 (show ln ≤ 160 by omega) (show (axx_99 + 1) ≤ ln by omega) (hF_54) (show j_12 < 7 by omega) (show j_115 < 3 by omega)) (cwV 2 hts gX4_readClause_X4_readNumber rfl rfl rfl (by decide +kernel) ⟨(Nat.le_of_ble_eq_true rfl), (Nat.le_of_ble_eq_true rfl)⟩) 1 4 rfl rfl rfl rfl hl.1 rfl (Nat.le_of_ble_eq_true rfl) dX4_readClause_116 ⟨(Nat.le_of_ble_eq_true rfl), (Nat.le_of_ble_eq_true rfl)⟩ (fun u H locs hw hP2 hD2 hS2 => ?_)
                  clear hP hD hS
                  obtain ⟨axx_125, zfax_126, fvalx_127, rfl, hf_128, hf_129⟩ := hw
                  have hPD : PD D A [(Rd, .inr (4, [.ref Tp, .int (nI ln), .int (nI axx_125), .int zfax_126, .int (nI htx_4), .int (nI ctx_5), .ref Rv])), (Tp, .inl (g 0, 160, .inl ftp)), (Rv, .inl (g 0, 21, .inl fvalx_127))] H := ⟨hP2, hD2⟩
                  have hS := hS2; clear hP2 hD2 hS2; have hP := hPD.1; have hD := hPD.2; clear hPD
                  refine W.widen (k := 0) (n := 0) (Nat.le_of_ble_eq_true rfl) (Nat.le_of_ble_eq_true rfl) ?_
                  refine lv_aload_n hx hb dX4_readClause_119 rfl (lv_at hl 4 rfl) ?_
                  refine va_get (D := D) (ci := 4) (v := .int zfax_126) (C := RX4) (T := TX4) (N := 7) hx hb hts iX4 hown hK hP 0 rfl rfl 3 (by decide) f31 (fun _ h9 => h9) rfl dX4_readClause_120 ?_
                  refine lv_iconst (v := (-1)) hx hb dX4_readClause_123 (by decide) ?_
                  refine lv_icmp_eq (tgt := 128) hx hb dX4_readClause_124 (by decide) (fun cb_130 => ?_) (fun cb_130 => ?_)
                  · skip
                    have hPq_131 := hP; have hDq_131 := hD; have hSq_131 := hS; have hlq_131 := hl; clear hP hD hS hl
                    subst cb_130
                    have hP := hPq_131; have hD := hDq_131; have hS := hSq_131; have hl := hlq_131; clear hPq_131 hDq_131 hSq_131 hlq_131
                    refine lv_iinc (v := (nI (i_50 + 1))) (lv' := [(4, .int (nI (i_50 + 1))), (3, .int y_123), (5, .int (nI j_115)), (2, .int (nI j_12)), (0, .ref Rd)]) hx hb dX4_readClause_128 hl (k := 2) rfl (nI_1 (i_50)) (by decide) rfl (fun ls hl => ?_)
                    refine lv_goto (tgt := 17) hx hb dX4_readClause_131 (by decide) ?_
                    exact loop_94_ih (i_50 + 1) y_123 axx_125 (-1) fvalx_127 (hf_129) (show (i_50 + 1) ≤ 3 + 1 by omega) (show axx_125 ≤ ln by omega) (show (3 + 1) - (i_50 + 1) < Nloop_94 by omega) _ _ _ (hP.sub [2, 0, 1] rfl) (hD.sub [2, 0, 1] (by decide) rfl) hS (lv_sub hl [0, 1, 3, 4] rfl)
                  · skip
                    have hP9 := hP; have hD9 := hD
                    subst hQ
                    refine W.widen (k := 0) (n := 0) (Nat.le_of_ble_eq_true rfl) (Nat.le_of_ble_eq_true rfl) ?_
                    exact W.vret hx hb hr (fun tS htS _ => ⟨⟨_, rfl, ⟨axx_125, zfax_126, htx_4, ctx_5, fvalx_127, rfl, (show axx_125 ≤ ln by omega), (show htx_4 ≤ 3 by omega), (show ctx_5 ≤ 3 by omega), (hf_129)⟩, by rw [htS]; exact hP9, hD9⟩, hS.F htS⟩) hS.2.2 dX4_readClause_127
                · skip
                  refine lv_aload_n hx hb dX4_readClause_86 rfl (lv_at hl 4 rfl) ?_
                  refine lv_aload_n hx hb dX4_readClause_87 rfl (lv_at hl 4 rfl) ?_
                  refine va_get (D := D) (ci := 4) (v := .int (nI axx_99)) (C := RX4) (T := TX4) (N := 7) hx hb hts iX4 hown hK hP 1 rfl rfl 2 (by decide) f28 (fun _ h9 => h9) rfl dX4_readClause_88 ?_
                  refine va_put (D := D) (ci := 4) (v := .int (nI axx_99)) (ty := .int) (C := RX4) (T := TX4) (N := 7) hx hb hts iX4 tyX4 tyX4_ok nmX4 hown hK hP hD hS 1 rfl rfl 3 (by decide) f31 (fun _ h9 => h9) rfl (by decide +kernel) (rfl) (rfl) (Nat.le_of_ble_eq_true rfl) dX4_readClause_91 (fun H locs hP2 hD2 hS2 => ?_)
                  clear hP hD hS
                  have hPD : PD D A [(Rv, .inl (g 0, 21, .inl F_54)), (Rd, .inr (4, [.ref Tp, .int (nI ln), .int (nI axx_99), .int (nI axx_99), .int (nI htx_4), .int (nI ctx_5), .ref Rv])), (Tp, .inl (g 0, 160, .inl ftp))] H := ⟨hP2, hD2⟩
                  have hS := hS2; clear hP2 hD2 hS2; have hP := hPD.1; have hD := hPD.2; clear hPD
                  have hPD9 : PD D A [(Rd, .inr (4, [.ref Tp, .int (nI ln), .int (nI axx_99), .int (nI axx_99), .int (nI htx_4), .int (nI ctx_5), .ref Rv])), (Tp, .inl (g 0, 160, .inl ftp)), (Rv, .inl (g 0, 21, .inl F_54))] H := ⟨hP.sub [1, 2, 0] rfl, hD.sub [1, 2, 0] (by decide) rfl⟩
                  have hP9 := hPD9.1; have hD9 := hPD9.2
                  subst hQ
                  refine W.widen (k := 0) (n := 0) (Nat.le_of_ble_eq_true rfl) (Nat.le_of_ble_eq_true rfl) ?_
                  exact W.vret hx hb hr (fun tS htS _ => ⟨⟨_, rfl, ⟨axx_99, (nI axx_99), htx_4, ctx_5, F_54, rfl, (show axx_99 ≤ ln by omega), (show htx_4 ≤ 3 by omega), (show ctx_5 ≤ 3 by omega), (hF_54)⟩, by rw [htS]; exact hP9, hD9⟩, hS.F htS⟩) hS.2.2 dX4_readClause_94
            · skip
              have hPq_132 := hP; have hDq_132 := hD; have hSq_132 := hS; have hlq_132 := hl; clear hP hD hS hl
              subst cb_105
              have hP := hPq_132; have hD := hDq_132; have hS := hSq_132; have hl := hlq_132; clear hPq_132 hDq_132 hSq_132 hlq_132
              have hPD9 : PD D A [(Rd, .inr (4, [.ref Tp, .int (nI ln), .int (nI axx_99), .int z_53, .int (nI htx_4), .int (nI ctx_5), .ref Rv])), (Tp, .inl (g 0, 160, .inl ftp)), (Rv, .inl (g 0, 21, .inl F_54))] H := ⟨hP.sub [1, 2, 0] rfl, hD.sub [1, 2, 0] (by decide) rfl⟩
              have hP9 := hPD9.1; have hD9 := hPD9.2
              subst hQ
              refine W.widen (k := 0) (n := 0) (Nat.le_of_ble_eq_true rfl) (Nat.le_of_ble_eq_true rfl) ?_
              exact W.vret hx hb hr (fun tS htS _ => ⟨⟨_, rfl, ⟨axx_99, z_53, htx_4, ctx_5, F_54, rfl, (show axx_99 ≤ ln by omega), (show htx_4 ≤ 3 by omega), (show ctx_5 ≤ 3 by omega), (hF_54)⟩, by rw [htS]; exact hP9, hD9⟩, hS.F htS⟩) hS.2.2 dX4_readClause_52
    exact loop_94 _ 0 0 axx_2 zfax_3 fval (h4) (show 0 ≤ 3 + 1 by omega) (show axx_2 ≤ ln by omega) (Nat.lt_succ_self _) _ _ _ hP hD hS (lv_sub hl [0, 1, 2, 3] rfl)
  · skip
    have hPq_133 := hP; have hDq_133 := hD; have hSq_133 := hS; have hlq_133 := hl; clear hP hD hS hl
    subst cb_11
    have hP := hPq_133; have hD := hDq_133; have hS := hSq_133; have hl := hlq_133; clear hPq_133 hDq_133 hSq_133 hlq_133
    have hPD9 : PD D A [(Rd, .inr (4, [.ref Tp, .int (nI ln), .int (nI axx_2), .int zfax_3, .int (nI htx_4), .int (nI ctx_5), .ref Rv])), (Tp, .inl (g 0, 160, .inl ftp)), (Rv, .inl (g 0, 21, .inl fval))] H := ⟨hP.sub [1, 2, 0] rfl, hD.sub [1, 2, 0] (by decide) rfl⟩
    have hP9 := hPD9.1; have hD9 := hPD9.2
    subst hQ
    refine W.widen (k := 0) (n := 0) (Nat.le_of_ble_eq_true rfl) (Nat.le_of_ble_eq_true rfl) ?_
    exact W.vret hx hb hr (fun tS htS _ => ⟨⟨_, rfl, ⟨axx_2, zfax_3, htx_4, ctx_5, fval, rfl, (show axx_2 ≤ ln by omega), (show htx_4 ≤ 3 by omega), (show ctx_5 ≤ 3 by omega), (h4)⟩, by rw [htS]; exact hP9, hD9⟩, hS.F htS⟩) hS.2.2 dX4_readClause_11

set_option maxHeartbeats 4000000 in
set_option maxRecDepth 100000 in
theorem k_X4_faultOf (l : Launch) (D : va_G) (g : Nat → ClassId) (sz : Nat) (Rd : Nat) (Tp : Nat) (ln : Nat) (Rq : Nat) (fr : Nat → Int32) (Rv : Nat) (ftp : Nat → Int32) (fval : Nat → Int32) (h0 : ln ≤ 160) (h1 : vOK fval) : Met l yX4_faultOf wsX4_faultOf ({ frames := 6, cells := 0, slots := 0, locals := 132 }) (va_Pc [.ref Rd, .ref Tp, .int (nI ln)] (pre D g sz [(Rd, .inr (4, [.ref Rq, .int (fr 1), .int (fr 2), .int (fr 3), .int (fr 4), .int (fr 5), .ref Rv])), (Tp, .inl (g 0, 160, .inl ftp)), (Rv, .inl (g 0, 21, .inl fval))])) (va_Qi (fun (r : Int32) (u : va_W) => ∃ (axx : Nat) (zfax : Int32) (htx : Nat) (ctx : Nat) (fvalx : Nat → Int32), u = [(Rd, .inr (4, [.ref Tp, .int (nI ln), .int (nI axx), .int zfax, .int (nI htx), .int (nI ctx), .ref Rv])), (Tp, .inl (g 0, 160, .inl ftp)), (Rv, .inl (g 0, 21, .inl fvalx))] ∧ r = zfax ∧ (htx ≤ 3) ∧ (ctx ≤ 3) ∧ (vOK fvalx)) (wd D (va_A [(Rd, .inr (4, [.ref Rq, .int (fr 1), .int (fr 2), .int (fr 3), .int (fr 4), .int (fr 5), .ref Rv])), (Tp, .inl (g 0, 160, .inl ftp)), (Rv, .inl (g 0, 21, .inl fval))] sz)) (va_A [(Rd, .inr (4, [.ref Rq, .int (fr 1), .int (fr 2), .int (fr 3), .int (fr 4), .int (fr 5), .ref Rv])), (Tp, .inl (g 0, 160, .inl ftp)), (Rv, .inl (g 0, 21, .inl fval))] sz)) 0 0 (va_A [(Rd, .inr (4, [.ref Rq, .int (fr 1), .int (fr 2), .int (fr 3), .int (fr 4), .int (fr 5), .ref Rv])), (Tp, .inl (g 0, 160, .inl ftp)), (Rv, .inl (g 0, 21, .inl fval))] sz) := by
  refine Met.ofW (cc := cX4_faultOf) (maxL := 5) (ret := (some .int)) (by decide) rfl ?_
  intro p e s m args below meth c s₁ B hml hv
  obtain ⟨rfl, hsz, hP, ⟨hK, hN⟩, hD0, hZ⟩ := hv
  have hx := B.exec
  have hb := B.bytes
  have hr := B.returns
  have hts := atoms_spec (ws := wsX4_faultOf) B.pre
  have hown : s.vm.findClass RX4 = some m.cls := findClass_of_methodNamed B.named
  have hlocks := B.notSynchronized
  clear B
  subst hsz
  have hD := hD0.self (sz := s.heap.size)
  clear hD0
  generalize hAe : va_A [(Rd, .inr (4, [.ref Rq, .int (fr 1), .int (fr 2), .int (fr 3), .int (fr 4), .int (fr 5), .ref Rv])), (Tp, .inl (g 0, 160, .inl ftp)), (Rv, .inl (g 0, 21, .inl fval))] s.heap.size = A at hD hZ ⊢
  have hA : ∀ q : Nat, s.heap.size ≤ q → A q := fun q h => by rw [← hAe]; exact Or.inr h
  have hS : va_S A s.heap s.heap [] := va_S.rf
  have f24 := hts (.fieldLink RX4 24 "HopCredits$Reading" "length" "I") (List.mem_of_getElem? (i := 6) rfl)
  have f28 := hts (.fieldLink RX4 28 "HopCredits$Reading" "at" "I") (List.mem_of_getElem? (i := 7) rfl)
  have f31 := hts (.fieldLink RX4 31 "HopCredits$Reading" "fault" "I") (List.mem_of_getElem? (i := 8) rfl)
  have f34 := hts (.fieldLink RX4 34 "HopCredits$Reading" "hopsTold" "I") (List.mem_of_getElem? (i := 9) rfl)
  have f37 := hts (.fieldLink RX4 37 "HopCredits$Reading" "circuitsTold" "I") (List.mem_of_getElem? (i := 10) rfl)
  have f9 := hts (.fieldLink RX4 9 "HopCredits$Reading" "text" "[I") (List.mem_of_getElem? (i := 1) rfl)
  have mcmin := hts (.code Lib.Math.min.name Lib.Math.min.code 2 (some .int)) (List.mem_of_getElem? (i := 5) rfl)
  have mi := hts (.initialized "java/lang/Math") (List.mem_of_getElem? (i := 4) rfl)
  have mmmin := hts (.methodLink RX4 18 Lib.Math.min.name) (List.mem_of_getElem? (i := 2) rfl)
  have mtmin := hts (.static Lib.Math.min.name) (List.mem_of_getElem? (i := 3) rfl)
  have iX4 : ∀ w ∈ u_ws RX4 TX4 7, w ∈ wsX4_faultOf := fun w h => List.mem_cons_of_mem _ (List.mem_append_right _ (h))
  have hl := lv_entry ([.ref Rd, .ref Tp, .int (nI ln)]) (n := 5) (Nat.le_of_ble_eq_true rfl)
  rw [lg_entry_eq]
  generalize (lg_sl ([.ref Rd, .ref Tp, .int (nI ln)]) ++ List.replicate (5 - (lg_sl ([.ref Rd, .ref Tp, .int (nI ln)])).length) Slot.unset).toArray = ls at hl ⊢
  have hl : lv_has ls 5 [(0, .ref Rd), (1, .ref Tp), (2, .int (nI ln))] := hl
  generalize hQ : MQ below _ _ s _ _ _ = Q
  generalize hH : s.heap = H at hP ⊢
  have hS : va_S A s.heap H [] := by rw [← hH]; exact hS
  clear hH
  refine lv_aload_n hx hb dX4_faultOf_0 rfl (lv_at hl 0 rfl) ?_
  refine lv_aload_n hx hb dX4_faultOf_1 rfl (lv_at hl 1 rfl) ?_
  refine va_put (D := D) (ci := 4) (v := .ref Tp) (ty := (.array .int)) (C := RX4) (T := TX4) (N := 7) hx hb hts iX4 tyX4 tyX4_ok nmX4 hown hK hP hD hS 0 rfl rfl 0 (by decide) f9 (fun _ h9 => h9) rfl (by decide +kernel) (rfl) (rfl) (Nat.le_of_ble_eq_true rfl) dX4_faultOf_2 (fun H locs hP2 hD2 hS2 => ?_)
  clear hP hD hS
  have hPD : PD D A [(Rd, .inr (4, [.ref Tp, .int (fr 1), .int (fr 2), .int (fr 3), .int (fr 4), .int (fr 5), .ref Rv])), (Tp, .inl (g 0, 160, .inl ftp)), (Rv, .inl (g 0, 21, .inl fval))] H := ⟨hP2, hD2⟩
  have hS := hS2; clear hP2 hD2 hS2; have hP := hPD.1; have hD := hPD.2; clear hPD
  refine lv_aload_n hx hb dX4_faultOf_5 rfl (lv_at hl 0 rfl) ?_
  refine lv_iload_n hx hb dX4_faultOf_6 rfl (lv_at hl 2 rfl) ?_
  refine lv_aload_n hx hb dX4_faultOf_7 rfl (lv_at hl 1 rfl) ?_
  refine va_alen (v := 160) hx hb hK hP 1 0 rfl rfl rfl dX4_faultOf_8 ?_
  refine va_mmin hx hb (hml.trans hl.1.symm) hown mmmin mtmin mi mcmin (Nat.le_of_ble_eq_true rfl) (Nat.le_of_ble_eq_true rfl) (Nat.le_of_ble_eq_true rfl) (Nat.le_of_ble_eq_true rfl) dX4_faultOf_9 ?_
  refine lv_eqi (y := (nI ln)) (min160 (show ln ≤ 160 by omega)) ?_
  refine va_put (D := D) (ci := 4) (v := .int (nI ln)) (ty := .int) (C := RX4) (T := TX4) (N := 7) hx hb hts iX4 tyX4 tyX4_ok nmX4 hown hK hP hD hS 0 rfl rfl 1 (by decide) f24 (fun _ h9 => h9) rfl (by decide +kernel) (rfl) (rfl) (Nat.le_of_ble_eq_true rfl) dX4_faultOf_12 (fun H locs hP2 hD2 hS2 => ?_)
  clear hP hD hS
  have hPD : PD D A [(Rd, .inr (4, [.ref Tp, .int (nI ln), .int (fr 2), .int (fr 3), .int (fr 4), .int (fr 5), .ref Rv])), (Tp, .inl (g 0, 160, .inl ftp)), (Rv, .inl (g 0, 21, .inl fval))] H := ⟨hP2, hD2⟩
  have hS := hS2; clear hP2 hD2 hS2; have hP := hPD.1; have hD := hPD.2; clear hPD
  refine lv_aload_n hx hb dX4_faultOf_15 rfl (lv_at hl 0 rfl) ?_
  refine lv_iconst (v := 0) hx hb dX4_faultOf_16 (by decide) ?_
  refine va_put (D := D) (ci := 4) (v := .int 0) (ty := .int) (C := RX4) (T := TX4) (N := 7) hx hb hts iX4 tyX4 tyX4_ok nmX4 hown hK hP hD hS 0 rfl rfl 2 (by decide) f28 (fun _ h9 => h9) rfl (by decide +kernel) (rfl) (rfl) (Nat.le_of_ble_eq_true rfl) dX4_faultOf_17 (fun H locs hP2 hD2 hS2 => ?_)
  clear hP hD hS
  have hPD : PD D A [(Rd, .inr (4, [.ref Tp, .int (nI ln), .int 0, .int (fr 3), .int (fr 4), .int (fr 5), .ref Rv])), (Tp, .inl (g 0, 160, .inl ftp)), (Rv, .inl (g 0, 21, .inl fval))] H := ⟨hP2, hD2⟩
  have hS := hS2; clear hP2 hD2 hS2; have hP := hPD.1; have hD := hPD.2; clear hPD
  refine lv_aload_n hx hb dX4_faultOf_20 rfl (lv_at hl 0 rfl) ?_
  refine lv_iconst (v := (-1)) hx hb dX4_faultOf_21 (by decide) ?_
  refine va_put (D := D) (ci := 4) (v := .int (-1)) (ty := .int) (C := RX4) (T := TX4) (N := 7) hx hb hts iX4 tyX4 tyX4_ok nmX4 hown hK hP hD hS 0 rfl rfl 3 (by decide) f31 (fun _ h9 => h9) rfl (by decide +kernel) (rfl) (rfl) (Nat.le_of_ble_eq_true rfl) dX4_faultOf_22 (fun H locs hP2 hD2 hS2 => ?_)
  clear hP hD hS
  have hPD : PD D A [(Rd, .inr (4, [.ref Tp, .int (nI ln), .int 0, .int (-1), .int (fr 4), .int (fr 5), .ref Rv])), (Tp, .inl (g 0, 160, .inl ftp)), (Rv, .inl (g 0, 21, .inl fval))] H := ⟨hP2, hD2⟩
  have hS := hS2; clear hP2 hD2 hS2; have hP := hPD.1; have hD := hPD.2; clear hPD
  refine lv_aload_n hx hb dX4_faultOf_25 rfl (lv_at hl 0 rfl) ?_
  refine lv_iconst (v := 0) hx hb dX4_faultOf_26 (by decide) ?_
  refine va_put (D := D) (ci := 4) (v := .int 0) (ty := .int) (C := RX4) (T := TX4) (N := 7) hx hb hts iX4 tyX4 tyX4_ok nmX4 hown hK hP hD hS 0 rfl rfl 4 (by decide) f34 (fun _ h9 => h9) rfl (by decide +kernel) (rfl) (rfl) (Nat.le_of_ble_eq_true rfl) dX4_faultOf_27 (fun H locs hP2 hD2 hS2 => ?_)
  clear hP hD hS
  have hPD : PD D A [(Rd, .inr (4, [.ref Tp, .int (nI ln), .int 0, .int (-1), .int 0, .int (fr 5), .ref Rv])), (Tp, .inl (g 0, 160, .inl ftp)), (Rv, .inl (g 0, 21, .inl fval))] H := ⟨hP2, hD2⟩
  have hS := hS2; clear hP2 hD2 hS2; have hP := hPD.1; have hD := hPD.2; clear hPD
  refine lv_aload_n hx hb dX4_faultOf_30 rfl (lv_at hl 0 rfl) ?_
  refine lv_iconst (v := 0) hx hb dX4_faultOf_31 (by decide) ?_
  refine va_put (D := D) (ci := 4) (v := .int 0) (ty := .int) (C := RX4) (T := TX4) (N := 7) hx hb hts iX4 tyX4 tyX4_ok nmX4 hown hK hP hD hS 0 rfl rfl 5 (by decide) f37 (fun _ h9 => h9) rfl (by decide +kernel) (rfl) (rfl) (Nat.le_of_ble_eq_true rfl) dX4_faultOf_32 (fun H locs hP2 hD2 hS2 => ?_)
  clear hP hD hS
  have hPD : PD D A [(Rd, .inr (4, [.ref Tp, .int (nI ln), .int 0, .int (-1), .int 0, .int 0, .ref Rv])), (Tp, .inl (g 0, 160, .inl ftp)), (Rv, .inl (g 0, 21, .inl fval))] H := ⟨hP2, hD2⟩
  have hS := hS2; clear hP2 hD2 hS2; have hP := hPD.1; have hD := hPD.2; clear hPD
  refine lv_aload_n hx hb dX4_faultOf_35 rfl (lv_at hl 0 rfl) ?_
  refine ky_Vv (As := []) (rest := []) ⟨hx, hb, hml, hown, hts⟩ ⟨hK, hN⟩ hZ hP hD hS hA [0, 2] [1] (wc := [(Rd, .inr (4, [.ref Tp, .int (nI ln), .int 0, .int (-1), .int 0, .int 0, .ref Rv])), (Rv, .inl (g 0, 21, .inl fval))]) (wr := [(Tp, .inl (g 0, 160, .inl ftp))]) rfl rfl rfl rfl (by decide) (k_X4_setUsual l D g H.size Rd Tp (lf [0, nI ln, 0, -1, 0, 0]) Rv fval (h1)) (cwV 0 hts gX4_faultOf_X4_setUsual rfl rfl rfl (by decide +kernel) ⟨(Nat.le_of_ble_eq_true rfl), (Nat.le_of_ble_eq_true rfl)⟩) 0 4 rfl rfl rfl rfl hl.1 rfl (Nat.le_of_ble_eq_true rfl) dX4_faultOf_36 ⟨(Nat.le_of_ble_eq_true rfl), (Nat.le_of_ble_eq_true rfl)⟩ (fun u H locs hw hP2 hD2 hS2 => ?_)
  clear hP hD hS
  obtain ⟨fvalx_2, rfl, hf_3⟩ := hw
  have hPD : PD D A [(Tp, .inl (g 0, 160, .inl ftp)), (Rd, .inr (4, [.ref Tp, .int (nI ln), .int 0, .int (-1), .int 0, .int 0, .ref Rv])), (Rv, .inl (g 0, 21, .inl fvalx_2))] H := ⟨hP2, hD2⟩
  have hS := hS2; clear hP2 hD2 hS2; have hP := hPD.1; have hD := hPD.2; clear hPD
  refine W.widen (k := 0) (n := 0) (Nat.le_of_ble_eq_true rfl) (Nat.le_of_ble_eq_true rfl) ?_
  refine lv_iconst (v := 1) hx hb dX4_faultOf_39 (by decide) ?_
  refine lv_istore_n (lv' := [(3, .int 1), (0, .ref Rd), (1, .ref Tp), (2, .int (nI ln))]) hx hb dX4_faultOf_40 rfl hl (by decide) rfl (fun ls hl => ?_)
  refine lv_iconst (v := 0) hx hb dX4_faultOf_41 (by decide) ?_
  refine lv_istore (lv' := [(4, .int 0), (3, .int 1), (0, .ref Rd), (1, .ref Tp), (2, .int (nI ln))]) hx hb dX4_faultOf_42 hl (by decide) rfl (fun ls hl => ?_)
  have loop_61 : ∀ (Nloop_61 : Nat) (i_21 : Nat) (i_22 : Int32) (z_23 : Nat) (z_24 : Int32) (z_25 : Nat) (z_26 : Nat) (F_27 : Nat → Int32) (hi_22 : zb i_22) (hnz_25 : z_25 ≤ 3) (hnz_26 : z_26 ≤ 3) (hF_27 : vOK F_27) (hbi_21 : i_21 ≤ ln + 1) (hv_60 : ¬ i_22 = 0 → z_23 ≤ ln) (hmloop_61 : (ln + 1) - i_21 < Nloop_61) (H : Heap) (locs : List Loc) (ls : Array Slot), va_P D vwCl [(Tp, .inl (g 0, 160, .inl ftp)), (Rd, .inr (4, [.ref Tp, .int (nI ln), .int (nI z_23), .int z_24, .int (nI z_25), .int (nI z_26), .ref Rv])), (Rv, .inl (g 0, 21, .inl F_27))] H → va_D A [(Tp, .inl (g 0, 160, .inl ftp)), (Rd, .inr (4, [.ref Tp, .int (nI ln), .int (nI z_23), .int z_24, .int (nI z_25), .int (nI z_26), .ref Rv])), (Rv, .inl (g 0, 21, .inl F_27))] → va_S A s.heap H locs → lv_has ls 5 [(4, .int (nI i_21)), (3, .int i_22), (0, .ref Rd)] → W p l e (headSpec wsX4_faultOf ({ frames := 6, cells := 0, slots := 0, locals := 132 })).room s m ([.ref Rd, .ref Tp, .int (nI ln)] : List Value).toArray below meth c H locs 0 0 Q (F0 m 44 ls []) := by
    clear hP hD hS hl
    intro Nloop_61
    induction Nloop_61 with
    | zero => intro i_21 i_22 z_23 z_24 z_25 z_26 F_27 hi_22 hnz_25 hnz_26 hF_27 hbi_21 hv_60 hm9; exact absurd hm9 (Nat.not_lt_zero _)
    | succ Nloop_61 loop_61_ih =>
      intro i_21 i_22 z_23 z_24 z_25 z_26 F_27 hi_22 hnz_25 hnz_26 hF_27 hbi_21 hv_60 hmloop_61 H locs ls hP hD hS hl
      refine lv_iload_n hx hb dX4_faultOf_44 rfl (lv_at hl 1 rfl) ?_
      refine lv_if_eq (tgt := 112) hx hb dX4_faultOf_45 (by decide) (fun cb_62 => ?_) (fun cb_62 => ?_)
      · skip
        have hPq_63 := hP; have hDq_63 := hD; have hSq_63 := hS; have hlq_63 := hl; clear hP hD hS hl
        subst cb_62
        have hP := hPq_63; have hD := hDq_63; have hS := hSq_63; have hl := hlq_63; clear hPq_63 hDq_63 hSq_63 hlq_63
        refine lv_aload_n hx hb dX4_faultOf_112 rfl (lv_at hl 2 rfl) ?_
        refine va_get (D := D) (ci := 4) (v := .int z_24) (C := RX4) (T := TX4) (N := 7) hx hb hts iX4 hown hK hP 1 rfl rfl 3 (by decide) f31 (fun _ h9 => h9) rfl dX4_faultOf_113 ?_
        have hPD9 : PD D A [(Rd, .inr (4, [.ref Tp, .int (nI ln), .int (nI z_23), .int z_24, .int (nI z_25), .int (nI z_26), .ref Rv])), (Tp, .inl (g 0, 160, .inl ftp)), (Rv, .inl (g 0, 21, .inl F_27))] H := ⟨hP.sub [1, 0, 2] rfl, hD.sub [1, 0, 2] (by decide) rfl⟩
        have hP9 := hPD9.1; have hD9 := hPD9.2
        subst hQ
        refine W.widen (k := 0) (n := 0) (Nat.le_of_ble_eq_true rfl) (Nat.le_of_ble_eq_true rfl) ?_
        exact W.iret (v := z_24) hx hb hr (fun tS htS _ => ⟨⟨_, _, rfl, ⟨z_23, z_24, z_25, z_26, F_27, rfl, rfl, (show z_25 ≤ 3 by omega), (show z_26 ≤ 3 by omega), (hF_27)⟩, by rw [htS]; exact hP9, hD9⟩, hS.F htS⟩) hS.2.2 dX4_faultOf_116
      · skip
        have hq_64 : z_23 ≤ ln := hv_60 cb_62
        refine lv_iload hx hb dX4_faultOf_48 (lv_at hl 0 rfl) ?_
        refine lv_aload_n hx hb dX4_faultOf_50 rfl (lv_at hl 2 rfl) ?_
        refine va_get (D := D) (ci := 4) (v := .int (nI ln)) (C := RX4) (T := TX4) (N := 7) hx hb hts iX4 hown hK hP 1 rfl rfl 1 (by decide) f24 (fun _ h9 => h9) rfl dX4_faultOf_51 ?_
        refine lv_icmp_gt (tgt := 112) hx hb dX4_faultOf_54 (by decide) (fun cb_65 => ?_) (fun cb_65 => ?_)
        · skip
          have cn_66 : ln < i_21 := (nI_ltI (show ln < 2 ^ 31 by omega) (show i_21 < 2 ^ 31 by omega)).mp cb_65
          refine lv_aload_n hx hb dX4_faultOf_112 rfl (lv_at hl 2 rfl) ?_
          refine va_get (D := D) (ci := 4) (v := .int z_24) (C := RX4) (T := TX4) (N := 7) hx hb hts iX4 hown hK hP 1 rfl rfl 3 (by decide) f31 (fun _ h9 => h9) rfl dX4_faultOf_113 ?_
          have hPD9 : PD D A [(Rd, .inr (4, [.ref Tp, .int (nI ln), .int (nI z_23), .int z_24, .int (nI z_25), .int (nI z_26), .ref Rv])), (Tp, .inl (g 0, 160, .inl ftp)), (Rv, .inl (g 0, 21, .inl F_27))] H := ⟨hP.sub [1, 0, 2] rfl, hD.sub [1, 0, 2] (by decide) rfl⟩
          have hP9 := hPD9.1; have hD9 := hPD9.2
          subst hQ
          refine W.widen (k := 0) (n := 0) (Nat.le_of_ble_eq_true rfl) (Nat.le_of_ble_eq_true rfl) ?_
          exact W.iret (v := z_24) hx hb hr (fun tS htS _ => ⟨⟨_, _, rfl, ⟨z_23, z_24, z_25, z_26, F_27, rfl, rfl, (show z_25 ≤ 3 by omega), (show z_26 ≤ 3 by omega), (hF_27)⟩, by rw [htS]; exact hP9, hD9⟩, hS.F htS⟩) hS.2.2 dX4_faultOf_116
        · skip
          have cn_67 : i_21 ≤ ln := Nat.le_of_not_lt (fun q9 => cb_65 ((nI_ltI (show ln < 2 ^ 31 by omega) (show i_21 < 2 ^ 31 by omega)).mpr q9))
          refine lv_aload_n hx hb dX4_faultOf_57 rfl (lv_at hl 2 rfl) ?_
          refine lv_iload hx hb dX4_faultOf_58 (lv_at hl 0 rfl) ?_
          have join_75 : ∀ (y_71 : Int32) (hy_71 : zb y_71) (H : Heap) (locs : List Loc) (ls : Array Slot), va_P D vwCl [(Tp, .inl (g 0, 160, .inl ftp)), (Rd, .inr (4, [.ref Tp, .int (nI ln), .int (nI z_23), .int z_24, .int (nI z_25), .int (nI z_26), .ref Rv])), (Rv, .inl (g 0, 21, .inl F_27))] H → va_D A [(Tp, .inl (g 0, 160, .inl ftp)), (Rd, .inr (4, [.ref Tp, .int (nI ln), .int (nI z_23), .int z_24, .int (nI z_25), .int (nI z_26), .ref Rv])), (Rv, .inl (g 0, 21, .inl F_27))] → va_S A s.heap H locs → lv_has ls 5 [(4, .int (nI i_21)), (0, .ref Rd)] → W p l e (headSpec wsX4_faultOf ({ frames := 6, cells := 0, slots := 0, locals := 132 })).room s m ([.ref Rd, .ref Tp, .int (nI ln)] : List Value).toArray below meth c H locs 0 0 Q (F0 m 68 ls [.int y_71, .ref Rd]) := by
            clear hP hD hS hl
            intro y_71 hy_71 H locs ls hP hD hS hl
            refine ky_Vv (As := [.int y_71]) (rest := []) ⟨hx, hb, hml, hown, hts⟩ ⟨hK, hN⟩ hZ hP hD hS hA [1, 0, 2] [] (wc := [(Rd, .inr (4, [.ref Tp, .int (nI ln), .int (nI z_23), .int z_24, .int (nI z_25), .int (nI z_26), .ref Rv])), (Tp, .inl (g 0, 160, .inl ftp)), (Rv, .inl (g 0, 21, .inl F_27))]) (wr := []) rfl rfl rfl rfl (by decide) (k_X4_readClause l D g H.size Rd y_71 Tp ln z_23 z_24 z_25 z_26 Rv ftp F_27 (show ln ≤ 160 by omega) (show z_23 ≤ ln by omega) (show z_25 ≤ 3 by omega) (show z_26 ≤ 3 by omega) (hF_27)) (cwV 1 hts gX4_faultOf_X4_readClause rfl rfl rfl (by decide +kernel) ⟨(Nat.le_of_ble_eq_true rfl), (Nat.le_of_ble_eq_true rfl)⟩) 1 4 rfl rfl rfl rfl hl.1 rfl (Nat.le_of_ble_eq_true rfl) dX4_faultOf_68 ⟨(Nat.le_of_ble_eq_true rfl), (Nat.le_of_ble_eq_true rfl)⟩ (fun u H locs hw hP2 hD2 hS2 => ?_)
            clear hP hD hS
            obtain ⟨axx_77, zfax_78, htx_79, ctx_80, fvalx_81, rfl, hf_82, hf_83, hf_84, hf_85⟩ := hw
            have hPD : PD D A [(Rd, .inr (4, [.ref Tp, .int (nI ln), .int (nI axx_77), .int zfax_78, .int (nI htx_79), .int (nI ctx_80), .ref Rv])), (Tp, .inl (g 0, 160, .inl ftp)), (Rv, .inl (g 0, 21, .inl fvalx_81))] H := ⟨hP2, hD2⟩
            have hS := hS2; clear hP2 hD2 hS2; have hP := hPD.1; have hD := hPD.2; clear hPD
            refine W.widen (k := 0) (n := 0) (Nat.le_of_ble_eq_true rfl) (Nat.le_of_ble_eq_true rfl) ?_
            refine lv_aload_n hx hb dX4_faultOf_71 rfl (lv_at hl 1 rfl) ?_
            refine va_get (D := D) (ci := 4) (v := .int zfax_78) (C := RX4) (T := TX4) (N := 7) hx hb hts iX4 hown hK hP 0 rfl rfl 3 (by decide) f31 (fun _ h9 => h9) rfl dX4_faultOf_72 ?_
            refine lv_iconst (v := (-1)) hx hb dX4_faultOf_75 (by decide) ?_
            refine lv_icmp_ne (tgt := 94) hx hb dX4_faultOf_76 (by decide) (fun cb_86 => ?_) (fun cb_86 => ?_)
            · skip
              refine lv_iconst (v := 0) hx hb dX4_faultOf_94 (by decide) ?_
              refine lv_istore_n (lv' := [(3, .int 0), (4, .int (nI i_21)), (0, .ref Rd)]) hx hb dX4_faultOf_95 rfl hl (by decide) rfl (fun ls hl => ?_)
              refine lv_aload_n hx hb dX4_faultOf_96 rfl (lv_at hl 2 rfl) ?_
              refine lv_dup hx hb dX4_faultOf_97 rfl ?_
              refine va_get (D := D) (ci := 4) (v := .int (nI axx_77)) (C := RX4) (T := TX4) (N := 7) hx hb hts iX4 hown hK hP 0 rfl rfl 2 (by decide) f28 (fun _ h9 => h9) rfl dX4_faultOf_98 ?_
              refine lv_iconst (v := 1) hx hb dX4_faultOf_101 (by decide) ?_
              refine lv_iadd hx hb dX4_faultOf_102 ?_
              refine lv_eqi (y := (nI (axx_77 + 1))) (nI_add (axx_77) (1)) ?_
              refine va_put (D := D) (ci := 4) (v := .int (nI (axx_77 + 1))) (ty := .int) (C := RX4) (T := TX4) (N := 7) hx hb hts iX4 tyX4 tyX4_ok nmX4 hown hK hP hD hS 0 rfl rfl 2 (by decide) f28 (fun _ h9 => h9) rfl (by decide +kernel) (rfl) (rfl) (Nat.le_of_ble_eq_true rfl) dX4_faultOf_103 (fun H locs hP2 hD2 hS2 => ?_)
              clear hP hD hS
              have hPD : PD D A [(Rd, .inr (4, [.ref Tp, .int (nI ln), .int (nI (axx_77 + 1)), .int zfax_78, .int (nI htx_79), .int (nI ctx_80), .ref Rv])), (Tp, .inl (g 0, 160, .inl ftp)), (Rv, .inl (g 0, 21, .inl fvalx_81))] H := ⟨hP2, hD2⟩
              have hS := hS2; clear hP2 hD2 hS2; have hP := hPD.1; have hD := hPD.2; clear hPD
              refine lv_iinc (v := (nI (i_21 + 1))) (lv' := [(4, .int (nI (i_21 + 1))), (3, .int 0), (0, .ref Rd)]) hx hb dX4_faultOf_106 hl (k := 1) rfl (nI_1 (i_21)) (by decide) rfl (fun ls hl => ?_)
              refine lv_goto (tgt := 44) hx hb dX4_faultOf_109 (by decide) ?_
              exact loop_61_ih (i_21 + 1) 0 (axx_77 + 1) zfax_78 htx_79 ctx_80 fvalx_81 (zb_0) (show htx_79 ≤ 3 by omega) (show ctx_80 ≤ 3 by omega) (hf_85) (show (i_21 + 1) ≤ ln + 1 by omega) (fun q9 => absurd rfl q9) (show (ln + 1) - (i_21 + 1) < Nloop_61 by omega) _ _ _ (hP.sub [1, 0, 2] rfl) (hD.sub [1, 0, 2] (by decide) rfl) hS hl
            · skip
              have hPq_87 := hP; have hDq_87 := hD; have hSq_87 := hS; have hlq_87 := hl; clear hP hD hS hl
              subst cb_86
              have hP := hPq_87; have hD := hDq_87; have hS := hSq_87; have hl := hlq_87; clear hPq_87 hDq_87 hSq_87 hlq_87
              refine lv_aload_n hx hb dX4_faultOf_79 rfl (lv_at hl 1 rfl) ?_
              refine va_get (D := D) (ci := 4) (v := .int (nI axx_77)) (C := RX4) (T := TX4) (N := 7) hx hb hts iX4 hown hK hP 0 rfl rfl 2 (by decide) f28 (fun _ h9 => h9) rfl dX4_faultOf_80 ?_
              refine lv_aload_n hx hb dX4_faultOf_83 rfl (lv_at hl 1 rfl) ?_
              refine va_get (D := D) (ci := 4) (v := .int (nI ln)) (C := RX4) (T := TX4) (N := 7) hx hb hts iX4 hown hK hP 0 rfl rfl 1 (by decide) f24 (fun _ h9 => h9) rfl dX4_faultOf_84 ?_
              refine lv_icmp_ge (tgt := 94) hx hb dX4_faultOf_87 (by decide) (fun cb_88 => ?_) (fun cb_88 => ?_)
              · skip
                have cn_89 : ln ≤ axx_77 := (nI_leI (show ln < 2 ^ 31 by omega) (show axx_77 < 2 ^ 31 by omega)).mp cb_88
                refine lv_iconst (v := 0) hx hb dX4_faultOf_94 (by decide) ?_
                refine lv_istore_n (lv' := [(3, .int 0), (4, .int (nI i_21)), (0, .ref Rd)]) hx hb dX4_faultOf_95 rfl hl (by decide) rfl (fun ls hl => ?_)
                refine lv_aload_n hx hb dX4_faultOf_96 rfl (lv_at hl 2 rfl) ?_
                refine lv_dup hx hb dX4_faultOf_97 rfl ?_
                refine va_get (D := D) (ci := 4) (v := .int (nI axx_77)) (C := RX4) (T := TX4) (N := 7) hx hb hts iX4 hown hK hP 0 rfl rfl 2 (by decide) f28 (fun _ h9 => h9) rfl dX4_faultOf_98 ?_
                refine lv_iconst (v := 1) hx hb dX4_faultOf_101 (by decide) ?_
                refine lv_iadd hx hb dX4_faultOf_102 ?_
                refine lv_eqi (y := (nI (axx_77 + 1))) (nI_add (axx_77) (1)) ?_
                refine va_put (D := D) (ci := 4) (v := .int (nI (axx_77 + 1))) (ty := .int) (C := RX4) (T := TX4) (N := 7) hx hb hts iX4 tyX4 tyX4_ok nmX4 hown hK hP hD hS 0 rfl rfl 2 (by decide) f28 (fun _ h9 => h9) rfl (by decide +kernel) (rfl) (rfl) (Nat.le_of_ble_eq_true rfl) dX4_faultOf_103 (fun H locs hP2 hD2 hS2 => ?_)
                clear hP hD hS
                have hPD : PD D A [(Rd, .inr (4, [.ref Tp, .int (nI ln), .int (nI (axx_77 + 1)), .int (-1), .int (nI htx_79), .int (nI ctx_80), .ref Rv])), (Tp, .inl (g 0, 160, .inl ftp)), (Rv, .inl (g 0, 21, .inl fvalx_81))] H := ⟨hP2, hD2⟩
                have hS := hS2; clear hP2 hD2 hS2; have hP := hPD.1; have hD := hPD.2; clear hPD
                refine lv_iinc (v := (nI (i_21 + 1))) (lv' := [(4, .int (nI (i_21 + 1))), (3, .int 0), (0, .ref Rd)]) hx hb dX4_faultOf_106 hl (k := 1) rfl (nI_1 (i_21)) (by decide) rfl (fun ls hl => ?_)
                refine lv_goto (tgt := 44) hx hb dX4_faultOf_109 (by decide) ?_
                exact loop_61_ih (i_21 + 1) 0 (axx_77 + 1) (-1) htx_79 ctx_80 fvalx_81 (zb_0) (show htx_79 ≤ 3 by omega) (show ctx_80 ≤ 3 by omega) (hf_85) (show (i_21 + 1) ≤ ln + 1 by omega) (fun q9 => absurd rfl q9) (show (ln + 1) - (i_21 + 1) < Nloop_61 by omega) _ _ _ (hP.sub [1, 0, 2] rfl) (hD.sub [1, 0, 2] (by decide) rfl) hS hl
              · skip
                have cn_90 : axx_77 < ln := Nat.lt_of_not_le (fun q9 => cb_88 ((nI_leI (show ln < 2 ^ 31 by omega) (show axx_77 < 2 ^ 31 by omega)).mpr q9))
                refine lv_iconst (v := 1) hx hb dX4_faultOf_90 (by decide) ?_
                refine lv_goto (tgt := 95) hx hb dX4_faultOf_91 (by decide) ?_
                refine lv_istore_n (lv' := [(3, .int 1), (4, .int (nI i_21)), (0, .ref Rd)]) hx hb dX4_faultOf_95 rfl hl (by decide) rfl (fun ls hl => ?_)
                refine lv_aload_n hx hb dX4_faultOf_96 rfl (lv_at hl 2 rfl) ?_
                refine lv_dup hx hb dX4_faultOf_97 rfl ?_
                refine va_get (D := D) (ci := 4) (v := .int (nI axx_77)) (C := RX4) (T := TX4) (N := 7) hx hb hts iX4 hown hK hP 0 rfl rfl 2 (by decide) f28 (fun _ h9 => h9) rfl dX4_faultOf_98 ?_
                refine lv_iconst (v := 1) hx hb dX4_faultOf_101 (by decide) ?_
                refine lv_iadd hx hb dX4_faultOf_102 ?_
                refine lv_eqi (y := (nI (axx_77 + 1))) (nI_add (axx_77) (1)) ?_
                refine va_put (D := D) (ci := 4) (v := .int (nI (axx_77 + 1))) (ty := .int) (C := RX4) (T := TX4) (N := 7) hx hb hts iX4 tyX4 tyX4_ok nmX4 hown hK hP hD hS 0 rfl rfl 2 (by decide) f28 (fun _ h9 => h9) rfl (by decide +kernel) (rfl) (rfl) (Nat.le_of_ble_eq_true rfl) dX4_faultOf_103 (fun H locs hP2 hD2 hS2 => ?_)
                clear hP hD hS
                have hPD : PD D A [(Rd, .inr (4, [.ref Tp, .int (nI ln), .int (nI (axx_77 + 1)), .int (-1), .int (nI htx_79), .int (nI ctx_80), .ref Rv])), (Tp, .inl (g 0, 160, .inl ftp)), (Rv, .inl (g 0, 21, .inl fvalx_81))] H := ⟨hP2, hD2⟩
                have hS := hS2; clear hP2 hD2 hS2; have hP := hPD.1; have hD := hPD.2; clear hPD
                refine lv_iinc (v := (nI (i_21 + 1))) (lv' := [(4, .int (nI (i_21 + 1))), (3, .int 1), (0, .ref Rd)]) hx hb dX4_faultOf_106 hl (k := 1) rfl (nI_1 (i_21)) (by decide) rfl (fun ls hl => ?_)
                refine lv_goto (tgt := 44) hx hb dX4_faultOf_109 (by decide) ?_
                exact loop_61_ih (i_21 + 1) 1 (axx_77 + 1) (-1) htx_79 ctx_80 fvalx_81 (zb_1) (show htx_79 ≤ 3 by omega) (show ctx_80 ≤ 3 by omega) (hf_85) (show (i_21 + 1) ≤ ln + 1 by omega) (fun _ => (show (axx_77 + 1) ≤ ln by omega)) (show (ln + 1) - (i_21 + 1) < Nloop_61 by omega) _ _ _ (hP.sub [1, 0, 2] rfl) (hD.sub [1, 0, 2] (by decide) rfl) hS hl
          refine lv_if_ne (tgt := 67) hx hb dX4_faultOf_60 (by decide) (fun cb_91 => ?_) (fun cb_91 => ?_)
          · skip
            have cn_92 : ¬ i_21 = 0 := fun q9 => cb_91 (congrArg nI q9)
            refine lv_iconst (v := 0) hx hb dX4_faultOf_67 (by decide) ?_
            exact join_75 0 (zb_0) _ _ _ hP hD hS (lv_sub hl [0, 2] rfl)
          · skip
            have cn_93 : i_21 = 0 := (nI_eq (show i_21 < 2 ^ 31 by omega) (show 0 < 2 ^ 31 by omega)).mp cb_91
            refine lv_iconst (v := 1) hx hb dX4_faultOf_63 (by decide) ?_
            refine lv_goto (tgt := 68) hx hb dX4_faultOf_64 (by decide) ?_
            exact join_75 1 (zb_1) _ _ _ hP hD hS (lv_sub hl [0, 2] rfl)
  exact loop_61 _ 0 1 0 (-1) 0 0 fvalx_2 (zb_1) (show 0 ≤ 3 by omega) (show 0 ≤ 3 by omega) (hf_3) (show 0 ≤ ln + 1 by omega) (fun _ => (show 0 ≤ ln by omega)) (Nat.lt_succ_self _) _ _ _ hP hD hS (lv_sub hl [0, 1, 2] rfl)

set_option maxHeartbeats 4000000 in
set_option maxRecDepth 100000 in
theorem k_X4_hops (l : Launch) (D : va_G) (g : Nat → ClassId) (sz : Nat) (Rd : Nat) (Tp : Nat) (ln : Nat) (ax : Nat) (zfa : Int32) (ht : Nat) (ct : Nat) (Rv : Nat) (h0 : ht ≤ 3) (h1 : ct ≤ 3) : Met l yX4_hops wsX4_hops ({ frames := 1, cells := 0, slots := 0, locals := 24 }) (va_Pc [.ref Rd] (pre D g sz [(Rd, .inr (4, [.ref Tp, .int (nI ln), .int (nI ax), .int zfa, .int (nI ht), .int (nI ct), .ref Rv]))])) (va_Qi (fun (r : Int32) (u : va_W) => ∃ (nx : Nat), u = [(Rd, .inr (4, [.ref Tp, .int (nI ln), .int (nI ax), .int zfa, .int (nI ht), .int (nI ct), .ref Rv]))] ∧ r = (nI nx) ∧ (1 ≤ nx) ∧ (nx ≤ 3)) (wd D (va_A [(Rd, .inr (4, [.ref Tp, .int (nI ln), .int (nI ax), .int zfa, .int (nI ht), .int (nI ct), .ref Rv]))] sz)) (va_A [(Rd, .inr (4, [.ref Tp, .int (nI ln), .int (nI ax), .int zfa, .int (nI ht), .int (nI ct), .ref Rv]))] sz)) 0 0 (va_A [(Rd, .inr (4, [.ref Tp, .int (nI ln), .int (nI ax), .int zfa, .int (nI ht), .int (nI ct), .ref Rv]))] sz) := by
  refine Met.ofW (cc := cX4_hops) (maxL := 1) (ret := (some .int)) (by decide) rfl ?_
  intro p e s m args below meth c s₁ B hml hv
  obtain ⟨rfl, hsz, hP, ⟨hK, hN⟩, hD0, hZ⟩ := hv
  have hx := B.exec
  have hb := B.bytes
  have hr := B.returns
  have hts := atoms_spec (ws := wsX4_hops) B.pre
  have hown : s.vm.findClass RX4 = some m.cls := findClass_of_methodNamed B.named
  have hlocks := B.notSynchronized
  clear B
  subst hsz
  have hD := hD0.self (sz := s.heap.size)
  clear hD0
  generalize hAe : va_A [(Rd, .inr (4, [.ref Tp, .int (nI ln), .int (nI ax), .int zfa, .int (nI ht), .int (nI ct), .ref Rv]))] s.heap.size = A at hD hZ ⊢
  have hA : ∀ q : Nat, s.heap.size ≤ q → A q := fun q h => by rw [← hAe]; exact Or.inr h
  have hS : va_S A s.heap s.heap [] := va_S.rf
  have f34 := hts (.fieldLink RX4 34 "HopCredits$Reading" "hopsTold" "I") (List.mem_of_getElem? (i := 1) rfl)
  have mcmax := hts (.code Lib.Math.max.name Lib.Math.max.code 2 (some .int)) (List.mem_of_getElem? (i := 5) rfl)
  have mi := hts (.initialized "java/lang/Math") (List.mem_of_getElem? (i := 4) rfl)
  have mmmax := hts (.methodLink RX4 94 Lib.Math.max.name) (List.mem_of_getElem? (i := 2) rfl)
  have mtmax := hts (.static Lib.Math.max.name) (List.mem_of_getElem? (i := 3) rfl)
  have iX4 : ∀ w ∈ u_ws RX4 TX4 7, w ∈ wsX4_hops := fun w h => List.mem_cons_of_mem _ (List.mem_append_right _ (h))
  have hl := lv_entry ([.ref Rd]) (n := 1) (Nat.le_of_ble_eq_true rfl)
  rw [lg_entry_eq]
  generalize (lg_sl ([.ref Rd]) ++ List.replicate (1 - (lg_sl ([.ref Rd])).length) Slot.unset).toArray = ls at hl ⊢
  have hl : lv_has ls 1 [(0, .ref Rd)] := hl
  generalize hQ : MQ below _ _ s _ _ _ = Q
  generalize hH : s.heap = H at hP ⊢
  have hS : va_S A s.heap H [] := by rw [← hH]; exact hS
  clear hH
  refine lv_iconst (v := 1) hx hb dX4_hops_0 (by decide) ?_
  refine lv_aload_n hx hb dX4_hops_1 rfl (lv_at hl 0 rfl) ?_
  refine va_get (D := D) (ci := 4) (v := .int (nI ht)) (C := RX4) (T := TX4) (N := 7) hx hb hts iX4 hown hK hP 0 rfl rfl 4 (by decide) f34 (fun _ h9 => h9) rfl dX4_hops_2 ?_
  refine va_mmax hx hb (hml.trans hl.1.symm) hown mmmax mtmax mi mcmax (Nat.le_of_ble_eq_true rfl) (Nat.le_of_ble_eq_true rfl) (Nat.le_of_ble_eq_true rfl) (Nat.le_of_ble_eq_true rfl) dX4_hops_5 ?_
  obtain ⟨m_1, ham_1, hbm_1, q9⟩ := max1 (show ht ≤ 3 by omega)
  refine lv_eqi (y := nI m_1) q9 ?_
  have hP9 := hP; have hD9 := hD
  subst hQ
  refine W.widen (k := 0) (n := 0) (Nat.le_of_ble_eq_true rfl) (Nat.le_of_ble_eq_true rfl) ?_
  exact W.iret (v := (nI m_1)) hx hb hr (fun tS htS _ => ⟨⟨_, _, rfl, ⟨m_1, rfl, rfl, (show 1 ≤ m_1 by omega), (show m_1 ≤ 3 by omega)⟩, by rw [htS]; exact hP9, hD9⟩, hS.F htS⟩) hS.2.2 dX4_hops_8

set_option maxHeartbeats 4000000 in
set_option maxRecDepth 100000 in
theorem k_X4_circuits (l : Launch) (D : va_G) (g : Nat → ClassId) (sz : Nat) (Rd : Nat) (Tp : Nat) (ln : Nat) (ax : Nat) (zfa : Int32) (ht : Nat) (ct : Nat) (Rv : Nat) (h0 : ht ≤ 3) (h1 : ct ≤ 3) : Met l yX4_circuits wsX4_circuits ({ frames := 1, cells := 0, slots := 0, locals := 24 }) (va_Pc [.ref Rd] (pre D g sz [(Rd, .inr (4, [.ref Tp, .int (nI ln), .int (nI ax), .int zfa, .int (nI ht), .int (nI ct), .ref Rv]))])) (va_Qi (fun (r : Int32) (u : va_W) => ∃ (nx : Nat), u = [(Rd, .inr (4, [.ref Tp, .int (nI ln), .int (nI ax), .int zfa, .int (nI ht), .int (nI ct), .ref Rv]))] ∧ r = (nI nx) ∧ (1 ≤ nx) ∧ (nx ≤ 3)) (wd D (va_A [(Rd, .inr (4, [.ref Tp, .int (nI ln), .int (nI ax), .int zfa, .int (nI ht), .int (nI ct), .ref Rv]))] sz)) (va_A [(Rd, .inr (4, [.ref Tp, .int (nI ln), .int (nI ax), .int zfa, .int (nI ht), .int (nI ct), .ref Rv]))] sz)) 0 0 (va_A [(Rd, .inr (4, [.ref Tp, .int (nI ln), .int (nI ax), .int zfa, .int (nI ht), .int (nI ct), .ref Rv]))] sz) := by
  refine Met.ofW (cc := cX4_circuits) (maxL := 1) (ret := (some .int)) (by decide) rfl ?_
  intro p e s m args below meth c s₁ B hml hv
  obtain ⟨rfl, hsz, hP, ⟨hK, hN⟩, hD0, hZ⟩ := hv
  have hx := B.exec
  have hb := B.bytes
  have hr := B.returns
  have hts := atoms_spec (ws := wsX4_circuits) B.pre
  have hown : s.vm.findClass RX4 = some m.cls := findClass_of_methodNamed B.named
  have hlocks := B.notSynchronized
  clear B
  subst hsz
  have hD := hD0.self (sz := s.heap.size)
  clear hD0
  generalize hAe : va_A [(Rd, .inr (4, [.ref Tp, .int (nI ln), .int (nI ax), .int zfa, .int (nI ht), .int (nI ct), .ref Rv]))] s.heap.size = A at hD hZ ⊢
  have hA : ∀ q : Nat, s.heap.size ≤ q → A q := fun q h => by rw [← hAe]; exact Or.inr h
  have hS : va_S A s.heap s.heap [] := va_S.rf
  have f37 := hts (.fieldLink RX4 37 "HopCredits$Reading" "circuitsTold" "I") (List.mem_of_getElem? (i := 1) rfl)
  have mcmax := hts (.code Lib.Math.max.name Lib.Math.max.code 2 (some .int)) (List.mem_of_getElem? (i := 5) rfl)
  have mi := hts (.initialized "java/lang/Math") (List.mem_of_getElem? (i := 4) rfl)
  have mmmax := hts (.methodLink RX4 94 Lib.Math.max.name) (List.mem_of_getElem? (i := 2) rfl)
  have mtmax := hts (.static Lib.Math.max.name) (List.mem_of_getElem? (i := 3) rfl)
  have iX4 : ∀ w ∈ u_ws RX4 TX4 7, w ∈ wsX4_circuits := fun w h => List.mem_cons_of_mem _ (List.mem_append_right _ (h))
  have hl := lv_entry ([.ref Rd]) (n := 1) (Nat.le_of_ble_eq_true rfl)
  rw [lg_entry_eq]
  generalize (lg_sl ([.ref Rd]) ++ List.replicate (1 - (lg_sl ([.ref Rd])).length) Slot.unset).toArray = ls at hl ⊢
  have hl : lv_has ls 1 [(0, .ref Rd)] := hl
  generalize hQ : MQ below _ _ s _ _ _ = Q
  generalize hH : s.heap = H at hP ⊢
  have hS : va_S A s.heap H [] := by rw [← hH]; exact hS
  clear hH
  refine lv_iconst (v := 1) hx hb dX4_circuits_0 (by decide) ?_
  refine lv_aload_n hx hb dX4_circuits_1 rfl (lv_at hl 0 rfl) ?_
  refine va_get (D := D) (ci := 4) (v := .int (nI ct)) (C := RX4) (T := TX4) (N := 7) hx hb hts iX4 hown hK hP 0 rfl rfl 5 (by decide) f37 (fun _ h9 => h9) rfl dX4_circuits_2 ?_
  refine va_mmax hx hb (hml.trans hl.1.symm) hown mmmax mtmax mi mcmax (Nat.le_of_ble_eq_true rfl) (Nat.le_of_ble_eq_true rfl) (Nat.le_of_ble_eq_true rfl) (Nat.le_of_ble_eq_true rfl) dX4_circuits_5 ?_
  obtain ⟨m_1, ham_1, hbm_1, q9⟩ := max1 (show ct ≤ 3 by omega)
  refine lv_eqi (y := nI m_1) q9 ?_
  have hP9 := hP; have hD9 := hD
  subst hQ
  refine W.widen (k := 0) (n := 0) (Nat.le_of_ble_eq_true rfl) (Nat.le_of_ble_eq_true rfl) ?_
  exact W.iret (v := (nI m_1)) hx hb hr (fun tS htS _ => ⟨⟨_, _, rfl, ⟨m_1, rfl, rfl, (show 1 ≤ m_1 by omega), (show m_1 ≤ 3 by omega)⟩, by rw [htS]; exact hP9, hD9⟩, hS.F htS⟩) hS.2.2 dX4_circuits_8

set_option maxHeartbeats 4000000 in
set_option maxRecDepth 100000 in
theorem k_X4_ofRules_0 (l : Launch) (D : va_G) (g : Nat → ClassId) (sz : Nat) (Rd : Nat) (Rq : Nat) (fr : Nat → Int32) (Rv : Nat) (fval : Nat → Int32) (h0 : vOK fval) : Met l yX4_ofRules wsX4_ofRules ({ frames := 0, cells := 0, slots := 0, locals := 0 }) (va_Pc [.ref Rd, .int 0] (pre D g sz [(Rd, .inr (4, [.ref Rq, .int (fr 1), .int (fr 2), .int (fr 3), .int (fr 4), .int (fr 5), .ref Rv])), (Rv, .inl (g 0, 21, .inl fval))])) (va_Qi (fun (r : Int32) (u : va_W) => ∃ (nx : Nat), u = [(Rd, .inr (4, [.ref Rq, .int (fr 1), .int (fr 2), .int (fr 3), .int (fr 4), .int (fr 5), .ref Rv])), (Rv, .inl (g 0, 21, .inl fval))] ∧ r = (nI nx) ∧ (nx ≤ 4)) (wd D (va_A [(Rd, .inr (4, [.ref Rq, .int (fr 1), .int (fr 2), .int (fr 3), .int (fr 4), .int (fr 5), .ref Rv])), (Rv, .inl (g 0, 21, .inl fval))] sz)) (va_A [(Rd, .inr (4, [.ref Rq, .int (fr 1), .int (fr 2), .int (fr 3), .int (fr 4), .int (fr 5), .ref Rv])), (Rv, .inl (g 0, 21, .inl fval))] sz)) 0 0 (va_A [(Rd, .inr (4, [.ref Rq, .int (fr 1), .int (fr 2), .int (fr 3), .int (fr 4), .int (fr 5), .ref Rv])), (Rv, .inl (g 0, 21, .inl fval))] sz) := by
  refine Met.ofW (cc := cX4_ofRules) (maxL := 2) (ret := (some .int)) (by decide) rfl ?_
  intro p e s m args below meth c s₁ B hml hv
  obtain ⟨rfl, hsz, hP, ⟨hK, hN⟩, hD0, hZ⟩ := hv
  have hx := B.exec
  have hb := B.bytes
  have hr := B.returns
  have hts := atoms_spec (ws := wsX4_ofRules) B.pre
  have hown : s.vm.findClass RX4 = some m.cls := findClass_of_methodNamed B.named
  have hlocks := B.notSynchronized
  clear B
  subst hsz
  have hD := hD0.self (sz := s.heap.size)
  clear hD0
  generalize hAe : va_A [(Rd, .inr (4, [.ref Rq, .int (fr 1), .int (fr 2), .int (fr 3), .int (fr 4), .int (fr 5), .ref Rv])), (Rv, .inl (g 0, 21, .inl fval))] s.heap.size = A at hD hZ ⊢
  have hA : ∀ q : Nat, s.heap.size ≤ q → A q := fun q h => by rw [← hAe]; exact Or.inr h
  have hS : va_S A s.heap s.heap [] := va_S.rf
  have f15 := hts (.fieldLink RX4 15 "HopCredits$Reading" "values" "[I") (List.mem_of_getElem? (i := 1) rfl)
  have iX4 : ∀ w ∈ u_ws RX4 TX4 7, w ∈ wsX4_ofRules := fun w h => List.mem_cons_of_mem _ (List.mem_append_right _ (h))
  have hl := lv_entry ([.ref Rd, .int 0]) (n := 2) (Nat.le_of_ble_eq_true rfl)
  rw [lg_entry_eq]
  generalize (lg_sl ([.ref Rd, .int 0]) ++ List.replicate (2 - (lg_sl ([.ref Rd, .int 0])).length) Slot.unset).toArray = ls at hl ⊢
  have hl : lv_has ls 2 [(0, .ref Rd), (1, .int 0)] := hl
  generalize hQ : MQ below _ _ s _ _ _ = Q
  generalize hH : s.heap = H at hP ⊢
  have hS : va_S A s.heap H [] := by rw [← hH]; exact hS
  clear hH
  refine lv_aload_n hx hb dX4_ofRules_0 rfl (lv_at hl 0 rfl) ?_
  refine va_get (D := D) (ci := 4) (v := .ref Rv) (C := RX4) (T := TX4) (N := 7) hx hb hts iX4 hown hK hP 0 rfl rfl 6 (by decide) f15 (fun _ h9 => h9) rfl dX4_ofRules_1 ?_
  refine lv_iload_n hx hb dX4_ofRules_4 rfl (lv_at hl 1 rfl) ?_
  refine va_iald hx hb hK hP 1 0 rfl rfl (by unfold vp_in; decide) dX4_ofRules_5 ?_
  refine lv_eqi (y := (fval 0)) (rfl) ?_
  obtain ⟨n_1, hn_1, q9⟩ := h0 0 (by decide)
  have hn_1 : n_1 ≤ 4 := hn_1
  refine lv_eqi (y := nI n_1) q9 ?_
  have hP9 := hP; have hD9 := hD
  subst hQ
  refine W.widen (k := 0) (n := 0) (Nat.le_of_ble_eq_true rfl) (Nat.le_of_ble_eq_true rfl) ?_
  exact W.iret (v := (nI n_1)) hx hb hr (fun tS htS _ => ⟨⟨_, _, rfl, ⟨n_1, rfl, rfl, (show n_1 ≤ 4 by omega)⟩, by rw [htS]; exact hP9, hD9⟩, hS.F htS⟩) hS.2.2 dX4_ofRules_6

set_option maxHeartbeats 4000000 in
set_option maxRecDepth 100000 in
theorem k_X4_ofRules (l : Launch) (D : va_G) (g : Nat → ClassId) (sz : Nat) (Rd : Nat) (ix : Nat) (Rq : Nat) (fr : Nat → Int32) (Rv : Nat) (fval : Nat → Int32) (h0 : ix < 3) : Met l yX4_ofRules wsX4_ofRules ({ frames := 0, cells := 0, slots := 0, locals := 0 }) (va_Pc [.ref Rd, .int (nI ix)] (pre D g sz [(Rd, .inr (4, [.ref Rq, .int (fr 1), .int (fr 2), .int (fr 3), .int (fr 4), .int (fr 5), .ref Rv])), (Rv, .inl (g 0, 21, .inl fval))])) (va_Qi (fun (r : Int32) (u : va_W) => u = [(Rd, .inr (4, [.ref Rq, .int (fr 1), .int (fr 2), .int (fr 3), .int (fr 4), .int (fr 5), .ref Rv])), (Rv, .inl (g 0, 21, .inl fval))]) (wd D (va_A [(Rd, .inr (4, [.ref Rq, .int (fr 1), .int (fr 2), .int (fr 3), .int (fr 4), .int (fr 5), .ref Rv])), (Rv, .inl (g 0, 21, .inl fval))] sz)) (va_A [(Rd, .inr (4, [.ref Rq, .int (fr 1), .int (fr 2), .int (fr 3), .int (fr 4), .int (fr 5), .ref Rv])), (Rv, .inl (g 0, 21, .inl fval))] sz)) 0 0 (va_A [(Rd, .inr (4, [.ref Rq, .int (fr 1), .int (fr 2), .int (fr 3), .int (fr 4), .int (fr 5), .ref Rv])), (Rv, .inl (g 0, 21, .inl fval))] sz) := by
  refine Met.ofW (cc := cX4_ofRules) (maxL := 2) (ret := (some .int)) (by decide) rfl ?_
  intro p e s m args below meth c s₁ B hml hv
  obtain ⟨rfl, hsz, hP, ⟨hK, hN⟩, hD0, hZ⟩ := hv
  have hx := B.exec
  have hb := B.bytes
  have hr := B.returns
  have hts := atoms_spec (ws := wsX4_ofRules) B.pre
  have hown : s.vm.findClass RX4 = some m.cls := findClass_of_methodNamed B.named
  have hlocks := B.notSynchronized
  clear B
  subst hsz
  have hD := hD0.self (sz := s.heap.size)
  clear hD0
  generalize hAe : va_A [(Rd, .inr (4, [.ref Rq, .int (fr 1), .int (fr 2), .int (fr 3), .int (fr 4), .int (fr 5), .ref Rv])), (Rv, .inl (g 0, 21, .inl fval))] s.heap.size = A at hD hZ ⊢
  have hA : ∀ q : Nat, s.heap.size ≤ q → A q := fun q h => by rw [← hAe]; exact Or.inr h
  have hS : va_S A s.heap s.heap [] := va_S.rf
  have f15 := hts (.fieldLink RX4 15 "HopCredits$Reading" "values" "[I") (List.mem_of_getElem? (i := 1) rfl)
  have iX4 : ∀ w ∈ u_ws RX4 TX4 7, w ∈ wsX4_ofRules := fun w h => List.mem_cons_of_mem _ (List.mem_append_right _ (h))
  have hl := lv_entry ([.ref Rd, .int (nI ix)]) (n := 2) (Nat.le_of_ble_eq_true rfl)
  rw [lg_entry_eq]
  generalize (lg_sl ([.ref Rd, .int (nI ix)]) ++ List.replicate (2 - (lg_sl ([.ref Rd, .int (nI ix)])).length) Slot.unset).toArray = ls at hl ⊢
  have hl : lv_has ls 2 [(0, .ref Rd), (1, .int (nI ix))] := hl
  generalize hQ : MQ below _ _ s _ _ _ = Q
  generalize hH : s.heap = H at hP ⊢
  have hS : va_S A s.heap H [] := by rw [← hH]; exact hS
  clear hH
  refine lv_aload_n hx hb dX4_ofRules_0 rfl (lv_at hl 0 rfl) ?_
  refine va_get (D := D) (ci := 4) (v := .ref Rv) (C := RX4) (T := TX4) (N := 7) hx hb hts iX4 hown hK hP 0 rfl rfl 6 (by decide) f15 (fun _ h9 => h9) rfl dX4_ofRules_1 ?_
  refine lv_iload_n hx hb dX4_ofRules_4 rfl (lv_at hl 1 rfl) ?_
  refine va_iald hx hb hK hP 1 0 rfl rfl (vp_in_nI (show ix < 21 by omega) (by decide)) dX4_ofRules_5 ?_
  refine lv_eqi (y := (fval (ix))) (congrArg fval (nI_clamp (show ix < 2 ^ 31 by omega))) ?_
  refine lv_topi (fun y_1 _ => ?_)
  have hP9 := hP; have hD9 := hD
  subst hQ
  refine W.widen (k := 0) (n := 0) (Nat.le_of_ble_eq_true rfl) (Nat.le_of_ble_eq_true rfl) ?_
  exact W.iret (v := y_1) hx hb hr (fun tS htS _ => ⟨⟨_, _, rfl, rfl, by rw [htS]; exact hP9, hD9⟩, hS.F htS⟩) hS.2.2 dX4_ofRules_6

set_option maxHeartbeats 4000000 in
set_option maxRecDepth 100000 in
theorem k_X4_ofHop_00 (l : Launch) (D : va_G) (g : Nat → ClassId) (sz : Nat) (Rd : Nat) (Rq : Nat) (fr : Nat → Int32) (Rv : Nat) (fval : Nat → Int32) (h0 : vOK fval) : Met l yX4_ofHop wsX4_ofHop ({ frames := 0, cells := 0, slots := 0, locals := 0 }) (va_Pc [.ref Rd, .int 0, .int 0] (pre D g sz [(Rd, .inr (4, [.ref Rq, .int (fr 1), .int (fr 2), .int (fr 3), .int (fr 4), .int (fr 5), .ref Rv])), (Rv, .inl (g 0, 21, .inl fval))])) (va_Qi (fun (r : Int32) (u : va_W) => ∃ (nx : Nat), u = [(Rd, .inr (4, [.ref Rq, .int (fr 1), .int (fr 2), .int (fr 3), .int (fr 4), .int (fr 5), .ref Rv])), (Rv, .inl (g 0, 21, .inl fval))] ∧ r = (nI nx) ∧ (nx ≤ 4)) (wd D (va_A [(Rd, .inr (4, [.ref Rq, .int (fr 1), .int (fr 2), .int (fr 3), .int (fr 4), .int (fr 5), .ref Rv])), (Rv, .inl (g 0, 21, .inl fval))] sz)) (va_A [(Rd, .inr (4, [.ref Rq, .int (fr 1), .int (fr 2), .int (fr 3), .int (fr 4), .int (fr 5), .ref Rv])), (Rv, .inl (g 0, 21, .inl fval))] sz)) 0 0 (va_A [(Rd, .inr (4, [.ref Rq, .int (fr 1), .int (fr 2), .int (fr 3), .int (fr 4), .int (fr 5), .ref Rv])), (Rv, .inl (g 0, 21, .inl fval))] sz) := by
  refine Met.ofW (cc := cX4_ofHop) (maxL := 3) (ret := (some .int)) (by decide) rfl ?_
  intro p e s m args below meth c s₁ B hml hv
  obtain ⟨rfl, hsz, hP, ⟨hK, hN⟩, hD0, hZ⟩ := hv
  have hx := B.exec
  have hb := B.bytes
  have hr := B.returns
  have hts := atoms_spec (ws := wsX4_ofHop) B.pre
  have hown : s.vm.findClass RX4 = some m.cls := findClass_of_methodNamed B.named
  have hlocks := B.notSynchronized
  clear B
  subst hsz
  have hD := hD0.self (sz := s.heap.size)
  clear hD0
  generalize hAe : va_A [(Rd, .inr (4, [.ref Rq, .int (fr 1), .int (fr 2), .int (fr 3), .int (fr 4), .int (fr 5), .ref Rv])), (Rv, .inl (g 0, 21, .inl fval))] s.heap.size = A at hD hZ ⊢
  have hA : ∀ q : Nat, s.heap.size ≤ q → A q := fun q h => by rw [← hAe]; exact Or.inr h
  have hS : va_S A s.heap s.heap [] := va_S.rf
  have f15 := hts (.fieldLink RX4 15 "HopCredits$Reading" "values" "[I") (List.mem_of_getElem? (i := 1) rfl)
  have iX4 : ∀ w ∈ u_ws RX4 TX4 7, w ∈ wsX4_ofHop := fun w h => List.mem_cons_of_mem _ (List.mem_append_right _ (h))
  have hl := lv_entry ([.ref Rd, .int 0, .int 0]) (n := 3) (Nat.le_of_ble_eq_true rfl)
  rw [lg_entry_eq]
  generalize (lg_sl ([.ref Rd, .int 0, .int 0]) ++ List.replicate (3 - (lg_sl ([.ref Rd, .int 0, .int 0])).length) Slot.unset).toArray = ls at hl ⊢
  have hl : lv_has ls 3 [(0, .ref Rd), (1, .int 0), (2, .int 0)] := hl
  generalize hQ : MQ below _ _ s _ _ _ = Q
  generalize hH : s.heap = H at hP ⊢
  have hS : va_S A s.heap H [] := by rw [← hH]; exact hS
  clear hH
  refine lv_aload_n hx hb dX4_ofHop_0 rfl (lv_at hl 0 rfl) ?_
  refine va_get (D := D) (ci := 4) (v := .ref Rv) (C := RX4) (T := TX4) (N := 7) hx hb hts iX4 hown hK hP 0 rfl rfl 6 (by decide) f15 (fun _ h9 => h9) rfl dX4_ofHop_1 ?_
  refine lv_iconst (v := 1) hx hb dX4_ofHop_4 (by decide) ?_
  refine lv_iload_n hx hb dX4_ofHop_5 rfl (lv_at hl 1 rfl) ?_
  refine lv_iadd hx hb dX4_ofHop_6 ?_
  refine lv_eqi (y := 1) (by decide) ?_
  refine lv_iconst (v := 3) hx hb dX4_ofHop_7 (by decide) ?_
  refine lv_imul hx hb dX4_ofHop_8 ?_
  refine lv_eqi (y := 3) (by decide) ?_
  refine lv_iload_n hx hb dX4_ofHop_9 rfl (lv_at hl 2 rfl) ?_
  refine lv_iadd hx hb dX4_ofHop_10 ?_
  refine lv_eqi (y := 3) (by decide) ?_
  refine va_iald hx hb hK hP 1 0 rfl rfl (by unfold vp_in; decide) dX4_ofHop_11 ?_
  refine lv_eqi (y := (fval 3)) (rfl) ?_
  obtain ⟨n_1, hn_1, q9⟩ := h0 3 (by decide)
  have hn_1 : n_1 ≤ 4 := hn_1
  refine lv_eqi (y := nI n_1) q9 ?_
  have hP9 := hP; have hD9 := hD
  subst hQ
  refine W.widen (k := 0) (n := 0) (Nat.le_of_ble_eq_true rfl) (Nat.le_of_ble_eq_true rfl) ?_
  exact W.iret (v := (nI n_1)) hx hb hr (fun tS htS _ => ⟨⟨_, _, rfl, ⟨n_1, rfl, rfl, (show n_1 ≤ 4 by omega)⟩, by rw [htS]; exact hP9, hD9⟩, hS.F htS⟩) hS.2.2 dX4_ofHop_12

set_option maxHeartbeats 4000000 in
set_option maxRecDepth 100000 in
theorem k_X4_ofHop_01 (l : Launch) (D : va_G) (g : Nat → ClassId) (sz : Nat) (Rd : Nat) (Rq : Nat) (fr : Nat → Int32) (Rv : Nat) (fval : Nat → Int32) (h0 : vOK fval) : Met l yX4_ofHop wsX4_ofHop ({ frames := 0, cells := 0, slots := 0, locals := 0 }) (va_Pc [.ref Rd, .int 0, .int 1] (pre D g sz [(Rd, .inr (4, [.ref Rq, .int (fr 1), .int (fr 2), .int (fr 3), .int (fr 4), .int (fr 5), .ref Rv])), (Rv, .inl (g 0, 21, .inl fval))])) (va_Qi (fun (r : Int32) (u : va_W) => ∃ (nx : Nat), u = [(Rd, .inr (4, [.ref Rq, .int (fr 1), .int (fr 2), .int (fr 3), .int (fr 4), .int (fr 5), .ref Rv])), (Rv, .inl (g 0, 21, .inl fval))] ∧ r = (nI nx) ∧ (nx ≤ 30)) (wd D (va_A [(Rd, .inr (4, [.ref Rq, .int (fr 1), .int (fr 2), .int (fr 3), .int (fr 4), .int (fr 5), .ref Rv])), (Rv, .inl (g 0, 21, .inl fval))] sz)) (va_A [(Rd, .inr (4, [.ref Rq, .int (fr 1), .int (fr 2), .int (fr 3), .int (fr 4), .int (fr 5), .ref Rv])), (Rv, .inl (g 0, 21, .inl fval))] sz)) 0 0 (va_A [(Rd, .inr (4, [.ref Rq, .int (fr 1), .int (fr 2), .int (fr 3), .int (fr 4), .int (fr 5), .ref Rv])), (Rv, .inl (g 0, 21, .inl fval))] sz) := by
  refine Met.ofW (cc := cX4_ofHop) (maxL := 3) (ret := (some .int)) (by decide) rfl ?_
  intro p e s m args below meth c s₁ B hml hv
  obtain ⟨rfl, hsz, hP, ⟨hK, hN⟩, hD0, hZ⟩ := hv
  have hx := B.exec
  have hb := B.bytes
  have hr := B.returns
  have hts := atoms_spec (ws := wsX4_ofHop) B.pre
  have hown : s.vm.findClass RX4 = some m.cls := findClass_of_methodNamed B.named
  have hlocks := B.notSynchronized
  clear B
  subst hsz
  have hD := hD0.self (sz := s.heap.size)
  clear hD0
  generalize hAe : va_A [(Rd, .inr (4, [.ref Rq, .int (fr 1), .int (fr 2), .int (fr 3), .int (fr 4), .int (fr 5), .ref Rv])), (Rv, .inl (g 0, 21, .inl fval))] s.heap.size = A at hD hZ ⊢
  have hA : ∀ q : Nat, s.heap.size ≤ q → A q := fun q h => by rw [← hAe]; exact Or.inr h
  have hS : va_S A s.heap s.heap [] := va_S.rf
  have f15 := hts (.fieldLink RX4 15 "HopCredits$Reading" "values" "[I") (List.mem_of_getElem? (i := 1) rfl)
  have iX4 : ∀ w ∈ u_ws RX4 TX4 7, w ∈ wsX4_ofHop := fun w h => List.mem_cons_of_mem _ (List.mem_append_right _ (h))
  have hl := lv_entry ([.ref Rd, .int 0, .int 1]) (n := 3) (Nat.le_of_ble_eq_true rfl)
  rw [lg_entry_eq]
  generalize (lg_sl ([.ref Rd, .int 0, .int 1]) ++ List.replicate (3 - (lg_sl ([.ref Rd, .int 0, .int 1])).length) Slot.unset).toArray = ls at hl ⊢
  have hl : lv_has ls 3 [(0, .ref Rd), (1, .int 0), (2, .int 1)] := hl
  generalize hQ : MQ below _ _ s _ _ _ = Q
  generalize hH : s.heap = H at hP ⊢
  have hS : va_S A s.heap H [] := by rw [← hH]; exact hS
  clear hH
  refine lv_aload_n hx hb dX4_ofHop_0 rfl (lv_at hl 0 rfl) ?_
  refine va_get (D := D) (ci := 4) (v := .ref Rv) (C := RX4) (T := TX4) (N := 7) hx hb hts iX4 hown hK hP 0 rfl rfl 6 (by decide) f15 (fun _ h9 => h9) rfl dX4_ofHop_1 ?_
  refine lv_iconst (v := 1) hx hb dX4_ofHop_4 (by decide) ?_
  refine lv_iload_n hx hb dX4_ofHop_5 rfl (lv_at hl 1 rfl) ?_
  refine lv_iadd hx hb dX4_ofHop_6 ?_
  refine lv_eqi (y := 1) (by decide) ?_
  refine lv_iconst (v := 3) hx hb dX4_ofHop_7 (by decide) ?_
  refine lv_imul hx hb dX4_ofHop_8 ?_
  refine lv_eqi (y := 3) (by decide) ?_
  refine lv_iload_n hx hb dX4_ofHop_9 rfl (lv_at hl 2 rfl) ?_
  refine lv_iadd hx hb dX4_ofHop_10 ?_
  refine lv_eqi (y := 4) (by decide) ?_
  refine va_iald hx hb hK hP 1 0 rfl rfl (by unfold vp_in; decide) dX4_ofHop_11 ?_
  refine lv_eqi (y := (fval 4)) (rfl) ?_
  obtain ⟨n_1, hn_1, q9⟩ := h0 4 (by decide)
  have hn_1 : n_1 ≤ 30 := hn_1
  refine lv_eqi (y := nI n_1) q9 ?_
  have hP9 := hP; have hD9 := hD
  subst hQ
  refine W.widen (k := 0) (n := 0) (Nat.le_of_ble_eq_true rfl) (Nat.le_of_ble_eq_true rfl) ?_
  exact W.iret (v := (nI n_1)) hx hb hr (fun tS htS _ => ⟨⟨_, _, rfl, ⟨n_1, rfl, rfl, (show n_1 ≤ 30 by omega)⟩, by rw [htS]; exact hP9, hD9⟩, hS.F htS⟩) hS.2.2 dX4_ofHop_12

set_option maxHeartbeats 4000000 in
set_option maxRecDepth 100000 in
theorem k_X4_ofHop_10 (l : Launch) (D : va_G) (g : Nat → ClassId) (sz : Nat) (Rd : Nat) (Rq : Nat) (fr : Nat → Int32) (Rv : Nat) (fval : Nat → Int32) (h0 : vOK fval) : Met l yX4_ofHop wsX4_ofHop ({ frames := 0, cells := 0, slots := 0, locals := 0 }) (va_Pc [.ref Rd, .int 1, .int 0] (pre D g sz [(Rd, .inr (4, [.ref Rq, .int (fr 1), .int (fr 2), .int (fr 3), .int (fr 4), .int (fr 5), .ref Rv])), (Rv, .inl (g 0, 21, .inl fval))])) (va_Qi (fun (r : Int32) (u : va_W) => ∃ (nx : Nat), u = [(Rd, .inr (4, [.ref Rq, .int (fr 1), .int (fr 2), .int (fr 3), .int (fr 4), .int (fr 5), .ref Rv])), (Rv, .inl (g 0, 21, .inl fval))] ∧ r = (nI nx) ∧ (nx ≤ 4)) (wd D (va_A [(Rd, .inr (4, [.ref Rq, .int (fr 1), .int (fr 2), .int (fr 3), .int (fr 4), .int (fr 5), .ref Rv])), (Rv, .inl (g 0, 21, .inl fval))] sz)) (va_A [(Rd, .inr (4, [.ref Rq, .int (fr 1), .int (fr 2), .int (fr 3), .int (fr 4), .int (fr 5), .ref Rv])), (Rv, .inl (g 0, 21, .inl fval))] sz)) 0 0 (va_A [(Rd, .inr (4, [.ref Rq, .int (fr 1), .int (fr 2), .int (fr 3), .int (fr 4), .int (fr 5), .ref Rv])), (Rv, .inl (g 0, 21, .inl fval))] sz) := by
  refine Met.ofW (cc := cX4_ofHop) (maxL := 3) (ret := (some .int)) (by decide) rfl ?_
  intro p e s m args below meth c s₁ B hml hv
  obtain ⟨rfl, hsz, hP, ⟨hK, hN⟩, hD0, hZ⟩ := hv
  have hx := B.exec
  have hb := B.bytes
  have hr := B.returns
  have hts := atoms_spec (ws := wsX4_ofHop) B.pre
  have hown : s.vm.findClass RX4 = some m.cls := findClass_of_methodNamed B.named
  have hlocks := B.notSynchronized
  clear B
  subst hsz
  have hD := hD0.self (sz := s.heap.size)
  clear hD0
  generalize hAe : va_A [(Rd, .inr (4, [.ref Rq, .int (fr 1), .int (fr 2), .int (fr 3), .int (fr 4), .int (fr 5), .ref Rv])), (Rv, .inl (g 0, 21, .inl fval))] s.heap.size = A at hD hZ ⊢
  have hA : ∀ q : Nat, s.heap.size ≤ q → A q := fun q h => by rw [← hAe]; exact Or.inr h
  have hS : va_S A s.heap s.heap [] := va_S.rf
  have f15 := hts (.fieldLink RX4 15 "HopCredits$Reading" "values" "[I") (List.mem_of_getElem? (i := 1) rfl)
  have iX4 : ∀ w ∈ u_ws RX4 TX4 7, w ∈ wsX4_ofHop := fun w h => List.mem_cons_of_mem _ (List.mem_append_right _ (h))
  have hl := lv_entry ([.ref Rd, .int 1, .int 0]) (n := 3) (Nat.le_of_ble_eq_true rfl)
  rw [lg_entry_eq]
  generalize (lg_sl ([.ref Rd, .int 1, .int 0]) ++ List.replicate (3 - (lg_sl ([.ref Rd, .int 1, .int 0])).length) Slot.unset).toArray = ls at hl ⊢
  have hl : lv_has ls 3 [(0, .ref Rd), (1, .int 1), (2, .int 0)] := hl
  generalize hQ : MQ below _ _ s _ _ _ = Q
  generalize hH : s.heap = H at hP ⊢
  have hS : va_S A s.heap H [] := by rw [← hH]; exact hS
  clear hH
  refine lv_aload_n hx hb dX4_ofHop_0 rfl (lv_at hl 0 rfl) ?_
  refine va_get (D := D) (ci := 4) (v := .ref Rv) (C := RX4) (T := TX4) (N := 7) hx hb hts iX4 hown hK hP 0 rfl rfl 6 (by decide) f15 (fun _ h9 => h9) rfl dX4_ofHop_1 ?_
  refine lv_iconst (v := 1) hx hb dX4_ofHop_4 (by decide) ?_
  refine lv_iload_n hx hb dX4_ofHop_5 rfl (lv_at hl 1 rfl) ?_
  refine lv_iadd hx hb dX4_ofHop_6 ?_
  refine lv_eqi (y := 2) (by decide) ?_
  refine lv_iconst (v := 3) hx hb dX4_ofHop_7 (by decide) ?_
  refine lv_imul hx hb dX4_ofHop_8 ?_
  refine lv_eqi (y := 6) (by decide) ?_
  refine lv_iload_n hx hb dX4_ofHop_9 rfl (lv_at hl 2 rfl) ?_
  refine lv_iadd hx hb dX4_ofHop_10 ?_
  refine lv_eqi (y := 6) (by decide) ?_
  refine va_iald hx hb hK hP 1 0 rfl rfl (by unfold vp_in; decide) dX4_ofHop_11 ?_
  refine lv_eqi (y := (fval 6)) (rfl) ?_
  obtain ⟨n_1, hn_1, q9⟩ := h0 6 (by decide)
  have hn_1 : n_1 ≤ 4 := hn_1
  refine lv_eqi (y := nI n_1) q9 ?_
  have hP9 := hP; have hD9 := hD
  subst hQ
  refine W.widen (k := 0) (n := 0) (Nat.le_of_ble_eq_true rfl) (Nat.le_of_ble_eq_true rfl) ?_
  exact W.iret (v := (nI n_1)) hx hb hr (fun tS htS _ => ⟨⟨_, _, rfl, ⟨n_1, rfl, rfl, (show n_1 ≤ 4 by omega)⟩, by rw [htS]; exact hP9, hD9⟩, hS.F htS⟩) hS.2.2 dX4_ofHop_12

set_option maxHeartbeats 4000000 in
set_option maxRecDepth 100000 in
theorem k_X4_ofHop_11 (l : Launch) (D : va_G) (g : Nat → ClassId) (sz : Nat) (Rd : Nat) (Rq : Nat) (fr : Nat → Int32) (Rv : Nat) (fval : Nat → Int32) (h0 : vOK fval) : Met l yX4_ofHop wsX4_ofHop ({ frames := 0, cells := 0, slots := 0, locals := 0 }) (va_Pc [.ref Rd, .int 1, .int 1] (pre D g sz [(Rd, .inr (4, [.ref Rq, .int (fr 1), .int (fr 2), .int (fr 3), .int (fr 4), .int (fr 5), .ref Rv])), (Rv, .inl (g 0, 21, .inl fval))])) (va_Qi (fun (r : Int32) (u : va_W) => ∃ (nx : Nat), u = [(Rd, .inr (4, [.ref Rq, .int (fr 1), .int (fr 2), .int (fr 3), .int (fr 4), .int (fr 5), .ref Rv])), (Rv, .inl (g 0, 21, .inl fval))] ∧ r = (nI nx) ∧ (nx ≤ 30)) (wd D (va_A [(Rd, .inr (4, [.ref Rq, .int (fr 1), .int (fr 2), .int (fr 3), .int (fr 4), .int (fr 5), .ref Rv])), (Rv, .inl (g 0, 21, .inl fval))] sz)) (va_A [(Rd, .inr (4, [.ref Rq, .int (fr 1), .int (fr 2), .int (fr 3), .int (fr 4), .int (fr 5), .ref Rv])), (Rv, .inl (g 0, 21, .inl fval))] sz)) 0 0 (va_A [(Rd, .inr (4, [.ref Rq, .int (fr 1), .int (fr 2), .int (fr 3), .int (fr 4), .int (fr 5), .ref Rv])), (Rv, .inl (g 0, 21, .inl fval))] sz) := by
  refine Met.ofW (cc := cX4_ofHop) (maxL := 3) (ret := (some .int)) (by decide) rfl ?_
  intro p e s m args below meth c s₁ B hml hv
  obtain ⟨rfl, hsz, hP, ⟨hK, hN⟩, hD0, hZ⟩ := hv
  have hx := B.exec
  have hb := B.bytes
  have hr := B.returns
  have hts := atoms_spec (ws := wsX4_ofHop) B.pre
  have hown : s.vm.findClass RX4 = some m.cls := findClass_of_methodNamed B.named
  have hlocks := B.notSynchronized
  clear B
  subst hsz
  have hD := hD0.self (sz := s.heap.size)
  clear hD0
  generalize hAe : va_A [(Rd, .inr (4, [.ref Rq, .int (fr 1), .int (fr 2), .int (fr 3), .int (fr 4), .int (fr 5), .ref Rv])), (Rv, .inl (g 0, 21, .inl fval))] s.heap.size = A at hD hZ ⊢
  have hA : ∀ q : Nat, s.heap.size ≤ q → A q := fun q h => by rw [← hAe]; exact Or.inr h
  have hS : va_S A s.heap s.heap [] := va_S.rf
  have f15 := hts (.fieldLink RX4 15 "HopCredits$Reading" "values" "[I") (List.mem_of_getElem? (i := 1) rfl)
  have iX4 : ∀ w ∈ u_ws RX4 TX4 7, w ∈ wsX4_ofHop := fun w h => List.mem_cons_of_mem _ (List.mem_append_right _ (h))
  have hl := lv_entry ([.ref Rd, .int 1, .int 1]) (n := 3) (Nat.le_of_ble_eq_true rfl)
  rw [lg_entry_eq]
  generalize (lg_sl ([.ref Rd, .int 1, .int 1]) ++ List.replicate (3 - (lg_sl ([.ref Rd, .int 1, .int 1])).length) Slot.unset).toArray = ls at hl ⊢
  have hl : lv_has ls 3 [(0, .ref Rd), (1, .int 1), (2, .int 1)] := hl
  generalize hQ : MQ below _ _ s _ _ _ = Q
  generalize hH : s.heap = H at hP ⊢
  have hS : va_S A s.heap H [] := by rw [← hH]; exact hS
  clear hH
  refine lv_aload_n hx hb dX4_ofHop_0 rfl (lv_at hl 0 rfl) ?_
  refine va_get (D := D) (ci := 4) (v := .ref Rv) (C := RX4) (T := TX4) (N := 7) hx hb hts iX4 hown hK hP 0 rfl rfl 6 (by decide) f15 (fun _ h9 => h9) rfl dX4_ofHop_1 ?_
  refine lv_iconst (v := 1) hx hb dX4_ofHop_4 (by decide) ?_
  refine lv_iload_n hx hb dX4_ofHop_5 rfl (lv_at hl 1 rfl) ?_
  refine lv_iadd hx hb dX4_ofHop_6 ?_
  refine lv_eqi (y := 2) (by decide) ?_
  refine lv_iconst (v := 3) hx hb dX4_ofHop_7 (by decide) ?_
  refine lv_imul hx hb dX4_ofHop_8 ?_
  refine lv_eqi (y := 6) (by decide) ?_
  refine lv_iload_n hx hb dX4_ofHop_9 rfl (lv_at hl 2 rfl) ?_
  refine lv_iadd hx hb dX4_ofHop_10 ?_
  refine lv_eqi (y := 7) (by decide) ?_
  refine va_iald hx hb hK hP 1 0 rfl rfl (by unfold vp_in; decide) dX4_ofHop_11 ?_
  refine lv_eqi (y := (fval 7)) (rfl) ?_
  obtain ⟨n_1, hn_1, q9⟩ := h0 7 (by decide)
  have hn_1 : n_1 ≤ 30 := hn_1
  refine lv_eqi (y := nI n_1) q9 ?_
  have hP9 := hP; have hD9 := hD
  subst hQ
  refine W.widen (k := 0) (n := 0) (Nat.le_of_ble_eq_true rfl) (Nat.le_of_ble_eq_true rfl) ?_
  exact W.iret (v := (nI n_1)) hx hb hr (fun tS htS _ => ⟨⟨_, _, rfl, ⟨n_1, rfl, rfl, (show n_1 ≤ 30 by omega)⟩, by rw [htS]; exact hP9, hD9⟩, hS.F htS⟩) hS.2.2 dX4_ofHop_12

set_option maxHeartbeats 4000000 in
set_option maxRecDepth 100000 in
theorem k_X4_ofHop_20 (l : Launch) (D : va_G) (g : Nat → ClassId) (sz : Nat) (Rd : Nat) (Rq : Nat) (fr : Nat → Int32) (Rv : Nat) (fval : Nat → Int32) (h0 : vOK fval) : Met l yX4_ofHop wsX4_ofHop ({ frames := 0, cells := 0, slots := 0, locals := 0 }) (va_Pc [.ref Rd, .int 2, .int 0] (pre D g sz [(Rd, .inr (4, [.ref Rq, .int (fr 1), .int (fr 2), .int (fr 3), .int (fr 4), .int (fr 5), .ref Rv])), (Rv, .inl (g 0, 21, .inl fval))])) (va_Qi (fun (r : Int32) (u : va_W) => ∃ (nx : Nat), u = [(Rd, .inr (4, [.ref Rq, .int (fr 1), .int (fr 2), .int (fr 3), .int (fr 4), .int (fr 5), .ref Rv])), (Rv, .inl (g 0, 21, .inl fval))] ∧ r = (nI nx) ∧ (nx ≤ 4)) (wd D (va_A [(Rd, .inr (4, [.ref Rq, .int (fr 1), .int (fr 2), .int (fr 3), .int (fr 4), .int (fr 5), .ref Rv])), (Rv, .inl (g 0, 21, .inl fval))] sz)) (va_A [(Rd, .inr (4, [.ref Rq, .int (fr 1), .int (fr 2), .int (fr 3), .int (fr 4), .int (fr 5), .ref Rv])), (Rv, .inl (g 0, 21, .inl fval))] sz)) 0 0 (va_A [(Rd, .inr (4, [.ref Rq, .int (fr 1), .int (fr 2), .int (fr 3), .int (fr 4), .int (fr 5), .ref Rv])), (Rv, .inl (g 0, 21, .inl fval))] sz) := by
  refine Met.ofW (cc := cX4_ofHop) (maxL := 3) (ret := (some .int)) (by decide) rfl ?_
  intro p e s m args below meth c s₁ B hml hv
  obtain ⟨rfl, hsz, hP, ⟨hK, hN⟩, hD0, hZ⟩ := hv
  have hx := B.exec
  have hb := B.bytes
  have hr := B.returns
  have hts := atoms_spec (ws := wsX4_ofHop) B.pre
  have hown : s.vm.findClass RX4 = some m.cls := findClass_of_methodNamed B.named
  have hlocks := B.notSynchronized
  clear B
  subst hsz
  have hD := hD0.self (sz := s.heap.size)
  clear hD0
  generalize hAe : va_A [(Rd, .inr (4, [.ref Rq, .int (fr 1), .int (fr 2), .int (fr 3), .int (fr 4), .int (fr 5), .ref Rv])), (Rv, .inl (g 0, 21, .inl fval))] s.heap.size = A at hD hZ ⊢
  have hA : ∀ q : Nat, s.heap.size ≤ q → A q := fun q h => by rw [← hAe]; exact Or.inr h
  have hS : va_S A s.heap s.heap [] := va_S.rf
  have f15 := hts (.fieldLink RX4 15 "HopCredits$Reading" "values" "[I") (List.mem_of_getElem? (i := 1) rfl)
  have iX4 : ∀ w ∈ u_ws RX4 TX4 7, w ∈ wsX4_ofHop := fun w h => List.mem_cons_of_mem _ (List.mem_append_right _ (h))
  have hl := lv_entry ([.ref Rd, .int 2, .int 0]) (n := 3) (Nat.le_of_ble_eq_true rfl)
  rw [lg_entry_eq]
  generalize (lg_sl ([.ref Rd, .int 2, .int 0]) ++ List.replicate (3 - (lg_sl ([.ref Rd, .int 2, .int 0])).length) Slot.unset).toArray = ls at hl ⊢
  have hl : lv_has ls 3 [(0, .ref Rd), (1, .int 2), (2, .int 0)] := hl
  generalize hQ : MQ below _ _ s _ _ _ = Q
  generalize hH : s.heap = H at hP ⊢
  have hS : va_S A s.heap H [] := by rw [← hH]; exact hS
  clear hH
  refine lv_aload_n hx hb dX4_ofHop_0 rfl (lv_at hl 0 rfl) ?_
  refine va_get (D := D) (ci := 4) (v := .ref Rv) (C := RX4) (T := TX4) (N := 7) hx hb hts iX4 hown hK hP 0 rfl rfl 6 (by decide) f15 (fun _ h9 => h9) rfl dX4_ofHop_1 ?_
  refine lv_iconst (v := 1) hx hb dX4_ofHop_4 (by decide) ?_
  refine lv_iload_n hx hb dX4_ofHop_5 rfl (lv_at hl 1 rfl) ?_
  refine lv_iadd hx hb dX4_ofHop_6 ?_
  refine lv_eqi (y := 3) (by decide) ?_
  refine lv_iconst (v := 3) hx hb dX4_ofHop_7 (by decide) ?_
  refine lv_imul hx hb dX4_ofHop_8 ?_
  refine lv_eqi (y := 9) (by decide) ?_
  refine lv_iload_n hx hb dX4_ofHop_9 rfl (lv_at hl 2 rfl) ?_
  refine lv_iadd hx hb dX4_ofHop_10 ?_
  refine lv_eqi (y := 9) (by decide) ?_
  refine va_iald hx hb hK hP 1 0 rfl rfl (by unfold vp_in; decide) dX4_ofHop_11 ?_
  refine lv_eqi (y := (fval 9)) (rfl) ?_
  obtain ⟨n_1, hn_1, q9⟩ := h0 9 (by decide)
  have hn_1 : n_1 ≤ 4 := hn_1
  refine lv_eqi (y := nI n_1) q9 ?_
  have hP9 := hP; have hD9 := hD
  subst hQ
  refine W.widen (k := 0) (n := 0) (Nat.le_of_ble_eq_true rfl) (Nat.le_of_ble_eq_true rfl) ?_
  exact W.iret (v := (nI n_1)) hx hb hr (fun tS htS _ => ⟨⟨_, _, rfl, ⟨n_1, rfl, rfl, (show n_1 ≤ 4 by omega)⟩, by rw [htS]; exact hP9, hD9⟩, hS.F htS⟩) hS.2.2 dX4_ofHop_12

set_option maxHeartbeats 4000000 in
set_option maxRecDepth 100000 in
theorem k_X4_ofHop_21 (l : Launch) (D : va_G) (g : Nat → ClassId) (sz : Nat) (Rd : Nat) (Rq : Nat) (fr : Nat → Int32) (Rv : Nat) (fval : Nat → Int32) (h0 : vOK fval) : Met l yX4_ofHop wsX4_ofHop ({ frames := 0, cells := 0, slots := 0, locals := 0 }) (va_Pc [.ref Rd, .int 2, .int 1] (pre D g sz [(Rd, .inr (4, [.ref Rq, .int (fr 1), .int (fr 2), .int (fr 3), .int (fr 4), .int (fr 5), .ref Rv])), (Rv, .inl (g 0, 21, .inl fval))])) (va_Qi (fun (r : Int32) (u : va_W) => ∃ (nx : Nat), u = [(Rd, .inr (4, [.ref Rq, .int (fr 1), .int (fr 2), .int (fr 3), .int (fr 4), .int (fr 5), .ref Rv])), (Rv, .inl (g 0, 21, .inl fval))] ∧ r = (nI nx) ∧ (nx ≤ 30)) (wd D (va_A [(Rd, .inr (4, [.ref Rq, .int (fr 1), .int (fr 2), .int (fr 3), .int (fr 4), .int (fr 5), .ref Rv])), (Rv, .inl (g 0, 21, .inl fval))] sz)) (va_A [(Rd, .inr (4, [.ref Rq, .int (fr 1), .int (fr 2), .int (fr 3), .int (fr 4), .int (fr 5), .ref Rv])), (Rv, .inl (g 0, 21, .inl fval))] sz)) 0 0 (va_A [(Rd, .inr (4, [.ref Rq, .int (fr 1), .int (fr 2), .int (fr 3), .int (fr 4), .int (fr 5), .ref Rv])), (Rv, .inl (g 0, 21, .inl fval))] sz) := by
  refine Met.ofW (cc := cX4_ofHop) (maxL := 3) (ret := (some .int)) (by decide) rfl ?_
  intro p e s m args below meth c s₁ B hml hv
  obtain ⟨rfl, hsz, hP, ⟨hK, hN⟩, hD0, hZ⟩ := hv
  have hx := B.exec
  have hb := B.bytes
  have hr := B.returns
  have hts := atoms_spec (ws := wsX4_ofHop) B.pre
  have hown : s.vm.findClass RX4 = some m.cls := findClass_of_methodNamed B.named
  have hlocks := B.notSynchronized
  clear B
  subst hsz
  have hD := hD0.self (sz := s.heap.size)
  clear hD0
  generalize hAe : va_A [(Rd, .inr (4, [.ref Rq, .int (fr 1), .int (fr 2), .int (fr 3), .int (fr 4), .int (fr 5), .ref Rv])), (Rv, .inl (g 0, 21, .inl fval))] s.heap.size = A at hD hZ ⊢
  have hA : ∀ q : Nat, s.heap.size ≤ q → A q := fun q h => by rw [← hAe]; exact Or.inr h
  have hS : va_S A s.heap s.heap [] := va_S.rf
  have f15 := hts (.fieldLink RX4 15 "HopCredits$Reading" "values" "[I") (List.mem_of_getElem? (i := 1) rfl)
  have iX4 : ∀ w ∈ u_ws RX4 TX4 7, w ∈ wsX4_ofHop := fun w h => List.mem_cons_of_mem _ (List.mem_append_right _ (h))
  have hl := lv_entry ([.ref Rd, .int 2, .int 1]) (n := 3) (Nat.le_of_ble_eq_true rfl)
  rw [lg_entry_eq]
  generalize (lg_sl ([.ref Rd, .int 2, .int 1]) ++ List.replicate (3 - (lg_sl ([.ref Rd, .int 2, .int 1])).length) Slot.unset).toArray = ls at hl ⊢
  have hl : lv_has ls 3 [(0, .ref Rd), (1, .int 2), (2, .int 1)] := hl
  generalize hQ : MQ below _ _ s _ _ _ = Q
  generalize hH : s.heap = H at hP ⊢
  have hS : va_S A s.heap H [] := by rw [← hH]; exact hS
  clear hH
  refine lv_aload_n hx hb dX4_ofHop_0 rfl (lv_at hl 0 rfl) ?_
  refine va_get (D := D) (ci := 4) (v := .ref Rv) (C := RX4) (T := TX4) (N := 7) hx hb hts iX4 hown hK hP 0 rfl rfl 6 (by decide) f15 (fun _ h9 => h9) rfl dX4_ofHop_1 ?_
  refine lv_iconst (v := 1) hx hb dX4_ofHop_4 (by decide) ?_
  refine lv_iload_n hx hb dX4_ofHop_5 rfl (lv_at hl 1 rfl) ?_
  refine lv_iadd hx hb dX4_ofHop_6 ?_
  refine lv_eqi (y := 3) (by decide) ?_
  refine lv_iconst (v := 3) hx hb dX4_ofHop_7 (by decide) ?_
  refine lv_imul hx hb dX4_ofHop_8 ?_
  refine lv_eqi (y := 9) (by decide) ?_
  refine lv_iload_n hx hb dX4_ofHop_9 rfl (lv_at hl 2 rfl) ?_
  refine lv_iadd hx hb dX4_ofHop_10 ?_
  refine lv_eqi (y := 10) (by decide) ?_
  refine va_iald hx hb hK hP 1 0 rfl rfl (by unfold vp_in; decide) dX4_ofHop_11 ?_
  refine lv_eqi (y := (fval 10)) (rfl) ?_
  obtain ⟨n_1, hn_1, q9⟩ := h0 10 (by decide)
  have hn_1 : n_1 ≤ 30 := hn_1
  refine lv_eqi (y := nI n_1) q9 ?_
  have hP9 := hP; have hD9 := hD
  subst hQ
  refine W.widen (k := 0) (n := 0) (Nat.le_of_ble_eq_true rfl) (Nat.le_of_ble_eq_true rfl) ?_
  exact W.iret (v := (nI n_1)) hx hb hr (fun tS htS _ => ⟨⟨_, _, rfl, ⟨n_1, rfl, rfl, (show n_1 ≤ 30 by omega)⟩, by rw [htS]; exact hP9, hD9⟩, hS.F htS⟩) hS.2.2 dX4_ofHop_12

set_option maxHeartbeats 4000000 in
set_option maxRecDepth 100000 in
theorem k_X4_ofHop (l : Launch) (D : va_G) (g : Nat → ClassId) (sz : Nat) (Rd : Nat) (hix : Nat) (ix : Nat) (Rq : Nat) (fr : Nat → Int32) (Rv : Nat) (fval : Nat → Int32) (h0 : hix < 3) (h1 : ix < 3) : Met l yX4_ofHop wsX4_ofHop ({ frames := 0, cells := 0, slots := 0, locals := 0 }) (va_Pc [.ref Rd, .int (nI hix), .int (nI ix)] (pre D g sz [(Rd, .inr (4, [.ref Rq, .int (fr 1), .int (fr 2), .int (fr 3), .int (fr 4), .int (fr 5), .ref Rv])), (Rv, .inl (g 0, 21, .inl fval))])) (va_Qi (fun (r : Int32) (u : va_W) => u = [(Rd, .inr (4, [.ref Rq, .int (fr 1), .int (fr 2), .int (fr 3), .int (fr 4), .int (fr 5), .ref Rv])), (Rv, .inl (g 0, 21, .inl fval))]) (wd D (va_A [(Rd, .inr (4, [.ref Rq, .int (fr 1), .int (fr 2), .int (fr 3), .int (fr 4), .int (fr 5), .ref Rv])), (Rv, .inl (g 0, 21, .inl fval))] sz)) (va_A [(Rd, .inr (4, [.ref Rq, .int (fr 1), .int (fr 2), .int (fr 3), .int (fr 4), .int (fr 5), .ref Rv])), (Rv, .inl (g 0, 21, .inl fval))] sz)) 0 0 (va_A [(Rd, .inr (4, [.ref Rq, .int (fr 1), .int (fr 2), .int (fr 3), .int (fr 4), .int (fr 5), .ref Rv])), (Rv, .inl (g 0, 21, .inl fval))] sz) := by
  refine Met.ofW (cc := cX4_ofHop) (maxL := 3) (ret := (some .int)) (by decide) rfl ?_
  intro p e s m args below meth c s₁ B hml hv
  obtain ⟨rfl, hsz, hP, ⟨hK, hN⟩, hD0, hZ⟩ := hv
  have hx := B.exec
  have hb := B.bytes
  have hr := B.returns
  have hts := atoms_spec (ws := wsX4_ofHop) B.pre
  have hown : s.vm.findClass RX4 = some m.cls := findClass_of_methodNamed B.named
  have hlocks := B.notSynchronized
  clear B
  subst hsz
  have hD := hD0.self (sz := s.heap.size)
  clear hD0
  generalize hAe : va_A [(Rd, .inr (4, [.ref Rq, .int (fr 1), .int (fr 2), .int (fr 3), .int (fr 4), .int (fr 5), .ref Rv])), (Rv, .inl (g 0, 21, .inl fval))] s.heap.size = A at hD hZ ⊢
  have hA : ∀ q : Nat, s.heap.size ≤ q → A q := fun q h => by rw [← hAe]; exact Or.inr h
  have hS : va_S A s.heap s.heap [] := va_S.rf
  have f15 := hts (.fieldLink RX4 15 "HopCredits$Reading" "values" "[I") (List.mem_of_getElem? (i := 1) rfl)
  have iX4 : ∀ w ∈ u_ws RX4 TX4 7, w ∈ wsX4_ofHop := fun w h => List.mem_cons_of_mem _ (List.mem_append_right _ (h))
  have hl := lv_entry ([.ref Rd, .int (nI hix), .int (nI ix)]) (n := 3) (Nat.le_of_ble_eq_true rfl)
  rw [lg_entry_eq]
  generalize (lg_sl ([.ref Rd, .int (nI hix), .int (nI ix)]) ++ List.replicate (3 - (lg_sl ([.ref Rd, .int (nI hix), .int (nI ix)])).length) Slot.unset).toArray = ls at hl ⊢
  have hl : lv_has ls 3 [(0, .ref Rd), (1, .int (nI hix)), (2, .int (nI ix))] := hl
  generalize hQ : MQ below _ _ s _ _ _ = Q
  generalize hH : s.heap = H at hP ⊢
  have hS : va_S A s.heap H [] := by rw [← hH]; exact hS
  clear hH
  refine lv_aload_n hx hb dX4_ofHop_0 rfl (lv_at hl 0 rfl) ?_
  refine va_get (D := D) (ci := 4) (v := .ref Rv) (C := RX4) (T := TX4) (N := 7) hx hb hts iX4 hown hK hP 0 rfl rfl 6 (by decide) f15 (fun _ h9 => h9) rfl dX4_ofHop_1 ?_
  refine lv_iconst (v := 1) hx hb dX4_ofHop_4 (by decide) ?_
  refine lv_iload_n hx hb dX4_ofHop_5 rfl (lv_at hl 1 rfl) ?_
  refine lv_iadd hx hb dX4_ofHop_6 ?_
  refine lv_eqi (y := (nI (1 + hix))) (nI_add (1) (hix)) ?_
  refine lv_iconst (v := 3) hx hb dX4_ofHop_7 (by decide) ?_
  refine lv_imul hx hb dX4_ofHop_8 ?_
  refine lv_eqi (y := (nI ((1 + hix) * 3))) (pk_mul (1 + hix) (3)) ?_
  refine lv_iload_n hx hb dX4_ofHop_9 rfl (lv_at hl 2 rfl) ?_
  refine lv_iadd hx hb dX4_ofHop_10 ?_
  refine lv_eqi (y := (nI ((1 + hix) * 3 + ix))) (nI_add ((1 + hix) * 3) (ix)) ?_
  refine va_iald hx hb hK hP 1 0 rfl rfl (vp_in_nI (show (1 + hix) * 3 + ix < 21 by omega) (by decide)) dX4_ofHop_11 ?_
  refine lv_eqi (y := (fval ((1 + hix) * 3 + ix))) (congrArg fval (nI_clamp (show (1 + hix) * 3 + ix < 2 ^ 31 by omega))) ?_
  refine lv_topi (fun y_1 _ => ?_)
  have hP9 := hP; have hD9 := hD
  subst hQ
  refine W.widen (k := 0) (n := 0) (Nat.le_of_ble_eq_true rfl) (Nat.le_of_ble_eq_true rfl) ?_
  exact W.iret (v := y_1) hx hb hr (fun tS htS _ => ⟨⟨_, _, rfl, rfl, by rw [htS]; exact hP9, hD9⟩, hS.F htS⟩) hS.2.2 dX4_ofHop_12

set_option maxHeartbeats 4000000 in
set_option maxRecDepth 100000 in
theorem k_X4_ofCircuit (l : Launch) (D : va_G) (g : Nat → ClassId) (sz : Nat) (Rd : Nat) (hix : Nat) (ix : Nat) (Rq : Nat) (fr : Nat → Int32) (Rv : Nat) (fval : Nat → Int32) (h0 : hix < 3) (h1 : ix < 3) : Met l yX4_ofCircuit wsX4_ofCircuit ({ frames := 0, cells := 0, slots := 0, locals := 0 }) (va_Pc [.ref Rd, .int (nI hix), .int (nI ix)] (pre D g sz [(Rd, .inr (4, [.ref Rq, .int (fr 1), .int (fr 2), .int (fr 3), .int (fr 4), .int (fr 5), .ref Rv])), (Rv, .inl (g 0, 21, .inl fval))])) (va_Qi (fun (r : Int32) (u : va_W) => u = [(Rd, .inr (4, [.ref Rq, .int (fr 1), .int (fr 2), .int (fr 3), .int (fr 4), .int (fr 5), .ref Rv])), (Rv, .inl (g 0, 21, .inl fval))]) (wd D (va_A [(Rd, .inr (4, [.ref Rq, .int (fr 1), .int (fr 2), .int (fr 3), .int (fr 4), .int (fr 5), .ref Rv])), (Rv, .inl (g 0, 21, .inl fval))] sz)) (va_A [(Rd, .inr (4, [.ref Rq, .int (fr 1), .int (fr 2), .int (fr 3), .int (fr 4), .int (fr 5), .ref Rv])), (Rv, .inl (g 0, 21, .inl fval))] sz)) 0 0 (va_A [(Rd, .inr (4, [.ref Rq, .int (fr 1), .int (fr 2), .int (fr 3), .int (fr 4), .int (fr 5), .ref Rv])), (Rv, .inl (g 0, 21, .inl fval))] sz) := by
  refine Met.ofW (cc := cX4_ofCircuit) (maxL := 3) (ret := (some .int)) (by decide) rfl ?_
  intro p e s m args below meth c s₁ B hml hv
  obtain ⟨rfl, hsz, hP, ⟨hK, hN⟩, hD0, hZ⟩ := hv
  have hx := B.exec
  have hb := B.bytes
  have hr := B.returns
  have hts := atoms_spec (ws := wsX4_ofCircuit) B.pre
  have hown : s.vm.findClass RX4 = some m.cls := findClass_of_methodNamed B.named
  have hlocks := B.notSynchronized
  clear B
  subst hsz
  have hD := hD0.self (sz := s.heap.size)
  clear hD0
  generalize hAe : va_A [(Rd, .inr (4, [.ref Rq, .int (fr 1), .int (fr 2), .int (fr 3), .int (fr 4), .int (fr 5), .ref Rv])), (Rv, .inl (g 0, 21, .inl fval))] s.heap.size = A at hD hZ ⊢
  have hA : ∀ q : Nat, s.heap.size ≤ q → A q := fun q h => by rw [← hAe]; exact Or.inr h
  have hS : va_S A s.heap s.heap [] := va_S.rf
  have f15 := hts (.fieldLink RX4 15 "HopCredits$Reading" "values" "[I") (List.mem_of_getElem? (i := 1) rfl)
  have iX4 : ∀ w ∈ u_ws RX4 TX4 7, w ∈ wsX4_ofCircuit := fun w h => List.mem_cons_of_mem _ (List.mem_append_right _ (h))
  have hl := lv_entry ([.ref Rd, .int (nI hix), .int (nI ix)]) (n := 3) (Nat.le_of_ble_eq_true rfl)
  rw [lg_entry_eq]
  generalize (lg_sl ([.ref Rd, .int (nI hix), .int (nI ix)]) ++ List.replicate (3 - (lg_sl ([.ref Rd, .int (nI hix), .int (nI ix)])).length) Slot.unset).toArray = ls at hl ⊢
  have hl : lv_has ls 3 [(0, .ref Rd), (1, .int (nI hix)), (2, .int (nI ix))] := hl
  generalize hQ : MQ below _ _ s _ _ _ = Q
  generalize hH : s.heap = H at hP ⊢
  have hS : va_S A s.heap H [] := by rw [← hH]; exact hS
  clear hH
  refine lv_aload_n hx hb dX4_ofCircuit_0 rfl (lv_at hl 0 rfl) ?_
  refine va_get (D := D) (ci := 4) (v := .ref Rv) (C := RX4) (T := TX4) (N := 7) hx hb hts iX4 hown hK hP 0 rfl rfl 6 (by decide) f15 (fun _ h9 => h9) rfl dX4_ofCircuit_1 ?_
  refine lv_iconst (v := 4) hx hb dX4_ofCircuit_4 (by decide) ?_
  refine lv_iload_n hx hb dX4_ofCircuit_5 rfl (lv_at hl 1 rfl) ?_
  refine lv_iadd hx hb dX4_ofCircuit_6 ?_
  refine lv_eqi (y := (nI (4 + hix))) (nI_add (4) (hix)) ?_
  refine lv_iconst (v := 3) hx hb dX4_ofCircuit_7 (by decide) ?_
  refine lv_imul hx hb dX4_ofCircuit_8 ?_
  refine lv_eqi (y := (nI ((4 + hix) * 3))) (pk_mul (4 + hix) (3)) ?_
  refine lv_iload_n hx hb dX4_ofCircuit_9 rfl (lv_at hl 2 rfl) ?_
  refine lv_iadd hx hb dX4_ofCircuit_10 ?_
  refine lv_eqi (y := (nI ((4 + hix) * 3 + ix))) (nI_add ((4 + hix) * 3) (ix)) ?_
  refine va_iald hx hb hK hP 1 0 rfl rfl (vp_in_nI (show (4 + hix) * 3 + ix < 21 by omega) (by decide)) dX4_ofCircuit_11 ?_
  refine lv_eqi (y := (fval ((4 + hix) * 3 + ix))) (congrArg fval (nI_clamp (show (4 + hix) * 3 + ix < 2 ^ 31 by omega))) ?_
  refine lv_topi (fun y_1 _ => ?_)
  have hP9 := hP; have hD9 := hD
  subst hQ
  refine W.widen (k := 0) (n := 0) (Nat.le_of_ble_eq_true rfl) (Nat.le_of_ble_eq_true rfl) ?_
  exact W.iret (v := y_1) hx hb hr (fun tS htS _ => ⟨⟨_, _, rfl, rfl, by rw [htS]; exact hP9, hD9⟩, hS.F htS⟩) hS.2.2 dX4_ofCircuit_12
