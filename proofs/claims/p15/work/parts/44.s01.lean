set_option maxHeartbeats 4000000 in
set_option maxRecDepth 100000 in
theorem k_X4_passBlanks (l : Launch) (D : va_G) (g : Nat → ClassId) (sz : Nat) (Rd : Nat) (Tp : Nat) (ln : Nat) (ax : Nat) (zfa : Int32) (ht : Nat) (ct : Nat) (Rv : Nat) (ftp : Nat → Int32) (h0 : ln ≤ 160) (h1 : ax ≤ ln) : Met l yX4_passBlanks wsX4_passBlanks ({ frames := 0, cells := 0, slots := 0, locals := 0 }) (va_Pc [.ref Rd] (pre D g sz [(Rd, .inr (4, [.ref Tp, .int (nI ln), .int (nI ax), .int zfa, .int (nI ht), .int (nI ct), .ref Rv])), (Tp, .inl (g 0, 160, .inl ftp))])) (va_Qv (fun (u : va_W) => ∃ (axx : Nat), u = [(Rd, .inr (4, [.ref Tp, .int (nI ln), .int (nI axx), .int zfa, .int (nI ht), .int (nI ct), .ref Rv])), (Tp, .inl (g 0, 160, .inl ftp))] ∧ (axx ≤ ln)) (wd D (va_A [(Rd, .inr (4, [.ref Tp, .int (nI ln), .int (nI ax), .int zfa, .int (nI ht), .int (nI ct), .ref Rv])), (Tp, .inl (g 0, 160, .inl ftp))] sz)) (va_A [(Rd, .inr (4, [.ref Tp, .int (nI ln), .int (nI ax), .int zfa, .int (nI ht), .int (nI ct), .ref Rv])), (Tp, .inl (g 0, 160, .inl ftp))] sz)) 0 0 (va_A [(Rd, .inr (4, [.ref Tp, .int (nI ln), .int (nI ax), .int zfa, .int (nI ht), .int (nI ct), .ref Rv])), (Tp, .inl (g 0, 160, .inl ftp))] sz) := by
  refine Met.ofW (cc := cX4_passBlanks) (maxL := 1) (ret := none) (by decide) rfl ?_
  intro p e s m args below meth c s₁ B hml hv
  obtain ⟨rfl, hsz, hP, ⟨hK, hN⟩, hD0, hZ⟩ := hv
  have hx := B.exec
  have hb := B.bytes
  have hr := B.returns
  have hts := atoms_spec (ws := wsX4_passBlanks) B.pre
  have hown : s.vm.findClass RX4 = some m.cls := findClass_of_methodNamed B.named
  have hlocks := B.notSynchronized
  clear B
  subst hsz
  have hD := hD0.self (sz := s.heap.size)
  clear hD0
  generalize hAe : va_A [(Rd, .inr (4, [.ref Tp, .int (nI ln), .int (nI ax), .int zfa, .int (nI ht), .int (nI ct), .ref Rv])), (Tp, .inl (g 0, 160, .inl ftp))] s.heap.size = A at hD hZ ⊢
  have hA : ∀ q : Nat, s.heap.size ≤ q → A q := fun q h => by rw [← hAe]; exact Or.inr h
  have hS : va_S A s.heap s.heap [] := va_S.rf
  have f24 := hts (.fieldLink RX4 24 "HopCredits$Reading" "length" "I") (List.mem_of_getElem? (i := 2) rfl)
  have f28 := hts (.fieldLink RX4 28 "HopCredits$Reading" "at" "I") (List.mem_of_getElem? (i := 1) rfl)
  have f9 := hts (.fieldLink RX4 9 "HopCredits$Reading" "text" "[I") (List.mem_of_getElem? (i := 3) rfl)
  have iX4 : ∀ w ∈ u_ws RX4 TX4 7, w ∈ wsX4_passBlanks := fun w h => List.mem_cons_of_mem _ (List.mem_append_right _ (h))
  have hl := lv_entry ([.ref Rd]) (n := 1) (Nat.le_of_ble_eq_true rfl)
  rw [lg_entry_eq]
  generalize (lg_sl ([.ref Rd]) ++ List.replicate (1 - (lg_sl ([.ref Rd])).length) Slot.unset).toArray = ls at hl ⊢
  have hl : lv_has ls 1 [(0, .ref Rd)] := hl
  generalize hQ : MQ below _ _ s _ _ _ = Q
  generalize hH : s.heap = H at hP ⊢
  have hS : va_S A s.heap H [] := by rw [← hH]; exact hS
  clear hH
  have loop_15 : ∀ (Nloop_15 : Nat) (z_7 : Nat) (hbz_7 : z_7 ≤ ln) (hv_14 : z_7 ≤ ln) (hmloop_15 : ln - z_7 < Nloop_15) (H : Heap) (locs : List Loc) (ls : Array Slot), va_P D vwCl [(Rd, .inr (4, [.ref Tp, .int (nI ln), .int (nI z_7), .int zfa, .int (nI ht), .int (nI ct), .ref Rv])), (Tp, .inl (g 0, 160, .inl ftp))] H → va_D A [(Rd, .inr (4, [.ref Tp, .int (nI ln), .int (nI z_7), .int zfa, .int (nI ht), .int (nI ct), .ref Rv])), (Tp, .inl (g 0, 160, .inl ftp))] → va_S A s.heap H locs → lv_has ls 1 [(0, .ref Rd)] → W p l e (headSpec wsX4_passBlanks ({ frames := 0, cells := 0, slots := 0, locals := 0 })).room s m ([.ref Rd] : List Value).toArray below meth c H locs 0 0 Q (F0 m 0 ls []) := by
    clear hP hD hS hl
    intro Nloop_15
    induction Nloop_15 with
    | zero => intro z_7 hbz_7 hv_14 hm9; exact absurd hm9 (Nat.not_lt_zero _)
    | succ Nloop_15 loop_15_ih =>
      intro z_7 hbz_7 hv_14 hmloop_15 H locs ls hP hD hS hl
      refine lv_aload_n hx hb dX4_passBlanks_0 rfl (lv_at hl 0 rfl) ?_
      refine va_get (D := D) (ci := 4) (v := .int (nI z_7)) (C := RX4) (T := TX4) (N := 7) hx hb hts iX4 hown hK hP 0 rfl rfl 2 (by decide) f28 (fun _ h9 => h9) rfl dX4_passBlanks_1 ?_
      refine lv_aload_n hx hb dX4_passBlanks_4 rfl (lv_at hl 0 rfl) ?_
      refine va_get (D := D) (ci := 4) (v := .int (nI ln)) (C := RX4) (T := TX4) (N := 7) hx hb hts iX4 hown hK hP 0 rfl rfl 1 (by decide) f24 (fun _ h9 => h9) rfl dX4_passBlanks_5 ?_
      refine lv_icmp_ge (tgt := 38) hx hb dX4_passBlanks_8 (by decide) (fun cb_16 => ?_) (fun cb_16 => ?_)
      · skip
        have cn_17 : ln ≤ z_7 := (nI_leI (show ln < 2 ^ 31 by omega) (show z_7 < 2 ^ 31 by omega)).mp cb_16
        have hP9 := hP; have hD9 := hD
        subst hQ
        refine W.widen (k := 0) (n := 0) (Nat.le_of_ble_eq_true rfl) (Nat.le_of_ble_eq_true rfl) ?_
        exact W.vret hx hb hr (fun tS htS _ => ⟨⟨_, rfl, ⟨z_7, rfl, (show z_7 ≤ ln by omega)⟩, by rw [htS]; exact hP9, hD9⟩, hS.F htS⟩) hS.2.2 dX4_passBlanks_38
      · skip
        have cn_18 : z_7 < ln := Nat.lt_of_not_le (fun q9 => cb_16 ((nI_leI (show ln < 2 ^ 31 by omega) (show z_7 < 2 ^ 31 by omega)).mpr q9))
        refine lv_aload_n hx hb dX4_passBlanks_11 rfl (lv_at hl 0 rfl) ?_
        refine va_get (D := D) (ci := 4) (v := .ref Tp) (C := RX4) (T := TX4) (N := 7) hx hb hts iX4 hown hK hP 0 rfl rfl 0 (by decide) f9 (fun _ h9 => h9) rfl dX4_passBlanks_12 ?_
        refine lv_aload_n hx hb dX4_passBlanks_15 rfl (lv_at hl 0 rfl) ?_
        refine va_get (D := D) (ci := 4) (v := .int (nI z_7)) (C := RX4) (T := TX4) (N := 7) hx hb hts iX4 hown hK hP 0 rfl rfl 2 (by decide) f28 (fun _ h9 => h9) rfl dX4_passBlanks_16 ?_
        refine va_iald hx hb hK hP 1 0 rfl rfl (vp_in_nI (show z_7 < 160 by omega) (by decide)) dX4_passBlanks_19 ?_
        refine lv_eqi (y := (ftp (z_7))) (congrArg ftp (nI_clamp (show z_7 < 2 ^ 31 by omega))) ?_
        refine lv_topi (fun y_19 _ => ?_)
        refine lv_bipush (v := 32) hx hb dX4_passBlanks_20 (by decide) ?_
        refine lv_icmp_ne (tgt := 38) hx hb dX4_passBlanks_22 (by decide) (fun cb_20 => ?_) (fun cb_20 => ?_)
        · skip
          have hP9 := hP; have hD9 := hD
          subst hQ
          refine W.widen (k := 0) (n := 0) (Nat.le_of_ble_eq_true rfl) (Nat.le_of_ble_eq_true rfl) ?_
          exact W.vret hx hb hr (fun tS htS _ => ⟨⟨_, rfl, ⟨z_7, rfl, (show z_7 ≤ ln by omega)⟩, by rw [htS]; exact hP9, hD9⟩, hS.F htS⟩) hS.2.2 dX4_passBlanks_38
        · skip
          have hPq_21 := hP; have hDq_21 := hD; have hSq_21 := hS; have hlq_21 := hl; clear hP hD hS hl
          subst cb_20
          have hP := hPq_21; have hD := hDq_21; have hS := hSq_21; have hl := hlq_21; clear hPq_21 hDq_21 hSq_21 hlq_21
          refine lv_aload_n hx hb dX4_passBlanks_25 rfl (lv_at hl 0 rfl) ?_
          refine lv_dup hx hb dX4_passBlanks_26 rfl ?_
          refine va_get (D := D) (ci := 4) (v := .int (nI z_7)) (C := RX4) (T := TX4) (N := 7) hx hb hts iX4 hown hK hP 0 rfl rfl 2 (by decide) f28 (fun _ h9 => h9) rfl dX4_passBlanks_27 ?_
          refine lv_iconst (v := 1) hx hb dX4_passBlanks_30 (by decide) ?_
          refine lv_iadd hx hb dX4_passBlanks_31 ?_
          refine lv_eqi (y := (nI (z_7 + 1))) (nI_add (z_7) (1)) ?_
          refine va_put (D := D) (ci := 4) (v := .int (nI (z_7 + 1))) (ty := .int) (C := RX4) (T := TX4) (N := 7) hx hb hts iX4 tyX4 tyX4_ok nmX4 hown hK hP hD hS 0 rfl rfl 2 (by decide) f28 (fun _ h9 => h9) rfl (by decide +kernel) (rfl) (rfl) (Nat.le_of_ble_eq_true rfl) dX4_passBlanks_32 (fun H locs hP2 hD2 hS2 => ?_)
          clear hP hD hS
          have hPD : PD D A [(Rd, .inr (4, [.ref Tp, .int (nI ln), .int (nI (z_7 + 1)), .int zfa, .int (nI ht), .int (nI ct), .ref Rv])), (Tp, .inl (g 0, 160, .inl ftp))] H := ⟨hP2, hD2⟩
          have hS := hS2; clear hP2 hD2 hS2; have hP := hPD.1; have hD := hPD.2; clear hPD
          refine lv_goto (tgt := 0) hx hb dX4_passBlanks_35 (by decide) ?_
          exact loop_15_ih (z_7 + 1) (show (z_7 + 1) ≤ ln by omega) (show (z_7 + 1) ≤ ln by omega) (show ln - (z_7 + 1) < Nloop_15 by omega) _ _ _ hP hD hS hl
  exact loop_15 _ ax (show ax ≤ ln by omega) (show ax ≤ ln by omega) (Nat.lt_succ_self _) _ _ _ hP hD hS hl

set_option maxHeartbeats 4000000 in
set_option maxRecDepth 100000 in
theorem k_X4_isDigitHere (l : Launch) (D : va_G) (g : Nat → ClassId) (sz : Nat) (Rd : Nat) (Tp : Nat) (ln : Nat) (ax : Nat) (zfa : Int32) (ht : Nat) (ct : Nat) (Rv : Nat) (ftp : Nat → Int32) (h0 : ln ≤ 160) (h1 : ax ≤ ln) : Met l yX4_isDigitHere wsX4_isDigitHere ({ frames := 0, cells := 0, slots := 0, locals := 0 }) (va_Pc [.ref Rd] (pre D g sz [(Rd, .inr (4, [.ref Tp, .int (nI ln), .int (nI ax), .int zfa, .int (nI ht), .int (nI ct), .ref Rv])), (Tp, .inl (g 0, 160, .inl ftp))])) (va_Qi (fun (r : Int32) (u : va_W) => ∃ (zr : Int32), u = [(Rd, .inr (4, [.ref Tp, .int (nI ln), .int (nI ax), .int zfa, .int (nI ht), .int (nI ct), .ref Rv])), (Tp, .inl (g 0, 160, .inl ftp))] ∧ r = zr ∧ (¬ zr = 0 → ax < ln)) (wd D (va_A [(Rd, .inr (4, [.ref Tp, .int (nI ln), .int (nI ax), .int zfa, .int (nI ht), .int (nI ct), .ref Rv])), (Tp, .inl (g 0, 160, .inl ftp))] sz)) (va_A [(Rd, .inr (4, [.ref Tp, .int (nI ln), .int (nI ax), .int zfa, .int (nI ht), .int (nI ct), .ref Rv])), (Tp, .inl (g 0, 160, .inl ftp))] sz)) 0 0 (va_A [(Rd, .inr (4, [.ref Tp, .int (nI ln), .int (nI ax), .int zfa, .int (nI ht), .int (nI ct), .ref Rv])), (Tp, .inl (g 0, 160, .inl ftp))] sz) := by
  refine Met.ofW (cc := cX4_isDigitHere) (maxL := 1) (ret := (some .boolean)) (by decide) rfl ?_
  intro p e s m args below meth c s₁ B hml hv
  obtain ⟨rfl, hsz, hP, ⟨hK, hN⟩, hD0, hZ⟩ := hv
  have hx := B.exec
  have hb := B.bytes
  have hr := B.returns
  have hts := atoms_spec (ws := wsX4_isDigitHere) B.pre
  have hown : s.vm.findClass RX4 = some m.cls := findClass_of_methodNamed B.named
  have hlocks := B.notSynchronized
  clear B
  subst hsz
  have hD := hD0.self (sz := s.heap.size)
  clear hD0
  generalize hAe : va_A [(Rd, .inr (4, [.ref Tp, .int (nI ln), .int (nI ax), .int zfa, .int (nI ht), .int (nI ct), .ref Rv])), (Tp, .inl (g 0, 160, .inl ftp))] s.heap.size = A at hD hZ ⊢
  have hA : ∀ q : Nat, s.heap.size ≤ q → A q := fun q h => by rw [← hAe]; exact Or.inr h
  have hS : va_S A s.heap s.heap [] := va_S.rf
  have f24 := hts (.fieldLink RX4 24 "HopCredits$Reading" "length" "I") (List.mem_of_getElem? (i := 2) rfl)
  have f28 := hts (.fieldLink RX4 28 "HopCredits$Reading" "at" "I") (List.mem_of_getElem? (i := 1) rfl)
  have f9 := hts (.fieldLink RX4 9 "HopCredits$Reading" "text" "[I") (List.mem_of_getElem? (i := 3) rfl)
  have iX4 : ∀ w ∈ u_ws RX4 TX4 7, w ∈ wsX4_isDigitHere := fun w h => List.mem_cons_of_mem _ (List.mem_append_right _ (h))
  have hl := lv_entry ([.ref Rd]) (n := 1) (Nat.le_of_ble_eq_true rfl)
  rw [lg_entry_eq]
  generalize (lg_sl ([.ref Rd]) ++ List.replicate (1 - (lg_sl ([.ref Rd])).length) Slot.unset).toArray = ls at hl ⊢
  have hl : lv_has ls 1 [(0, .ref Rd)] := hl
  generalize hQ : MQ below _ _ s _ _ _ = Q
  generalize hH : s.heap = H at hP ⊢
  have hS : va_S A s.heap H [] := by rw [← hH]; exact hS
  clear hH
  refine lv_aload_n hx hb dX4_isDigitHere_0 rfl (lv_at hl 0 rfl) ?_
  refine va_get (D := D) (ci := 4) (v := .int (nI ax)) (C := RX4) (T := TX4) (N := 7) hx hb hts iX4 hown hK hP 0 rfl rfl 2 (by decide) f28 (fun _ h9 => h9) rfl dX4_isDigitHere_1 ?_
  refine lv_aload_n hx hb dX4_isDigitHere_4 rfl (lv_at hl 0 rfl) ?_
  refine va_get (D := D) (ci := 4) (v := .int (nI ln)) (C := RX4) (T := TX4) (N := 7) hx hb hts iX4 hown hK hP 0 rfl rfl 1 (by decide) f24 (fun _ h9 => h9) rfl dX4_isDigitHere_5 ?_
  refine lv_icmp_ge (tgt := 43) hx hb dX4_isDigitHere_8 (by decide) (fun cb_1 => ?_) (fun cb_1 => ?_)
  · skip
    have cn_2 : ln ≤ ax := (nI_leI (show ln < 2 ^ 31 by omega) (show ax < 2 ^ 31 by omega)).mp cb_1
    refine lv_iconst (v := 0) hx hb dX4_isDigitHere_43 (by decide) ?_
    have hP9 := hP; have hD9 := hD
    subst hQ
    refine W.widen (k := 0) (n := 0) (Nat.le_of_ble_eq_true rfl) (Nat.le_of_ble_eq_true rfl) ?_
    exact W.zret (v := 0) (ty := .boolean) hx hb hr (rfl) (fun tS htS _ => ⟨⟨_, _, rfl, ⟨0, rfl, rfl, (fun q9 => absurd rfl q9)⟩, by rw [htS]; exact hP9, hD9⟩, hS.F htS⟩) hS.2.2 dX4_isDigitHere_44
  · skip
    have cn_3 : ax < ln := Nat.lt_of_not_le (fun q9 => cb_1 ((nI_leI (show ln < 2 ^ 31 by omega) (show ax < 2 ^ 31 by omega)).mpr q9))
    refine lv_aload_n hx hb dX4_isDigitHere_11 rfl (lv_at hl 0 rfl) ?_
    refine va_get (D := D) (ci := 4) (v := .ref Tp) (C := RX4) (T := TX4) (N := 7) hx hb hts iX4 hown hK hP 0 rfl rfl 0 (by decide) f9 (fun _ h9 => h9) rfl dX4_isDigitHere_12 ?_
    refine lv_aload_n hx hb dX4_isDigitHere_15 rfl (lv_at hl 0 rfl) ?_
    refine va_get (D := D) (ci := 4) (v := .int (nI ax)) (C := RX4) (T := TX4) (N := 7) hx hb hts iX4 hown hK hP 0 rfl rfl 2 (by decide) f28 (fun _ h9 => h9) rfl dX4_isDigitHere_16 ?_
    refine va_iald hx hb hK hP 1 0 rfl rfl (vp_in_nI (show ax < 160 by omega) (by decide)) dX4_isDigitHere_19 ?_
    refine lv_eqi (y := (ftp (ax))) (congrArg ftp (nI_clamp (show ax < 2 ^ 31 by omega))) ?_
    refine lv_topi (fun y_4 _ => ?_)
    refine lv_bipush (v := 48) hx hb dX4_isDigitHere_20 (by decide) ?_
    refine lv_icmp_lt (tgt := 43) hx hb dX4_isDigitHere_22 (by decide) (fun cb_5 => ?_) (fun cb_5 => ?_)
    · skip
      refine lv_iconst (v := 0) hx hb dX4_isDigitHere_43 (by decide) ?_
      have hP9 := hP; have hD9 := hD
      subst hQ
      refine W.widen (k := 0) (n := 0) (Nat.le_of_ble_eq_true rfl) (Nat.le_of_ble_eq_true rfl) ?_
      exact W.zret (v := 0) (ty := .boolean) hx hb hr (rfl) (fun tS htS _ => ⟨⟨_, _, rfl, ⟨0, rfl, rfl, (fun q9 => absurd rfl q9)⟩, by rw [htS]; exact hP9, hD9⟩, hS.F htS⟩) hS.2.2 dX4_isDigitHere_44
    · skip
      refine lv_aload_n hx hb dX4_isDigitHere_25 rfl (lv_at hl 0 rfl) ?_
      refine va_get (D := D) (ci := 4) (v := .ref Tp) (C := RX4) (T := TX4) (N := 7) hx hb hts iX4 hown hK hP 0 rfl rfl 0 (by decide) f9 (fun _ h9 => h9) rfl dX4_isDigitHere_26 ?_
      refine lv_aload_n hx hb dX4_isDigitHere_29 rfl (lv_at hl 0 rfl) ?_
      refine va_get (D := D) (ci := 4) (v := .int (nI ax)) (C := RX4) (T := TX4) (N := 7) hx hb hts iX4 hown hK hP 0 rfl rfl 2 (by decide) f28 (fun _ h9 => h9) rfl dX4_isDigitHere_30 ?_
      refine va_iald hx hb hK hP 1 0 rfl rfl (vp_in_nI (show ax < 160 by omega) (by decide)) dX4_isDigitHere_33 ?_
      refine lv_eqi (y := (ftp (ax))) (congrArg ftp (nI_clamp (show ax < 2 ^ 31 by omega))) ?_
      refine lv_topi (fun y_6 _ => ?_)
      refine lv_bipush (v := 57) hx hb dX4_isDigitHere_34 (by decide) ?_
      refine lv_icmp_gt (tgt := 43) hx hb dX4_isDigitHere_36 (by decide) (fun cb_7 => ?_) (fun cb_7 => ?_)
      · skip
        refine lv_iconst (v := 0) hx hb dX4_isDigitHere_43 (by decide) ?_
        have hP9 := hP; have hD9 := hD
        subst hQ
        refine W.widen (k := 0) (n := 0) (Nat.le_of_ble_eq_true rfl) (Nat.le_of_ble_eq_true rfl) ?_
        exact W.zret (v := 0) (ty := .boolean) hx hb hr (rfl) (fun tS htS _ => ⟨⟨_, _, rfl, ⟨0, rfl, rfl, (fun q9 => absurd rfl q9)⟩, by rw [htS]; exact hP9, hD9⟩, hS.F htS⟩) hS.2.2 dX4_isDigitHere_44
      · skip
        refine lv_iconst (v := 1) hx hb dX4_isDigitHere_39 (by decide) ?_
        refine lv_goto (tgt := 44) hx hb dX4_isDigitHere_40 (by decide) ?_
        have hP9 := hP; have hD9 := hD
        subst hQ
        refine W.widen (k := 0) (n := 0) (Nat.le_of_ble_eq_true rfl) (Nat.le_of_ble_eq_true rfl) ?_
        exact W.zret (v := 1) (ty := .boolean) hx hb hr (rfl) (fun tS htS _ => ⟨⟨_, _, rfl, ⟨1, rfl, rfl, (fun _ => (show ax < ln by omega))⟩, by rw [htS]; exact hP9, hD9⟩, hS.F htS⟩) hS.2.2 dX4_isDigitHere_44

set_option maxHeartbeats 4000000 in
set_option maxRecDepth 100000 in
theorem k_X4_clauseOf (l : Launch) (D : va_G) (g : Nat → ClassId) (sz : Nat) (Rd : Nat) (zs : Int32) (zf : Int32) (Tp : Nat) (ln : Nat) (ax : Nat) (zfa : Int32) (ht : Nat) (ct : Nat) (Rv : Nat) (h0 : ht ≤ 3) (h1 : ct ≤ 3) : Met l yX4_clauseOf wsX4_clauseOf ({ frames := 0, cells := 0, slots := 0, locals := 0 }) (va_Pc [.ref Rd, .int zs, .int zf] (pre D g sz [(Rd, .inr (4, [.ref Tp, .int (nI ln), .int (nI ax), .int zfa, .int (nI ht), .int (nI ct), .ref Rv]))])) (va_Qi (fun (r : Int32) (u : va_W) => ∃ (htx : Nat) (ctx : Nat) (zr : Int32), u = [(Rd, .inr (4, [.ref Tp, .int (nI ln), .int (nI ax), .int zfa, .int (nI htx), .int (nI ctx), .ref Rv]))] ∧ r = zr ∧ (ok7 zr) ∧ (htx ≤ 3) ∧ (ctx ≤ 3)) (wd D (va_A [(Rd, .inr (4, [.ref Tp, .int (nI ln), .int (nI ax), .int zfa, .int (nI ht), .int (nI ct), .ref Rv]))] sz)) (va_A [(Rd, .inr (4, [.ref Tp, .int (nI ln), .int (nI ax), .int zfa, .int (nI ht), .int (nI ct), .ref Rv]))] sz)) 0 0 (va_A [(Rd, .inr (4, [.ref Tp, .int (nI ln), .int (nI ax), .int zfa, .int (nI ht), .int (nI ct), .ref Rv]))] sz) := by
  refine Met.ofW (cc := cX4_clauseOf) (maxL := 3) (ret := (some .int)) (by decide) rfl ?_
  intro p e s m args below meth c s₁ B hml hv
  obtain ⟨rfl, hsz, hP, ⟨hK, hN⟩, hD0, hZ⟩ := hv
  have hx := B.exec
  have hb := B.bytes
  have hr := B.returns
  have hts := atoms_spec (ws := wsX4_clauseOf) B.pre
  have hown : s.vm.findClass RX4 = some m.cls := findClass_of_methodNamed B.named
  have hlocks := B.notSynchronized
  clear B
  subst hsz
  have hD := hD0.self (sz := s.heap.size)
  clear hD0
  generalize hAe : va_A [(Rd, .inr (4, [.ref Tp, .int (nI ln), .int (nI ax), .int zfa, .int (nI ht), .int (nI ct), .ref Rv]))] s.heap.size = A at hD hZ ⊢
  have hA : ∀ q : Nat, s.heap.size ≤ q → A q := fun q h => by rw [← hAe]; exact Or.inr h
  have hS : va_S A s.heap s.heap [] := va_S.rf
  have f34 := hts (.fieldLink RX4 34 "HopCredits$Reading" "hopsTold" "I") (List.mem_of_getElem? (i := 1) rfl)
  have f37 := hts (.fieldLink RX4 37 "HopCredits$Reading" "circuitsTold" "I") (List.mem_of_getElem? (i := 2) rfl)
  have iX4 : ∀ w ∈ u_ws RX4 TX4 7, w ∈ wsX4_clauseOf := fun w h => List.mem_cons_of_mem _ (List.mem_append_right _ (h))
  have hl := lv_entry ([.ref Rd, .int zs, .int zf]) (n := 3) (Nat.le_of_ble_eq_true rfl)
  rw [lg_entry_eq]
  generalize (lg_sl ([.ref Rd, .int zs, .int zf]) ++ List.replicate (3 - (lg_sl ([.ref Rd, .int zs, .int zf])).length) Slot.unset).toArray = ls at hl ⊢
  have hl : lv_has ls 3 [(0, .ref Rd), (1, .int zs), (2, .int zf)] := hl
  generalize hQ : MQ below _ _ s _ _ _ = Q
  generalize hH : s.heap = H at hP ⊢
  have hS : va_S A s.heap H [] := by rw [← hH]; exact hS
  clear hH
  refine lv_iload_n hx hb dX4_clauseOf_0 rfl (lv_at hl 1 rfl) ?_
  refine lv_bipush (v := 110) hx hb dX4_clauseOf_1 (by decide) ?_
  refine lv_icmp_ne (tgt := 12) hx hb dX4_clauseOf_3 (by decide) (fun cb_1 => ?_) (fun cb_1 => ?_)
  · skip
    refine lv_iload_n hx hb dX4_clauseOf_12 rfl (lv_at hl 1 rfl) ?_
    refine lv_bipush (v := 104) hx hb dX4_clauseOf_13 (by decide) ?_
    refine lv_icmp_ne (tgt := 41) hx hb dX4_clauseOf_15 (by decide) (fun cb_2 => ?_) (fun cb_2 => ?_)
    · skip
      refine lv_iload_n hx hb dX4_clauseOf_41 rfl (lv_at hl 1 rfl) ?_
      refine lv_bipush (v := 99) hx hb dX4_clauseOf_42 (by decide) ?_
      refine lv_icmp_ne (tgt := 72) hx hb dX4_clauseOf_44 (by decide) (fun cb_3 => ?_) (fun cb_3 => ?_)
      · skip
        refine lv_iconst (v := (-1)) hx hb dX4_clauseOf_72 (by decide) ?_
        have hP9 := hP; have hD9 := hD
        subst hQ
        refine W.widen (k := 0) (n := 0) (Nat.le_of_ble_eq_true rfl) (Nat.le_of_ble_eq_true rfl) ?_
        exact W.iret (v := (-1)) hx hb hr (fun tS htS _ => ⟨⟨_, _, rfl, ⟨ht, ct, (-1), rfl, rfl, (ok7_m), (show ht ≤ 3 by omega), (show ct ≤ 3 by omega)⟩, by rw [htS]; exact hP9, hD9⟩, hS.F htS⟩) hS.2.2 dX4_clauseOf_73
      · skip
        have hPq_4 := hP; have hDq_4 := hD; have hSq_4 := hS; have hlq_4 := hl; clear hP hD hS hl
        subst cb_3
        have hP := hPq_4; have hD := hDq_4; have hS := hSq_4; have hl := hlq_4; clear hPq_4 hDq_4 hSq_4 hlq_4
        refine lv_aload_n hx hb dX4_clauseOf_47 rfl (lv_at hl 0 rfl) ?_
        refine va_get (D := D) (ci := 4) (v := .int (nI ct)) (C := RX4) (T := TX4) (N := 7) hx hb hts iX4 hown hK hP 0 rfl rfl 5 (by decide) f37 (fun _ h9 => h9) rfl dX4_clauseOf_48 ?_
        refine lv_iconst (v := 3) hx hb dX4_clauseOf_51 (by decide) ?_
        refine lv_icmp_ge (tgt := 72) hx hb dX4_clauseOf_52 (by decide) (fun cb_5 => ?_) (fun cb_5 => ?_)
        · skip
          have cn_6 : 3 ≤ ct := (nI_leI (show 3 < 2 ^ 31 by omega) (show ct < 2 ^ 31 by omega)).mp cb_5
          refine lv_iconst (v := (-1)) hx hb dX4_clauseOf_72 (by decide) ?_
          have hP9 := hP; have hD9 := hD
          subst hQ
          refine W.widen (k := 0) (n := 0) (Nat.le_of_ble_eq_true rfl) (Nat.le_of_ble_eq_true rfl) ?_
          exact W.iret (v := (-1)) hx hb hr (fun tS htS _ => ⟨⟨_, _, rfl, ⟨ht, ct, (-1), rfl, rfl, (ok7_m), (show ht ≤ 3 by omega), (show ct ≤ 3 by omega)⟩, by rw [htS]; exact hP9, hD9⟩, hS.F htS⟩) hS.2.2 dX4_clauseOf_73
        · skip
          have cn_7 : ct < 3 := Nat.lt_of_not_le (fun q9 => cb_5 ((nI_leI (show 3 < 2 ^ 31 by omega) (show ct < 2 ^ 31 by omega)).mpr q9))
          refine lv_aload_n hx hb dX4_clauseOf_55 rfl (lv_at hl 0 rfl) ?_
          refine lv_dup hx hb dX4_clauseOf_56 rfl ?_
          refine va_get (D := D) (ci := 4) (v := .int (nI ct)) (C := RX4) (T := TX4) (N := 7) hx hb hts iX4 hown hK hP 0 rfl rfl 5 (by decide) f37 (fun _ h9 => h9) rfl dX4_clauseOf_57 ?_
          refine lv_iconst (v := 1) hx hb dX4_clauseOf_60 (by decide) ?_
          refine lv_iadd hx hb dX4_clauseOf_61 ?_
          refine lv_eqi (y := (nI (ct + 1))) (nI_add (ct) (1)) ?_
          refine va_put (D := D) (ci := 4) (v := .int (nI (ct + 1))) (ty := .int) (C := RX4) (T := TX4) (N := 7) hx hb hts iX4 tyX4 tyX4_ok nmX4 hown hK hP hD hS 0 rfl rfl 5 (by decide) f37 (fun _ h9 => h9) rfl (by decide +kernel) (rfl) (rfl) (Nat.le_of_ble_eq_true rfl) dX4_clauseOf_62 (fun H locs hP2 hD2 hS2 => ?_)
          clear hP hD hS
          have hPD : PD D A [(Rd, .inr (4, [.ref Tp, .int (nI ln), .int (nI ax), .int zfa, .int (nI ht), .int (nI (ct + 1)), .ref Rv]))] H := ⟨hP2, hD2⟩
          have hS := hS2; clear hP2 hD2 hS2; have hP := hPD.1; have hD := hPD.2; clear hPD
          refine lv_iconst (v := 3) hx hb dX4_clauseOf_65 (by decide) ?_
          refine lv_aload_n hx hb dX4_clauseOf_66 rfl (lv_at hl 0 rfl) ?_
          refine va_get (D := D) (ci := 4) (v := .int (nI (ct + 1))) (C := RX4) (T := TX4) (N := 7) hx hb hts iX4 hown hK hP 0 rfl rfl 5 (by decide) f37 (fun _ h9 => h9) rfl dX4_clauseOf_67 ?_
          refine lv_iadd hx hb dX4_clauseOf_70 ?_
          refine lv_eqi (y := (nI (3 + (ct + 1)))) (nI_add (3) (ct + 1)) ?_
          have hP9 := hP; have hD9 := hD
          subst hQ
          refine W.widen (k := 0) (n := 0) (Nat.le_of_ble_eq_true rfl) (Nat.le_of_ble_eq_true rfl) ?_
          exact W.iret (v := (nI (3 + (ct + 1)))) hx hb hr (fun tS htS _ => ⟨⟨_, _, rfl, ⟨ht, (ct + 1), (nI (3 + (ct + 1))), rfl, rfl, (ok7_n (show 3 + (ct + 1) < 7 by omega)), (show ht ≤ 3 by omega), (show (ct + 1) ≤ 3 by omega)⟩, by rw [htS]; exact hP9, hD9⟩, hS.F htS⟩) hS.2.2 dX4_clauseOf_71
    · skip
      have hPq_8 := hP; have hDq_8 := hD; have hSq_8 := hS; have hlq_8 := hl; clear hP hD hS hl
      subst cb_2
      have hP := hPq_8; have hD := hDq_8; have hS := hSq_8; have hl := hlq_8; clear hPq_8 hDq_8 hSq_8 hlq_8
      refine lv_aload_n hx hb dX4_clauseOf_18 rfl (lv_at hl 0 rfl) ?_
      refine va_get (D := D) (ci := 4) (v := .int (nI ht)) (C := RX4) (T := TX4) (N := 7) hx hb hts iX4 hown hK hP 0 rfl rfl 4 (by decide) f34 (fun _ h9 => h9) rfl dX4_clauseOf_19 ?_
      refine lv_iconst (v := 3) hx hb dX4_clauseOf_22 (by decide) ?_
      refine lv_icmp_ge (tgt := 41) hx hb dX4_clauseOf_23 (by decide) (fun cb_9 => ?_) (fun cb_9 => ?_)
      · skip
        have cn_10 : 3 ≤ ht := (nI_leI (show 3 < 2 ^ 31 by omega) (show ht < 2 ^ 31 by omega)).mp cb_9
        refine lv_iload_n hx hb dX4_clauseOf_41 rfl (lv_at hl 1 rfl) ?_
        refine lv_bipush (v := 99) hx hb dX4_clauseOf_42 (by decide) ?_
        refine lv_icmp_ne (tgt := 72) hx hb dX4_clauseOf_44 (by decide) (fun _ => ?_) (fun cb => absurd cb (by decide))
        refine lv_iconst (v := (-1)) hx hb dX4_clauseOf_72 (by decide) ?_
        have hP9 := hP; have hD9 := hD
        subst hQ
        refine W.widen (k := 0) (n := 0) (Nat.le_of_ble_eq_true rfl) (Nat.le_of_ble_eq_true rfl) ?_
        exact W.iret (v := (-1)) hx hb hr (fun tS htS _ => ⟨⟨_, _, rfl, ⟨ht, ct, (-1), rfl, rfl, (ok7_m), (show ht ≤ 3 by omega), (show ct ≤ 3 by omega)⟩, by rw [htS]; exact hP9, hD9⟩, hS.F htS⟩) hS.2.2 dX4_clauseOf_73
      · skip
        have cn_11 : ht < 3 := Nat.lt_of_not_le (fun q9 => cb_9 ((nI_leI (show 3 < 2 ^ 31 by omega) (show ht < 2 ^ 31 by omega)).mpr q9))
        refine lv_aload_n hx hb dX4_clauseOf_26 rfl (lv_at hl 0 rfl) ?_
        refine lv_dup hx hb dX4_clauseOf_27 rfl ?_
        refine va_get (D := D) (ci := 4) (v := .int (nI ht)) (C := RX4) (T := TX4) (N := 7) hx hb hts iX4 hown hK hP 0 rfl rfl 4 (by decide) f34 (fun _ h9 => h9) rfl dX4_clauseOf_28 ?_
        refine lv_iconst (v := 1) hx hb dX4_clauseOf_31 (by decide) ?_
        refine lv_iadd hx hb dX4_clauseOf_32 ?_
        refine lv_eqi (y := (nI (ht + 1))) (nI_add (ht) (1)) ?_
        refine va_put (D := D) (ci := 4) (v := .int (nI (ht + 1))) (ty := .int) (C := RX4) (T := TX4) (N := 7) hx hb hts iX4 tyX4 tyX4_ok nmX4 hown hK hP hD hS 0 rfl rfl 4 (by decide) f34 (fun _ h9 => h9) rfl (by decide +kernel) (rfl) (rfl) (Nat.le_of_ble_eq_true rfl) dX4_clauseOf_33 (fun H locs hP2 hD2 hS2 => ?_)
        clear hP hD hS
        have hPD : PD D A [(Rd, .inr (4, [.ref Tp, .int (nI ln), .int (nI ax), .int zfa, .int (nI (ht + 1)), .int (nI ct), .ref Rv]))] H := ⟨hP2, hD2⟩
        have hS := hS2; clear hP2 hD2 hS2; have hP := hPD.1; have hD := hPD.2; clear hPD
        refine lv_aload_n hx hb dX4_clauseOf_36 rfl (lv_at hl 0 rfl) ?_
        refine va_get (D := D) (ci := 4) (v := .int (nI (ht + 1))) (C := RX4) (T := TX4) (N := 7) hx hb hts iX4 hown hK hP 0 rfl rfl 4 (by decide) f34 (fun _ h9 => h9) rfl dX4_clauseOf_37 ?_
        have hP9 := hP; have hD9 := hD
        subst hQ
        refine W.widen (k := 0) (n := 0) (Nat.le_of_ble_eq_true rfl) (Nat.le_of_ble_eq_true rfl) ?_
        exact W.iret (v := (nI (ht + 1))) hx hb hr (fun tS htS _ => ⟨⟨_, _, rfl, ⟨(ht + 1), ct, (nI (ht + 1)), rfl, rfl, (ok7_n (show ht + 1 < 7 by omega)), (show (ht + 1) ≤ 3 by omega), (show ct ≤ 3 by omega)⟩, by rw [htS]; exact hP9, hD9⟩, hS.F htS⟩) hS.2.2 dX4_clauseOf_40
  · skip
    have hPq_12 := hP; have hDq_12 := hD; have hSq_12 := hS; have hlq_12 := hl; clear hP hD hS hl
    subst cb_1
    have hP := hPq_12; have hD := hDq_12; have hS := hSq_12; have hl := hlq_12; clear hPq_12 hDq_12 hSq_12 hlq_12
    refine lv_iload_n hx hb dX4_clauseOf_6 rfl (lv_at hl 2 rfl) ?_
    refine lv_if_eq (tgt := 12) hx hb dX4_clauseOf_7 (by decide) (fun cb_13 => ?_) (fun cb_13 => ?_)
    · skip
      have hPq_14 := hP; have hDq_14 := hD; have hSq_14 := hS; have hlq_14 := hl; clear hP hD hS hl
      subst cb_13
      have hP := hPq_14; have hD := hDq_14; have hS := hSq_14; have hl := hlq_14; clear hPq_14 hDq_14 hSq_14 hlq_14
      refine lv_iload_n hx hb dX4_clauseOf_12 rfl (lv_at hl 1 rfl) ?_
      refine lv_bipush (v := 104) hx hb dX4_clauseOf_13 (by decide) ?_
      refine lv_icmp_ne (tgt := 41) hx hb dX4_clauseOf_15 (by decide) (fun _ => ?_) (fun cb => absurd cb (by decide))
      refine lv_iload_n hx hb dX4_clauseOf_41 rfl (lv_at hl 1 rfl) ?_
      refine lv_bipush (v := 99) hx hb dX4_clauseOf_42 (by decide) ?_
      refine lv_icmp_ne (tgt := 72) hx hb dX4_clauseOf_44 (by decide) (fun _ => ?_) (fun cb => absurd cb (by decide))
      refine lv_iconst (v := (-1)) hx hb dX4_clauseOf_72 (by decide) ?_
      have hP9 := hP; have hD9 := hD
      subst hQ
      refine W.widen (k := 0) (n := 0) (Nat.le_of_ble_eq_true rfl) (Nat.le_of_ble_eq_true rfl) ?_
      exact W.iret (v := (-1)) hx hb hr (fun tS htS _ => ⟨⟨_, _, rfl, ⟨ht, ct, (-1), rfl, rfl, (ok7_m), (show ht ≤ 3 by omega), (show ct ≤ 3 by omega)⟩, by rw [htS]; exact hP9, hD9⟩, hS.F htS⟩) hS.2.2 dX4_clauseOf_73
    · skip
      refine lv_iconst (v := 0) hx hb dX4_clauseOf_10 (by decide) ?_
      have hP9 := hP; have hD9 := hD
      subst hQ
      refine W.widen (k := 0) (n := 0) (Nat.le_of_ble_eq_true rfl) (Nat.le_of_ble_eq_true rfl) ?_
      exact W.iret (v := 0) hx hb hr (fun tS htS _ => ⟨⟨_, _, rfl, ⟨ht, ct, 0, rfl, rfl, (ok7_n (show 0 < 7 by omega)), (show ht ≤ 3 by omega), (show ct ≤ 3 by omega)⟩, by rw [htS]; exact hP9, hD9⟩, hS.F htS⟩) hS.2.2 dX4_clauseOf_11

set_option maxHeartbeats 4000000 in
set_option maxRecDepth 100000 in
theorem k_X4_readHead (l : Launch) (D : va_G) (g : Nat → ClassId) (sz : Nat) (Rd : Nat) (zf : Int32) (Tp : Nat) (ln : Nat) (ax : Nat) (zfa : Int32) (ht : Nat) (ct : Nat) (Rv : Nat) (ftp : Nat → Int32) (h0 : ln ≤ 160) (h1 : ax ≤ ln) (h2 : ht ≤ 3) (h3 : ct ≤ 3) : Met l yX4_readHead wsX4_readHead ({ frames := 1, cells := 0, slots := 0, locals := 22 }) (va_Pc [.ref Rd, .int zf] (pre D g sz [(Rd, .inr (4, [.ref Tp, .int (nI ln), .int (nI ax), .int zfa, .int (nI ht), .int (nI ct), .ref Rv])), (Tp, .inl (g 0, 160, .inl ftp))])) (va_Qi (fun (r : Int32) (u : va_W) => ∃ (axx : Nat) (zfax : Int32) (htx : Nat) (ctx : Nat) (zr : Int32), u = [(Rd, .inr (4, [.ref Tp, .int (nI ln), .int (nI axx), .int zfax, .int (nI htx), .int (nI ctx), .ref Rv])), (Tp, .inl (g 0, 160, .inl ftp))] ∧ r = zr ∧ (ok7 zr) ∧ (axx ≤ ln) ∧ (htx ≤ 3) ∧ (ctx ≤ 3)) (wd D (va_A [(Rd, .inr (4, [.ref Tp, .int (nI ln), .int (nI ax), .int zfa, .int (nI ht), .int (nI ct), .ref Rv])), (Tp, .inl (g 0, 160, .inl ftp))] sz)) (va_A [(Rd, .inr (4, [.ref Tp, .int (nI ln), .int (nI ax), .int zfa, .int (nI ht), .int (nI ct), .ref Rv])), (Tp, .inl (g 0, 160, .inl ftp))] sz)) 0 0 (va_A [(Rd, .inr (4, [.ref Tp, .int (nI ln), .int (nI ax), .int zfa, .int (nI ht), .int (nI ct), .ref Rv])), (Tp, .inl (g 0, 160, .inl ftp))] sz) := by
  refine Met.ofW (cc := cX4_readHead) (maxL := 3) (ret := (some .int)) (by decide) rfl ?_
  intro p e s m args below meth c s₁ B hml hv
  obtain ⟨rfl, hsz, hP, ⟨hK, hN⟩, hD0, hZ⟩ := hv
  have hx := B.exec
  have hb := B.bytes
  have hr := B.returns
  have hts := atoms_spec (ws := wsX4_readHead) B.pre
  have hown : s.vm.findClass RX4 = some m.cls := findClass_of_methodNamed B.named
  have hlocks := B.notSynchronized
  clear B
  subst hsz
  have hD := hD0.self (sz := s.heap.size)
  clear hD0
  generalize hAe : va_A [(Rd, .inr (4, [.ref Tp, .int (nI ln), .int (nI ax), .int zfa, .int (nI ht), .int (nI ct), .ref Rv])), (Tp, .inl (g 0, 160, .inl ftp))] s.heap.size = A at hD hZ ⊢
  have hA : ∀ q : Nat, s.heap.size ≤ q → A q := fun q h => by rw [← hAe]; exact Or.inr h
  have hS : va_S A s.heap s.heap [] := va_S.rf
  have f24 := hts (.fieldLink RX4 24 "HopCredits$Reading" "length" "I") (List.mem_of_getElem? (i := 2) rfl)
  have f28 := hts (.fieldLink RX4 28 "HopCredits$Reading" "at" "I") (List.mem_of_getElem? (i := 1) rfl)
  have f31 := hts (.fieldLink RX4 31 "HopCredits$Reading" "fault" "I") (List.mem_of_getElem? (i := 4) rfl)
  have f9 := hts (.fieldLink RX4 9 "HopCredits$Reading" "text" "[I") (List.mem_of_getElem? (i := 3) rfl)
  have iX4 : ∀ w ∈ u_ws RX4 TX4 7, w ∈ wsX4_readHead := fun w h => List.mem_cons_of_mem _ (List.mem_append_right _ (h))
  have hl := lv_entry ([.ref Rd, .int zf]) (n := 3) (Nat.le_of_ble_eq_true rfl)
  rw [lg_entry_eq]
  generalize (lg_sl ([.ref Rd, .int zf]) ++ List.replicate (3 - (lg_sl ([.ref Rd, .int zf])).length) Slot.unset).toArray = ls at hl ⊢
  have hl : lv_has ls 3 [(0, .ref Rd), (1, .int zf)] := hl
  generalize hQ : MQ below _ _ s _ _ _ = Q
  generalize hH : s.heap = H at hP ⊢
  have hS : va_S A s.heap H [] := by rw [← hH]; exact hS
  clear hH
  refine lv_aload_n hx hb dX4_readHead_0 rfl (lv_at hl 0 rfl) ?_
  refine ky_Vv (As := []) (rest := []) ⟨hx, hb, hml, hown, hts⟩ ⟨hK, hN⟩ hZ hP hD hS hA [0, 1] [] (wc := [(Rd, .inr (4, [.ref Tp, .int (nI ln), .int (nI ax), .int zfa, .int (nI ht), .int (nI ct), .ref Rv])), (Tp, .inl (g 0, 160, .inl ftp))]) (wr := []) rfl rfl rfl rfl (by decide) (k_X4_passBlanks l D g H.size Rd Tp ln ax zfa ht ct Rv ftp (show ln ≤ 160 by omega) (show ax ≤ ln by omega)) (cwV 0 hts gX4_readHead_X4_passBlanks rfl rfl rfl (by decide +kernel) ⟨(Nat.le_of_ble_eq_true rfl), (Nat.le_of_ble_eq_true rfl)⟩) 0 4 rfl rfl rfl rfl hl.1 rfl (Nat.le_of_ble_eq_true rfl) dX4_readHead_1 ⟨(Nat.le_of_ble_eq_true rfl), (Nat.le_of_ble_eq_true rfl)⟩ (fun u H locs hw hP2 hD2 hS2 => ?_)
  clear hP hD hS
  obtain ⟨axx_2, rfl, hf_3⟩ := hw
  have hPD : PD D A [(Rd, .inr (4, [.ref Tp, .int (nI ln), .int (nI axx_2), .int zfa, .int (nI ht), .int (nI ct), .ref Rv])), (Tp, .inl (g 0, 160, .inl ftp))] H := ⟨hP2, hD2⟩
  have hS := hS2; clear hP2 hD2 hS2; have hP := hPD.1; have hD := hPD.2; clear hPD
  refine W.widen (k := 0) (n := 0) (Nat.le_of_ble_eq_true rfl) (Nat.le_of_ble_eq_true rfl) ?_
  refine lv_iconst (v := (-1)) hx hb dX4_readHead_4 (by decide) ?_
  refine lv_istore_n (lv' := [(2, .int (-1)), (0, .ref Rd), (1, .int zf)]) hx hb dX4_readHead_5 rfl hl (by decide) rfl (fun ls hl => ?_)
  refine lv_aload_n hx hb dX4_readHead_6 rfl (lv_at hl 1 rfl) ?_
  refine va_get (D := D) (ci := 4) (v := .int (nI axx_2)) (C := RX4) (T := TX4) (N := 7) hx hb hts iX4 hown hK hP 0 rfl rfl 2 (by decide) f28 (fun _ h9 => h9) rfl dX4_readHead_7 ?_
  refine lv_aload_n hx hb dX4_readHead_10 rfl (lv_at hl 1 rfl) ?_
  refine va_get (D := D) (ci := 4) (v := .int (nI ln)) (C := RX4) (T := TX4) (N := 7) hx hb hts iX4 hown hK hP 0 rfl rfl 1 (by decide) f24 (fun _ h9 => h9) rfl dX4_readHead_11 ?_
  refine lv_icmp_ge (tgt := 32) hx hb dX4_readHead_14 (by decide) (fun cb_4 => ?_) (fun cb_4 => ?_)
  · skip
    have cn_5 : ln ≤ axx_2 := (nI_leI (show ln < 2 ^ 31 by omega) (show axx_2 < 2 ^ 31 by omega)).mp cb_4
    refine lv_iload_n hx hb dX4_readHead_32 rfl (lv_at hl 0 rfl) ?_
    refine lv_iconst (v := (-1)) hx hb dX4_readHead_33 (by decide) ?_
    refine lv_icmp_ne (tgt := 47) hx hb dX4_readHead_34 (by decide) (fun cb => absurd (by decide) cb) (fun _ => ?_)
    refine lv_aload_n hx hb dX4_readHead_37 rfl (lv_at hl 1 rfl) ?_
    refine lv_aload_n hx hb dX4_readHead_38 rfl (lv_at hl 1 rfl) ?_
    refine va_get (D := D) (ci := 4) (v := .int (nI axx_2)) (C := RX4) (T := TX4) (N := 7) hx hb hts iX4 hown hK hP 0 rfl rfl 2 (by decide) f28 (fun _ h9 => h9) rfl dX4_readHead_39 ?_
    refine va_put (D := D) (ci := 4) (v := .int (nI axx_2)) (ty := .int) (C := RX4) (T := TX4) (N := 7) hx hb hts iX4 tyX4 tyX4_ok nmX4 hown hK hP hD hS 0 rfl rfl 3 (by decide) f31 (fun _ h9 => h9) rfl (by decide +kernel) (rfl) (rfl) (Nat.le_of_ble_eq_true rfl) dX4_readHead_42 (fun H locs hP2 hD2 hS2 => ?_)
    clear hP hD hS
    have hPD : PD D A [(Rd, .inr (4, [.ref Tp, .int (nI ln), .int (nI axx_2), .int (nI axx_2), .int (nI ht), .int (nI ct), .ref Rv])), (Tp, .inl (g 0, 160, .inl ftp))] H := ⟨hP2, hD2⟩
    have hS := hS2; clear hP2 hD2 hS2; have hP := hPD.1; have hD := hPD.2; clear hPD
    refine lv_iconst (v := (-1)) hx hb dX4_readHead_45 (by decide) ?_
    have hP9 := hP; have hD9 := hD
    subst hQ
    refine W.widen (k := 0) (n := 0) (Nat.le_of_ble_eq_true rfl) (Nat.le_of_ble_eq_true rfl) ?_
    exact W.iret (v := (-1)) hx hb hr (fun tS htS _ => ⟨⟨_, _, rfl, ⟨axx_2, (nI axx_2), ht, ct, (-1), rfl, rfl, (ok7_m), (show axx_2 ≤ ln by omega), (show ht ≤ 3 by omega), (show ct ≤ 3 by omega)⟩, by rw [htS]; exact hP9, hD9⟩, hS.F htS⟩) hS.2.2 dX4_readHead_46
  · skip
    have cn_6 : axx_2 < ln := Nat.lt_of_not_le (fun q9 => cb_4 ((nI_leI (show ln < 2 ^ 31 by omega) (show axx_2 < 2 ^ 31 by omega)).mpr q9))
    refine lv_aload_n hx hb dX4_readHead_17 rfl (lv_at hl 1 rfl) ?_
    refine lv_aload_n hx hb dX4_readHead_18 rfl (lv_at hl 1 rfl) ?_
    refine va_get (D := D) (ci := 4) (v := .ref Tp) (C := RX4) (T := TX4) (N := 7) hx hb hts iX4 hown hK hP 0 rfl rfl 0 (by decide) f9 (fun _ h9 => h9) rfl dX4_readHead_19 ?_
    refine lv_aload_n hx hb dX4_readHead_22 rfl (lv_at hl 1 rfl) ?_
    refine va_get (D := D) (ci := 4) (v := .int (nI axx_2)) (C := RX4) (T := TX4) (N := 7) hx hb hts iX4 hown hK hP 0 rfl rfl 2 (by decide) f28 (fun _ h9 => h9) rfl dX4_readHead_23 ?_
    refine va_iald hx hb hK hP 1 0 rfl rfl (vp_in_nI (show axx_2 < 160 by omega) (by decide)) dX4_readHead_26 ?_
    refine lv_eqi (y := (ftp (axx_2))) (congrArg ftp (nI_clamp (show axx_2 < 2 ^ 31 by omega))) ?_
    refine lv_topi (fun y_7 _ => ?_)
    refine lv_iload_n hx hb dX4_readHead_27 rfl (lv_at hl 2 rfl) ?_
    refine ky_Vi (As := [.int y_7, .int zf]) (rest := []) ⟨hx, hb, hml, hown, hts⟩ ⟨hK, hN⟩ hZ hP hD hS hA [0] [1] (wc := [(Rd, .inr (4, [.ref Tp, .int (nI ln), .int (nI axx_2), .int zfa, .int (nI ht), .int (nI ct), .ref Rv]))]) (wr := [(Tp, .inl (g 0, 160, .inl ftp))]) rfl rfl rfl rfl (by decide) (k_X4_clauseOf l D g H.size Rd y_7 zf Tp ln axx_2 zfa ht ct Rv (show ht ≤ 3 by omega) (show ct ≤ 3 by omega)) (cwV 2 hts gX4_readHead_X4_clauseOf rfl rfl rfl (by decide +kernel) ⟨(Nat.le_of_ble_eq_true rfl), (Nat.le_of_ble_eq_true rfl)⟩) 0 4 rfl rfl rfl rfl hl.1 rfl (Nat.le_of_ble_eq_true rfl) dX4_readHead_28 ⟨(Nat.le_of_ble_eq_true rfl), (Nat.le_of_ble_eq_true rfl)⟩ (fun r_8 u H locs hw hP2 hD2 hS2 => ?_)
    clear hP hD hS
    obtain ⟨htx_9, ctx_10, zr_11, rfl, rfl, hf_12, hf_13, hf_14⟩ := hw
    have hPD : PD D A [(Tp, .inl (g 0, 160, .inl ftp)), (Rd, .inr (4, [.ref Tp, .int (nI ln), .int (nI axx_2), .int zfa, .int (nI htx_9), .int (nI ctx_10), .ref Rv]))] H := ⟨hP2, hD2⟩
    have hS := hS2; clear hP2 hD2 hS2; have hP := hPD.1; have hD := hPD.2; clear hPD
    refine W.widen (k := 0) (n := 0) (Nat.le_of_ble_eq_true rfl) (Nat.le_of_ble_eq_true rfl) ?_
    refine lv_istore_n (lv' := [(2, .int r_8), (0, .ref Rd), (1, .int zf)]) hx hb dX4_readHead_31 rfl hl (by decide) rfl (fun ls hl => ?_)
    refine lv_iload_n hx hb dX4_readHead_32 rfl (lv_at hl 0 rfl) ?_
    refine lv_iconst (v := (-1)) hx hb dX4_readHead_33 (by decide) ?_
    refine lv_icmp_ne (tgt := 47) hx hb dX4_readHead_34 (by decide) (fun cb_15 => ?_) (fun cb_15 => ?_)
    · skip
      have hPq_18 := hP; have hDq_18 := hD; have hSq_18 := hS; have hlq_18 := hl; clear hP hD hS hl
      obtain ⟨j_16, hj_17, rfl⟩ := ok7_j (hf_12) cb_15
      have hP := hPq_18; have hD := hDq_18; have hS := hSq_18; have hl := hlq_18; clear hPq_18 hDq_18 hSq_18 hlq_18
      refine lv_aload_n hx hb dX4_readHead_47 rfl (lv_at hl 1 rfl) ?_
      refine lv_dup hx hb dX4_readHead_48 rfl ?_
      refine va_get (D := D) (ci := 4) (v := .int (nI axx_2)) (C := RX4) (T := TX4) (N := 7) hx hb hts iX4 hown hK hP 1 rfl rfl 2 (by decide) f28 (fun _ h9 => h9) rfl dX4_readHead_49 ?_
      refine lv_iconst (v := 1) hx hb dX4_readHead_52 (by decide) ?_
      refine lv_iadd hx hb dX4_readHead_53 ?_
      refine lv_eqi (y := (nI (axx_2 + 1))) (nI_add (axx_2) (1)) ?_
      refine va_put (D := D) (ci := 4) (v := .int (nI (axx_2 + 1))) (ty := .int) (C := RX4) (T := TX4) (N := 7) hx hb hts iX4 tyX4 tyX4_ok nmX4 hown hK hP hD hS 1 rfl rfl 2 (by decide) f28 (fun _ h9 => h9) rfl (by decide +kernel) (rfl) (rfl) (Nat.le_of_ble_eq_true rfl) dX4_readHead_54 (fun H locs hP2 hD2 hS2 => ?_)
      clear hP hD hS
      have hPD : PD D A [(Tp, .inl (g 0, 160, .inl ftp)), (Rd, .inr (4, [.ref Tp, .int (nI ln), .int (nI (axx_2 + 1)), .int zfa, .int (nI htx_9), .int (nI ctx_10), .ref Rv]))] H := ⟨hP2, hD2⟩
      have hS := hS2; clear hP2 hD2 hS2; have hP := hPD.1; have hD := hPD.2; clear hPD
      refine lv_iload_n hx hb dX4_readHead_57 rfl (lv_at hl 0 rfl) ?_
      have hPD9 : PD D A [(Rd, .inr (4, [.ref Tp, .int (nI ln), .int (nI (axx_2 + 1)), .int zfa, .int (nI htx_9), .int (nI ctx_10), .ref Rv])), (Tp, .inl (g 0, 160, .inl ftp))] H := ⟨hP.sub [1, 0] rfl, hD.sub [1, 0] (by decide) rfl⟩
      have hP9 := hPD9.1; have hD9 := hPD9.2
      subst hQ
      refine W.widen (k := 0) (n := 0) (Nat.le_of_ble_eq_true rfl) (Nat.le_of_ble_eq_true rfl) ?_
      exact W.iret (v := (nI j_16)) hx hb hr (fun tS htS _ => ⟨⟨_, _, rfl, ⟨(axx_2 + 1), zfa, htx_9, ctx_10, (nI j_16), rfl, rfl, (ok7_n (show j_16 < 7 by omega)), (show (axx_2 + 1) ≤ ln by omega), (show htx_9 ≤ 3 by omega), (show ctx_10 ≤ 3 by omega)⟩, by rw [htS]; exact hP9, hD9⟩, hS.F htS⟩) hS.2.2 dX4_readHead_58
    · skip
      have hPq_19 := hP; have hDq_19 := hD; have hSq_19 := hS; have hlq_19 := hl; clear hP hD hS hl
      subst cb_15
      have hP := hPq_19; have hD := hDq_19; have hS := hSq_19; have hl := hlq_19; clear hPq_19 hDq_19 hSq_19 hlq_19
      refine lv_aload_n hx hb dX4_readHead_37 rfl (lv_at hl 1 rfl) ?_
      refine lv_aload_n hx hb dX4_readHead_38 rfl (lv_at hl 1 rfl) ?_
      refine va_get (D := D) (ci := 4) (v := .int (nI axx_2)) (C := RX4) (T := TX4) (N := 7) hx hb hts iX4 hown hK hP 1 rfl rfl 2 (by decide) f28 (fun _ h9 => h9) rfl dX4_readHead_39 ?_
      refine va_put (D := D) (ci := 4) (v := .int (nI axx_2)) (ty := .int) (C := RX4) (T := TX4) (N := 7) hx hb hts iX4 tyX4 tyX4_ok nmX4 hown hK hP hD hS 1 rfl rfl 3 (by decide) f31 (fun _ h9 => h9) rfl (by decide +kernel) (rfl) (rfl) (Nat.le_of_ble_eq_true rfl) dX4_readHead_42 (fun H locs hP2 hD2 hS2 => ?_)
      clear hP hD hS
      have hPD : PD D A [(Tp, .inl (g 0, 160, .inl ftp)), (Rd, .inr (4, [.ref Tp, .int (nI ln), .int (nI axx_2), .int (nI axx_2), .int (nI htx_9), .int (nI ctx_10), .ref Rv]))] H := ⟨hP2, hD2⟩
      have hS := hS2; clear hP2 hD2 hS2; have hP := hPD.1; have hD := hPD.2; clear hPD
      refine lv_iconst (v := (-1)) hx hb dX4_readHead_45 (by decide) ?_
      have hPD9 : PD D A [(Rd, .inr (4, [.ref Tp, .int (nI ln), .int (nI axx_2), .int (nI axx_2), .int (nI htx_9), .int (nI ctx_10), .ref Rv])), (Tp, .inl (g 0, 160, .inl ftp))] H := ⟨hP.sub [1, 0] rfl, hD.sub [1, 0] (by decide) rfl⟩
      have hP9 := hPD9.1; have hD9 := hPD9.2
      subst hQ
      refine W.widen (k := 0) (n := 0) (Nat.le_of_ble_eq_true rfl) (Nat.le_of_ble_eq_true rfl) ?_
      exact W.iret (v := (-1)) hx hb hr (fun tS htS _ => ⟨⟨_, _, rfl, ⟨axx_2, (nI axx_2), htx_9, ctx_10, (-1), rfl, rfl, (hf_12), (show axx_2 ≤ ln by omega), (show htx_9 ≤ 3 by omega), (show ctx_10 ≤ 3 by omega)⟩, by rw [htS]; exact hP9, hD9⟩, hS.F htS⟩) hS.2.2 dX4_readHead_46

set_option maxHeartbeats 4000000 in
set_option maxRecDepth 100000 in
theorem k_X4_itemOf (l : Launch) (D : va_G) (g : Nat → ClassId) (sz : Nat) (kx : Nat) (zs : Int32) (h0 : kx < 3) : Met l yX4_itemOf wsX4_itemOf ({ frames := 4, cells := 0, slots := 0, locals := 85 }) (va_Pc [.int (nI kx), .int zs] (pre D g sz [])) (va_Qi (fun (r : Int32) (u : va_W) => ∃ (zr : Int32), u = [] ∧ r = zr ∧ (okc zr)) (wd D (va_A [] sz)) (va_A [] sz)) 0 0 (va_A [] sz) := by
  refine Met.ofW (cc := cX4_itemOf) (maxL := 3) (ret := (some .int)) (by decide) rfl ?_
  intro p e s m args below meth c s₁ B hml hv
  obtain ⟨rfl, hsz, hP, ⟨hK, hN⟩, hD0, hZ⟩ := hv
  have hx := B.exec
  have hb := B.bytes
  have hr := B.returns
  have hts := atoms_spec (ws := wsX4_itemOf) B.pre
  have hown : s.vm.findClass RX4 = some m.cls := findClass_of_methodNamed B.named
  have hlocks := B.notSynchronized
  clear B
  subst hsz
  have hD := hD0.self (sz := s.heap.size)
  clear hD0
  generalize hAe : va_A [] s.heap.size = A at hD hZ ⊢
  have hA : ∀ q : Nat, s.heap.size ≤ q → A q := fun q h => by rw [← hAe]; exact Or.inr h
  have hS : va_S A s.heap s.heap [] := va_S.rf
  have hl := lv_entry ([.int (nI kx), .int zs]) (n := 3) (Nat.le_of_ble_eq_true rfl)
  rw [lg_entry_eq]
  generalize (lg_sl ([.int (nI kx), .int zs]) ++ List.replicate (3 - (lg_sl ([.int (nI kx), .int zs])).length) Slot.unset).toArray = ls at hl ⊢
  have hl : lv_has ls 3 [(0, .int (nI kx)), (1, .int zs)] := hl
  generalize hQ : MQ below _ _ s _ _ _ = Q
  generalize hH : s.heap = H at hP ⊢
  have hS : va_S A s.heap H [] := by rw [← hH]; exact hS
  clear hH
  refine lv_iconst (v := 0) hx hb dX4_itemOf_0 (by decide) ?_
  refine lv_istore_n (lv' := [(2, .int 0), (0, .int (nI kx)), (1, .int zs)]) hx hb dX4_itemOf_1 rfl hl (by decide) rfl (fun ls hl => ?_)
  have loop_9 : ∀ (Nloop_9 : Nat) (i_3 : Nat) (hbi_3 : i_3 ≤ 3) (hmloop_9 : 3 - i_3 < Nloop_9) (H : Heap) (locs : List Loc) (ls : Array Slot), va_P D vwCl [] H → va_D A [] → va_S A s.heap H locs → lv_has ls 3 [(2, .int (nI i_3)), (0, .int (nI kx)), (1, .int zs)] → W p l e (headSpec wsX4_itemOf ({ frames := 4, cells := 0, slots := 0, locals := 85 })).room s m ([.int (nI kx), .int zs] : List Value).toArray below meth c H locs 0 0 Q (F0 m 2 ls []) := by
    clear hP hD hS hl
    intro Nloop_9
    induction Nloop_9 with
    | zero => intro i_3 hbi_3 hm9; exact absurd hm9 (Nat.not_lt_zero _)
    | succ Nloop_9 loop_9_ih =>
      intro i_3 hbi_3 hmloop_9 H locs ls hP hD hS hl
      refine lv_iload_n hx hb dX4_itemOf_2 rfl (lv_at hl 0 rfl) ?_
      refine lv_iconst (v := 3) hx hb dX4_itemOf_3 (by decide) ?_
      refine lv_icmp_ge (tgt := 29) hx hb dX4_itemOf_4 (by decide) (fun cb_10 => ?_) (fun cb_10 => ?_)
      · skip
        have cn_11 : 3 ≤ i_3 := (nI_leI (show 3 < 2 ^ 31 by omega) (show i_3 < 2 ^ 31 by omega)).mp cb_10
        refine lv_iconst (v := (-1)) hx hb dX4_itemOf_29 (by decide) ?_
        have hP9 := hP; have hD9 := hD
        subst hQ
        refine W.widen (k := 0) (n := 0) (Nat.le_of_ble_eq_true rfl) (Nat.le_of_ble_eq_true rfl) ?_
        exact W.iret (v := (-1)) hx hb hr (fun tS htS _ => ⟨⟨_, _, rfl, ⟨(-1), rfl, rfl, (okc_m)⟩, by rw [htS]; exact hP9, hD9⟩, hS.F htS⟩) hS.2.2 dX4_itemOf_30
      · skip
        have cn_12 : i_3 < 3 := Nat.lt_of_not_le (fun q9 => cb_10 ((nI_leI (show 3 < 2 ^ 31 by omega) (show i_3 < 2 ^ 31 by omega)).mpr q9))
        refine va_ldcS hx hb hown hN.2.2.2.2.2.2.2.2.2.2.2.2.2 dX4_itemOf_7 ?_
        refine lv_iload_n hx hb dX4_itemOf_9 rfl (lv_at hl 1 rfl) ?_
        refine lv_iconst (v := 3) hx hb dX4_itemOf_10 (by decide) ?_
        refine lv_imul hx hb dX4_itemOf_11 ?_
        refine lv_eqi (y := (nI (kx * 3))) (pk_mul (kx) (3)) ?_
        refine lv_iload_n hx hb dX4_itemOf_12 rfl (lv_at hl 0 rfl) ?_
        refine lv_iadd hx hb dX4_itemOf_13 ?_
        refine lv_eqi (y := (nI (kx * 3 + i_3))) (nI_add (kx * 3) (i_3)) ?_
        refine ky_Ki (As := [.int (nI (kx * 3 + i_3))]) (rest := []) ⟨hx, hb, hml, hown, hts⟩ ⟨hK, hN⟩ hZ hP hD hS hA [] [] (wc := []) (wr := []) rfl rfl rfl rfl (by decide) (k_J0_charAt_5068e l D g H.size (kx * 3 + i_3) (show (kx * 3 + i_3) < 9 by omega)) (cwV 1 hts gX4_itemOf_J0_charAt_5068e rfl rfl rfl (by decide +kernel) ⟨(Nat.le_of_ble_eq_true rfl), (Nat.le_of_ble_eq_true rfl)⟩) (vk_recv hZ.2.2.2.2.2.2.2.2.2.2 (i := 0) (by decide) hS) rfl hl.1 rfl (Nat.le_of_ble_eq_true rfl) dX4_itemOf_14 ⟨(Nat.le_of_ble_eq_true rfl), (Nat.le_of_ble_eq_true rfl)⟩ (fun r_13 u H locs hw hP2 hD2 hS2 => ?_)
        clear hP hD hS
        obtain rfl := hw
        have hPD : PD D A [] H := ⟨hP2, hD2⟩
        have hS := hS2; clear hP2 hD2 hS2; have hP := hPD.1; have hD := hPD.2; clear hPD
        refine W.widen (k := 0) (n := 0) (Nat.le_of_ble_eq_true rfl) (Nat.le_of_ble_eq_true rfl) ?_
        refine lv_iload_n hx hb dX4_itemOf_17 rfl (lv_at hl 2 rfl) ?_
        refine lv_icmp_ne (tgt := 23) hx hb dX4_itemOf_18 (by decide) (fun cb_14 => ?_) (fun cb_14 => ?_)
        · skip
          refine lv_iinc (v := (nI (i_3 + 1))) (lv' := [(2, .int (nI (i_3 + 1))), (0, .int (nI kx)), (1, .int zs)]) hx hb dX4_itemOf_23 hl (k := 0) rfl (nI_1 (i_3)) (by decide) rfl (fun ls hl => ?_)
          refine lv_goto (tgt := 2) hx hb dX4_itemOf_26 (by decide) ?_
          exact loop_9_ih (i_3 + 1) (show (i_3 + 1) ≤ 3 by omega) (show 3 - (i_3 + 1) < Nloop_9 by omega) _ _ _ hP hD hS hl
        · skip
          refine lv_iload_n hx hb dX4_itemOf_21 rfl (lv_at hl 0 rfl) ?_
          have hP9 := hP; have hD9 := hD
          subst hQ
          refine W.widen (k := 0) (n := 0) (Nat.le_of_ble_eq_true rfl) (Nat.le_of_ble_eq_true rfl) ?_
          exact W.iret (v := (nI i_3)) hx hb hr (fun tS htS _ => ⟨⟨_, _, rfl, ⟨(nI i_3), rfl, rfl, (okc_n (show i_3 < 3 by omega))⟩, by rw [htS]; exact hP9, hD9⟩, hS.F htS⟩) hS.2.2 dX4_itemOf_22
  exact loop_9 _ 0 (show 0 ≤ 3 by omega) (Nat.lt_succ_self _) _ _ _ hP hD hS hl

set_option maxHeartbeats 4000000 in
set_option maxRecDepth 100000 in
theorem k_X4_readNumber (l : Launch) (D : va_G) (g : Nat → ClassId) (sz : Nat) (Rd : Nat) (cl : Nat) (it : Nat) (Tp : Nat) (ln : Nat) (ax : Nat) (zfa : Int32) (ht : Nat) (ct : Nat) (Rv : Nat) (ftp : Nat → Int32) (fval : Nat → Int32) (h0 : ln ≤ 160) (h1 : ax ≤ ln) (h2 : vOK fval) (h3 : cl < 7) (h4 : it < 3) : Met l yX4_readNumber wsX4_readNumber ({ frames := 1, cells := 0, slots := 0, locals := 22 }) (va_Pc [.ref Rd, .int (nI cl), .int (nI it)] (pre D g sz [(Rd, .inr (4, [.ref Tp, .int (nI ln), .int (nI ax), .int zfa, .int (nI ht), .int (nI ct), .ref Rv])), (Tp, .inl (g 0, 160, .inl ftp)), (Rv, .inl (g 0, 21, .inl fval))])) (va_Qv (fun (u : va_W) => ∃ (axx : Nat) (zfax : Int32) (fvalx : Nat → Int32), u = [(Rd, .inr (4, [.ref Tp, .int (nI ln), .int (nI axx), .int zfax, .int (nI ht), .int (nI ct), .ref Rv])), (Tp, .inl (g 0, 160, .inl ftp)), (Rv, .inl (g 0, 21, .inl fvalx))] ∧ (axx ≤ ln) ∧ (vOK fvalx)) (wd D (va_A [(Rd, .inr (4, [.ref Tp, .int (nI ln), .int (nI ax), .int zfa, .int (nI ht), .int (nI ct), .ref Rv])), (Tp, .inl (g 0, 160, .inl ftp)), (Rv, .inl (g 0, 21, .inl fval))] sz)) (va_A [(Rd, .inr (4, [.ref Tp, .int (nI ln), .int (nI ax), .int zfa, .int (nI ht), .int (nI ct), .ref Rv])), (Tp, .inl (g 0, 160, .inl ftp)), (Rv, .inl (g 0, 21, .inl fval))] sz)) 0 0 (va_A [(Rd, .inr (4, [.ref Tp, .int (nI ln), .int (nI ax), .int zfa, .int (nI ht), .int (nI ct), .ref Rv])), (Tp, .inl (g 0, 160, .inl ftp)), (Rv, .inl (g 0, 21, .inl fval))] sz) := by
  refine Met.ofW (cc := cX4_readNumber) (maxL := 6) (ret := none) (by decide) rfl ?_
  intro p e s m args below meth c s₁ B hml hv
  obtain ⟨rfl, hsz, hP, ⟨hK, hN⟩, hD0, hZ⟩ := hv
  have hx := B.exec
  have hb := B.bytes
  have hr := B.returns
  have hts := atoms_spec (ws := wsX4_readNumber) B.pre
  have hown : s.vm.findClass RX4 = some m.cls := findClass_of_methodNamed B.named
  have hlocks := B.notSynchronized
  clear B
  subst hsz
  have hD := hD0.self (sz := s.heap.size)
  clear hD0
  generalize hAe : va_A [(Rd, .inr (4, [.ref Tp, .int (nI ln), .int (nI ax), .int zfa, .int (nI ht), .int (nI ct), .ref Rv])), (Tp, .inl (g 0, 160, .inl ftp)), (Rv, .inl (g 0, 21, .inl fval))] s.heap.size = A at hD hZ ⊢
  have hA : ∀ q : Nat, s.heap.size ≤ q → A q := fun q h => by rw [← hAe]; exact Or.inr h
  have hS : va_S A s.heap s.heap [] := va_S.rf
  have f15 := hts (.fieldLink RX4 15 "HopCredits$Reading" "values" "[I") (List.mem_of_getElem? (i := 6) rfl)
  have f28 := hts (.fieldLink RX4 28 "HopCredits$Reading" "at" "I") (List.mem_of_getElem? (i := 2) rfl)
  have f31 := hts (.fieldLink RX4 31 "HopCredits$Reading" "fault" "I") (List.mem_of_getElem? (i := 3) rfl)
  have f84 := hts (.fieldLink RX4 84 "HopCredits$Reading" "LOWS" "[I") (List.mem_of_getElem? (i := 4) rfl)
  have f87 := hts (.fieldLink RX4 87 "HopCredits$Reading" "HIGHS" "[I") (List.mem_of_getElem? (i := 5) rfl)
  have f9 := hts (.fieldLink RX4 9 "HopCredits$Reading" "text" "[I") (List.mem_of_getElem? (i := 1) rfl)
  have iiX6 := hts (.initialized RX6) (List.mem_of_getElem? (i := 21) rfl)
  have stX6_outside := hts (.static yX6_outside) (List.mem_of_getElem? (i := 20) rfl)
  have iX4 : ∀ w ∈ u_ws RX4 TX4 7, w ∈ wsX4_readNumber := fun w h => List.mem_cons_of_mem _ (List.mem_append_right _ (h))
  have hl := lv_entry ([.ref Rd, .int (nI cl), .int (nI it)]) (n := 6) (Nat.le_of_ble_eq_true rfl)
  rw [lg_entry_eq]
  generalize (lg_sl ([.ref Rd, .int (nI cl), .int (nI it)]) ++ List.replicate (6 - (lg_sl ([.ref Rd, .int (nI cl), .int (nI it)])).length) Slot.unset).toArray = ls at hl ⊢
  have hl : lv_has ls 6 [(0, .ref Rd), (1, .int (nI cl)), (2, .int (nI it))] := hl
  generalize hQ : MQ below _ _ s _ _ _ = Q
  generalize hH : s.heap = H at hP ⊢
  have hS : va_S A s.heap H [] := by rw [← hH]; exact hS
  clear hH
  refine lv_aload_n hx hb dX4_readNumber_0 rfl (lv_at hl 0 rfl) ?_
  refine ky_Vv (As := []) (rest := []) ⟨hx, hb, hml, hown, hts⟩ ⟨hK, hN⟩ hZ hP hD hS hA [0, 1] [2] (wc := [(Rd, .inr (4, [.ref Tp, .int (nI ln), .int (nI ax), .int zfa, .int (nI ht), .int (nI ct), .ref Rv])), (Tp, .inl (g 0, 160, .inl ftp))]) (wr := [(Rv, .inl (g 0, 21, .inl fval))]) rfl rfl rfl rfl (by decide) (k_X4_passBlanks l D g H.size Rd Tp ln ax zfa ht ct Rv ftp (show ln ≤ 160 by omega) (show ax ≤ ln by omega)) (cwV 0 hts gX4_readNumber_X4_passBlanks rfl rfl rfl (by decide +kernel) ⟨(Nat.le_of_ble_eq_true rfl), (Nat.le_of_ble_eq_true rfl)⟩) 0 4 rfl rfl rfl rfl hl.1 rfl (Nat.le_of_ble_eq_true rfl) dX4_readNumber_1 ⟨(Nat.le_of_ble_eq_true rfl), (Nat.le_of_ble_eq_true rfl)⟩ (fun u H locs hw hP2 hD2 hS2 => ?_)
  clear hP hD hS
  obtain ⟨axx_2, rfl, hf_3⟩ := hw
  have hPD : PD D A [(Rv, .inl (g 0, 21, .inl fval)), (Rd, .inr (4, [.ref Tp, .int (nI ln), .int (nI axx_2), .int zfa, .int (nI ht), .int (nI ct), .ref Rv])), (Tp, .inl (g 0, 160, .inl ftp))] H := ⟨hP2, hD2⟩
  have hS := hS2; clear hP2 hD2 hS2; have hP := hPD.1; have hD := hPD.2; clear hPD
  refine W.widen (k := 0) (n := 0) (Nat.le_of_ble_eq_true rfl) (Nat.le_of_ble_eq_true rfl) ?_
  refine lv_iconst (v := 0) hx hb dX4_readNumber_4 (by decide) ?_
  refine lv_istore_n (lv' := [(3, .int 0), (0, .ref Rd), (1, .int (nI cl)), (2, .int (nI it))]) hx hb dX4_readNumber_5 rfl hl (by decide) rfl (fun ls hl => ?_)
  have join_88 : ∀ (i_44 : Int32) (i_45 : Int32) (z_46 : Nat) (hv_87 : z_46 ≤ ln) (H : Heap) (locs : List Loc) (ls : Array Slot), va_P D vwCl [(Rv, .inl (g 0, 21, .inl fval)), (Rd, .inr (4, [.ref Tp, .int (nI ln), .int (nI z_46), .int zfa, .int (nI ht), .int (nI ct), .ref Rv])), (Tp, .inl (g 0, 160, .inl ftp))] H → va_D A [(Rv, .inl (g 0, 21, .inl fval)), (Rd, .inr (4, [.ref Tp, .int (nI ln), .int (nI z_46), .int zfa, .int (nI ht), .int (nI ct), .ref Rv])), (Tp, .inl (g 0, 160, .inl ftp))] → va_S A s.heap H locs → lv_has ls 6 [(3, .int i_45), (0, .ref Rd), (1, .int (nI cl)), (2, .int (nI it)), (4, .int i_44)] → W p l e (headSpec wsX4_readNumber ({ frames := 1, cells := 0, slots := 0, locals := 22 })).room s m ([.ref Rd, .int (nI cl), .int (nI it)] : List Value).toArray below meth c H locs 0 0 Q (F0 m 56 ls []) := by
    clear hP hD hS hl
    intro i_44 i_45 z_46 hv_87 H locs ls hP hD hS hl
    refine lv_iload hx hb dX4_readNumber_56 (lv_at hl 4 rfl) ?_
    refine lv_if_eq (tgt := 68) hx hb dX4_readNumber_58 (by decide) (fun cb_89 => ?_) (fun cb_89 => ?_)
    · skip
      have hPq_90 := hP; have hDq_90 := hD; have hSq_90 := hS; have hlq_90 := hl; clear hP hD hS hl
      subst cb_89
      have hP := hPq_90; have hD := hDq_90; have hS := hSq_90; have hl := hlq_90; clear hPq_90 hDq_90 hSq_90 hlq_90
      refine lv_aload_n hx hb dX4_readNumber_68 rfl (lv_at hl 1 rfl) ?_
      refine lv_aload_n hx hb dX4_readNumber_69 rfl (lv_at hl 1 rfl) ?_
      refine va_get (D := D) (ci := 4) (v := .int (nI z_46)) (C := RX4) (T := TX4) (N := 7) hx hb hts iX4 hown hK hP 1 rfl rfl 2 (by decide) f28 (fun _ h9 => h9) rfl dX4_readNumber_70 ?_
      refine va_put (D := D) (ci := 4) (v := .int (nI z_46)) (ty := .int) (C := RX4) (T := TX4) (N := 7) hx hb hts iX4 tyX4 tyX4_ok nmX4 hown hK hP hD hS 1 rfl rfl 3 (by decide) f31 (fun _ h9 => h9) rfl (by decide +kernel) (rfl) (rfl) (Nat.le_of_ble_eq_true rfl) dX4_readNumber_73 (fun H locs hP2 hD2 hS2 => ?_)
      clear hP hD hS
      have hPD : PD D A [(Rv, .inl (g 0, 21, .inl fval)), (Rd, .inr (4, [.ref Tp, .int (nI ln), .int (nI z_46), .int (nI z_46), .int (nI ht), .int (nI ct), .ref Rv])), (Tp, .inl (g 0, 160, .inl ftp))] H := ⟨hP2, hD2⟩
      have hS := hS2; clear hP2 hD2 hS2; have hP := hPD.1; have hD := hPD.2; clear hPD
      have hPD9 : PD D A [(Rd, .inr (4, [.ref Tp, .int (nI ln), .int (nI z_46), .int (nI z_46), .int (nI ht), .int (nI ct), .ref Rv])), (Tp, .inl (g 0, 160, .inl ftp)), (Rv, .inl (g 0, 21, .inl fval))] H := ⟨hP.sub [1, 2, 0] rfl, hD.sub [1, 2, 0] (by decide) rfl⟩
      have hP9 := hPD9.1; have hD9 := hPD9.2
      subst hQ
      refine W.widen (k := 0) (n := 0) (Nat.le_of_ble_eq_true rfl) (Nat.le_of_ble_eq_true rfl) ?_
      exact W.vret hx hb hr (fun tS htS _ => ⟨⟨_, rfl, ⟨z_46, (nI z_46), fval, rfl, (show z_46 ≤ ln by omega), (h2)⟩, by rw [htS]; exact hP9, hD9⟩, hS.F htS⟩) hS.2.2 dX4_readNumber_76
    · skip
      refine lv_aload_n hx hb dX4_readNumber_61 rfl (lv_at hl 1 rfl) ?_
      refine ky_Vi (As := []) (rest := []) ⟨hx, hb, hml, hown, hts⟩ ⟨hK, hN⟩ hZ hP hD hS hA [1, 2] [0] (wc := [(Rd, .inr (4, [.ref Tp, .int (nI ln), .int (nI z_46), .int zfa, .int (nI ht), .int (nI ct), .ref Rv])), (Tp, .inl (g 0, 160, .inl ftp))]) (wr := [(Rv, .inl (g 0, 21, .inl fval))]) rfl rfl rfl rfl (by decide) (k_X4_isDigitHere l D g H.size Rd Tp ln z_46 zfa ht ct Rv ftp (show ln ≤ 160 by omega) (show z_46 ≤ ln by omega)) (cwV 0 hts gX4_readNumber_X4_isDigitHere rfl rfl rfl (by decide +kernel) ⟨(Nat.le_of_ble_eq_true rfl), (Nat.le_of_ble_eq_true rfl)⟩) 1 4 rfl rfl rfl rfl hl.1 rfl (Nat.le_of_ble_eq_true rfl) dX4_readNumber_62 ⟨(Nat.le_of_ble_eq_true rfl), (Nat.le_of_ble_eq_true rfl)⟩ (fun r_91 u H locs hw hP2 hD2 hS2 => ?_)
      clear hP hD hS
      obtain ⟨zr_92, rfl, rfl, hf_93⟩ := hw
      have hPD : PD D A [(Rv, .inl (g 0, 21, .inl fval)), (Rd, .inr (4, [.ref Tp, .int (nI ln), .int (nI z_46), .int zfa, .int (nI ht), .int (nI ct), .ref Rv])), (Tp, .inl (g 0, 160, .inl ftp))] H := ⟨hP2, hD2⟩
      have hS := hS2; clear hP2 hD2 hS2; have hP := hPD.1; have hD := hPD.2; clear hPD
      refine W.widen (k := 0) (n := 0) (Nat.le_of_ble_eq_true rfl) (Nat.le_of_ble_eq_true rfl) ?_
      refine lv_if_eq (tgt := 77) hx hb dX4_readNumber_65 (by decide) (fun cb_94 => ?_) (fun cb_94 => ?_)
      · skip
        have hPq_95 := hP; have hDq_95 := hD; have hSq_95 := hS; have hlq_95 := hl; clear hP hD hS hl
        subst cb_94
        have hP := hPq_95; have hD := hDq_95; have hS := hSq_95; have hl := hlq_95; clear hPq_95 hDq_95 hSq_95 hlq_95
        have hPq_96 := hP; have hDq_96 := hD; have hSq_96 := hS; have hlq_96 := hl; clear hP hD hS hl
        rcases (show cl = 0 ∨ cl = 1 ∨ cl = 2 ∨ cl = 3 ∨ cl = 4 ∨ cl = 5 ∨ cl = 6 by omega) with rfl | rfl | rfl | rfl | rfl | rfl | rfl
        · skip
          have hP := hPq_96; have hD := hDq_96; have hS := hSq_96; have hl := hlq_96; clear hPq_96 hDq_96 hSq_96 hlq_96
          refine lv_iload_n hx hb dX4_readNumber_77 rfl (lv_at hl 2 rfl) ?_
          have hPq_97 := hP; have hDq_97 := hD; have hSq_97 := hS; have hlq_97 := hl; clear hP hD hS hl
          rcases (show it = 0 ∨ it = 1 ∨ it = 2 by omega) with rfl | rfl | rfl
          · skip
            have hP := hPq_97; have hD := hDq_97; have hS := hSq_97; have hl := hlq_97; clear hPq_97 hDq_97 hSq_97 hlq_97
            refine ky_Si (As := [.int (nI 0)]) (rest := []) ⟨hx, hb, hml, hown, hts⟩ ⟨hK, hN⟩ hZ hP hD hS hA [] [0, 1, 2] (wc := []) (wr := [(Rv, .inl (g 0, 21, .inl fval)), (Rd, .inr (4, [.ref Tp, .int (nI ln), .int (nI z_46), .int zfa, .int (nI ht), .int (nI ct), .ref Rv])), (Tp, .inl (g 0, 160, .inl ftp))]) rfl rfl rfl rfl (by decide) (k_X4_kindOf_0 l D g H.size) (va_cwS 1 hts gX4_readNumber_X4_kindOf rfl rfl rfl (by decide +kernel) ⟨(Nat.le_of_ble_eq_true rfl), (Nat.le_of_ble_eq_true rfl)⟩) rfl hl.1 rfl (Nat.le_of_ble_eq_true rfl) dX4_readNumber_78 ⟨(Nat.le_of_ble_eq_true rfl), (Nat.le_of_ble_eq_true rfl)⟩ (fun r_98 u H locs hw hP2 hD2 hS2 => ?_)
            clear hP hD hS
            obtain ⟨rfl, rfl⟩ := hw
            have hPD : PD D A [(Rv, .inl (g 0, 21, .inl fval)), (Rd, .inr (4, [.ref Tp, .int (nI ln), .int (nI z_46), .int zfa, .int (nI ht), .int (nI ct), .ref Rv])), (Tp, .inl (g 0, 160, .inl ftp))] H := ⟨hP2, hD2⟩
            have hS := hS2; clear hP2 hD2 hS2; have hP := hPD.1; have hD := hPD.2; clear hPD
            refine W.widen (k := 0) (n := 0) (Nat.le_of_ble_eq_true rfl) (Nat.le_of_ble_eq_true rfl) ?_
            refine lv_iconst (v := 3) hx hb dX4_readNumber_81 (by decide) ?_
            refine lv_imul hx hb dX4_readNumber_82 ?_
            refine lv_eqi (y := 0) (by decide) ?_
            refine lv_iload_n hx hb dX4_readNumber_83 rfl (lv_at hl 3 rfl) ?_
            refine lv_iadd hx hb dX4_readNumber_84 ?_
            refine lv_eqi (y := 0) (by decide) ?_
            refine lv_istore (lv' := [(5, .int 0), (3, .int i_45), (0, .ref Rd), (1, .int (nI 0)), (2, .int (nI 0)), (4, .int i_44)]) hx hb dX4_readNumber_85 hl (by decide) rfl (fun ls hl => ?_)
            refine lv_iload_n hx hb dX4_readNumber_87 rfl (lv_at hl 1 rfl) ?_
            refine va_gets hx hb hZ.2.2.1 hS hown f84 (fun _ h9 => h9) dX4_readNumber_88 ?_
            refine lv_iload hx hb dX4_readNumber_91 (lv_at hl 0 rfl) ?_
            refine va_ti (v := .int 1) hx hb hZ.2.2.2.1 hS (by unfold vp_in; decide) rfl dX4_readNumber_93 ?_
            refine va_gets hx hb hZ.2.2.2.2.1 hS hown f87 (fun _ h9 => h9) dX4_readNumber_94 ?_
            refine lv_iload hx hb dX4_readNumber_97 (lv_at hl 0 rfl) ?_
            refine va_ti (v := .int 4) hx hb hZ.2.2.2.2.2.1 hS (by unfold vp_in; decide) rfl dX4_readNumber_99 ?_
            refine ky_SNi (As := [.int i_45, .int 1, .int 4]) (rest := []) ⟨hx, hb, hml, hown, hts⟩ ⟨hK, hN⟩ hZ hP hD hS hA [] [0, 1, 2] (wc := []) (wr := [(Rv, .inl (g 0, 21, .inl fval)), (Rd, .inr (4, [.ref Tp, .int (nI ln), .int (nI z_46), .int zfa, .int (nI ht), .int (nI ct), .ref Rv])), (Tp, .inl (g 0, 160, .inl ftp))]) rfl rfl rfl rfl (by decide) (k_X6_outside l D g H.size i_45 1 4) ⟨va_cnB 3 hts ggX4_readNumber_X6_outside rfl rfl rfl hN.2.2.2.2.2.1 iiX6 (by decide +kernel) ⟨(Nat.le_of_ble_eq_true rfl), (Nat.le_of_ble_eq_true rfl)⟩, stX6_outside, trivial⟩ rfl hl.1 rfl (Nat.le_of_ble_eq_true rfl) dX4_readNumber_100 ⟨(Nat.le_of_ble_eq_true rfl), (Nat.le_of_ble_eq_true rfl)⟩ (fun r_99 u H locs hw hP2 hD2 hS2 => ?_)
            clear hP hD hS
            obtain ⟨rfl, rfl⟩ := hw
            have hPD : PD D A [(Rv, .inl (g 0, 21, .inl fval)), (Rd, .inr (4, [.ref Tp, .int (nI ln), .int (nI z_46), .int zfa, .int (nI ht), .int (nI ct), .ref Rv])), (Tp, .inl (g 0, 160, .inl ftp))] H := ⟨hP2, hD2⟩
            have hS := hS2; clear hP2 hD2 hS2; have hP := hPD.1; have hD := hPD.2; clear hPD
            refine W.widen (k := 0) (n := 0) (Nat.le_of_ble_eq_true rfl) (Nat.le_of_ble_eq_true rfl) ?_
            refine lv_if_eq (tgt := 117) hx hb dX4_readNumber_103 (by decide) (fun cb_100 => ?_) (fun cb_100 => ?_)
            · skip
              have hq_101 : ¬ (i_45 < 1 ∨ 4 < i_45) := b01_0.mp cb_100
              have hPq_105 := hP; have hDq_105 := hD; have hSq_105 := hS; have hlq_105 := hl; clear hP hD hS hl
              obtain ⟨j_102, hl_103, hu_104, rfl⟩ := rgo (L := 1) (U := 4) rfl rfl (show 1 < 2 ^ 31 by omega) (show 4 < 2 ^ 31 by omega) hq_101
              have hP := hPq_105; have hD := hDq_105; have hS := hSq_105; have hl := hlq_105; clear hPq_105 hDq_105 hSq_105 hlq_105
              refine lv_aload_n hx hb dX4_readNumber_117 rfl (lv_at hl 2 rfl) ?_
              refine va_get (D := D) (ci := 4) (v := .ref Rv) (C := RX4) (T := TX4) (N := 7) hx hb hts iX4 hown hK hP 1 rfl rfl 6 (by decide) f15 (fun _ h9 => h9) rfl dX4_readNumber_118 ?_
              refine lv_iload_n hx hb dX4_readNumber_121 rfl (lv_at hl 3 rfl) ?_
              refine lv_iconst (v := 3) hx hb dX4_readNumber_122 (by decide) ?_
              refine lv_imul hx hb dX4_readNumber_123 ?_
              refine lv_eqi (y := 0) (by decide) ?_
              refine lv_iload_n hx hb dX4_readNumber_124 rfl (lv_at hl 4 rfl) ?_
              refine lv_iadd hx hb dX4_readNumber_125 ?_
              refine lv_eqi (y := 0) (by decide) ?_
              refine lv_iload_n hx hb dX4_readNumber_126 rfl (lv_at hl 1 rfl) ?_
              refine va_iast hx hb hK hP hD hS 0 0 rfl rfl (by unfold vp_in; decide) dX4_readNumber_127 (fun H locs hP2 hD2 hS2 => ?_)
              clear hP hD hS
              have hPD : PD D A [(Rv, .inl (g 0, 21, .inl (upd fval 0 (nI j_102)))), (Rd, .inr (4, [.ref Tp, .int (nI ln), .int (nI z_46), .int zfa, .int (nI ht), .int (nI ct), .ref Rv])), (Tp, .inl (g 0, 160, .inl ftp))] H := ⟨hP2, hD2⟩
              have hS := hS2; clear hP2 hD2 hS2; have hP := hPD.1; have hD := hPD.2; clear hPD
              have hF_106 : vOK (upd fval 0 (nI j_102)) := vOK_upd (h2) (k := 0) (n := j_102) (Nat.le_trans (show j_102 ≤ 4 by omega) (Nat.le_of_ble_eq_true rfl))
              generalize upd fval 0 (nI j_102) = F_106 at hP hD hF_106
              have hPD9 : PD D A [(Rd, .inr (4, [.ref Tp, .int (nI ln), .int (nI z_46), .int zfa, .int (nI ht), .int (nI ct), .ref Rv])), (Tp, .inl (g 0, 160, .inl ftp)), (Rv, .inl (g 0, 21, .inl F_106))] H := ⟨hP.sub [1, 2, 0] rfl, hD.sub [1, 2, 0] (by decide) rfl⟩
              have hP9 := hPD9.1; have hD9 := hPD9.2
              subst hQ
              refine W.widen (k := 0) (n := 0) (Nat.le_of_ble_eq_true rfl) (Nat.le_of_ble_eq_true rfl) ?_
              exact W.vret hx hb hr (fun tS htS _ => ⟨⟨_, rfl, ⟨z_46, zfa, F_106, rfl, (show z_46 ≤ ln by omega), (hF_106)⟩, by rw [htS]; exact hP9, hD9⟩, hS.F htS⟩) hS.2.2 dX4_readNumber_128
            · skip
              have hq_107 : i_45 < 1 ∨ 4 < i_45 := b01_1.mp cb_100
              refine lv_aload_n hx hb dX4_readNumber_106 rfl (lv_at hl 2 rfl) ?_
              refine lv_aload_n hx hb dX4_readNumber_107 rfl (lv_at hl 2 rfl) ?_
              refine va_get (D := D) (ci := 4) (v := .int (nI z_46)) (C := RX4) (T := TX4) (N := 7) hx hb hts iX4 hown hK hP 1 rfl rfl 2 (by decide) f28 (fun _ h9 => h9) rfl dX4_readNumber_108 ?_
              refine lv_iconst (v := 1) hx hb dX4_readNumber_111 (by decide) ?_
              refine lv_isub hx hb dX4_readNumber_112 ?_
              refine lv_topi (fun y_108 _ => ?_)
              refine va_put (D := D) (ci := 4) (v := .int y_108) (ty := .int) (C := RX4) (T := TX4) (N := 7) hx hb hts iX4 tyX4 tyX4_ok nmX4 hown hK hP hD hS 1 rfl rfl 3 (by decide) f31 (fun _ h9 => h9) rfl (by decide +kernel) (rfl) (rfl) (Nat.le_of_ble_eq_true rfl) dX4_readNumber_113 (fun H locs hP2 hD2 hS2 => ?_)
              clear hP hD hS
              have hPD : PD D A [(Rv, .inl (g 0, 21, .inl fval)), (Rd, .inr (4, [.ref Tp, .int (nI ln), .int (nI z_46), .int y_108, .int (nI ht), .int (nI ct), .ref Rv])), (Tp, .inl (g 0, 160, .inl ftp))] H := ⟨hP2, hD2⟩
              have hS := hS2; clear hP2 hD2 hS2; have hP := hPD.1; have hD := hPD.2; clear hPD
              have hPD9 : PD D A [(Rd, .inr (4, [.ref Tp, .int (nI ln), .int (nI z_46), .int y_108, .int (nI ht), .int (nI ct), .ref Rv])), (Tp, .inl (g 0, 160, .inl ftp)), (Rv, .inl (g 0, 21, .inl fval))] H := ⟨hP.sub [1, 2, 0] rfl, hD.sub [1, 2, 0] (by decide) rfl⟩
              have hP9 := hPD9.1; have hD9 := hPD9.2
              subst hQ
              refine W.widen (k := 0) (n := 0) (Nat.le_of_ble_eq_true rfl) (Nat.le_of_ble_eq_true rfl) ?_
              exact W.vret hx hb hr (fun tS htS _ => ⟨⟨_, rfl, ⟨z_46, y_108, fval, rfl, (show z_46 ≤ ln by omega), (h2)⟩, by rw [htS]; exact hP9, hD9⟩, hS.F htS⟩) hS.2.2 dX4_readNumber_116
          · skip
            have hP := hPq_97; have hD := hDq_97; have hS := hSq_97; have hl := hlq_97; clear hPq_97 hDq_97 hSq_97 hlq_97
            refine ky_Si (As := [.int (nI 0)]) (rest := []) ⟨hx, hb, hml, hown, hts⟩ ⟨hK, hN⟩ hZ hP hD hS hA [] [0, 1, 2] (wc := []) (wr := [(Rv, .inl (g 0, 21, .inl fval)), (Rd, .inr (4, [.ref Tp, .int (nI ln), .int (nI z_46), .int zfa, .int (nI ht), .int (nI ct), .ref Rv])), (Tp, .inl (g 0, 160, .inl ftp))]) rfl rfl rfl rfl (by decide) (k_X4_kindOf_0 l D g H.size) (va_cwS 1 hts gX4_readNumber_X4_kindOf rfl rfl rfl (by decide +kernel) ⟨(Nat.le_of_ble_eq_true rfl), (Nat.le_of_ble_eq_true rfl)⟩) rfl hl.1 rfl (Nat.le_of_ble_eq_true rfl) dX4_readNumber_78 ⟨(Nat.le_of_ble_eq_true rfl), (Nat.le_of_ble_eq_true rfl)⟩ (fun r_109 u H locs hw hP2 hD2 hS2 => ?_)
            clear hP hD hS
            obtain ⟨rfl, rfl⟩ := hw
            have hPD : PD D A [(Rv, .inl (g 0, 21, .inl fval)), (Rd, .inr (4, [.ref Tp, .int (nI ln), .int (nI z_46), .int zfa, .int (nI ht), .int (nI ct), .ref Rv])), (Tp, .inl (g 0, 160, .inl ftp))] H := ⟨hP2, hD2⟩
            have hS := hS2; clear hP2 hD2 hS2; have hP := hPD.1; have hD := hPD.2; clear hPD
            refine W.widen (k := 0) (n := 0) (Nat.le_of_ble_eq_true rfl) (Nat.le_of_ble_eq_true rfl) ?_
            refine lv_iconst (v := 3) hx hb dX4_readNumber_81 (by decide) ?_
            refine lv_imul hx hb dX4_readNumber_82 ?_
            refine lv_eqi (y := 0) (by decide) ?_
            refine lv_iload_n hx hb dX4_readNumber_83 rfl (lv_at hl 3 rfl) ?_
            refine lv_iadd hx hb dX4_readNumber_84 ?_
            refine lv_eqi (y := 1) (by decide) ?_
            refine lv_istore (lv' := [(5, .int 1), (3, .int i_45), (0, .ref Rd), (1, .int (nI 0)), (2, .int (nI 1)), (4, .int i_44)]) hx hb dX4_readNumber_85 hl (by decide) rfl (fun ls hl => ?_)
            refine lv_iload_n hx hb dX4_readNumber_87 rfl (lv_at hl 1 rfl) ?_
            refine va_gets hx hb hZ.2.2.1 hS hown f84 (fun _ h9 => h9) dX4_readNumber_88 ?_
            refine lv_iload hx hb dX4_readNumber_91 (lv_at hl 0 rfl) ?_
            refine va_ti (v := .int 0) hx hb hZ.2.2.2.1 hS (by unfold vp_in; decide) rfl dX4_readNumber_93 ?_
            refine va_gets hx hb hZ.2.2.2.2.1 hS hown f87 (fun _ h9 => h9) dX4_readNumber_94 ?_
            refine lv_iload hx hb dX4_readNumber_97 (lv_at hl 0 rfl) ?_
            refine va_ti (v := .int 20) hx hb hZ.2.2.2.2.2.1 hS (by unfold vp_in; decide) rfl dX4_readNumber_99 ?_
            refine ky_SNi (As := [.int i_45, .int 0, .int 20]) (rest := []) ⟨hx, hb, hml, hown, hts⟩ ⟨hK, hN⟩ hZ hP hD hS hA [] [0, 1, 2] (wc := []) (wr := [(Rv, .inl (g 0, 21, .inl fval)), (Rd, .inr (4, [.ref Tp, .int (nI ln), .int (nI z_46), .int zfa, .int (nI ht), .int (nI ct), .ref Rv])), (Tp, .inl (g 0, 160, .inl ftp))]) rfl rfl rfl rfl (by decide) (k_X6_outside l D g H.size i_45 0 20) ⟨va_cnB 3 hts ggX4_readNumber_X6_outside rfl rfl rfl hN.2.2.2.2.2.1 iiX6 (by decide +kernel) ⟨(Nat.le_of_ble_eq_true rfl), (Nat.le_of_ble_eq_true rfl)⟩, stX6_outside, trivial⟩ rfl hl.1 rfl (Nat.le_of_ble_eq_true rfl) dX4_readNumber_100 ⟨(Nat.le_of_ble_eq_true rfl), (Nat.le_of_ble_eq_true rfl)⟩ (fun r_110 u H locs hw hP2 hD2 hS2 => ?_)
            clear hP hD hS
            obtain ⟨rfl, rfl⟩ := hw
            have hPD : PD D A [(Rv, .inl (g 0, 21, .inl fval)), (Rd, .inr (4, [.ref Tp, .int (nI ln), .int (nI z_46), .int zfa, .int (nI ht), .int (nI ct), .ref Rv])), (Tp, .inl (g 0, 160, .inl ftp))] H := ⟨hP2, hD2⟩
            have hS := hS2; clear hP2 hD2 hS2; have hP := hPD.1; have hD := hPD.2; clear hPD
            refine W.widen (k := 0) (n := 0) (Nat.le_of_ble_eq_true rfl) (Nat.le_of_ble_eq_true rfl) ?_
            refine lv_if_eq (tgt := 117) hx hb dX4_readNumber_103 (by decide) (fun cb_111 => ?_) (fun cb_111 => ?_)
            · skip
              have hq_112 : ¬ (i_45 < 0 ∨ 20 < i_45) := b01_0.mp cb_111
              have hPq_116 := hP; have hDq_116 := hD; have hSq_116 := hS; have hlq_116 := hl; clear hP hD hS hl
              obtain ⟨j_113, hl_114, hu_115, rfl⟩ := rgo (L := 0) (U := 20) rfl rfl (show 0 < 2 ^ 31 by omega) (show 20 < 2 ^ 31 by omega) hq_112
              have hP := hPq_116; have hD := hDq_116; have hS := hSq_116; have hl := hlq_116; clear hPq_116 hDq_116 hSq_116 hlq_116
              refine lv_aload_n hx hb dX4_readNumber_117 rfl (lv_at hl 2 rfl) ?_
              refine va_get (D := D) (ci := 4) (v := .ref Rv) (C := RX4) (T := TX4) (N := 7) hx hb hts iX4 hown hK hP 1 rfl rfl 6 (by decide) f15 (fun _ h9 => h9) rfl dX4_readNumber_118 ?_
              refine lv_iload_n hx hb dX4_readNumber_121 rfl (lv_at hl 3 rfl) ?_
              refine lv_iconst (v := 3) hx hb dX4_readNumber_122 (by decide) ?_
              refine lv_imul hx hb dX4_readNumber_123 ?_
              refine lv_eqi (y := 0) (by decide) ?_
              refine lv_iload_n hx hb dX4_readNumber_124 rfl (lv_at hl 4 rfl) ?_
              refine lv_iadd hx hb dX4_readNumber_125 ?_
              refine lv_eqi (y := 1) (by decide) ?_
              refine lv_iload_n hx hb dX4_readNumber_126 rfl (lv_at hl 1 rfl) ?_
              refine va_iast hx hb hK hP hD hS 0 0 rfl rfl (by unfold vp_in; decide) dX4_readNumber_127 (fun H locs hP2 hD2 hS2 => ?_)
              clear hP hD hS
              have hPD : PD D A [(Rv, .inl (g 0, 21, .inl (upd fval 1 (nI j_113)))), (Rd, .inr (4, [.ref Tp, .int (nI ln), .int (nI z_46), .int zfa, .int (nI ht), .int (nI ct), .ref Rv])), (Tp, .inl (g 0, 160, .inl ftp))] H := ⟨hP2, hD2⟩
              have hS := hS2; clear hP2 hD2 hS2; have hP := hPD.1; have hD := hPD.2; clear hPD
              have hF_117 : vOK (upd fval 1 (nI j_113)) := vOK_upd (h2) (k := 1) (n := j_113) (Nat.le_trans (show j_113 ≤ 20 by omega) (Nat.le_of_ble_eq_true rfl))
              generalize upd fval 1 (nI j_113) = F_117 at hP hD hF_117
              have hPD9 : PD D A [(Rd, .inr (4, [.ref Tp, .int (nI ln), .int (nI z_46), .int zfa, .int (nI ht), .int (nI ct), .ref Rv])), (Tp, .inl (g 0, 160, .inl ftp)), (Rv, .inl (g 0, 21, .inl F_117))] H := ⟨hP.sub [1, 2, 0] rfl, hD.sub [1, 2, 0] (by decide) rfl⟩
              have hP9 := hPD9.1; have hD9 := hPD9.2
              subst hQ
              refine W.widen (k := 0) (n := 0) (Nat.le_of_ble_eq_true rfl) (Nat.le_of_ble_eq_true rfl) ?_
              exact W.vret hx hb hr (fun tS htS _ => ⟨⟨_, rfl, ⟨z_46, zfa, F_117, rfl, (show z_46 ≤ ln by omega), (hF_117)⟩, by rw [htS]; exact hP9, hD9⟩, hS.F htS⟩) hS.2.2 dX4_readNumber_128
            · skip
              have hq_118 : i_45 < 0 ∨ 20 < i_45 := b01_1.mp cb_111
              refine lv_aload_n hx hb dX4_readNumber_106 rfl (lv_at hl 2 rfl) ?_
              refine lv_aload_n hx hb dX4_readNumber_107 rfl (lv_at hl 2 rfl) ?_
              refine va_get (D := D) (ci := 4) (v := .int (nI z_46)) (C := RX4) (T := TX4) (N := 7) hx hb hts iX4 hown hK hP 1 rfl rfl 2 (by decide) f28 (fun _ h9 => h9) rfl dX4_readNumber_108 ?_
              refine lv_iconst (v := 1) hx hb dX4_readNumber_111 (by decide) ?_
              refine lv_isub hx hb dX4_readNumber_112 ?_
              refine lv_topi (fun y_119 _ => ?_)
              refine va_put (D := D) (ci := 4) (v := .int y_119) (ty := .int) (C := RX4) (T := TX4) (N := 7) hx hb hts iX4 tyX4 tyX4_ok nmX4 hown hK hP hD hS 1 rfl rfl 3 (by decide) f31 (fun _ h9 => h9) rfl (by decide +kernel) (rfl) (rfl) (Nat.le_of_ble_eq_true rfl) dX4_readNumber_113 (fun H locs hP2 hD2 hS2 => ?_)
              clear hP hD hS
              have hPD : PD D A [(Rv, .inl (g 0, 21, .inl fval)), (Rd, .inr (4, [.ref Tp, .int (nI ln), .int (nI z_46), .int y_119, .int (nI ht), .int (nI ct), .ref Rv])), (Tp, .inl (g 0, 160, .inl ftp))] H := ⟨hP2, hD2⟩
              have hS := hS2; clear hP2 hD2 hS2; have hP := hPD.1; have hD := hPD.2; clear hPD
              have hPD9 : PD D A [(Rd, .inr (4, [.ref Tp, .int (nI ln), .int (nI z_46), .int y_119, .int (nI ht), .int (nI ct), .ref Rv])), (Tp, .inl (g 0, 160, .inl ftp)), (Rv, .inl (g 0, 21, .inl fval))] H := ⟨hP.sub [1, 2, 0] rfl, hD.sub [1, 2, 0] (by decide) rfl⟩
              have hP9 := hPD9.1; have hD9 := hPD9.2
              subst hQ
              refine W.widen (k := 0) (n := 0) (Nat.le_of_ble_eq_true rfl) (Nat.le_of_ble_eq_true rfl) ?_
              exact W.vret hx hb hr (fun tS htS _ => ⟨⟨_, rfl, ⟨z_46, y_119, fval, rfl, (show z_46 ≤ ln by omega), (h2)⟩, by rw [htS]; exact hP9, hD9⟩, hS.F htS⟩) hS.2.2 dX4_readNumber_116
          · skip
            have hP := hPq_97; have hD := hDq_97; have hS := hSq_97; have hl := hlq_97; clear hPq_97 hDq_97 hSq_97 hlq_97
            refine ky_Si (As := [.int (nI 0)]) (rest := []) ⟨hx, hb, hml, hown, hts⟩ ⟨hK, hN⟩ hZ hP hD hS hA [] [0, 1, 2] (wc := []) (wr := [(Rv, .inl (g 0, 21, .inl fval)), (Rd, .inr (4, [.ref Tp, .int (nI ln), .int (nI z_46), .int zfa, .int (nI ht), .int (nI ct), .ref Rv])), (Tp, .inl (g 0, 160, .inl ftp))]) rfl rfl rfl rfl (by decide) (k_X4_kindOf_0 l D g H.size) (va_cwS 1 hts gX4_readNumber_X4_kindOf rfl rfl rfl (by decide +kernel) ⟨(Nat.le_of_ble_eq_true rfl), (Nat.le_of_ble_eq_true rfl)⟩) rfl hl.1 rfl (Nat.le_of_ble_eq_true rfl) dX4_readNumber_78 ⟨(Nat.le_of_ble_eq_true rfl), (Nat.le_of_ble_eq_true rfl)⟩ (fun r_120 u H locs hw hP2 hD2 hS2 => ?_)
            clear hP hD hS
            obtain ⟨rfl, rfl⟩ := hw
            have hPD : PD D A [(Rv, .inl (g 0, 21, .inl fval)), (Rd, .inr (4, [.ref Tp, .int (nI ln), .int (nI z_46), .int zfa, .int (nI ht), .int (nI ct), .ref Rv])), (Tp, .inl (g 0, 160, .inl ftp))] H := ⟨hP2, hD2⟩
            have hS := hS2; clear hP2 hD2 hS2; have hP := hPD.1; have hD := hPD.2; clear hPD
            refine W.widen (k := 0) (n := 0) (Nat.le_of_ble_eq_true rfl) (Nat.le_of_ble_eq_true rfl) ?_
            refine lv_iconst (v := 3) hx hb dX4_readNumber_81 (by decide) ?_
            refine lv_imul hx hb dX4_readNumber_82 ?_
            refine lv_eqi (y := 0) (by decide) ?_
            refine lv_iload_n hx hb dX4_readNumber_83 rfl (lv_at hl 3 rfl) ?_
            refine lv_iadd hx hb dX4_readNumber_84 ?_
            refine lv_eqi (y := 2) (by decide) ?_
            refine lv_istore (lv' := [(5, .int 2), (3, .int i_45), (0, .ref Rd), (1, .int (nI 0)), (2, .int (nI 2)), (4, .int i_44)]) hx hb dX4_readNumber_85 hl (by decide) rfl (fun ls hl => ?_)
            refine lv_iload_n hx hb dX4_readNumber_87 rfl (lv_at hl 1 rfl) ?_
            refine va_gets hx hb hZ.2.2.1 hS hown f84 (fun _ h9 => h9) dX4_readNumber_88 ?_
            refine lv_iload hx hb dX4_readNumber_91 (lv_at hl 0 rfl) ?_
            refine va_ti (v := .int 0) hx hb hZ.2.2.2.1 hS (by unfold vp_in; decide) rfl dX4_readNumber_93 ?_
            refine va_gets hx hb hZ.2.2.2.2.1 hS hown f87 (fun _ h9 => h9) dX4_readNumber_94 ?_
            refine lv_iload hx hb dX4_readNumber_97 (lv_at hl 0 rfl) ?_
            refine va_ti (v := .int 9) hx hb hZ.2.2.2.2.2.1 hS (by unfold vp_in; decide) rfl dX4_readNumber_99 ?_
            refine ky_SNi (As := [.int i_45, .int 0, .int 9]) (rest := []) ⟨hx, hb, hml, hown, hts⟩ ⟨hK, hN⟩ hZ hP hD hS hA [] [0, 1, 2] (wc := []) (wr := [(Rv, .inl (g 0, 21, .inl fval)), (Rd, .inr (4, [.ref Tp, .int (nI ln), .int (nI z_46), .int zfa, .int (nI ht), .int (nI ct), .ref Rv])), (Tp, .inl (g 0, 160, .inl ftp))]) rfl rfl rfl rfl (by decide) (k_X6_outside l D g H.size i_45 0 9) ⟨va_cnB 3 hts ggX4_readNumber_X6_outside rfl rfl rfl hN.2.2.2.2.2.1 iiX6 (by decide +kernel) ⟨(Nat.le_of_ble_eq_true rfl), (Nat.le_of_ble_eq_true rfl)⟩, stX6_outside, trivial⟩ rfl hl.1 rfl (Nat.le_of_ble_eq_true rfl) dX4_readNumber_100 ⟨(Nat.le_of_ble_eq_true rfl), (Nat.le_of_ble_eq_true rfl)⟩ (fun r_121 u H locs hw hP2 hD2 hS2 => ?_)
            clear hP hD hS
            obtain ⟨rfl, rfl⟩ := hw
            have hPD : PD D A [(Rv, .inl (g 0, 21, .inl fval)), (Rd, .inr (4, [.ref Tp, .int (nI ln), .int (nI z_46), .int zfa, .int (nI ht), .int (nI ct), .ref Rv])), (Tp, .inl (g 0, 160, .inl ftp))] H := ⟨hP2, hD2⟩
            have hS := hS2; clear hP2 hD2 hS2; have hP := hPD.1; have hD := hPD.2; clear hPD
            refine W.widen (k := 0) (n := 0) (Nat.le_of_ble_eq_true rfl) (Nat.le_of_ble_eq_true rfl) ?_
            refine lv_if_eq (tgt := 117) hx hb dX4_readNumber_103 (by decide) (fun cb_122 => ?_) (fun cb_122 => ?_)
            · skip
              have hq_123 : ¬ (i_45 < 0 ∨ 9 < i_45) := b01_0.mp cb_122
              have hPq_127 := hP; have hDq_127 := hD; have hSq_127 := hS; have hlq_127 := hl; clear hP hD hS hl
              obtain ⟨j_124, hl_125, hu_126, rfl⟩ := rgo (L := 0) (U := 9) rfl rfl (show 0 < 2 ^ 31 by omega) (show 9 < 2 ^ 31 by omega) hq_123
              have hP := hPq_127; have hD := hDq_127; have hS := hSq_127; have hl := hlq_127; clear hPq_127 hDq_127 hSq_127 hlq_127
              refine lv_aload_n hx hb dX4_readNumber_117 rfl (lv_at hl 2 rfl) ?_
              refine va_get (D := D) (ci := 4) (v := .ref Rv) (C := RX4) (T := TX4) (N := 7) hx hb hts iX4 hown hK hP 1 rfl rfl 6 (by decide) f15 (fun _ h9 => h9) rfl dX4_readNumber_118 ?_
              refine lv_iload_n hx hb dX4_readNumber_121 rfl (lv_at hl 3 rfl) ?_
              refine lv_iconst (v := 3) hx hb dX4_readNumber_122 (by decide) ?_
              refine lv_imul hx hb dX4_readNumber_123 ?_
              refine lv_eqi (y := 0) (by decide) ?_
              refine lv_iload_n hx hb dX4_readNumber_124 rfl (lv_at hl 4 rfl) ?_
              refine lv_iadd hx hb dX4_readNumber_125 ?_
              refine lv_eqi (y := 2) (by decide) ?_
              refine lv_iload_n hx hb dX4_readNumber_126 rfl (lv_at hl 1 rfl) ?_
              refine va_iast hx hb hK hP hD hS 0 0 rfl rfl (by unfold vp_in; decide) dX4_readNumber_127 (fun H locs hP2 hD2 hS2 => ?_)
              clear hP hD hS
              have hPD : PD D A [(Rv, .inl (g 0, 21, .inl (upd fval 2 (nI j_124)))), (Rd, .inr (4, [.ref Tp, .int (nI ln), .int (nI z_46), .int zfa, .int (nI ht), .int (nI ct), .ref Rv])), (Tp, .inl (g 0, 160, .inl ftp))] H := ⟨hP2, hD2⟩
              have hS := hS2; clear hP2 hD2 hS2; have hP := hPD.1; have hD := hPD.2; clear hPD
              have hF_128 : vOK (upd fval 2 (nI j_124)) := vOK_upd (h2) (k := 2) (n := j_124) (Nat.le_trans (show j_124 ≤ 9 by omega) (Nat.le_of_ble_eq_true rfl))
              generalize upd fval 2 (nI j_124) = F_128 at hP hD hF_128
              have hPD9 : PD D A [(Rd, .inr (4, [.ref Tp, .int (nI ln), .int (nI z_46), .int zfa, .int (nI ht), .int (nI ct), .ref Rv])), (Tp, .inl (g 0, 160, .inl ftp)), (Rv, .inl (g 0, 21, .inl F_128))] H := ⟨hP.sub [1, 2, 0] rfl, hD.sub [1, 2, 0] (by decide) rfl⟩
              have hP9 := hPD9.1; have hD9 := hPD9.2
              subst hQ
              refine W.widen (k := 0) (n := 0) (Nat.le_of_ble_eq_true rfl) (Nat.le_of_ble_eq_true rfl) ?_
              exact W.vret hx hb hr (fun tS htS _ => ⟨⟨_, rfl, ⟨z_46, zfa, F_128, rfl, (show z_46 ≤ ln by omega), (hF_128)⟩, by rw [htS]; exact hP9, hD9⟩, hS.F htS⟩) hS.2.2 dX4_readNumber_128
            · skip
              have hq_129 : i_45 < 0 ∨ 9 < i_45 := b01_1.mp cb_122
              refine lv_aload_n hx hb dX4_readNumber_106 rfl (lv_at hl 2 rfl) ?_
              refine lv_aload_n hx hb dX4_readNumber_107 rfl (lv_at hl 2 rfl) ?_
              refine va_get (D := D) (ci := 4) (v := .int (nI z_46)) (C := RX4) (T := TX4) (N := 7) hx hb hts iX4 hown hK hP 1 rfl rfl 2 (by decide) f28 (fun _ h9 => h9) rfl dX4_readNumber_108 ?_
              refine lv_iconst (v := 1) hx hb dX4_readNumber_111 (by decide) ?_
              refine lv_isub hx hb dX4_readNumber_112 ?_
              refine lv_topi (fun y_130 _ => ?_)
              refine va_put (D := D) (ci := 4) (v := .int y_130) (ty := .int) (C := RX4) (T := TX4) (N := 7) hx hb hts iX4 tyX4 tyX4_ok nmX4 hown hK hP hD hS 1 rfl rfl 3 (by decide) f31 (fun _ h9 => h9) rfl (by decide +kernel) (rfl) (rfl) (Nat.le_of_ble_eq_true rfl) dX4_readNumber_113 (fun H locs hP2 hD2 hS2 => ?_)
              clear hP hD hS
              have hPD : PD D A [(Rv, .inl (g 0, 21, .inl fval)), (Rd, .inr (4, [.ref Tp, .int (nI ln), .int (nI z_46), .int y_130, .int (nI ht), .int (nI ct), .ref Rv])), (Tp, .inl (g 0, 160, .inl ftp))] H := ⟨hP2, hD2⟩
              have hS := hS2; clear hP2 hD2 hS2; have hP := hPD.1; have hD := hPD.2; clear hPD
              have hPD9 : PD D A [(Rd, .inr (4, [.ref Tp, .int (nI ln), .int (nI z_46), .int y_130, .int (nI ht), .int (nI ct), .ref Rv])), (Tp, .inl (g 0, 160, .inl ftp)), (Rv, .inl (g 0, 21, .inl fval))] H := ⟨hP.sub [1, 2, 0] rfl, hD.sub [1, 2, 0] (by decide) rfl⟩
              have hP9 := hPD9.1; have hD9 := hPD9.2
              subst hQ
              refine W.widen (k := 0) (n := 0) (Nat.le_of_ble_eq_true rfl) (Nat.le_of_ble_eq_true rfl) ?_
              exact W.vret hx hb hr (fun tS htS _ => ⟨⟨_, rfl, ⟨z_46, y_130, fval, rfl, (show z_46 ≤ ln by omega), (h2)⟩, by rw [htS]; exact hP9, hD9⟩, hS.F htS⟩) hS.2.2 dX4_readNumber_116
        · skip
          have hP := hPq_96; have hD := hDq_96; have hS := hSq_96; have hl := hlq_96; clear hPq_96 hDq_96 hSq_96 hlq_96
          refine lv_iload_n hx hb dX4_readNumber_77 rfl (lv_at hl 2 rfl) ?_
          have hPq_131 := hP; have hDq_131 := hD; have hSq_131 := hS; have hlq_131 := hl; clear hP hD hS hl
          rcases (show it = 0 ∨ it = 1 ∨ it = 2 by omega) with rfl | rfl | rfl
          · skip
            have hP := hPq_131; have hD := hDq_131; have hS := hSq_131; have hl := hlq_131; clear hPq_131 hDq_131 hSq_131 hlq_131
            refine ky_Si (As := [.int (nI 1)]) (rest := []) ⟨hx, hb, hml, hown, hts⟩ ⟨hK, hN⟩ hZ hP hD hS hA [] [0, 1, 2] (wc := []) (wr := [(Rv, .inl (g 0, 21, .inl fval)), (Rd, .inr (4, [.ref Tp, .int (nI ln), .int (nI z_46), .int zfa, .int (nI ht), .int (nI ct), .ref Rv])), (Tp, .inl (g 0, 160, .inl ftp))]) rfl rfl rfl rfl (by decide) (k_X4_kindOf_1 l D g H.size) (va_cwS 1 hts gX4_readNumber_X4_kindOf rfl rfl rfl (by decide +kernel) ⟨(Nat.le_of_ble_eq_true rfl), (Nat.le_of_ble_eq_true rfl)⟩) rfl hl.1 rfl (Nat.le_of_ble_eq_true rfl) dX4_readNumber_78 ⟨(Nat.le_of_ble_eq_true rfl), (Nat.le_of_ble_eq_true rfl)⟩ (fun r_132 u H locs hw hP2 hD2 hS2 => ?_)
            clear hP hD hS
            obtain ⟨rfl, rfl⟩ := hw
            have hPD : PD D A [(Rv, .inl (g 0, 21, .inl fval)), (Rd, .inr (4, [.ref Tp, .int (nI ln), .int (nI z_46), .int zfa, .int (nI ht), .int (nI ct), .ref Rv])), (Tp, .inl (g 0, 160, .inl ftp))] H := ⟨hP2, hD2⟩
            have hS := hS2; clear hP2 hD2 hS2; have hP := hPD.1; have hD := hPD.2; clear hPD
            refine W.widen (k := 0) (n := 0) (Nat.le_of_ble_eq_true rfl) (Nat.le_of_ble_eq_true rfl) ?_
            refine lv_iconst (v := 3) hx hb dX4_readNumber_81 (by decide) ?_
            refine lv_imul hx hb dX4_readNumber_82 ?_
            refine lv_eqi (y := 3) (by decide) ?_
            refine lv_iload_n hx hb dX4_readNumber_83 rfl (lv_at hl 3 rfl) ?_
            refine lv_iadd hx hb dX4_readNumber_84 ?_
            refine lv_eqi (y := 3) (by decide) ?_
            refine lv_istore (lv' := [(5, .int 3), (3, .int i_45), (0, .ref Rd), (1, .int (nI 1)), (2, .int (nI 0)), (4, .int i_44)]) hx hb dX4_readNumber_85 hl (by decide) rfl (fun ls hl => ?_)
            refine lv_iload_n hx hb dX4_readNumber_87 rfl (lv_at hl 1 rfl) ?_
            refine va_gets hx hb hZ.2.2.1 hS hown f84 (fun _ h9 => h9) dX4_readNumber_88 ?_
            refine lv_iload hx hb dX4_readNumber_91 (lv_at hl 0 rfl) ?_
            refine va_ti (v := .int 1) hx hb hZ.2.2.2.1 hS (by unfold vp_in; decide) rfl dX4_readNumber_93 ?_
            refine va_gets hx hb hZ.2.2.2.2.1 hS hown f87 (fun _ h9 => h9) dX4_readNumber_94 ?_
            refine lv_iload hx hb dX4_readNumber_97 (lv_at hl 0 rfl) ?_
            refine va_ti (v := .int 4) hx hb hZ.2.2.2.2.2.1 hS (by unfold vp_in; decide) rfl dX4_readNumber_99 ?_
            refine ky_SNi (As := [.int i_45, .int 1, .int 4]) (rest := []) ⟨hx, hb, hml, hown, hts⟩ ⟨hK, hN⟩ hZ hP hD hS hA [] [0, 1, 2] (wc := []) (wr := [(Rv, .inl (g 0, 21, .inl fval)), (Rd, .inr (4, [.ref Tp, .int (nI ln), .int (nI z_46), .int zfa, .int (nI ht), .int (nI ct), .ref Rv])), (Tp, .inl (g 0, 160, .inl ftp))]) rfl rfl rfl rfl (by decide) (k_X6_outside l D g H.size i_45 1 4) ⟨va_cnB 3 hts ggX4_readNumber_X6_outside rfl rfl rfl hN.2.2.2.2.2.1 iiX6 (by decide +kernel) ⟨(Nat.le_of_ble_eq_true rfl), (Nat.le_of_ble_eq_true rfl)⟩, stX6_outside, trivial⟩ rfl hl.1 rfl (Nat.le_of_ble_eq_true rfl) dX4_readNumber_100 ⟨(Nat.le_of_ble_eq_true rfl), (Nat.le_of_ble_eq_true rfl)⟩ (fun r_133 u H locs hw hP2 hD2 hS2 => ?_)
            clear hP hD hS
            obtain ⟨rfl, rfl⟩ := hw
            have hPD : PD D A [(Rv, .inl (g 0, 21, .inl fval)), (Rd, .inr (4, [.ref Tp, .int (nI ln), .int (nI z_46), .int zfa, .int (nI ht), .int (nI ct), .ref Rv])), (Tp, .inl (g 0, 160, .inl ftp))] H := ⟨hP2, hD2⟩
            have hS := hS2; clear hP2 hD2 hS2; have hP := hPD.1; have hD := hPD.2; clear hPD
            refine W.widen (k := 0) (n := 0) (Nat.le_of_ble_eq_true rfl) (Nat.le_of_ble_eq_true rfl) ?_
            refine lv_if_eq (tgt := 117) hx hb dX4_readNumber_103 (by decide) (fun cb_134 => ?_) (fun cb_134 => ?_)
            · skip
              have hq_135 : ¬ (i_45 < 1 ∨ 4 < i_45) := b01_0.mp cb_134
              have hPq_139 := hP; have hDq_139 := hD; have hSq_139 := hS; have hlq_139 := hl; clear hP hD hS hl
              obtain ⟨j_136, hl_137, hu_138, rfl⟩ := rgo (L := 1) (U := 4) rfl rfl (show 1 < 2 ^ 31 by omega) (show 4 < 2 ^ 31 by omega) hq_135
              have hP := hPq_139; have hD := hDq_139; have hS := hSq_139; have hl := hlq_139; clear hPq_139 hDq_139 hSq_139 hlq_139
              refine lv_aload_n hx hb dX4_readNumber_117 rfl (lv_at hl 2 rfl) ?_
              refine va_get (D := D) (ci := 4) (v := .ref Rv) (C := RX4) (T := TX4) (N := 7) hx hb hts iX4 hown hK hP 1 rfl rfl 6 (by decide) f15 (fun _ h9 => h9) rfl dX4_readNumber_118 ?_
              refine lv_iload_n hx hb dX4_readNumber_121 rfl (lv_at hl 3 rfl) ?_
              refine lv_iconst (v := 3) hx hb dX4_readNumber_122 (by decide) ?_
              refine lv_imul hx hb dX4_readNumber_123 ?_
              refine lv_eqi (y := 3) (by decide) ?_
              refine lv_iload_n hx hb dX4_readNumber_124 rfl (lv_at hl 4 rfl) ?_
              refine lv_iadd hx hb dX4_readNumber_125 ?_
              refine lv_eqi (y := 3) (by decide) ?_
              refine lv_iload_n hx hb dX4_readNumber_126 rfl (lv_at hl 1 rfl) ?_
              refine va_iast hx hb hK hP hD hS 0 0 rfl rfl (by unfold vp_in; decide) dX4_readNumber_127 (fun H locs hP2 hD2 hS2 => ?_)
              clear hP hD hS
              have hPD : PD D A [(Rv, .inl (g 0, 21, .inl (upd fval 3 (nI j_136)))), (Rd, .inr (4, [.ref Tp, .int (nI ln), .int (nI z_46), .int zfa, .int (nI ht), .int (nI ct), .ref Rv])), (Tp, .inl (g 0, 160, .inl ftp))] H := ⟨hP2, hD2⟩
              have hS := hS2; clear hP2 hD2 hS2; have hP := hPD.1; have hD := hPD.2; clear hPD
              have hF_140 : vOK (upd fval 3 (nI j_136)) := vOK_upd (h2) (k := 3) (n := j_136) (Nat.le_trans (show j_136 ≤ 4 by omega) (Nat.le_of_ble_eq_true rfl))
              generalize upd fval 3 (nI j_136) = F_140 at hP hD hF_140
              have hPD9 : PD D A [(Rd, .inr (4, [.ref Tp, .int (nI ln), .int (nI z_46), .int zfa, .int (nI ht), .int (nI ct), .ref Rv])), (Tp, .inl (g 0, 160, .inl ftp)), (Rv, .inl (g 0, 21, .inl F_140))] H := ⟨hP.sub [1, 2, 0] rfl, hD.sub [1, 2, 0] (by decide) rfl⟩
              have hP9 := hPD9.1; have hD9 := hPD9.2
              subst hQ
              refine W.widen (k := 0) (n := 0) (Nat.le_of_ble_eq_true rfl) (Nat.le_of_ble_eq_true rfl) ?_
              exact W.vret hx hb hr (fun tS htS _ => ⟨⟨_, rfl, ⟨z_46, zfa, F_140, rfl, (show z_46 ≤ ln by omega), (hF_140)⟩, by rw [htS]; exact hP9, hD9⟩, hS.F htS⟩) hS.2.2 dX4_readNumber_128
            · skip
              have hq_141 : i_45 < 1 ∨ 4 < i_45 := b01_1.mp cb_134
              refine lv_aload_n hx hb dX4_readNumber_106 rfl (lv_at hl 2 rfl) ?_
              refine lv_aload_n hx hb dX4_readNumber_107 rfl (lv_at hl 2 rfl) ?_
              refine va_get (D := D) (ci := 4) (v := .int (nI z_46)) (C := RX4) (T := TX4) (N := 7) hx hb hts iX4 hown hK hP 1 rfl rfl 2 (by decide) f28 (fun _ h9 => h9) rfl dX4_readNumber_108 ?_
              refine lv_iconst (v := 1) hx hb dX4_readNumber_111 (by decide) ?_
              refine lv_isub hx hb dX4_readNumber_112 ?_
              refine lv_topi (fun y_142 _ => ?_)
              refine va_put (D := D) (ci := 4) (v := .int y_142) (ty := .int) (C := RX4) (T := TX4) (N := 7) hx hb hts iX4 tyX4 tyX4_ok nmX4 hown hK hP hD hS 1 rfl rfl 3 (by decide) f31 (fun _ h9 => h9) rfl (by decide +kernel) (rfl) (rfl) (Nat.le_of_ble_eq_true rfl) dX4_readNumber_113 (fun H locs hP2 hD2 hS2 => ?_)
              clear hP hD hS
              have hPD : PD D A [(Rv, .inl (g 0, 21, .inl fval)), (Rd, .inr (4, [.ref Tp, .int (nI ln), .int (nI z_46), .int y_142, .int (nI ht), .int (nI ct), .ref Rv])), (Tp, .inl (g 0, 160, .inl ftp))] H := ⟨hP2, hD2⟩
              have hS := hS2; clear hP2 hD2 hS2; have hP := hPD.1; have hD := hPD.2; clear hPD
              have hPD9 : PD D A [(Rd, .inr (4, [.ref Tp, .int (nI ln), .int (nI z_46), .int y_142, .int (nI ht), .int (nI ct), .ref Rv])), (Tp, .inl (g 0, 160, .inl ftp)), (Rv, .inl (g 0, 21, .inl fval))] H := ⟨hP.sub [1, 2, 0] rfl, hD.sub [1, 2, 0] (by decide) rfl⟩
              have hP9 := hPD9.1; have hD9 := hPD9.2
              subst hQ
              refine W.widen (k := 0) (n := 0) (Nat.le_of_ble_eq_true rfl) (Nat.le_of_ble_eq_true rfl) ?_
              exact W.vret hx hb hr (fun tS htS _ => ⟨⟨_, rfl, ⟨z_46, y_142, fval, rfl, (show z_46 ≤ ln by omega), (h2)⟩, by rw [htS]; exact hP9, hD9⟩, hS.F htS⟩) hS.2.2 dX4_readNumber_116
          · skip
            have hP := hPq_131; have hD := hDq_131; have hS := hSq_131; have hl := hlq_131; clear hPq_131 hDq_131 hSq_131 hlq_131
            refine ky_Si (As := [.int (nI 1)]) (rest := []) ⟨hx, hb, hml, hown, hts⟩ ⟨hK, hN⟩ hZ hP hD hS hA [] [0, 1, 2] (wc := []) (wr := [(Rv, .inl (g 0, 21, .inl fval)), (Rd, .inr (4, [.ref Tp, .int (nI ln), .int (nI z_46), .int zfa, .int (nI ht), .int (nI ct), .ref Rv])), (Tp, .inl (g 0, 160, .inl ftp))]) rfl rfl rfl rfl (by decide) (k_X4_kindOf_1 l D g H.size) (va_cwS 1 hts gX4_readNumber_X4_kindOf rfl rfl rfl (by decide +kernel) ⟨(Nat.le_of_ble_eq_true rfl), (Nat.le_of_ble_eq_true rfl)⟩) rfl hl.1 rfl (Nat.le_of_ble_eq_true rfl) dX4_readNumber_78 ⟨(Nat.le_of_ble_eq_true rfl), (Nat.le_of_ble_eq_true rfl)⟩ (fun r_143 u H locs hw hP2 hD2 hS2 => ?_)
            clear hP hD hS
            obtain ⟨rfl, rfl⟩ := hw
            have hPD : PD D A [(Rv, .inl (g 0, 21, .inl fval)), (Rd, .inr (4, [.ref Tp, .int (nI ln), .int (nI z_46), .int zfa, .int (nI ht), .int (nI ct), .ref Rv])), (Tp, .inl (g 0, 160, .inl ftp))] H := ⟨hP2, hD2⟩
            have hS := hS2; clear hP2 hD2 hS2; have hP := hPD.1; have hD := hPD.2; clear hPD
            refine W.widen (k := 0) (n := 0) (Nat.le_of_ble_eq_true rfl) (Nat.le_of_ble_eq_true rfl) ?_
            refine lv_iconst (v := 3) hx hb dX4_readNumber_81 (by decide) ?_
            refine lv_imul hx hb dX4_readNumber_82 ?_
            refine lv_eqi (y := 3) (by decide) ?_
            refine lv_iload_n hx hb dX4_readNumber_83 rfl (lv_at hl 3 rfl) ?_
            refine lv_iadd hx hb dX4_readNumber_84 ?_
            refine lv_eqi (y := 4) (by decide) ?_
            refine lv_istore (lv' := [(5, .int 4), (3, .int i_45), (0, .ref Rd), (1, .int (nI 1)), (2, .int (nI 1)), (4, .int i_44)]) hx hb dX4_readNumber_85 hl (by decide) rfl (fun ls hl => ?_)
            refine lv_iload_n hx hb dX4_readNumber_87 rfl (lv_at hl 1 rfl) ?_
            refine va_gets hx hb hZ.2.2.1 hS hown f84 (fun _ h9 => h9) dX4_readNumber_88 ?_
            refine lv_iload hx hb dX4_readNumber_91 (lv_at hl 0 rfl) ?_
            refine va_ti (v := .int 1) hx hb hZ.2.2.2.1 hS (by unfold vp_in; decide) rfl dX4_readNumber_93 ?_
            refine va_gets hx hb hZ.2.2.2.2.1 hS hown f87 (fun _ h9 => h9) dX4_readNumber_94 ?_
            refine lv_iload hx hb dX4_readNumber_97 (lv_at hl 0 rfl) ?_
            refine va_ti (v := .int 30) hx hb hZ.2.2.2.2.2.1 hS (by unfold vp_in; decide) rfl dX4_readNumber_99 ?_
            refine ky_SNi (As := [.int i_45, .int 1, .int 30]) (rest := []) ⟨hx, hb, hml, hown, hts⟩ ⟨hK, hN⟩ hZ hP hD hS hA [] [0, 1, 2] (wc := []) (wr := [(Rv, .inl (g 0, 21, .inl fval)), (Rd, .inr (4, [.ref Tp, .int (nI ln), .int (nI z_46), .int zfa, .int (nI ht), .int (nI ct), .ref Rv])), (Tp, .inl (g 0, 160, .inl ftp))]) rfl rfl rfl rfl (by decide) (k_X6_outside l D g H.size i_45 1 30) ⟨va_cnB 3 hts ggX4_readNumber_X6_outside rfl rfl rfl hN.2.2.2.2.2.1 iiX6 (by decide +kernel) ⟨(Nat.le_of_ble_eq_true rfl), (Nat.le_of_ble_eq_true rfl)⟩, stX6_outside, trivial⟩ rfl hl.1 rfl (Nat.le_of_ble_eq_true rfl) dX4_readNumber_100 ⟨(Nat.le_of_ble_eq_true rfl), (Nat.le_of_ble_eq_true rfl)⟩ (fun r_144 u H locs hw hP2 hD2 hS2 => ?_)
            clear hP hD hS
            obtain ⟨rfl, rfl⟩ := hw
            have hPD : PD D A [(Rv, .inl (g 0, 21, .inl fval)), (Rd, .inr (4, [.ref Tp, .int (nI ln), .int (nI z_46), .int zfa, .int (nI ht), .int (nI ct), .ref Rv])), (Tp, .inl (g 0, 160, .inl ftp))] H := ⟨hP2, hD2⟩
            have hS := hS2; clear hP2 hD2 hS2; have hP := hPD.1; have hD := hPD.2; clear hPD
            refine W.widen (k := 0) (n := 0) (Nat.le_of_ble_eq_true rfl) (Nat.le_of_ble_eq_true rfl) ?_
            refine lv_if_eq (tgt := 117) hx hb dX4_readNumber_103 (by decide) (fun cb_145 => ?_) (fun cb_145 => ?_)
            · skip
              have hq_146 : ¬ (i_45 < 1 ∨ 30 < i_45) := b01_0.mp cb_145
              have hPq_150 := hP; have hDq_150 := hD; have hSq_150 := hS; have hlq_150 := hl; clear hP hD hS hl
              obtain ⟨j_147, hl_148, hu_149, rfl⟩ := rgo (L := 1) (U := 30) rfl rfl (show 1 < 2 ^ 31 by omega) (show 30 < 2 ^ 31 by omega) hq_146
              have hP := hPq_150; have hD := hDq_150; have hS := hSq_150; have hl := hlq_150; clear hPq_150 hDq_150 hSq_150 hlq_150
              refine lv_aload_n hx hb dX4_readNumber_117 rfl (lv_at hl 2 rfl) ?_
              refine va_get (D := D) (ci := 4) (v := .ref Rv) (C := RX4) (T := TX4) (N := 7) hx hb hts iX4 hown hK hP 1 rfl rfl 6 (by decide) f15 (fun _ h9 => h9) rfl dX4_readNumber_118 ?_
              refine lv_iload_n hx hb dX4_readNumber_121 rfl (lv_at hl 3 rfl) ?_
              refine lv_iconst (v := 3) hx hb dX4_readNumber_122 (by decide) ?_
              refine lv_imul hx hb dX4_readNumber_123 ?_
              refine lv_eqi (y := 3) (by decide) ?_
              refine lv_iload_n hx hb dX4_readNumber_124 rfl (lv_at hl 4 rfl) ?_
              refine lv_iadd hx hb dX4_readNumber_125 ?_
              refine lv_eqi (y := 4) (by decide) ?_
              refine lv_iload_n hx hb dX4_readNumber_126 rfl (lv_at hl 1 rfl) ?_
              refine va_iast hx hb hK hP hD hS 0 0 rfl rfl (by unfold vp_in; decide) dX4_readNumber_127 (fun H locs hP2 hD2 hS2 => ?_)
              clear hP hD hS
              have hPD : PD D A [(Rv, .inl (g 0, 21, .inl (upd fval 4 (nI j_147)))), (Rd, .inr (4, [.ref Tp, .int (nI ln), .int (nI z_46), .int zfa, .int (nI ht), .int (nI ct), .ref Rv])), (Tp, .inl (g 0, 160, .inl ftp))] H := ⟨hP2, hD2⟩
              have hS := hS2; clear hP2 hD2 hS2; have hP := hPD.1; have hD := hPD.2; clear hPD
              have hF_151 : vOK (upd fval 4 (nI j_147)) := vOK_upd (h2) (k := 4) (n := j_147) (Nat.le_trans (show j_147 ≤ 30 by omega) (Nat.le_of_ble_eq_true rfl))
              generalize upd fval 4 (nI j_147) = F_151 at hP hD hF_151
              have hPD9 : PD D A [(Rd, .inr (4, [.ref Tp, .int (nI ln), .int (nI z_46), .int zfa, .int (nI ht), .int (nI ct), .ref Rv])), (Tp, .inl (g 0, 160, .inl ftp)), (Rv, .inl (g 0, 21, .inl F_151))] H := ⟨hP.sub [1, 2, 0] rfl, hD.sub [1, 2, 0] (by decide) rfl⟩
              have hP9 := hPD9.1; have hD9 := hPD9.2
              subst hQ
              refine W.widen (k := 0) (n := 0) (Nat.le_of_ble_eq_true rfl) (Nat.le_of_ble_eq_true rfl) ?_
              exact W.vret hx hb hr (fun tS htS _ => ⟨⟨_, rfl, ⟨z_46, zfa, F_151, rfl, (show z_46 ≤ ln by omega), (hF_151)⟩, by rw [htS]; exact hP9, hD9⟩, hS.F htS⟩) hS.2.2 dX4_readNumber_128
            · skip
              have hq_152 : i_45 < 1 ∨ 30 < i_45 := b01_1.mp cb_145
              refine lv_aload_n hx hb dX4_readNumber_106 rfl (lv_at hl 2 rfl) ?_
              refine lv_aload_n hx hb dX4_readNumber_107 rfl (lv_at hl 2 rfl) ?_
              refine va_get (D := D) (ci := 4) (v := .int (nI z_46)) (C := RX4) (T := TX4) (N := 7) hx hb hts iX4 hown hK hP 1 rfl rfl 2 (by decide) f28 (fun _ h9 => h9) rfl dX4_readNumber_108 ?_
              refine lv_iconst (v := 1) hx hb dX4_readNumber_111 (by decide) ?_
              refine lv_isub hx hb dX4_readNumber_112 ?_
              refine lv_topi (fun y_153 _ => ?_)
              refine va_put (D := D) (ci := 4) (v := .int y_153) (ty := .int) (C := RX4) (T := TX4) (N := 7) hx hb hts iX4 tyX4 tyX4_ok nmX4 hown hK hP hD hS 1 rfl rfl 3 (by decide) f31 (fun _ h9 => h9) rfl (by decide +kernel) (rfl) (rfl) (Nat.le_of_ble_eq_true rfl) dX4_readNumber_113 (fun H locs hP2 hD2 hS2 => ?_)
              clear hP hD hS
              have hPD : PD D A [(Rv, .inl (g 0, 21, .inl fval)), (Rd, .inr (4, [.ref Tp, .int (nI ln), .int (nI z_46), .int y_153, .int (nI ht), .int (nI ct), .ref Rv])), (Tp, .inl (g 0, 160, .inl ftp))] H := ⟨hP2, hD2⟩
              have hS := hS2; clear hP2 hD2 hS2; have hP := hPD.1; have hD := hPD.2; clear hPD
              have hPD9 : PD D A [(Rd, .inr (4, [.ref Tp, .int (nI ln), .int (nI z_46), .int y_153, .int (nI ht), .int (nI ct), .ref Rv])), (Tp, .inl (g 0, 160, .inl ftp)), (Rv, .inl (g 0, 21, .inl fval))] H := ⟨hP.sub [1, 2, 0] rfl, hD.sub [1, 2, 0] (by decide) rfl⟩
              have hP9 := hPD9.1; have hD9 := hPD9.2
              subst hQ
              refine W.widen (k := 0) (n := 0) (Nat.le_of_ble_eq_true rfl) (Nat.le_of_ble_eq_true rfl) ?_
              exact W.vret hx hb hr (fun tS htS _ => ⟨⟨_, rfl, ⟨z_46, y_153, fval, rfl, (show z_46 ≤ ln by omega), (h2)⟩, by rw [htS]; exact hP9, hD9⟩, hS.F htS⟩) hS.2.2 dX4_readNumber_116
          · skip
            have hP := hPq_131; have hD := hDq_131; have hS := hSq_131; have hl := hlq_131; clear hPq_131 hDq_131 hSq_131 hlq_131
            refine ky_Si (As := [.int (nI 1)]) (rest := []) ⟨hx, hb, hml, hown, hts⟩ ⟨hK, hN⟩ hZ hP hD hS hA [] [0, 1, 2] (wc := []) (wr := [(Rv, .inl (g 0, 21, .inl fval)), (Rd, .inr (4, [.ref Tp, .int (nI ln), .int (nI z_46), .int zfa, .int (nI ht), .int (nI ct), .ref Rv])), (Tp, .inl (g 0, 160, .inl ftp))]) rfl rfl rfl rfl (by decide) (k_X4_kindOf_1 l D g H.size) (va_cwS 1 hts gX4_readNumber_X4_kindOf rfl rfl rfl (by decide +kernel) ⟨(Nat.le_of_ble_eq_true rfl), (Nat.le_of_ble_eq_true rfl)⟩) rfl hl.1 rfl (Nat.le_of_ble_eq_true rfl) dX4_readNumber_78 ⟨(Nat.le_of_ble_eq_true rfl), (Nat.le_of_ble_eq_true rfl)⟩ (fun r_154 u H locs hw hP2 hD2 hS2 => ?_)
            clear hP hD hS
            obtain ⟨rfl, rfl⟩ := hw
            have hPD : PD D A [(Rv, .inl (g 0, 21, .inl fval)), (Rd, .inr (4, [.ref Tp, .int (nI ln), .int (nI z_46), .int zfa, .int (nI ht), .int (nI ct), .ref Rv])), (Tp, .inl (g 0, 160, .inl ftp))] H := ⟨hP2, hD2⟩
            have hS := hS2; clear hP2 hD2 hS2; have hP := hPD.1; have hD := hPD.2; clear hPD
            refine W.widen (k := 0) (n := 0) (Nat.le_of_ble_eq_true rfl) (Nat.le_of_ble_eq_true rfl) ?_
            refine lv_iconst (v := 3) hx hb dX4_readNumber_81 (by decide) ?_
            refine lv_imul hx hb dX4_readNumber_82 ?_
            refine lv_eqi (y := 3) (by decide) ?_
            refine lv_iload_n hx hb dX4_readNumber_83 rfl (lv_at hl 3 rfl) ?_
            refine lv_iadd hx hb dX4_readNumber_84 ?_
            refine lv_eqi (y := 5) (by decide) ?_
            refine lv_istore (lv' := [(5, .int 5), (3, .int i_45), (0, .ref Rd), (1, .int (nI 1)), (2, .int (nI 2)), (4, .int i_44)]) hx hb dX4_readNumber_85 hl (by decide) rfl (fun ls hl => ?_)
            refine lv_iload_n hx hb dX4_readNumber_87 rfl (lv_at hl 1 rfl) ?_
            refine va_gets hx hb hZ.2.2.1 hS hown f84 (fun _ h9 => h9) dX4_readNumber_88 ?_
            refine lv_iload hx hb dX4_readNumber_91 (lv_at hl 0 rfl) ?_
            refine va_ti (v := .int 1) hx hb hZ.2.2.2.1 hS (by unfold vp_in; decide) rfl dX4_readNumber_93 ?_
            refine va_gets hx hb hZ.2.2.2.2.1 hS hown f87 (fun _ h9 => h9) dX4_readNumber_94 ?_
            refine lv_iload hx hb dX4_readNumber_97 (lv_at hl 0 rfl) ?_
            refine va_ti (v := .int 4) hx hb hZ.2.2.2.2.2.1 hS (by unfold vp_in; decide) rfl dX4_readNumber_99 ?_
            refine ky_SNi (As := [.int i_45, .int 1, .int 4]) (rest := []) ⟨hx, hb, hml, hown, hts⟩ ⟨hK, hN⟩ hZ hP hD hS hA [] [0, 1, 2] (wc := []) (wr := [(Rv, .inl (g 0, 21, .inl fval)), (Rd, .inr (4, [.ref Tp, .int (nI ln), .int (nI z_46), .int zfa, .int (nI ht), .int (nI ct), .ref Rv])), (Tp, .inl (g 0, 160, .inl ftp))]) rfl rfl rfl rfl (by decide) (k_X6_outside l D g H.size i_45 1 4) ⟨va_cnB 3 hts ggX4_readNumber_X6_outside rfl rfl rfl hN.2.2.2.2.2.1 iiX6 (by decide +kernel) ⟨(Nat.le_of_ble_eq_true rfl), (Nat.le_of_ble_eq_true rfl)⟩, stX6_outside, trivial⟩ rfl hl.1 rfl (Nat.le_of_ble_eq_true rfl) dX4_readNumber_100 ⟨(Nat.le_of_ble_eq_true rfl), (Nat.le_of_ble_eq_true rfl)⟩ (fun r_155 u H locs hw hP2 hD2 hS2 => ?_)
            clear hP hD hS
            obtain ⟨rfl, rfl⟩ := hw
            have hPD : PD D A [(Rv, .inl (g 0, 21, .inl fval)), (Rd, .inr (4, [.ref Tp, .int (nI ln), .int (nI z_46), .int zfa, .int (nI ht), .int (nI ct), .ref Rv])), (Tp, .inl (g 0, 160, .inl ftp))] H := ⟨hP2, hD2⟩
            have hS := hS2; clear hP2 hD2 hS2; have hP := hPD.1; have hD := hPD.2; clear hPD
            refine W.widen (k := 0) (n := 0) (Nat.le_of_ble_eq_true rfl) (Nat.le_of_ble_eq_true rfl) ?_
            refine lv_if_eq (tgt := 117) hx hb dX4_readNumber_103 (by decide) (fun cb_156 => ?_) (fun cb_156 => ?_)
            · skip
              have hq_157 : ¬ (i_45 < 1 ∨ 4 < i_45) := b01_0.mp cb_156
              have hPq_161 := hP; have hDq_161 := hD; have hSq_161 := hS; have hlq_161 := hl; clear hP hD hS hl
              obtain ⟨j_158, hl_159, hu_160, rfl⟩ := rgo (L := 1) (U := 4) rfl rfl (show 1 < 2 ^ 31 by omega) (show 4 < 2 ^ 31 by omega) hq_157
              have hP := hPq_161; have hD := hDq_161; have hS := hSq_161; have hl := hlq_161; clear hPq_161 hDq_161 hSq_161 hlq_161
              refine lv_aload_n hx hb dX4_readNumber_117 rfl (lv_at hl 2 rfl) ?_
              refine va_get (D := D) (ci := 4) (v := .ref Rv) (C := RX4) (T := TX4) (N := 7) hx hb hts iX4 hown hK hP 1 rfl rfl 6 (by decide) f15 (fun _ h9 => h9) rfl dX4_readNumber_118 ?_
              refine lv_iload_n hx hb dX4_readNumber_121 rfl (lv_at hl 3 rfl) ?_
              refine lv_iconst (v := 3) hx hb dX4_readNumber_122 (by decide) ?_
              refine lv_imul hx hb dX4_readNumber_123 ?_
              refine lv_eqi (y := 3) (by decide) ?_
              refine lv_iload_n hx hb dX4_readNumber_124 rfl (lv_at hl 4 rfl) ?_
              refine lv_iadd hx hb dX4_readNumber_125 ?_
              refine lv_eqi (y := 5) (by decide) ?_
              refine lv_iload_n hx hb dX4_readNumber_126 rfl (lv_at hl 1 rfl) ?_
              refine va_iast hx hb hK hP hD hS 0 0 rfl rfl (by unfold vp_in; decide) dX4_readNumber_127 (fun H locs hP2 hD2 hS2 => ?_)
              clear hP hD hS
              have hPD : PD D A [(Rv, .inl (g 0, 21, .inl (upd fval 5 (nI j_158)))), (Rd, .inr (4, [.ref Tp, .int (nI ln), .int (nI z_46), .int zfa, .int (nI ht), .int (nI ct), .ref Rv])), (Tp, .inl (g 0, 160, .inl ftp))] H := ⟨hP2, hD2⟩
              have hS := hS2; clear hP2 hD2 hS2; have hP := hPD.1; have hD := hPD.2; clear hPD
              have hF_162 : vOK (upd fval 5 (nI j_158)) := vOK_upd (h2) (k := 5) (n := j_158) (Nat.le_trans (show j_158 ≤ 4 by omega) (Nat.le_of_ble_eq_true rfl))
              generalize upd fval 5 (nI j_158) = F_162 at hP hD hF_162
              have hPD9 : PD D A [(Rd, .inr (4, [.ref Tp, .int (nI ln), .int (nI z_46), .int zfa, .int (nI ht), .int (nI ct), .ref Rv])), (Tp, .inl (g 0, 160, .inl ftp)), (Rv, .inl (g 0, 21, .inl F_162))] H := ⟨hP.sub [1, 2, 0] rfl, hD.sub [1, 2, 0] (by decide) rfl⟩
              have hP9 := hPD9.1; have hD9 := hPD9.2
              subst hQ
              refine W.widen (k := 0) (n := 0) (Nat.le_of_ble_eq_true rfl) (Nat.le_of_ble_eq_true rfl) ?_
              exact W.vret hx hb hr (fun tS htS _ => ⟨⟨_, rfl, ⟨z_46, zfa, F_162, rfl, (show z_46 ≤ ln by omega), (hF_162)⟩, by rw [htS]; exact hP9, hD9⟩, hS.F htS⟩) hS.2.2 dX4_readNumber_128
            · skip
              have hq_163 : i_45 < 1 ∨ 4 < i_45 := b01_1.mp cb_156
              refine lv_aload_n hx hb dX4_readNumber_106 rfl (lv_at hl 2 rfl) ?_
              refine lv_aload_n hx hb dX4_readNumber_107 rfl (lv_at hl 2 rfl) ?_
              refine va_get (D := D) (ci := 4) (v := .int (nI z_46)) (C := RX4) (T := TX4) (N := 7) hx hb hts iX4 hown hK hP 1 rfl rfl 2 (by decide) f28 (fun _ h9 => h9) rfl dX4_readNumber_108 ?_
              refine lv_iconst (v := 1) hx hb dX4_readNumber_111 (by decide) ?_
              refine lv_isub hx hb dX4_readNumber_112 ?_
              refine lv_topi (fun y_164 _ => ?_)
              refine va_put (D := D) (ci := 4) (v := .int y_164) (ty := .int) (C := RX4) (T := TX4) (N := 7) hx hb hts iX4 tyX4 tyX4_ok nmX4 hown hK hP hD hS 1 rfl rfl 3 (by decide) f31 (fun _ h9 => h9) rfl (by decide +kernel) (rfl) (rfl) (Nat.le_of_ble_eq_true rfl) dX4_readNumber_113 (fun H locs hP2 hD2 hS2 => ?_)
              clear hP hD hS
              have hPD : PD D A [(Rv, .inl (g 0, 21, .inl fval)), (Rd, .inr (4, [.ref Tp, .int (nI ln), .int (nI z_46), .int y_164, .int (nI ht), .int (nI ct), .ref Rv])), (Tp, .inl (g 0, 160, .inl ftp))] H := ⟨hP2, hD2⟩
              have hS := hS2; clear hP2 hD2 hS2; have hP := hPD.1; have hD := hPD.2; clear hPD
              have hPD9 : PD D A [(Rd, .inr (4, [.ref Tp, .int (nI ln), .int (nI z_46), .int y_164, .int (nI ht), .int (nI ct), .ref Rv])), (Tp, .inl (g 0, 160, .inl ftp)), (Rv, .inl (g 0, 21, .inl fval))] H := ⟨hP.sub [1, 2, 0] rfl, hD.sub [1, 2, 0] (by decide) rfl⟩
              have hP9 := hPD9.1; have hD9 := hPD9.2
              subst hQ
              refine W.widen (k := 0) (n := 0) (Nat.le_of_ble_eq_true rfl) (Nat.le_of_ble_eq_true rfl) ?_
              exact W.vret hx hb hr (fun tS htS _ => ⟨⟨_, rfl, ⟨z_46, y_164, fval, rfl, (show z_46 ≤ ln by omega), (h2)⟩, by rw [htS]; exact hP9, hD9⟩, hS.F htS⟩) hS.2.2 dX4_readNumber_116
        · skip
          have hP := hPq_96; have hD := hDq_96; have hS := hSq_96; have hl := hlq_96; clear hPq_96 hDq_96 hSq_96 hlq_96
          refine lv_iload_n hx hb dX4_readNumber_77 rfl (lv_at hl 2 rfl) ?_
          have hPq_165 := hP; have hDq_165 := hD; have hSq_165 := hS; have hlq_165 := hl; clear hP hD hS hl
          rcases (show it = 0 ∨ it = 1 ∨ it = 2 by omega) with rfl | rfl | rfl
          · skip
            have hP := hPq_165; have hD := hDq_165; have hS := hSq_165; have hl := hlq_165; clear hPq_165 hDq_165 hSq_165 hlq_165
            refine ky_Si (As := [.int (nI 2)]) (rest := []) ⟨hx, hb, hml, hown, hts⟩ ⟨hK, hN⟩ hZ hP hD hS hA [] [0, 1, 2] (wc := []) (wr := [(Rv, .inl (g 0, 21, .inl fval)), (Rd, .inr (4, [.ref Tp, .int (nI ln), .int (nI z_46), .int zfa, .int (nI ht), .int (nI ct), .ref Rv])), (Tp, .inl (g 0, 160, .inl ftp))]) rfl rfl rfl rfl (by decide) (k_X4_kindOf_2 l D g H.size) (va_cwS 1 hts gX4_readNumber_X4_kindOf rfl rfl rfl (by decide +kernel) ⟨(Nat.le_of_ble_eq_true rfl), (Nat.le_of_ble_eq_true rfl)⟩) rfl hl.1 rfl (Nat.le_of_ble_eq_true rfl) dX4_readNumber_78 ⟨(Nat.le_of_ble_eq_true rfl), (Nat.le_of_ble_eq_true rfl)⟩ (fun r_166 u H locs hw hP2 hD2 hS2 => ?_)
            clear hP hD hS
            obtain ⟨rfl, rfl⟩ := hw
            have hPD : PD D A [(Rv, .inl (g 0, 21, .inl fval)), (Rd, .inr (4, [.ref Tp, .int (nI ln), .int (nI z_46), .int zfa, .int (nI ht), .int (nI ct), .ref Rv])), (Tp, .inl (g 0, 160, .inl ftp))] H := ⟨hP2, hD2⟩
            have hS := hS2; clear hP2 hD2 hS2; have hP := hPD.1; have hD := hPD.2; clear hPD
            refine W.widen (k := 0) (n := 0) (Nat.le_of_ble_eq_true rfl) (Nat.le_of_ble_eq_true rfl) ?_
            refine lv_iconst (v := 3) hx hb dX4_readNumber_81 (by decide) ?_
            refine lv_imul hx hb dX4_readNumber_82 ?_
            refine lv_eqi (y := 3) (by decide) ?_
            refine lv_iload_n hx hb dX4_readNumber_83 rfl (lv_at hl 3 rfl) ?_
            refine lv_iadd hx hb dX4_readNumber_84 ?_
            refine lv_eqi (y := 3) (by decide) ?_
            refine lv_istore (lv' := [(5, .int 3), (3, .int i_45), (0, .ref Rd), (1, .int (nI 2)), (2, .int (nI 0)), (4, .int i_44)]) hx hb dX4_readNumber_85 hl (by decide) rfl (fun ls hl => ?_)
            refine lv_iload_n hx hb dX4_readNumber_87 rfl (lv_at hl 1 rfl) ?_
            refine va_gets hx hb hZ.2.2.1 hS hown f84 (fun _ h9 => h9) dX4_readNumber_88 ?_
            refine lv_iload hx hb dX4_readNumber_91 (lv_at hl 0 rfl) ?_
            refine va_ti (v := .int 1) hx hb hZ.2.2.2.1 hS (by unfold vp_in; decide) rfl dX4_readNumber_93 ?_
            refine va_gets hx hb hZ.2.2.2.2.1 hS hown f87 (fun _ h9 => h9) dX4_readNumber_94 ?_
            refine lv_iload hx hb dX4_readNumber_97 (lv_at hl 0 rfl) ?_
            refine va_ti (v := .int 4) hx hb hZ.2.2.2.2.2.1 hS (by unfold vp_in; decide) rfl dX4_readNumber_99 ?_
            refine ky_SNi (As := [.int i_45, .int 1, .int 4]) (rest := []) ⟨hx, hb, hml, hown, hts⟩ ⟨hK, hN⟩ hZ hP hD hS hA [] [0, 1, 2] (wc := []) (wr := [(Rv, .inl (g 0, 21, .inl fval)), (Rd, .inr (4, [.ref Tp, .int (nI ln), .int (nI z_46), .int zfa, .int (nI ht), .int (nI ct), .ref Rv])), (Tp, .inl (g 0, 160, .inl ftp))]) rfl rfl rfl rfl (by decide) (k_X6_outside l D g H.size i_45 1 4) ⟨va_cnB 3 hts ggX4_readNumber_X6_outside rfl rfl rfl hN.2.2.2.2.2.1 iiX6 (by decide +kernel) ⟨(Nat.le_of_ble_eq_true rfl), (Nat.le_of_ble_eq_true rfl)⟩, stX6_outside, trivial⟩ rfl hl.1 rfl (Nat.le_of_ble_eq_true rfl) dX4_readNumber_100 ⟨(Nat.le_of_ble_eq_true rfl), (Nat.le_of_ble_eq_true rfl)⟩ (fun r_167 u H locs hw hP2 hD2 hS2 => ?_)
            clear hP hD hS
            obtain ⟨rfl, rfl⟩ := hw
            have hPD : PD D A [(Rv, .inl (g 0, 21, .inl fval)), (Rd, .inr (4, [.ref Tp, .int (nI ln), .int (nI z_46), .int zfa, .int (nI ht), .int (nI ct), .ref Rv])), (Tp, .inl (g 0, 160, .inl ftp))] H := ⟨hP2, hD2⟩
            have hS := hS2; clear hP2 hD2 hS2; have hP := hPD.1; have hD := hPD.2; clear hPD
            refine W.widen (k := 0) (n := 0) (Nat.le_of_ble_eq_true rfl) (Nat.le_of_ble_eq_true rfl) ?_
            refine lv_if_eq (tgt := 117) hx hb dX4_readNumber_103 (by decide) (fun cb_168 => ?_) (fun cb_168 => ?_)
            · skip
              have hq_169 : ¬ (i_45 < 1 ∨ 4 < i_45) := b01_0.mp cb_168
              have hPq_173 := hP; have hDq_173 := hD; have hSq_173 := hS; have hlq_173 := hl; clear hP hD hS hl
              obtain ⟨j_170, hl_171, hu_172, rfl⟩ := rgo (L := 1) (U := 4) rfl rfl (show 1 < 2 ^ 31 by omega) (show 4 < 2 ^ 31 by omega) hq_169
              have hP := hPq_173; have hD := hDq_173; have hS := hSq_173; have hl := hlq_173; clear hPq_173 hDq_173 hSq_173 hlq_173
              refine lv_aload_n hx hb dX4_readNumber_117 rfl (lv_at hl 2 rfl) ?_
              refine va_get (D := D) (ci := 4) (v := .ref Rv) (C := RX4) (T := TX4) (N := 7) hx hb hts iX4 hown hK hP 1 rfl rfl 6 (by decide) f15 (fun _ h9 => h9) rfl dX4_readNumber_118 ?_
              refine lv_iload_n hx hb dX4_readNumber_121 rfl (lv_at hl 3 rfl) ?_
              refine lv_iconst (v := 3) hx hb dX4_readNumber_122 (by decide) ?_
              refine lv_imul hx hb dX4_readNumber_123 ?_
              refine lv_eqi (y := 6) (by decide) ?_
              refine lv_iload_n hx hb dX4_readNumber_124 rfl (lv_at hl 4 rfl) ?_
              refine lv_iadd hx hb dX4_readNumber_125 ?_
              refine lv_eqi (y := 6) (by decide) ?_
              refine lv_iload_n hx hb dX4_readNumber_126 rfl (lv_at hl 1 rfl) ?_
              refine va_iast hx hb hK hP hD hS 0 0 rfl rfl (by unfold vp_in; decide) dX4_readNumber_127 (fun H locs hP2 hD2 hS2 => ?_)
              clear hP hD hS
              have hPD : PD D A [(Rv, .inl (g 0, 21, .inl (upd fval 6 (nI j_170)))), (Rd, .inr (4, [.ref Tp, .int (nI ln), .int (nI z_46), .int zfa, .int (nI ht), .int (nI ct), .ref Rv])), (Tp, .inl (g 0, 160, .inl ftp))] H := ⟨hP2, hD2⟩
              have hS := hS2; clear hP2 hD2 hS2; have hP := hPD.1; have hD := hPD.2; clear hPD
              have hF_174 : vOK (upd fval 6 (nI j_170)) := vOK_upd (h2) (k := 6) (n := j_170) (Nat.le_trans (show j_170 ≤ 4 by omega) (Nat.le_of_ble_eq_true rfl))
              generalize upd fval 6 (nI j_170) = F_174 at hP hD hF_174
              have hPD9 : PD D A [(Rd, .inr (4, [.ref Tp, .int (nI ln), .int (nI z_46), .int zfa, .int (nI ht), .int (nI ct), .ref Rv])), (Tp, .inl (g 0, 160, .inl ftp)), (Rv, .inl (g 0, 21, .inl F_174))] H := ⟨hP.sub [1, 2, 0] rfl, hD.sub [1, 2, 0] (by decide) rfl⟩
              have hP9 := hPD9.1; have hD9 := hPD9.2
              subst hQ
              refine W.widen (k := 0) (n := 0) (Nat.le_of_ble_eq_true rfl) (Nat.le_of_ble_eq_true rfl) ?_
              exact W.vret hx hb hr (fun tS htS _ => ⟨⟨_, rfl, ⟨z_46, zfa, F_174, rfl, (show z_46 ≤ ln by omega), (hF_174)⟩, by rw [htS]; exact hP9, hD9⟩, hS.F htS⟩) hS.2.2 dX4_readNumber_128
            · skip
              have hq_175 : i_45 < 1 ∨ 4 < i_45 := b01_1.mp cb_168
              refine lv_aload_n hx hb dX4_readNumber_106 rfl (lv_at hl 2 rfl) ?_
              refine lv_aload_n hx hb dX4_readNumber_107 rfl (lv_at hl 2 rfl) ?_
              refine va_get (D := D) (ci := 4) (v := .int (nI z_46)) (C := RX4) (T := TX4) (N := 7) hx hb hts iX4 hown hK hP 1 rfl rfl 2 (by decide) f28 (fun _ h9 => h9) rfl dX4_readNumber_108 ?_
              refine lv_iconst (v := 1) hx hb dX4_readNumber_111 (by decide) ?_
              refine lv_isub hx hb dX4_readNumber_112 ?_
              refine lv_topi (fun y_176 _ => ?_)
              refine va_put (D := D) (ci := 4) (v := .int y_176) (ty := .int) (C := RX4) (T := TX4) (N := 7) hx hb hts iX4 tyX4 tyX4_ok nmX4 hown hK hP hD hS 1 rfl rfl 3 (by decide) f31 (fun _ h9 => h9) rfl (by decide +kernel) (rfl) (rfl) (Nat.le_of_ble_eq_true rfl) dX4_readNumber_113 (fun H locs hP2 hD2 hS2 => ?_)
              clear hP hD hS
              have hPD : PD D A [(Rv, .inl (g 0, 21, .inl fval)), (Rd, .inr (4, [.ref Tp, .int (nI ln), .int (nI z_46), .int y_176, .int (nI ht), .int (nI ct), .ref Rv])), (Tp, .inl (g 0, 160, .inl ftp))] H := ⟨hP2, hD2⟩
              have hS := hS2; clear hP2 hD2 hS2; have hP := hPD.1; have hD := hPD.2; clear hPD
              have hPD9 : PD D A [(Rd, .inr (4, [.ref Tp, .int (nI ln), .int (nI z_46), .int y_176, .int (nI ht), .int (nI ct), .ref Rv])), (Tp, .inl (g 0, 160, .inl ftp)), (Rv, .inl (g 0, 21, .inl fval))] H := ⟨hP.sub [1, 2, 0] rfl, hD.sub [1, 2, 0] (by decide) rfl⟩
              have hP9 := hPD9.1; have hD9 := hPD9.2
              subst hQ
              refine W.widen (k := 0) (n := 0) (Nat.le_of_ble_eq_true rfl) (Nat.le_of_ble_eq_true rfl) ?_
              exact W.vret hx hb hr (fun tS htS _ => ⟨⟨_, rfl, ⟨z_46, y_176, fval, rfl, (show z_46 ≤ ln by omega), (h2)⟩, by rw [htS]; exact hP9, hD9⟩, hS.F htS⟩) hS.2.2 dX4_readNumber_116
          · skip
            have hP := hPq_165; have hD := hDq_165; have hS := hSq_165; have hl := hlq_165; clear hPq_165 hDq_165 hSq_165 hlq_165
            refine ky_Si (As := [.int (nI 2)]) (rest := []) ⟨hx, hb, hml, hown, hts⟩ ⟨hK, hN⟩ hZ hP hD hS hA [] [0, 1, 2] (wc := []) (wr := [(Rv, .inl (g 0, 21, .inl fval)), (Rd, .inr (4, [.ref Tp, .int (nI ln), .int (nI z_46), .int zfa, .int (nI ht), .int (nI ct), .ref Rv])), (Tp, .inl (g 0, 160, .inl ftp))]) rfl rfl rfl rfl (by decide) (k_X4_kindOf_2 l D g H.size) (va_cwS 1 hts gX4_readNumber_X4_kindOf rfl rfl rfl (by decide +kernel) ⟨(Nat.le_of_ble_eq_true rfl), (Nat.le_of_ble_eq_true rfl)⟩) rfl hl.1 rfl (Nat.le_of_ble_eq_true rfl) dX4_readNumber_78 ⟨(Nat.le_of_ble_eq_true rfl), (Nat.le_of_ble_eq_true rfl)⟩ (fun r_177 u H locs hw hP2 hD2 hS2 => ?_)
            clear hP hD hS
            obtain ⟨rfl, rfl⟩ := hw
            have hPD : PD D A [(Rv, .inl (g 0, 21, .inl fval)), (Rd, .inr (4, [.ref Tp, .int (nI ln), .int (nI z_46), .int zfa, .int (nI ht), .int (nI ct), .ref Rv])), (Tp, .inl (g 0, 160, .inl ftp))] H := ⟨hP2, hD2⟩
            have hS := hS2; clear hP2 hD2 hS2; have hP := hPD.1; have hD := hPD.2; clear hPD
            refine W.widen (k := 0) (n := 0) (Nat.le_of_ble_eq_true rfl) (Nat.le_of_ble_eq_true rfl) ?_
            refine lv_iconst (v := 3) hx hb dX4_readNumber_81 (by decide) ?_
            refine lv_imul hx hb dX4_readNumber_82 ?_
            refine lv_eqi (y := 3) (by decide) ?_
            refine lv_iload_n hx hb dX4_readNumber_83 rfl (lv_at hl 3 rfl) ?_
            refine lv_iadd hx hb dX4_readNumber_84 ?_
            refine lv_eqi (y := 4) (by decide) ?_
            refine lv_istore (lv' := [(5, .int 4), (3, .int i_45), (0, .ref Rd), (1, .int (nI 2)), (2, .int (nI 1)), (4, .int i_44)]) hx hb dX4_readNumber_85 hl (by decide) rfl (fun ls hl => ?_)
            refine lv_iload_n hx hb dX4_readNumber_87 rfl (lv_at hl 1 rfl) ?_
            refine va_gets hx hb hZ.2.2.1 hS hown f84 (fun _ h9 => h9) dX4_readNumber_88 ?_
            refine lv_iload hx hb dX4_readNumber_91 (lv_at hl 0 rfl) ?_
            refine va_ti (v := .int 1) hx hb hZ.2.2.2.1 hS (by unfold vp_in; decide) rfl dX4_readNumber_93 ?_
            refine va_gets hx hb hZ.2.2.2.2.1 hS hown f87 (fun _ h9 => h9) dX4_readNumber_94 ?_
            refine lv_iload hx hb dX4_readNumber_97 (lv_at hl 0 rfl) ?_
            refine va_ti (v := .int 30) hx hb hZ.2.2.2.2.2.1 hS (by unfold vp_in; decide) rfl dX4_readNumber_99 ?_
            refine ky_SNi (As := [.int i_45, .int 1, .int 30]) (rest := []) ⟨hx, hb, hml, hown, hts⟩ ⟨hK, hN⟩ hZ hP hD hS hA [] [0, 1, 2] (wc := []) (wr := [(Rv, .inl (g 0, 21, .inl fval)), (Rd, .inr (4, [.ref Tp, .int (nI ln), .int (nI z_46), .int zfa, .int (nI ht), .int (nI ct), .ref Rv])), (Tp, .inl (g 0, 160, .inl ftp))]) rfl rfl rfl rfl (by decide) (k_X6_outside l D g H.size i_45 1 30) ⟨va_cnB 3 hts ggX4_readNumber_X6_outside rfl rfl rfl hN.2.2.2.2.2.1 iiX6 (by decide +kernel) ⟨(Nat.le_of_ble_eq_true rfl), (Nat.le_of_ble_eq_true rfl)⟩, stX6_outside, trivial⟩ rfl hl.1 rfl (Nat.le_of_ble_eq_true rfl) dX4_readNumber_100 ⟨(Nat.le_of_ble_eq_true rfl), (Nat.le_of_ble_eq_true rfl)⟩ (fun r_178 u H locs hw hP2 hD2 hS2 => ?_)
            clear hP hD hS
            obtain ⟨rfl, rfl⟩ := hw
            have hPD : PD D A [(Rv, .inl (g 0, 21, .inl fval)), (Rd, .inr (4, [.ref Tp, .int (nI ln), .int (nI z_46), .int zfa, .int (nI ht), .int (nI ct), .ref Rv])), (Tp, .inl (g 0, 160, .inl ftp))] H := ⟨hP2, hD2⟩
            have hS := hS2; clear hP2 hD2 hS2; have hP := hPD.1; have hD := hPD.2; clear hPD
            refine W.widen (k := 0) (n := 0) (Nat.le_of_ble_eq_true rfl) (Nat.le_of_ble_eq_true rfl) ?_
            refine lv_if_eq (tgt := 117) hx hb dX4_readNumber_103 (by decide) (fun cb_179 => ?_) (fun cb_179 => ?_)
            · skip
              have hq_180 : ¬ (i_45 < 1 ∨ 30 < i_45) := b01_0.mp cb_179
              have hPq_184 := hP; have hDq_184 := hD; have hSq_184 := hS; have hlq_184 := hl; clear hP hD hS hl
              obtain ⟨j_181, hl_182, hu_183, rfl⟩ := rgo (L := 1) (U := 30) rfl rfl (show 1 < 2 ^ 31 by omega) (show 30 < 2 ^ 31 by omega) hq_180
              have hP := hPq_184; have hD := hDq_184; have hS := hSq_184; have hl := hlq_184; clear hPq_184 hDq_184 hSq_184 hlq_184
              refine lv_aload_n hx hb dX4_readNumber_117 rfl (lv_at hl 2 rfl) ?_
              refine va_get (D := D) (ci := 4) (v := .ref Rv) (C := RX4) (T := TX4) (N := 7) hx hb hts iX4 hown hK hP 1 rfl rfl 6 (by decide) f15 (fun _ h9 => h9) rfl dX4_readNumber_118 ?_
              refine lv_iload_n hx hb dX4_readNumber_121 rfl (lv_at hl 3 rfl) ?_
              refine lv_iconst (v := 3) hx hb dX4_readNumber_122 (by decide) ?_
              refine lv_imul hx hb dX4_readNumber_123 ?_
              refine lv_eqi (y := 6) (by decide) ?_
              refine lv_iload_n hx hb dX4_readNumber_124 rfl (lv_at hl 4 rfl) ?_
              refine lv_iadd hx hb dX4_readNumber_125 ?_
              refine lv_eqi (y := 7) (by decide) ?_
              refine lv_iload_n hx hb dX4_readNumber_126 rfl (lv_at hl 1 rfl) ?_
              refine va_iast hx hb hK hP hD hS 0 0 rfl rfl (by unfold vp_in; decide) dX4_readNumber_127 (fun H locs hP2 hD2 hS2 => ?_)
              clear hP hD hS
              have hPD : PD D A [(Rv, .inl (g 0, 21, .inl (upd fval 7 (nI j_181)))), (Rd, .inr (4, [.ref Tp, .int (nI ln), .int (nI z_46), .int zfa, .int (nI ht), .int (nI ct), .ref Rv])), (Tp, .inl (g 0, 160, .inl ftp))] H := ⟨hP2, hD2⟩
              have hS := hS2; clear hP2 hD2 hS2; have hP := hPD.1; have hD := hPD.2; clear hPD
              have hF_185 : vOK (upd fval 7 (nI j_181)) := vOK_upd (h2) (k := 7) (n := j_181) (Nat.le_trans (show j_181 ≤ 30 by omega) (Nat.le_of_ble_eq_true rfl))
              generalize upd fval 7 (nI j_181) = F_185 at hP hD hF_185
              have hPD9 : PD D A [(Rd, .inr (4, [.ref Tp, .int (nI ln), .int (nI z_46), .int zfa, .int (nI ht), .int (nI ct), .ref Rv])), (Tp, .inl (g 0, 160, .inl ftp)), (Rv, .inl (g 0, 21, .inl F_185))] H := ⟨hP.sub [1, 2, 0] rfl, hD.sub [1, 2, 0] (by decide) rfl⟩
              have hP9 := hPD9.1; have hD9 := hPD9.2
              subst hQ
              refine W.widen (k := 0) (n := 0) (Nat.le_of_ble_eq_true rfl) (Nat.le_of_ble_eq_true rfl) ?_
              exact W.vret hx hb hr (fun tS htS _ => ⟨⟨_, rfl, ⟨z_46, zfa, F_185, rfl, (show z_46 ≤ ln by omega), (hF_185)⟩, by rw [htS]; exact hP9, hD9⟩, hS.F htS⟩) hS.2.2 dX4_readNumber_128
            · skip
              have hq_186 : i_45 < 1 ∨ 30 < i_45 := b01_1.mp cb_179
              refine lv_aload_n hx hb dX4_readNumber_106 rfl (lv_at hl 2 rfl) ?_
              refine lv_aload_n hx hb dX4_readNumber_107 rfl (lv_at hl 2 rfl) ?_
              refine va_get (D := D) (ci := 4) (v := .int (nI z_46)) (C := RX4) (T := TX4) (N := 7) hx hb hts iX4 hown hK hP 1 rfl rfl 2 (by decide) f28 (fun _ h9 => h9) rfl dX4_readNumber_108 ?_
              refine lv_iconst (v := 1) hx hb dX4_readNumber_111 (by decide) ?_
              refine lv_isub hx hb dX4_readNumber_112 ?_
              refine lv_topi (fun y_187 _ => ?_)
              refine va_put (D := D) (ci := 4) (v := .int y_187) (ty := .int) (C := RX4) (T := TX4) (N := 7) hx hb hts iX4 tyX4 tyX4_ok nmX4 hown hK hP hD hS 1 rfl rfl 3 (by decide) f31 (fun _ h9 => h9) rfl (by decide +kernel) (rfl) (rfl) (Nat.le_of_ble_eq_true rfl) dX4_readNumber_113 (fun H locs hP2 hD2 hS2 => ?_)
              clear hP hD hS
              have hPD : PD D A [(Rv, .inl (g 0, 21, .inl fval)), (Rd, .inr (4, [.ref Tp, .int (nI ln), .int (nI z_46), .int y_187, .int (nI ht), .int (nI ct), .ref Rv])), (Tp, .inl (g 0, 160, .inl ftp))] H := ⟨hP2, hD2⟩
              have hS := hS2; clear hP2 hD2 hS2; have hP := hPD.1; have hD := hPD.2; clear hPD
              have hPD9 : PD D A [(Rd, .inr (4, [.ref Tp, .int (nI ln), .int (nI z_46), .int y_187, .int (nI ht), .int (nI ct), .ref Rv])), (Tp, .inl (g 0, 160, .inl ftp)), (Rv, .inl (g 0, 21, .inl fval))] H := ⟨hP.sub [1, 2, 0] rfl, hD.sub [1, 2, 0] (by decide) rfl⟩
              have hP9 := hPD9.1; have hD9 := hPD9.2
              subst hQ
              refine W.widen (k := 0) (n := 0) (Nat.le_of_ble_eq_true rfl) (Nat.le_of_ble_eq_true rfl) ?_
              exact W.vret hx hb hr (fun tS htS _ => ⟨⟨_, rfl, ⟨z_46, y_187, fval, rfl, (show z_46 ≤ ln by omega), (h2)⟩, by rw [htS]; exact hP9, hD9⟩, hS.F htS⟩) hS.2.2 dX4_readNumber_116
          · skip
            have hP := hPq_165; have hD := hDq_165; have hS := hSq_165; have hl := hlq_165; clear hPq_165 hDq_165 hSq_165 hlq_165
            refine ky_Si (As := [.int (nI 2)]) (rest := []) ⟨hx, hb, hml, hown, hts⟩ ⟨hK, hN⟩ hZ hP hD hS hA [] [0, 1, 2] (wc := []) (wr := [(Rv, .inl (g 0, 21, .inl fval)), (Rd, .inr (4, [.ref Tp, .int (nI ln), .int (nI z_46), .int zfa, .int (nI ht), .int (nI ct), .ref Rv])), (Tp, .inl (g 0, 160, .inl ftp))]) rfl rfl rfl rfl (by decide) (k_X4_kindOf_2 l D g H.size) (va_cwS 1 hts gX4_readNumber_X4_kindOf rfl rfl rfl (by decide +kernel) ⟨(Nat.le_of_ble_eq_true rfl), (Nat.le_of_ble_eq_true rfl)⟩) rfl hl.1 rfl (Nat.le_of_ble_eq_true rfl) dX4_readNumber_78 ⟨(Nat.le_of_ble_eq_true rfl), (Nat.le_of_ble_eq_true rfl)⟩ (fun r_188 u H locs hw hP2 hD2 hS2 => ?_)
            clear hP hD hS
            obtain ⟨rfl, rfl⟩ := hw
            have hPD : PD D A [(Rv, .inl (g 0, 21, .inl fval)), (Rd, .inr (4, [.ref Tp, .int (nI ln), .int (nI z_46), .int zfa, .int (nI ht), .int (nI ct), .ref Rv])), (Tp, .inl (g 0, 160, .inl ftp))] H := ⟨hP2, hD2⟩
            have hS := hS2; clear hP2 hD2 hS2; have hP := hPD.1; have hD := hPD.2; clear hPD
            refine W.widen (k := 0) (n := 0) (Nat.le_of_ble_eq_true rfl) (Nat.le_of_ble_eq_true rfl) ?_
            refine lv_iconst (v := 3) hx hb dX4_readNumber_81 (by decide) ?_
            refine lv_imul hx hb dX4_readNumber_82 ?_
            refine lv_eqi (y := 3) (by decide) ?_
            refine lv_iload_n hx hb dX4_readNumber_83 rfl (lv_at hl 3 rfl) ?_
            refine lv_iadd hx hb dX4_readNumber_84 ?_
            refine lv_eqi (y := 5) (by decide) ?_
            refine lv_istore (lv' := [(5, .int 5), (3, .int i_45), (0, .ref Rd), (1, .int (nI 2)), (2, .int (nI 2)), (4, .int i_44)]) hx hb dX4_readNumber_85 hl (by decide) rfl (fun ls hl => ?_)
            refine lv_iload_n hx hb dX4_readNumber_87 rfl (lv_at hl 1 rfl) ?_
            refine va_gets hx hb hZ.2.2.1 hS hown f84 (fun _ h9 => h9) dX4_readNumber_88 ?_
            refine lv_iload hx hb dX4_readNumber_91 (lv_at hl 0 rfl) ?_
            refine va_ti (v := .int 1) hx hb hZ.2.2.2.1 hS (by unfold vp_in; decide) rfl dX4_readNumber_93 ?_
            refine va_gets hx hb hZ.2.2.2.2.1 hS hown f87 (fun _ h9 => h9) dX4_readNumber_94 ?_
            refine lv_iload hx hb dX4_readNumber_97 (lv_at hl 0 rfl) ?_
            refine va_ti (v := .int 4) hx hb hZ.2.2.2.2.2.1 hS (by unfold vp_in; decide) rfl dX4_readNumber_99 ?_
            refine ky_SNi (As := [.int i_45, .int 1, .int 4]) (rest := []) ⟨hx, hb, hml, hown, hts⟩ ⟨hK, hN⟩ hZ hP hD hS hA [] [0, 1, 2] (wc := []) (wr := [(Rv, .inl (g 0, 21, .inl fval)), (Rd, .inr (4, [.ref Tp, .int (nI ln), .int (nI z_46), .int zfa, .int (nI ht), .int (nI ct), .ref Rv])), (Tp, .inl (g 0, 160, .inl ftp))]) rfl rfl rfl rfl (by decide) (k_X6_outside l D g H.size i_45 1 4) ⟨va_cnB 3 hts ggX4_readNumber_X6_outside rfl rfl rfl hN.2.2.2.2.2.1 iiX6 (by decide +kernel) ⟨(Nat.le_of_ble_eq_true rfl), (Nat.le_of_ble_eq_true rfl)⟩, stX6_outside, trivial⟩ rfl hl.1 rfl (Nat.le_of_ble_eq_true rfl) dX4_readNumber_100 ⟨(Nat.le_of_ble_eq_true rfl), (Nat.le_of_ble_eq_true rfl)⟩ (fun r_189 u H locs hw hP2 hD2 hS2 => ?_)
            clear hP hD hS
            obtain ⟨rfl, rfl⟩ := hw
            have hPD : PD D A [(Rv, .inl (g 0, 21, .inl fval)), (Rd, .inr (4, [.ref Tp, .int (nI ln), .int (nI z_46), .int zfa, .int (nI ht), .int (nI ct), .ref Rv])), (Tp, .inl (g 0, 160, .inl ftp))] H := ⟨hP2, hD2⟩
            have hS := hS2; clear hP2 hD2 hS2; have hP := hPD.1; have hD := hPD.2; clear hPD
            refine W.widen (k := 0) (n := 0) (Nat.le_of_ble_eq_true rfl) (Nat.le_of_ble_eq_true rfl) ?_
            refine lv_if_eq (tgt := 117) hx hb dX4_readNumber_103 (by decide) (fun cb_190 => ?_) (fun cb_190 => ?_)
            · skip
              have hq_191 : ¬ (i_45 < 1 ∨ 4 < i_45) := b01_0.mp cb_190
              have hPq_195 := hP; have hDq_195 := hD; have hSq_195 := hS; have hlq_195 := hl; clear hP hD hS hl
              obtain ⟨j_192, hl_193, hu_194, rfl⟩ := rgo (L := 1) (U := 4) rfl rfl (show 1 < 2 ^ 31 by omega) (show 4 < 2 ^ 31 by omega) hq_191
              have hP := hPq_195; have hD := hDq_195; have hS := hSq_195; have hl := hlq_195; clear hPq_195 hDq_195 hSq_195 hlq_195
              refine lv_aload_n hx hb dX4_readNumber_117 rfl (lv_at hl 2 rfl) ?_
              refine va_get (D := D) (ci := 4) (v := .ref Rv) (C := RX4) (T := TX4) (N := 7) hx hb hts iX4 hown hK hP 1 rfl rfl 6 (by decide) f15 (fun _ h9 => h9) rfl dX4_readNumber_118 ?_
              refine lv_iload_n hx hb dX4_readNumber_121 rfl (lv_at hl 3 rfl) ?_
              refine lv_iconst (v := 3) hx hb dX4_readNumber_122 (by decide) ?_
              refine lv_imul hx hb dX4_readNumber_123 ?_
              refine lv_eqi (y := 6) (by decide) ?_
              refine lv_iload_n hx hb dX4_readNumber_124 rfl (lv_at hl 4 rfl) ?_
              refine lv_iadd hx hb dX4_readNumber_125 ?_
              refine lv_eqi (y := 8) (by decide) ?_
              refine lv_iload_n hx hb dX4_readNumber_126 rfl (lv_at hl 1 rfl) ?_
              refine va_iast hx hb hK hP hD hS 0 0 rfl rfl (by unfold vp_in; decide) dX4_readNumber_127 (fun H locs hP2 hD2 hS2 => ?_)
              clear hP hD hS
              have hPD : PD D A [(Rv, .inl (g 0, 21, .inl (upd fval 8 (nI j_192)))), (Rd, .inr (4, [.ref Tp, .int (nI ln), .int (nI z_46), .int zfa, .int (nI ht), .int (nI ct), .ref Rv])), (Tp, .inl (g 0, 160, .inl ftp))] H := ⟨hP2, hD2⟩
              have hS := hS2; clear hP2 hD2 hS2; have hP := hPD.1; have hD := hPD.2; clear hPD
              have hF_196 : vOK (upd fval 8 (nI j_192)) := vOK_upd (h2) (k := 8) (n := j_192) (Nat.le_trans (show j_192 ≤ 4 by omega) (Nat.le_of_ble_eq_true rfl))
              generalize upd fval 8 (nI j_192) = F_196 at hP hD hF_196
              have hPD9 : PD D A [(Rd, .inr (4, [.ref Tp, .int (nI ln), .int (nI z_46), .int zfa, .int (nI ht), .int (nI ct), .ref Rv])), (Tp, .inl (g 0, 160, .inl ftp)), (Rv, .inl (g 0, 21, .inl F_196))] H := ⟨hP.sub [1, 2, 0] rfl, hD.sub [1, 2, 0] (by decide) rfl⟩
              have hP9 := hPD9.1; have hD9 := hPD9.2
              subst hQ
              refine W.widen (k := 0) (n := 0) (Nat.le_of_ble_eq_true rfl) (Nat.le_of_ble_eq_true rfl) ?_
              exact W.vret hx hb hr (fun tS htS _ => ⟨⟨_, rfl, ⟨z_46, zfa, F_196, rfl, (show z_46 ≤ ln by omega), (hF_196)⟩, by rw [htS]; exact hP9, hD9⟩, hS.F htS⟩) hS.2.2 dX4_readNumber_128
            · skip
              have hq_197 : i_45 < 1 ∨ 4 < i_45 := b01_1.mp cb_190
              refine lv_aload_n hx hb dX4_readNumber_106 rfl (lv_at hl 2 rfl) ?_
              refine lv_aload_n hx hb dX4_readNumber_107 rfl (lv_at hl 2 rfl) ?_
              refine va_get (D := D) (ci := 4) (v := .int (nI z_46)) (C := RX4) (T := TX4) (N := 7) hx hb hts iX4 hown hK hP 1 rfl rfl 2 (by decide) f28 (fun _ h9 => h9) rfl dX4_readNumber_108 ?_
              refine lv_iconst (v := 1) hx hb dX4_readNumber_111 (by decide) ?_
              refine lv_isub hx hb dX4_readNumber_112 ?_
              refine lv_topi (fun y_198 _ => ?_)
              refine va_put (D := D) (ci := 4) (v := .int y_198) (ty := .int) (C := RX4) (T := TX4) (N := 7) hx hb hts iX4 tyX4 tyX4_ok nmX4 hown hK hP hD hS 1 rfl rfl 3 (by decide) f31 (fun _ h9 => h9) rfl (by decide +kernel) (rfl) (rfl) (Nat.le_of_ble_eq_true rfl) dX4_readNumber_113 (fun H locs hP2 hD2 hS2 => ?_)
              clear hP hD hS
              have hPD : PD D A [(Rv, .inl (g 0, 21, .inl fval)), (Rd, .inr (4, [.ref Tp, .int (nI ln), .int (nI z_46), .int y_198, .int (nI ht), .int (nI ct), .ref Rv])), (Tp, .inl (g 0, 160, .inl ftp))] H := ⟨hP2, hD2⟩
              have hS := hS2; clear hP2 hD2 hS2; have hP := hPD.1; have hD := hPD.2; clear hPD
              have hPD9 : PD D A [(Rd, .inr (4, [.ref Tp, .int (nI ln), .int (nI z_46), .int y_198, .int (nI ht), .int (nI ct), .ref Rv])), (Tp, .inl (g 0, 160, .inl ftp)), (Rv, .inl (g 0, 21, .inl fval))] H := ⟨hP.sub [1, 2, 0] rfl, hD.sub [1, 2, 0] (by decide) rfl⟩
              have hP9 := hPD9.1; have hD9 := hPD9.2
              subst hQ
              refine W.widen (k := 0) (n := 0) (Nat.le_of_ble_eq_true rfl) (Nat.le_of_ble_eq_true rfl) ?_
              exact W.vret hx hb hr (fun tS htS _ => ⟨⟨_, rfl, ⟨z_46, y_198, fval, rfl, (show z_46 ≤ ln by omega), (h2)⟩, by rw [htS]; exact hP9, hD9⟩, hS.F htS⟩) hS.2.2 dX4_readNumber_116
        · skip
          have hP := hPq_96; have hD := hDq_96; have hS := hSq_96; have hl := hlq_96; clear hPq_96 hDq_96 hSq_96 hlq_96
          refine lv_iload_n hx hb dX4_readNumber_77 rfl (lv_at hl 2 rfl) ?_
          have hPq_199 := hP; have hDq_199 := hD; have hSq_199 := hS; have hlq_199 := hl; clear hP hD hS hl
          rcases (show it = 0 ∨ it = 1 ∨ it = 2 by omega) with rfl | rfl | rfl
          · skip
            have hP := hPq_199; have hD := hDq_199; have hS := hSq_199; have hl := hlq_199; clear hPq_199 hDq_199 hSq_199 hlq_199
            refine ky_Si (As := [.int (nI 3)]) (rest := []) ⟨hx, hb, hml, hown, hts⟩ ⟨hK, hN⟩ hZ hP hD hS hA [] [0, 1, 2] (wc := []) (wr := [(Rv, .inl (g 0, 21, .inl fval)), (Rd, .inr (4, [.ref Tp, .int (nI ln), .int (nI z_46), .int zfa, .int (nI ht), .int (nI ct), .ref Rv])), (Tp, .inl (g 0, 160, .inl ftp))]) rfl rfl rfl rfl (by decide) (k_X4_kindOf_3 l D g H.size) (va_cwS 1 hts gX4_readNumber_X4_kindOf rfl rfl rfl (by decide +kernel) ⟨(Nat.le_of_ble_eq_true rfl), (Nat.le_of_ble_eq_true rfl)⟩) rfl hl.1 rfl (Nat.le_of_ble_eq_true rfl) dX4_readNumber_78 ⟨(Nat.le_of_ble_eq_true rfl), (Nat.le_of_ble_eq_true rfl)⟩ (fun r_200 u H locs hw hP2 hD2 hS2 => ?_)
            clear hP hD hS
            obtain ⟨rfl, rfl⟩ := hw
            have hPD : PD D A [(Rv, .inl (g 0, 21, .inl fval)), (Rd, .inr (4, [.ref Tp, .int (nI ln), .int (nI z_46), .int zfa, .int (nI ht), .int (nI ct), .ref Rv])), (Tp, .inl (g 0, 160, .inl ftp))] H := ⟨hP2, hD2⟩
            have hS := hS2; clear hP2 hD2 hS2; have hP := hPD.1; have hD := hPD.2; clear hPD
            refine W.widen (k := 0) (n := 0) (Nat.le_of_ble_eq_true rfl) (Nat.le_of_ble_eq_true rfl) ?_
            refine lv_iconst (v := 3) hx hb dX4_readNumber_81 (by decide) ?_
            refine lv_imul hx hb dX4_readNumber_82 ?_
            refine lv_eqi (y := 3) (by decide) ?_
            refine lv_iload_n hx hb dX4_readNumber_83 rfl (lv_at hl 3 rfl) ?_
            refine lv_iadd hx hb dX4_readNumber_84 ?_
            refine lv_eqi (y := 3) (by decide) ?_
            refine lv_istore (lv' := [(5, .int 3), (3, .int i_45), (0, .ref Rd), (1, .int (nI 3)), (2, .int (nI 0)), (4, .int i_44)]) hx hb dX4_readNumber_85 hl (by decide) rfl (fun ls hl => ?_)
            refine lv_iload_n hx hb dX4_readNumber_87 rfl (lv_at hl 1 rfl) ?_
            refine va_gets hx hb hZ.2.2.1 hS hown f84 (fun _ h9 => h9) dX4_readNumber_88 ?_
            refine lv_iload hx hb dX4_readNumber_91 (lv_at hl 0 rfl) ?_
            refine va_ti (v := .int 1) hx hb hZ.2.2.2.1 hS (by unfold vp_in; decide) rfl dX4_readNumber_93 ?_
            refine va_gets hx hb hZ.2.2.2.2.1 hS hown f87 (fun _ h9 => h9) dX4_readNumber_94 ?_
            refine lv_iload hx hb dX4_readNumber_97 (lv_at hl 0 rfl) ?_
            refine va_ti (v := .int 4) hx hb hZ.2.2.2.2.2.1 hS (by unfold vp_in; decide) rfl dX4_readNumber_99 ?_
            refine ky_SNi (As := [.int i_45, .int 1, .int 4]) (rest := []) ⟨hx, hb, hml, hown, hts⟩ ⟨hK, hN⟩ hZ hP hD hS hA [] [0, 1, 2] (wc := []) (wr := [(Rv, .inl (g 0, 21, .inl fval)), (Rd, .inr (4, [.ref Tp, .int (nI ln), .int (nI z_46), .int zfa, .int (nI ht), .int (nI ct), .ref Rv])), (Tp, .inl (g 0, 160, .inl ftp))]) rfl rfl rfl rfl (by decide) (k_X6_outside l D g H.size i_45 1 4) ⟨va_cnB 3 hts ggX4_readNumber_X6_outside rfl rfl rfl hN.2.2.2.2.2.1 iiX6 (by decide +kernel) ⟨(Nat.le_of_ble_eq_true rfl), (Nat.le_of_ble_eq_true rfl)⟩, stX6_outside, trivial⟩ rfl hl.1 rfl (Nat.le_of_ble_eq_true rfl) dX4_readNumber_100 ⟨(Nat.le_of_ble_eq_true rfl), (Nat.le_of_ble_eq_true rfl)⟩ (fun r_201 u H locs hw hP2 hD2 hS2 => ?_)
            clear hP hD hS
            obtain ⟨rfl, rfl⟩ := hw
            have hPD : PD D A [(Rv, .inl (g 0, 21, .inl fval)), (Rd, .inr (4, [.ref Tp, .int (nI ln), .int (nI z_46), .int zfa, .int (nI ht), .int (nI ct), .ref Rv])), (Tp, .inl (g 0, 160, .inl ftp))] H := ⟨hP2, hD2⟩
            have hS := hS2; clear hP2 hD2 hS2; have hP := hPD.1; have hD := hPD.2; clear hPD
            refine W.widen (k := 0) (n := 0) (Nat.le_of_ble_eq_true rfl) (Nat.le_of_ble_eq_true rfl) ?_
            refine lv_if_eq (tgt := 117) hx hb dX4_readNumber_103 (by decide) (fun cb_202 => ?_) (fun cb_202 => ?_)
            · skip
              have hq_203 : ¬ (i_45 < 1 ∨ 4 < i_45) := b01_0.mp cb_202
              have hPq_207 := hP; have hDq_207 := hD; have hSq_207 := hS; have hlq_207 := hl; clear hP hD hS hl
              obtain ⟨j_204, hl_205, hu_206, rfl⟩ := rgo (L := 1) (U := 4) rfl rfl (show 1 < 2 ^ 31 by omega) (show 4 < 2 ^ 31 by omega) hq_203
              have hP := hPq_207; have hD := hDq_207; have hS := hSq_207; have hl := hlq_207; clear hPq_207 hDq_207 hSq_207 hlq_207
              refine lv_aload_n hx hb dX4_readNumber_117 rfl (lv_at hl 2 rfl) ?_
              refine va_get (D := D) (ci := 4) (v := .ref Rv) (C := RX4) (T := TX4) (N := 7) hx hb hts iX4 hown hK hP 1 rfl rfl 6 (by decide) f15 (fun _ h9 => h9) rfl dX4_readNumber_118 ?_
              refine lv_iload_n hx hb dX4_readNumber_121 rfl (lv_at hl 3 rfl) ?_
              refine lv_iconst (v := 3) hx hb dX4_readNumber_122 (by decide) ?_
              refine lv_imul hx hb dX4_readNumber_123 ?_
              refine lv_eqi (y := 9) (by decide) ?_
              refine lv_iload_n hx hb dX4_readNumber_124 rfl (lv_at hl 4 rfl) ?_
              refine lv_iadd hx hb dX4_readNumber_125 ?_
              refine lv_eqi (y := 9) (by decide) ?_
              refine lv_iload_n hx hb dX4_readNumber_126 rfl (lv_at hl 1 rfl) ?_
              refine va_iast hx hb hK hP hD hS 0 0 rfl rfl (by unfold vp_in; decide) dX4_readNumber_127 (fun H locs hP2 hD2 hS2 => ?_)
              clear hP hD hS
              have hPD : PD D A [(Rv, .inl (g 0, 21, .inl (upd fval 9 (nI j_204)))), (Rd, .inr (4, [.ref Tp, .int (nI ln), .int (nI z_46), .int zfa, .int (nI ht), .int (nI ct), .ref Rv])), (Tp, .inl (g 0, 160, .inl ftp))] H := ⟨hP2, hD2⟩
              have hS := hS2; clear hP2 hD2 hS2; have hP := hPD.1; have hD := hPD.2; clear hPD
              have hF_208 : vOK (upd fval 9 (nI j_204)) := vOK_upd (h2) (k := 9) (n := j_204) (Nat.le_trans (show j_204 ≤ 4 by omega) (Nat.le_of_ble_eq_true rfl))
              generalize upd fval 9 (nI j_204) = F_208 at hP hD hF_208
              have hPD9 : PD D A [(Rd, .inr (4, [.ref Tp, .int (nI ln), .int (nI z_46), .int zfa, .int (nI ht), .int (nI ct), .ref Rv])), (Tp, .inl (g 0, 160, .inl ftp)), (Rv, .inl (g 0, 21, .inl F_208))] H := ⟨hP.sub [1, 2, 0] rfl, hD.sub [1, 2, 0] (by decide) rfl⟩
              have hP9 := hPD9.1; have hD9 := hPD9.2
              subst hQ
              refine W.widen (k := 0) (n := 0) (Nat.le_of_ble_eq_true rfl) (Nat.le_of_ble_eq_true rfl) ?_
              exact W.vret hx hb hr (fun tS htS _ => ⟨⟨_, rfl, ⟨z_46, zfa, F_208, rfl, (show z_46 ≤ ln by omega), (hF_208)⟩, by rw [htS]; exact hP9, hD9⟩, hS.F htS⟩) hS.2.2 dX4_readNumber_128
            · skip
              have hq_209 : i_45 < 1 ∨ 4 < i_45 := b01_1.mp cb_202
              refine lv_aload_n hx hb dX4_readNumber_106 rfl (lv_at hl 2 rfl) ?_
              refine lv_aload_n hx hb dX4_readNumber_107 rfl (lv_at hl 2 rfl) ?_
              refine va_get (D := D) (ci := 4) (v := .int (nI z_46)) (C := RX4) (T := TX4) (N := 7) hx hb hts iX4 hown hK hP 1 rfl rfl 2 (by decide) f28 (fun _ h9 => h9) rfl dX4_readNumber_108 ?_
              refine lv_iconst (v := 1) hx hb dX4_readNumber_111 (by decide) ?_
              refine lv_isub hx hb dX4_readNumber_112 ?_
              refine lv_topi (fun y_210 _ => ?_)
              refine va_put (D := D) (ci := 4) (v := .int y_210) (ty := .int) (C := RX4) (T := TX4) (N := 7) hx hb hts iX4 tyX4 tyX4_ok nmX4 hown hK hP hD hS 1 rfl rfl 3 (by decide) f31 (fun _ h9 => h9) rfl (by decide +kernel) (rfl) (rfl) (Nat.le_of_ble_eq_true rfl) dX4_readNumber_113 (fun H locs hP2 hD2 hS2 => ?_)
              clear hP hD hS
              have hPD : PD D A [(Rv, .inl (g 0, 21, .inl fval)), (Rd, .inr (4, [.ref Tp, .int (nI ln), .int (nI z_46), .int y_210, .int (nI ht), .int (nI ct), .ref Rv])), (Tp, .inl (g 0, 160, .inl ftp))] H := ⟨hP2, hD2⟩
              have hS := hS2; clear hP2 hD2 hS2; have hP := hPD.1; have hD := hPD.2; clear hPD
              have hPD9 : PD D A [(Rd, .inr (4, [.ref Tp, .int (nI ln), .int (nI z_46), .int y_210, .int (nI ht), .int (nI ct), .ref Rv])), (Tp, .inl (g 0, 160, .inl ftp)), (Rv, .inl (g 0, 21, .inl fval))] H := ⟨hP.sub [1, 2, 0] rfl, hD.sub [1, 2, 0] (by decide) rfl⟩
              have hP9 := hPD9.1; have hD9 := hPD9.2
              subst hQ
              refine W.widen (k := 0) (n := 0) (Nat.le_of_ble_eq_true rfl) (Nat.le_of_ble_eq_true rfl) ?_
              exact W.vret hx hb hr (fun tS htS _ => ⟨⟨_, rfl, ⟨z_46, y_210, fval, rfl, (show z_46 ≤ ln by omega), (h2)⟩, by rw [htS]; exact hP9, hD9⟩, hS.F htS⟩) hS.2.2 dX4_readNumber_116
          · skip
            have hP := hPq_199; have hD := hDq_199; have hS := hSq_199; have hl := hlq_199; clear hPq_199 hDq_199 hSq_199 hlq_199
            refine ky_Si (As := [.int (nI 3)]) (rest := []) ⟨hx, hb, hml, hown, hts⟩ ⟨hK, hN⟩ hZ hP hD hS hA [] [0, 1, 2] (wc := []) (wr := [(Rv, .inl (g 0, 21, .inl fval)), (Rd, .inr (4, [.ref Tp, .int (nI ln), .int (nI z_46), .int zfa, .int (nI ht), .int (nI ct), .ref Rv])), (Tp, .inl (g 0, 160, .inl ftp))]) rfl rfl rfl rfl (by decide) (k_X4_kindOf_3 l D g H.size) (va_cwS 1 hts gX4_readNumber_X4_kindOf rfl rfl rfl (by decide +kernel) ⟨(Nat.le_of_ble_eq_true rfl), (Nat.le_of_ble_eq_true rfl)⟩) rfl hl.1 rfl (Nat.le_of_ble_eq_true rfl) dX4_readNumber_78 ⟨(Nat.le_of_ble_eq_true rfl), (Nat.le_of_ble_eq_true rfl)⟩ (fun r_211 u H locs hw hP2 hD2 hS2 => ?_)
            clear hP hD hS
            obtain ⟨rfl, rfl⟩ := hw
            have hPD : PD D A [(Rv, .inl (g 0, 21, .inl fval)), (Rd, .inr (4, [.ref Tp, .int (nI ln), .int (nI z_46), .int zfa, .int (nI ht), .int (nI ct), .ref Rv])), (Tp, .inl (g 0, 160, .inl ftp))] H := ⟨hP2, hD2⟩
            have hS := hS2; clear hP2 hD2 hS2; have hP := hPD.1; have hD := hPD.2; clear hPD
            refine W.widen (k := 0) (n := 0) (Nat.le_of_ble_eq_true rfl) (Nat.le_of_ble_eq_true rfl) ?_
            refine lv_iconst (v := 3) hx hb dX4_readNumber_81 (by decide) ?_
            refine lv_imul hx hb dX4_readNumber_82 ?_
            refine lv_eqi (y := 3) (by decide) ?_
            refine lv_iload_n hx hb dX4_readNumber_83 rfl (lv_at hl 3 rfl) ?_
            refine lv_iadd hx hb dX4_readNumber_84 ?_
            refine lv_eqi (y := 4) (by decide) ?_
            refine lv_istore (lv' := [(5, .int 4), (3, .int i_45), (0, .ref Rd), (1, .int (nI 3)), (2, .int (nI 1)), (4, .int i_44)]) hx hb dX4_readNumber_85 hl (by decide) rfl (fun ls hl => ?_)
            refine lv_iload_n hx hb dX4_readNumber_87 rfl (lv_at hl 1 rfl) ?_
            refine va_gets hx hb hZ.2.2.1 hS hown f84 (fun _ h9 => h9) dX4_readNumber_88 ?_
            refine lv_iload hx hb dX4_readNumber_91 (lv_at hl 0 rfl) ?_
            refine va_ti (v := .int 1) hx hb hZ.2.2.2.1 hS (by unfold vp_in; decide) rfl dX4_readNumber_93 ?_
            refine va_gets hx hb hZ.2.2.2.2.1 hS hown f87 (fun _ h9 => h9) dX4_readNumber_94 ?_
            refine lv_iload hx hb dX4_readNumber_97 (lv_at hl 0 rfl) ?_
            refine va_ti (v := .int 30) hx hb hZ.2.2.2.2.2.1 hS (by unfold vp_in; decide) rfl dX4_readNumber_99 ?_
            refine ky_SNi (As := [.int i_45, .int 1, .int 30]) (rest := []) ⟨hx, hb, hml, hown, hts⟩ ⟨hK, hN⟩ hZ hP hD hS hA [] [0, 1, 2] (wc := []) (wr := [(Rv, .inl (g 0, 21, .inl fval)), (Rd, .inr (4, [.ref Tp, .int (nI ln), .int (nI z_46), .int zfa, .int (nI ht), .int (nI ct), .ref Rv])), (Tp, .inl (g 0, 160, .inl ftp))]) rfl rfl rfl rfl (by decide) (k_X6_outside l D g H.size i_45 1 30) ⟨va_cnB 3 hts ggX4_readNumber_X6_outside rfl rfl rfl hN.2.2.2.2.2.1 iiX6 (by decide +kernel) ⟨(Nat.le_of_ble_eq_true rfl), (Nat.le_of_ble_eq_true rfl)⟩, stX6_outside, trivial⟩ rfl hl.1 rfl (Nat.le_of_ble_eq_true rfl) dX4_readNumber_100 ⟨(Nat.le_of_ble_eq_true rfl), (Nat.le_of_ble_eq_true rfl)⟩ (fun r_212 u H locs hw hP2 hD2 hS2 => ?_)
            clear hP hD hS
            obtain ⟨rfl, rfl⟩ := hw
            have hPD : PD D A [(Rv, .inl (g 0, 21, .inl fval)), (Rd, .inr (4, [.ref Tp, .int (nI ln), .int (nI z_46), .int zfa, .int (nI ht), .int (nI ct), .ref Rv])), (Tp, .inl (g 0, 160, .inl ftp))] H := ⟨hP2, hD2⟩
            have hS := hS2; clear hP2 hD2 hS2; have hP := hPD.1; have hD := hPD.2; clear hPD
            refine W.widen (k := 0) (n := 0) (Nat.le_of_ble_eq_true rfl) (Nat.le_of_ble_eq_true rfl) ?_
            refine lv_if_eq (tgt := 117) hx hb dX4_readNumber_103 (by decide) (fun cb_213 => ?_) (fun cb_213 => ?_)
            · skip
              have hq_214 : ¬ (i_45 < 1 ∨ 30 < i_45) := b01_0.mp cb_213
              have hPq_218 := hP; have hDq_218 := hD; have hSq_218 := hS; have hlq_218 := hl; clear hP hD hS hl
              obtain ⟨j_215, hl_216, hu_217, rfl⟩ := rgo (L := 1) (U := 30) rfl rfl (show 1 < 2 ^ 31 by omega) (show 30 < 2 ^ 31 by omega) hq_214
              have hP := hPq_218; have hD := hDq_218; have hS := hSq_218; have hl := hlq_218; clear hPq_218 hDq_218 hSq_218 hlq_218
              refine lv_aload_n hx hb dX4_readNumber_117 rfl (lv_at hl 2 rfl) ?_
              refine va_get (D := D) (ci := 4) (v := .ref Rv) (C := RX4) (T := TX4) (N := 7) hx hb hts iX4 hown hK hP 1 rfl rfl 6 (by decide) f15 (fun _ h9 => h9) rfl dX4_readNumber_118 ?_
              refine lv_iload_n hx hb dX4_readNumber_121 rfl (lv_at hl 3 rfl) ?_
              refine lv_iconst (v := 3) hx hb dX4_readNumber_122 (by decide) ?_
              refine lv_imul hx hb dX4_readNumber_123 ?_
              refine lv_eqi (y := 9) (by decide) ?_
              refine lv_iload_n hx hb dX4_readNumber_124 rfl (lv_at hl 4 rfl) ?_
              refine lv_iadd hx hb dX4_readNumber_125 ?_
              refine lv_eqi (y := 10) (by decide) ?_
              refine lv_iload_n hx hb dX4_readNumber_126 rfl (lv_at hl 1 rfl) ?_
              refine va_iast hx hb hK hP hD hS 0 0 rfl rfl (by unfold vp_in; decide) dX4_readNumber_127 (fun H locs hP2 hD2 hS2 => ?_)
              clear hP hD hS
              have hPD : PD D A [(Rv, .inl (g 0, 21, .inl (upd fval 10 (nI j_215)))), (Rd, .inr (4, [.ref Tp, .int (nI ln), .int (nI z_46), .int zfa, .int (nI ht), .int (nI ct), .ref Rv])), (Tp, .inl (g 0, 160, .inl ftp))] H := ⟨hP2, hD2⟩
              have hS := hS2; clear hP2 hD2 hS2; have hP := hPD.1; have hD := hPD.2; clear hPD
              have hF_219 : vOK (upd fval 10 (nI j_215)) := vOK_upd (h2) (k := 10) (n := j_215) (Nat.le_trans (show j_215 ≤ 30 by omega) (Nat.le_of_ble_eq_true rfl))
              generalize upd fval 10 (nI j_215) = F_219 at hP hD hF_219
              have hPD9 : PD D A [(Rd, .inr (4, [.ref Tp, .int (nI ln), .int (nI z_46), .int zfa, .int (nI ht), .int (nI ct), .ref Rv])), (Tp, .inl (g 0, 160, .inl ftp)), (Rv, .inl (g 0, 21, .inl F_219))] H := ⟨hP.sub [1, 2, 0] rfl, hD.sub [1, 2, 0] (by decide) rfl⟩
              have hP9 := hPD9.1; have hD9 := hPD9.2
              subst hQ
              refine W.widen (k := 0) (n := 0) (Nat.le_of_ble_eq_true rfl) (Nat.le_of_ble_eq_true rfl) ?_
              exact W.vret hx hb hr (fun tS htS _ => ⟨⟨_, rfl, ⟨z_46, zfa, F_219, rfl, (show z_46 ≤ ln by omega), (hF_219)⟩, by rw [htS]; exact hP9, hD9⟩, hS.F htS⟩) hS.2.2 dX4_readNumber_128
            · skip
              have hq_220 : i_45 < 1 ∨ 30 < i_45 := b01_1.mp cb_213
              refine lv_aload_n hx hb dX4_readNumber_106 rfl (lv_at hl 2 rfl) ?_
              refine lv_aload_n hx hb dX4_readNumber_107 rfl (lv_at hl 2 rfl) ?_
              refine va_get (D := D) (ci := 4) (v := .int (nI z_46)) (C := RX4) (T := TX4) (N := 7) hx hb hts iX4 hown hK hP 1 rfl rfl 2 (by decide) f28 (fun _ h9 => h9) rfl dX4_readNumber_108 ?_
              refine lv_iconst (v := 1) hx hb dX4_readNumber_111 (by decide) ?_
              refine lv_isub hx hb dX4_readNumber_112 ?_
              refine lv_topi (fun y_221 _ => ?_)
              refine va_put (D := D) (ci := 4) (v := .int y_221) (ty := .int) (C := RX4) (T := TX4) (N := 7) hx hb hts iX4 tyX4 tyX4_ok nmX4 hown hK hP hD hS 1 rfl rfl 3 (by decide) f31 (fun _ h9 => h9) rfl (by decide +kernel) (rfl) (rfl) (Nat.le_of_ble_eq_true rfl) dX4_readNumber_113 (fun H locs hP2 hD2 hS2 => ?_)
              clear hP hD hS
              have hPD : PD D A [(Rv, .inl (g 0, 21, .inl fval)), (Rd, .inr (4, [.ref Tp, .int (nI ln), .int (nI z_46), .int y_221, .int (nI ht), .int (nI ct), .ref Rv])), (Tp, .inl (g 0, 160, .inl ftp))] H := ⟨hP2, hD2⟩
              have hS := hS2; clear hP2 hD2 hS2; have hP := hPD.1; have hD := hPD.2; clear hPD
              have hPD9 : PD D A [(Rd, .inr (4, [.ref Tp, .int (nI ln), .int (nI z_46), .int y_221, .int (nI ht), .int (nI ct), .ref Rv])), (Tp, .inl (g 0, 160, .inl ftp)), (Rv, .inl (g 0, 21, .inl fval))] H := ⟨hP.sub [1, 2, 0] rfl, hD.sub [1, 2, 0] (by decide) rfl⟩
              have hP9 := hPD9.1; have hD9 := hPD9.2
              subst hQ
              refine W.widen (k := 0) (n := 0) (Nat.le_of_ble_eq_true rfl) (Nat.le_of_ble_eq_true rfl) ?_
              exact W.vret hx hb hr (fun tS htS _ => ⟨⟨_, rfl, ⟨z_46, y_221, fval, rfl, (show z_46 ≤ ln by omega), (h2)⟩, by rw [htS]; exact hP9, hD9⟩, hS.F htS⟩) hS.2.2 dX4_readNumber_116
          · skip
            have hP := hPq_199; have hD := hDq_199; have hS := hSq_199; have hl := hlq_199; clear hPq_199 hDq_199 hSq_199 hlq_199
            refine ky_Si (As := [.int (nI 3)]) (rest := []) ⟨hx, hb, hml, hown, hts⟩ ⟨hK, hN⟩ hZ hP hD hS hA [] [0, 1, 2] (wc := []) (wr := [(Rv, .inl (g 0, 21, .inl fval)), (Rd, .inr (4, [.ref Tp, .int (nI ln), .int (nI z_46), .int zfa, .int (nI ht), .int (nI ct), .ref Rv])), (Tp, .inl (g 0, 160, .inl ftp))]) rfl rfl rfl rfl (by decide) (k_X4_kindOf_3 l D g H.size) (va_cwS 1 hts gX4_readNumber_X4_kindOf rfl rfl rfl (by decide +kernel) ⟨(Nat.le_of_ble_eq_true rfl), (Nat.le_of_ble_eq_true rfl)⟩) rfl hl.1 rfl (Nat.le_of_ble_eq_true rfl) dX4_readNumber_78 ⟨(Nat.le_of_ble_eq_true rfl), (Nat.le_of_ble_eq_true rfl)⟩ (fun r_222 u H locs hw hP2 hD2 hS2 => ?_)
            clear hP hD hS
            obtain ⟨rfl, rfl⟩ := hw
            have hPD : PD D A [(Rv, .inl (g 0, 21, .inl fval)), (Rd, .inr (4, [.ref Tp, .int (nI ln), .int (nI z_46), .int zfa, .int (nI ht), .int (nI ct), .ref Rv])), (Tp, .inl (g 0, 160, .inl ftp))] H := ⟨hP2, hD2⟩
            have hS := hS2; clear hP2 hD2 hS2; have hP := hPD.1; have hD := hPD.2; clear hPD
            refine W.widen (k := 0) (n := 0) (Nat.le_of_ble_eq_true rfl) (Nat.le_of_ble_eq_true rfl) ?_
            refine lv_iconst (v := 3) hx hb dX4_readNumber_81 (by decide) ?_
            refine lv_imul hx hb dX4_readNumber_82 ?_
            refine lv_eqi (y := 3) (by decide) ?_
            refine lv_iload_n hx hb dX4_readNumber_83 rfl (lv_at hl 3 rfl) ?_
            refine lv_iadd hx hb dX4_readNumber_84 ?_
            refine lv_eqi (y := 5) (by decide) ?_
            refine lv_istore (lv' := [(5, .int 5), (3, .int i_45), (0, .ref Rd), (1, .int (nI 3)), (2, .int (nI 2)), (4, .int i_44)]) hx hb dX4_readNumber_85 hl (by decide) rfl (fun ls hl => ?_)
            refine lv_iload_n hx hb dX4_readNumber_87 rfl (lv_at hl 1 rfl) ?_
            refine va_gets hx hb hZ.2.2.1 hS hown f84 (fun _ h9 => h9) dX4_readNumber_88 ?_
            refine lv_iload hx hb dX4_readNumber_91 (lv_at hl 0 rfl) ?_
            refine va_ti (v := .int 1) hx hb hZ.2.2.2.1 hS (by unfold vp_in; decide) rfl dX4_readNumber_93 ?_
            refine va_gets hx hb hZ.2.2.2.2.1 hS hown f87 (fun _ h9 => h9) dX4_readNumber_94 ?_
            refine lv_iload hx hb dX4_readNumber_97 (lv_at hl 0 rfl) ?_
            refine va_ti (v := .int 4) hx hb hZ.2.2.2.2.2.1 hS (by unfold vp_in; decide) rfl dX4_readNumber_99 ?_
            refine ky_SNi (As := [.int i_45, .int 1, .int 4]) (rest := []) ⟨hx, hb, hml, hown, hts⟩ ⟨hK, hN⟩ hZ hP hD hS hA [] [0, 1, 2] (wc := []) (wr := [(Rv, .inl (g 0, 21, .inl fval)), (Rd, .inr (4, [.ref Tp, .int (nI ln), .int (nI z_46), .int zfa, .int (nI ht), .int (nI ct), .ref Rv])), (Tp, .inl (g 0, 160, .inl ftp))]) rfl rfl rfl rfl (by decide) (k_X6_outside l D g H.size i_45 1 4) ⟨va_cnB 3 hts ggX4_readNumber_X6_outside rfl rfl rfl hN.2.2.2.2.2.1 iiX6 (by decide +kernel) ⟨(Nat.le_of_ble_eq_true rfl), (Nat.le_of_ble_eq_true rfl)⟩, stX6_outside, trivial⟩ rfl hl.1 rfl (Nat.le_of_ble_eq_true rfl) dX4_readNumber_100 ⟨(Nat.le_of_ble_eq_true rfl), (Nat.le_of_ble_eq_true rfl)⟩ (fun r_223 u H locs hw hP2 hD2 hS2 => ?_)
            clear hP hD hS
            obtain ⟨rfl, rfl⟩ := hw
            have hPD : PD D A [(Rv, .inl (g 0, 21, .inl fval)), (Rd, .inr (4, [.ref Tp, .int (nI ln), .int (nI z_46), .int zfa, .int (nI ht), .int (nI ct), .ref Rv])), (Tp, .inl (g 0, 160, .inl ftp))] H := ⟨hP2, hD2⟩
            have hS := hS2; clear hP2 hD2 hS2; have hP := hPD.1; have hD := hPD.2; clear hPD
            refine W.widen (k := 0) (n := 0) (Nat.le_of_ble_eq_true rfl) (Nat.le_of_ble_eq_true rfl) ?_
            refine lv_if_eq (tgt := 117) hx hb dX4_readNumber_103 (by decide) (fun cb_224 => ?_) (fun cb_224 => ?_)
            · skip
              have hq_225 : ¬ (i_45 < 1 ∨ 4 < i_45) := b01_0.mp cb_224
              have hPq_229 := hP; have hDq_229 := hD; have hSq_229 := hS; have hlq_229 := hl; clear hP hD hS hl
              obtain ⟨j_226, hl_227, hu_228, rfl⟩ := rgo (L := 1) (U := 4) rfl rfl (show 1 < 2 ^ 31 by omega) (show 4 < 2 ^ 31 by omega) hq_225
              have hP := hPq_229; have hD := hDq_229; have hS := hSq_229; have hl := hlq_229; clear hPq_229 hDq_229 hSq_229 hlq_229
              refine lv_aload_n hx hb dX4_readNumber_117 rfl (lv_at hl 2 rfl) ?_
              refine va_get (D := D) (ci := 4) (v := .ref Rv) (C := RX4) (T := TX4) (N := 7) hx hb hts iX4 hown hK hP 1 rfl rfl 6 (by decide) f15 (fun _ h9 => h9) rfl dX4_readNumber_118 ?_
              refine lv_iload_n hx hb dX4_readNumber_121 rfl (lv_at hl 3 rfl) ?_
              refine lv_iconst (v := 3) hx hb dX4_readNumber_122 (by decide) ?_
              refine lv_imul hx hb dX4_readNumber_123 ?_
              refine lv_eqi (y := 9) (by decide) ?_
              refine lv_iload_n hx hb dX4_readNumber_124 rfl (lv_at hl 4 rfl) ?_
              refine lv_iadd hx hb dX4_readNumber_125 ?_
              refine lv_eqi (y := 11) (by decide) ?_
              refine lv_iload_n hx hb dX4_readNumber_126 rfl (lv_at hl 1 rfl) ?_
              refine va_iast hx hb hK hP hD hS 0 0 rfl rfl (by unfold vp_in; decide) dX4_readNumber_127 (fun H locs hP2 hD2 hS2 => ?_)
              clear hP hD hS
              have hPD : PD D A [(Rv, .inl (g 0, 21, .inl (upd fval 11 (nI j_226)))), (Rd, .inr (4, [.ref Tp, .int (nI ln), .int (nI z_46), .int zfa, .int (nI ht), .int (nI ct), .ref Rv])), (Tp, .inl (g 0, 160, .inl ftp))] H := ⟨hP2, hD2⟩
              have hS := hS2; clear hP2 hD2 hS2; have hP := hPD.1; have hD := hPD.2; clear hPD
              have hF_230 : vOK (upd fval 11 (nI j_226)) := vOK_upd (h2) (k := 11) (n := j_226) (Nat.le_trans (show j_226 ≤ 4 by omega) (Nat.le_of_ble_eq_true rfl))
              generalize upd fval 11 (nI j_226) = F_230 at hP hD hF_230
              have hPD9 : PD D A [(Rd, .inr (4, [.ref Tp, .int (nI ln), .int (nI z_46), .int zfa, .int (nI ht), .int (nI ct), .ref Rv])), (Tp, .inl (g 0, 160, .inl ftp)), (Rv, .inl (g 0, 21, .inl F_230))] H := ⟨hP.sub [1, 2, 0] rfl, hD.sub [1, 2, 0] (by decide) rfl⟩
              have hP9 := hPD9.1; have hD9 := hPD9.2
              subst hQ
              refine W.widen (k := 0) (n := 0) (Nat.le_of_ble_eq_true rfl) (Nat.le_of_ble_eq_true rfl) ?_
              exact W.vret hx hb hr (fun tS htS _ => ⟨⟨_, rfl, ⟨z_46, zfa, F_230, rfl, (show z_46 ≤ ln by omega), (hF_230)⟩, by rw [htS]; exact hP9, hD9⟩, hS.F htS⟩) hS.2.2 dX4_readNumber_128
            · skip
              have hq_231 : i_45 < 1 ∨ 4 < i_45 := b01_1.mp cb_224
              refine lv_aload_n hx hb dX4_readNumber_106 rfl (lv_at hl 2 rfl) ?_
              refine lv_aload_n hx hb dX4_readNumber_107 rfl (lv_at hl 2 rfl) ?_
              refine va_get (D := D) (ci := 4) (v := .int (nI z_46)) (C := RX4) (T := TX4) (N := 7) hx hb hts iX4 hown hK hP 1 rfl rfl 2 (by decide) f28 (fun _ h9 => h9) rfl dX4_readNumber_108 ?_
              refine lv_iconst (v := 1) hx hb dX4_readNumber_111 (by decide) ?_
              refine lv_isub hx hb dX4_readNumber_112 ?_
              refine lv_topi (fun y_232 _ => ?_)
              refine va_put (D := D) (ci := 4) (v := .int y_232) (ty := .int) (C := RX4) (T := TX4) (N := 7) hx hb hts iX4 tyX4 tyX4_ok nmX4 hown hK hP hD hS 1 rfl rfl 3 (by decide) f31 (fun _ h9 => h9) rfl (by decide +kernel) (rfl) (rfl) (Nat.le_of_ble_eq_true rfl) dX4_readNumber_113 (fun H locs hP2 hD2 hS2 => ?_)
              clear hP hD hS
              have hPD : PD D A [(Rv, .inl (g 0, 21, .inl fval)), (Rd, .inr (4, [.ref Tp, .int (nI ln), .int (nI z_46), .int y_232, .int (nI ht), .int (nI ct), .ref Rv])), (Tp, .inl (g 0, 160, .inl ftp))] H := ⟨hP2, hD2⟩
              have hS := hS2; clear hP2 hD2 hS2; have hP := hPD.1; have hD := hPD.2; clear hPD
              have hPD9 : PD D A [(Rd, .inr (4, [.ref Tp, .int (nI ln), .int (nI z_46), .int y_232, .int (nI ht), .int (nI ct), .ref Rv])), (Tp, .inl (g 0, 160, .inl ftp)), (Rv, .inl (g 0, 21, .inl fval))] H := ⟨hP.sub [1, 2, 0] rfl, hD.sub [1, 2, 0] (by decide) rfl⟩
              have hP9 := hPD9.1; have hD9 := hPD9.2
              subst hQ
              refine W.widen (k := 0) (n := 0) (Nat.le_of_ble_eq_true rfl) (Nat.le_of_ble_eq_true rfl) ?_
              exact W.vret hx hb hr (fun tS htS _ => ⟨⟨_, rfl, ⟨z_46, y_232, fval, rfl, (show z_46 ≤ ln by omega), (h2)⟩, by rw [htS]; exact hP9, hD9⟩, hS.F htS⟩) hS.2.2 dX4_readNumber_116
        · skip
          have hP := hPq_96; have hD := hDq_96; have hS := hSq_96; have hl := hlq_96; clear hPq_96 hDq_96 hSq_96 hlq_96
          refine lv_iload_n hx hb dX4_readNumber_77 rfl (lv_at hl 2 rfl) ?_
          have hPq_233 := hP; have hDq_233 := hD; have hSq_233 := hS; have hlq_233 := hl; clear hP hD hS hl
          rcases (show it = 0 ∨ it = 1 ∨ it = 2 by omega) with rfl | rfl | rfl
          · skip
            have hP := hPq_233; have hD := hDq_233; have hS := hSq_233; have hl := hlq_233; clear hPq_233 hDq_233 hSq_233 hlq_233
            refine ky_Si (As := [.int (nI 4)]) (rest := []) ⟨hx, hb, hml, hown, hts⟩ ⟨hK, hN⟩ hZ hP hD hS hA [] [0, 1, 2] (wc := []) (wr := [(Rv, .inl (g 0, 21, .inl fval)), (Rd, .inr (4, [.ref Tp, .int (nI ln), .int (nI z_46), .int zfa, .int (nI ht), .int (nI ct), .ref Rv])), (Tp, .inl (g 0, 160, .inl ftp))]) rfl rfl rfl rfl (by decide) (k_X4_kindOf_4 l D g H.size) (va_cwS 1 hts gX4_readNumber_X4_kindOf rfl rfl rfl (by decide +kernel) ⟨(Nat.le_of_ble_eq_true rfl), (Nat.le_of_ble_eq_true rfl)⟩) rfl hl.1 rfl (Nat.le_of_ble_eq_true rfl) dX4_readNumber_78 ⟨(Nat.le_of_ble_eq_true rfl), (Nat.le_of_ble_eq_true rfl)⟩ (fun r_234 u H locs hw hP2 hD2 hS2 => ?_)
            clear hP hD hS
            obtain ⟨rfl, rfl⟩ := hw
            have hPD : PD D A [(Rv, .inl (g 0, 21, .inl fval)), (Rd, .inr (4, [.ref Tp, .int (nI ln), .int (nI z_46), .int zfa, .int (nI ht), .int (nI ct), .ref Rv])), (Tp, .inl (g 0, 160, .inl ftp))] H := ⟨hP2, hD2⟩
            have hS := hS2; clear hP2 hD2 hS2; have hP := hPD.1; have hD := hPD.2; clear hPD
            refine W.widen (k := 0) (n := 0) (Nat.le_of_ble_eq_true rfl) (Nat.le_of_ble_eq_true rfl) ?_
            refine lv_iconst (v := 3) hx hb dX4_readNumber_81 (by decide) ?_
            refine lv_imul hx hb dX4_readNumber_82 ?_
            refine lv_eqi (y := 6) (by decide) ?_
            refine lv_iload_n hx hb dX4_readNumber_83 rfl (lv_at hl 3 rfl) ?_
            refine lv_iadd hx hb dX4_readNumber_84 ?_
            refine lv_eqi (y := 6) (by decide) ?_
            refine lv_istore (lv' := [(5, .int 6), (3, .int i_45), (0, .ref Rd), (1, .int (nI 4)), (2, .int (nI 0)), (4, .int i_44)]) hx hb dX4_readNumber_85 hl (by decide) rfl (fun ls hl => ?_)
            refine lv_iload_n hx hb dX4_readNumber_87 rfl (lv_at hl 1 rfl) ?_
            refine va_gets hx hb hZ.2.2.1 hS hown f84 (fun _ h9 => h9) dX4_readNumber_88 ?_
            refine lv_iload hx hb dX4_readNumber_91 (lv_at hl 0 rfl) ?_
            refine va_ti (v := .int 0) hx hb hZ.2.2.2.1 hS (by unfold vp_in; decide) rfl dX4_readNumber_93 ?_
            refine va_gets hx hb hZ.2.2.2.2.1 hS hown f87 (fun _ h9 => h9) dX4_readNumber_94 ?_
            refine lv_iload hx hb dX4_readNumber_97 (lv_at hl 0 rfl) ?_
            refine va_ti (v := .int 9) hx hb hZ.2.2.2.2.2.1 hS (by unfold vp_in; decide) rfl dX4_readNumber_99 ?_
            refine ky_SNi (As := [.int i_45, .int 0, .int 9]) (rest := []) ⟨hx, hb, hml, hown, hts⟩ ⟨hK, hN⟩ hZ hP hD hS hA [] [0, 1, 2] (wc := []) (wr := [(Rv, .inl (g 0, 21, .inl fval)), (Rd, .inr (4, [.ref Tp, .int (nI ln), .int (nI z_46), .int zfa, .int (nI ht), .int (nI ct), .ref Rv])), (Tp, .inl (g 0, 160, .inl ftp))]) rfl rfl rfl rfl (by decide) (k_X6_outside l D g H.size i_45 0 9) ⟨va_cnB 3 hts ggX4_readNumber_X6_outside rfl rfl rfl hN.2.2.2.2.2.1 iiX6 (by decide +kernel) ⟨(Nat.le_of_ble_eq_true rfl), (Nat.le_of_ble_eq_true rfl)⟩, stX6_outside, trivial⟩ rfl hl.1 rfl (Nat.le_of_ble_eq_true rfl) dX4_readNumber_100 ⟨(Nat.le_of_ble_eq_true rfl), (Nat.le_of_ble_eq_true rfl)⟩ (fun r_235 u H locs hw hP2 hD2 hS2 => ?_)
            clear hP hD hS
            obtain ⟨rfl, rfl⟩ := hw
            have hPD : PD D A [(Rv, .inl (g 0, 21, .inl fval)), (Rd, .inr (4, [.ref Tp, .int (nI ln), .int (nI z_46), .int zfa, .int (nI ht), .int (nI ct), .ref Rv])), (Tp, .inl (g 0, 160, .inl ftp))] H := ⟨hP2, hD2⟩
            have hS := hS2; clear hP2 hD2 hS2; have hP := hPD.1; have hD := hPD.2; clear hPD
            refine W.widen (k := 0) (n := 0) (Nat.le_of_ble_eq_true rfl) (Nat.le_of_ble_eq_true rfl) ?_
            refine lv_if_eq (tgt := 117) hx hb dX4_readNumber_103 (by decide) (fun cb_236 => ?_) (fun cb_236 => ?_)
            · skip
              have hq_237 : ¬ (i_45 < 0 ∨ 9 < i_45) := b01_0.mp cb_236
              have hPq_241 := hP; have hDq_241 := hD; have hSq_241 := hS; have hlq_241 := hl; clear hP hD hS hl
              obtain ⟨j_238, hl_239, hu_240, rfl⟩ := rgo (L := 0) (U := 9) rfl rfl (show 0 < 2 ^ 31 by omega) (show 9 < 2 ^ 31 by omega) hq_237
              have hP := hPq_241; have hD := hDq_241; have hS := hSq_241; have hl := hlq_241; clear hPq_241 hDq_241 hSq_241 hlq_241
              refine lv_aload_n hx hb dX4_readNumber_117 rfl (lv_at hl 2 rfl) ?_
              refine va_get (D := D) (ci := 4) (v := .ref Rv) (C := RX4) (T := TX4) (N := 7) hx hb hts iX4 hown hK hP 1 rfl rfl 6 (by decide) f15 (fun _ h9 => h9) rfl dX4_readNumber_118 ?_
              refine lv_iload_n hx hb dX4_readNumber_121 rfl (lv_at hl 3 rfl) ?_
              refine lv_iconst (v := 3) hx hb dX4_readNumber_122 (by decide) ?_
              refine lv_imul hx hb dX4_readNumber_123 ?_
              refine lv_eqi (y := 12) (by decide) ?_
              refine lv_iload_n hx hb dX4_readNumber_124 rfl (lv_at hl 4 rfl) ?_
              refine lv_iadd hx hb dX4_readNumber_125 ?_
              refine lv_eqi (y := 12) (by decide) ?_
              refine lv_iload_n hx hb dX4_readNumber_126 rfl (lv_at hl 1 rfl) ?_
              refine va_iast hx hb hK hP hD hS 0 0 rfl rfl (by unfold vp_in; decide) dX4_readNumber_127 (fun H locs hP2 hD2 hS2 => ?_)
              clear hP hD hS
              have hPD : PD D A [(Rv, .inl (g 0, 21, .inl (upd fval 12 (nI j_238)))), (Rd, .inr (4, [.ref Tp, .int (nI ln), .int (nI z_46), .int zfa, .int (nI ht), .int (nI ct), .ref Rv])), (Tp, .inl (g 0, 160, .inl ftp))] H := ⟨hP2, hD2⟩
              have hS := hS2; clear hP2 hD2 hS2; have hP := hPD.1; have hD := hPD.2; clear hPD
              have hF_242 : vOK (upd fval 12 (nI j_238)) := vOK_upd (h2) (k := 12) (n := j_238) (Nat.le_trans (show j_238 ≤ 9 by omega) (Nat.le_of_ble_eq_true rfl))
              generalize upd fval 12 (nI j_238) = F_242 at hP hD hF_242
              have hPD9 : PD D A [(Rd, .inr (4, [.ref Tp, .int (nI ln), .int (nI z_46), .int zfa, .int (nI ht), .int (nI ct), .ref Rv])), (Tp, .inl (g 0, 160, .inl ftp)), (Rv, .inl (g 0, 21, .inl F_242))] H := ⟨hP.sub [1, 2, 0] rfl, hD.sub [1, 2, 0] (by decide) rfl⟩
              have hP9 := hPD9.1; have hD9 := hPD9.2
              subst hQ
              refine W.widen (k := 0) (n := 0) (Nat.le_of_ble_eq_true rfl) (Nat.le_of_ble_eq_true rfl) ?_
              exact W.vret hx hb hr (fun tS htS _ => ⟨⟨_, rfl, ⟨z_46, zfa, F_242, rfl, (show z_46 ≤ ln by omega), (hF_242)⟩, by rw [htS]; exact hP9, hD9⟩, hS.F htS⟩) hS.2.2 dX4_readNumber_128
            · skip
              have hq_243 : i_45 < 0 ∨ 9 < i_45 := b01_1.mp cb_236
              refine lv_aload_n hx hb dX4_readNumber_106 rfl (lv_at hl 2 rfl) ?_
              refine lv_aload_n hx hb dX4_readNumber_107 rfl (lv_at hl 2 rfl) ?_
              refine va_get (D := D) (ci := 4) (v := .int (nI z_46)) (C := RX4) (T := TX4) (N := 7) hx hb hts iX4 hown hK hP 1 rfl rfl 2 (by decide) f28 (fun _ h9 => h9) rfl dX4_readNumber_108 ?_
              refine lv_iconst (v := 1) hx hb dX4_readNumber_111 (by decide) ?_
              refine lv_isub hx hb dX4_readNumber_112 ?_
              refine lv_topi (fun y_244 _ => ?_)
              refine va_put (D := D) (ci := 4) (v := .int y_244) (ty := .int) (C := RX4) (T := TX4) (N := 7) hx hb hts iX4 tyX4 tyX4_ok nmX4 hown hK hP hD hS 1 rfl rfl 3 (by decide) f31 (fun _ h9 => h9) rfl (by decide +kernel) (rfl) (rfl) (Nat.le_of_ble_eq_true rfl) dX4_readNumber_113 (fun H locs hP2 hD2 hS2 => ?_)
              clear hP hD hS
              have hPD : PD D A [(Rv, .inl (g 0, 21, .inl fval)), (Rd, .inr (4, [.ref Tp, .int (nI ln), .int (nI z_46), .int y_244, .int (nI ht), .int (nI ct), .ref Rv])), (Tp, .inl (g 0, 160, .inl ftp))] H := ⟨hP2, hD2⟩
              have hS := hS2; clear hP2 hD2 hS2; have hP := hPD.1; have hD := hPD.2; clear hPD
              have hPD9 : PD D A [(Rd, .inr (4, [.ref Tp, .int (nI ln), .int (nI z_46), .int y_244, .int (nI ht), .int (nI ct), .ref Rv])), (Tp, .inl (g 0, 160, .inl ftp)), (Rv, .inl (g 0, 21, .inl fval))] H := ⟨hP.sub [1, 2, 0] rfl, hD.sub [1, 2, 0] (by decide) rfl⟩
              have hP9 := hPD9.1; have hD9 := hPD9.2
              subst hQ
              refine W.widen (k := 0) (n := 0) (Nat.le_of_ble_eq_true rfl) (Nat.le_of_ble_eq_true rfl) ?_
              exact W.vret hx hb hr (fun tS htS _ => ⟨⟨_, rfl, ⟨z_46, y_244, fval, rfl, (show z_46 ≤ ln by omega), (h2)⟩, by rw [htS]; exact hP9, hD9⟩, hS.F htS⟩) hS.2.2 dX4_readNumber_116
          · skip
            have hP := hPq_233; have hD := hDq_233; have hS := hSq_233; have hl := hlq_233; clear hPq_233 hDq_233 hSq_233 hlq_233
            refine ky_Si (As := [.int (nI 4)]) (rest := []) ⟨hx, hb, hml, hown, hts⟩ ⟨hK, hN⟩ hZ hP hD hS hA [] [0, 1, 2] (wc := []) (wr := [(Rv, .inl (g 0, 21, .inl fval)), (Rd, .inr (4, [.ref Tp, .int (nI ln), .int (nI z_46), .int zfa, .int (nI ht), .int (nI ct), .ref Rv])), (Tp, .inl (g 0, 160, .inl ftp))]) rfl rfl rfl rfl (by decide) (k_X4_kindOf_4 l D g H.size) (va_cwS 1 hts gX4_readNumber_X4_kindOf rfl rfl rfl (by decide +kernel) ⟨(Nat.le_of_ble_eq_true rfl), (Nat.le_of_ble_eq_true rfl)⟩) rfl hl.1 rfl (Nat.le_of_ble_eq_true rfl) dX4_readNumber_78 ⟨(Nat.le_of_ble_eq_true rfl), (Nat.le_of_ble_eq_true rfl)⟩ (fun r_245 u H locs hw hP2 hD2 hS2 => ?_)
            clear hP hD hS
            obtain ⟨rfl, rfl⟩ := hw
            have hPD : PD D A [(Rv, .inl (g 0, 21, .inl fval)), (Rd, .inr (4, [.ref Tp, .int (nI ln), .int (nI z_46), .int zfa, .int (nI ht), .int (nI ct), .ref Rv])), (Tp, .inl (g 0, 160, .inl ftp))] H := ⟨hP2, hD2⟩
            have hS := hS2; clear hP2 hD2 hS2; have hP := hPD.1; have hD := hPD.2; clear hPD
            refine W.widen (k := 0) (n := 0) (Nat.le_of_ble_eq_true rfl) (Nat.le_of_ble_eq_true rfl) ?_
            refine lv_iconst (v := 3) hx hb dX4_readNumber_81 (by decide) ?_
            refine lv_imul hx hb dX4_readNumber_82 ?_
            refine lv_eqi (y := 6) (by decide) ?_
            refine lv_iload_n hx hb dX4_readNumber_83 rfl (lv_at hl 3 rfl) ?_
            refine lv_iadd hx hb dX4_readNumber_84 ?_
            refine lv_eqi (y := 7) (by decide) ?_
            refine lv_istore (lv' := [(5, .int 7), (3, .int i_45), (0, .ref Rd), (1, .int (nI 4)), (2, .int (nI 1)), (4, .int i_44)]) hx hb dX4_readNumber_85 hl (by decide) rfl (fun ls hl => ?_)
            refine lv_iload_n hx hb dX4_readNumber_87 rfl (lv_at hl 1 rfl) ?_
            refine va_gets hx hb hZ.2.2.1 hS hown f84 (fun _ h9 => h9) dX4_readNumber_88 ?_
            refine lv_iload hx hb dX4_readNumber_91 (lv_at hl 0 rfl) ?_
            refine va_ti (v := .int 0) hx hb hZ.2.2.2.1 hS (by unfold vp_in; decide) rfl dX4_readNumber_93 ?_
            refine va_gets hx hb hZ.2.2.2.2.1 hS hown f87 (fun _ h9 => h9) dX4_readNumber_94 ?_
            refine lv_iload hx hb dX4_readNumber_97 (lv_at hl 0 rfl) ?_
            refine va_ti (v := .int 20) hx hb hZ.2.2.2.2.2.1 hS (by unfold vp_in; decide) rfl dX4_readNumber_99 ?_
            refine ky_SNi (As := [.int i_45, .int 0, .int 20]) (rest := []) ⟨hx, hb, hml, hown, hts⟩ ⟨hK, hN⟩ hZ hP hD hS hA [] [0, 1, 2] (wc := []) (wr := [(Rv, .inl (g 0, 21, .inl fval)), (Rd, .inr (4, [.ref Tp, .int (nI ln), .int (nI z_46), .int zfa, .int (nI ht), .int (nI ct), .ref Rv])), (Tp, .inl (g 0, 160, .inl ftp))]) rfl rfl rfl rfl (by decide) (k_X6_outside l D g H.size i_45 0 20) ⟨va_cnB 3 hts ggX4_readNumber_X6_outside rfl rfl rfl hN.2.2.2.2.2.1 iiX6 (by decide +kernel) ⟨(Nat.le_of_ble_eq_true rfl), (Nat.le_of_ble_eq_true rfl)⟩, stX6_outside, trivial⟩ rfl hl.1 rfl (Nat.le_of_ble_eq_true rfl) dX4_readNumber_100 ⟨(Nat.le_of_ble_eq_true rfl), (Nat.le_of_ble_eq_true rfl)⟩ (fun r_246 u H locs hw hP2 hD2 hS2 => ?_)
            clear hP hD hS
            obtain ⟨rfl, rfl⟩ := hw
            have hPD : PD D A [(Rv, .inl (g 0, 21, .inl fval)), (Rd, .inr (4, [.ref Tp, .int (nI ln), .int (nI z_46), .int zfa, .int (nI ht), .int (nI ct), .ref Rv])), (Tp, .inl (g 0, 160, .inl ftp))] H := ⟨hP2, hD2⟩
            have hS := hS2; clear hP2 hD2 hS2; have hP := hPD.1; have hD := hPD.2; clear hPD
            refine W.widen (k := 0) (n := 0) (Nat.le_of_ble_eq_true rfl) (Nat.le_of_ble_eq_true rfl) ?_
            refine lv_if_eq (tgt := 117) hx hb dX4_readNumber_103 (by decide) (fun cb_247 => ?_) (fun cb_247 => ?_)
            · skip
              have hq_248 : ¬ (i_45 < 0 ∨ 20 < i_45) := b01_0.mp cb_247
              have hPq_252 := hP; have hDq_252 := hD; have hSq_252 := hS; have hlq_252 := hl; clear hP hD hS hl
              obtain ⟨j_249, hl_250, hu_251, rfl⟩ := rgo (L := 0) (U := 20) rfl rfl (show 0 < 2 ^ 31 by omega) (show 20 < 2 ^ 31 by omega) hq_248
              have hP := hPq_252; have hD := hDq_252; have hS := hSq_252; have hl := hlq_252; clear hPq_252 hDq_252 hSq_252 hlq_252
              refine lv_aload_n hx hb dX4_readNumber_117 rfl (lv_at hl 2 rfl) ?_
              refine va_get (D := D) (ci := 4) (v := .ref Rv) (C := RX4) (T := TX4) (N := 7) hx hb hts iX4 hown hK hP 1 rfl rfl 6 (by decide) f15 (fun _ h9 => h9) rfl dX4_readNumber_118 ?_
              refine lv_iload_n hx hb dX4_readNumber_121 rfl (lv_at hl 3 rfl) ?_
              refine lv_iconst (v := 3) hx hb dX4_readNumber_122 (by decide) ?_
              refine lv_imul hx hb dX4_readNumber_123 ?_
              refine lv_eqi (y := 12) (by decide) ?_
              refine lv_iload_n hx hb dX4_readNumber_124 rfl (lv_at hl 4 rfl) ?_
              refine lv_iadd hx hb dX4_readNumber_125 ?_
              refine lv_eqi (y := 13) (by decide) ?_
              refine lv_iload_n hx hb dX4_readNumber_126 rfl (lv_at hl 1 rfl) ?_
              refine va_iast hx hb hK hP hD hS 0 0 rfl rfl (by unfold vp_in; decide) dX4_readNumber_127 (fun H locs hP2 hD2 hS2 => ?_)
              clear hP hD hS
              have hPD : PD D A [(Rv, .inl (g 0, 21, .inl (upd fval 13 (nI j_249)))), (Rd, .inr (4, [.ref Tp, .int (nI ln), .int (nI z_46), .int zfa, .int (nI ht), .int (nI ct), .ref Rv])), (Tp, .inl (g 0, 160, .inl ftp))] H := ⟨hP2, hD2⟩
              have hS := hS2; clear hP2 hD2 hS2; have hP := hPD.1; have hD := hPD.2; clear hPD
              have hF_253 : vOK (upd fval 13 (nI j_249)) := vOK_upd (h2) (k := 13) (n := j_249) (Nat.le_trans (show j_249 ≤ 20 by omega) (Nat.le_of_ble_eq_true rfl))
              generalize upd fval 13 (nI j_249) = F_253 at hP hD hF_253
              have hPD9 : PD D A [(Rd, .inr (4, [.ref Tp, .int (nI ln), .int (nI z_46), .int zfa, .int (nI ht), .int (nI ct), .ref Rv])), (Tp, .inl (g 0, 160, .inl ftp)), (Rv, .inl (g 0, 21, .inl F_253))] H := ⟨hP.sub [1, 2, 0] rfl, hD.sub [1, 2, 0] (by decide) rfl⟩
              have hP9 := hPD9.1; have hD9 := hPD9.2
              subst hQ
              refine W.widen (k := 0) (n := 0) (Nat.le_of_ble_eq_true rfl) (Nat.le_of_ble_eq_true rfl) ?_
              exact W.vret hx hb hr (fun tS htS _ => ⟨⟨_, rfl, ⟨z_46, zfa, F_253, rfl, (show z_46 ≤ ln by omega), (hF_253)⟩, by rw [htS]; exact hP9, hD9⟩, hS.F htS⟩) hS.2.2 dX4_readNumber_128
            · skip
              have hq_254 : i_45 < 0 ∨ 20 < i_45 := b01_1.mp cb_247
              refine lv_aload_n hx hb dX4_readNumber_106 rfl (lv_at hl 2 rfl) ?_
              refine lv_aload_n hx hb dX4_readNumber_107 rfl (lv_at hl 2 rfl) ?_
              refine va_get (D := D) (ci := 4) (v := .int (nI z_46)) (C := RX4) (T := TX4) (N := 7) hx hb hts iX4 hown hK hP 1 rfl rfl 2 (by decide) f28 (fun _ h9 => h9) rfl dX4_readNumber_108 ?_
              refine lv_iconst (v := 1) hx hb dX4_readNumber_111 (by decide) ?_
              refine lv_isub hx hb dX4_readNumber_112 ?_
              refine lv_topi (fun y_255 _ => ?_)
              refine va_put (D := D) (ci := 4) (v := .int y_255) (ty := .int) (C := RX4) (T := TX4) (N := 7) hx hb hts iX4 tyX4 tyX4_ok nmX4 hown hK hP hD hS 1 rfl rfl 3 (by decide) f31 (fun _ h9 => h9) rfl (by decide +kernel) (rfl) (rfl) (Nat.le_of_ble_eq_true rfl) dX4_readNumber_113 (fun H locs hP2 hD2 hS2 => ?_)
              clear hP hD hS
              have hPD : PD D A [(Rv, .inl (g 0, 21, .inl fval)), (Rd, .inr (4, [.ref Tp, .int (nI ln), .int (nI z_46), .int y_255, .int (nI ht), .int (nI ct), .ref Rv])), (Tp, .inl (g 0, 160, .inl ftp))] H := ⟨hP2, hD2⟩
              have hS := hS2; clear hP2 hD2 hS2; have hP := hPD.1; have hD := hPD.2; clear hPD
              have hPD9 : PD D A [(Rd, .inr (4, [.ref Tp, .int (nI ln), .int (nI z_46), .int y_255, .int (nI ht), .int (nI ct), .ref Rv])), (Tp, .inl (g 0, 160, .inl ftp)), (Rv, .inl (g 0, 21, .inl fval))] H := ⟨hP.sub [1, 2, 0] rfl, hD.sub [1, 2, 0] (by decide) rfl⟩
              have hP9 := hPD9.1; have hD9 := hPD9.2
              subst hQ
              refine W.widen (k := 0) (n := 0) (Nat.le_of_ble_eq_true rfl) (Nat.le_of_ble_eq_true rfl) ?_
              exact W.vret hx hb hr (fun tS htS _ => ⟨⟨_, rfl, ⟨z_46, y_255, fval, rfl, (show z_46 ≤ ln by omega), (h2)⟩, by rw [htS]; exact hP9, hD9⟩, hS.F htS⟩) hS.2.2 dX4_readNumber_116
          · skip
            have hP := hPq_233; have hD := hDq_233; have hS := hSq_233; have hl := hlq_233; clear hPq_233 hDq_233 hSq_233 hlq_233
            refine ky_Si (As := [.int (nI 4)]) (rest := []) ⟨hx, hb, hml, hown, hts⟩ ⟨hK, hN⟩ hZ hP hD hS hA [] [0, 1, 2] (wc := []) (wr := [(Rv, .inl (g 0, 21, .inl fval)), (Rd, .inr (4, [.ref Tp, .int (nI ln), .int (nI z_46), .int zfa, .int (nI ht), .int (nI ct), .ref Rv])), (Tp, .inl (g 0, 160, .inl ftp))]) rfl rfl rfl rfl (by decide) (k_X4_kindOf_4 l D g H.size) (va_cwS 1 hts gX4_readNumber_X4_kindOf rfl rfl rfl (by decide +kernel) ⟨(Nat.le_of_ble_eq_true rfl), (Nat.le_of_ble_eq_true rfl)⟩) rfl hl.1 rfl (Nat.le_of_ble_eq_true rfl) dX4_readNumber_78 ⟨(Nat.le_of_ble_eq_true rfl), (Nat.le_of_ble_eq_true rfl)⟩ (fun r_256 u H locs hw hP2 hD2 hS2 => ?_)
            clear hP hD hS
            obtain ⟨rfl, rfl⟩ := hw
            have hPD : PD D A [(Rv, .inl (g 0, 21, .inl fval)), (Rd, .inr (4, [.ref Tp, .int (nI ln), .int (nI z_46), .int zfa, .int (nI ht), .int (nI ct), .ref Rv])), (Tp, .inl (g 0, 160, .inl ftp))] H := ⟨hP2, hD2⟩
            have hS := hS2; clear hP2 hD2 hS2; have hP := hPD.1; have hD := hPD.2; clear hPD
            refine W.widen (k := 0) (n := 0) (Nat.le_of_ble_eq_true rfl) (Nat.le_of_ble_eq_true rfl) ?_
            refine lv_iconst (v := 3) hx hb dX4_readNumber_81 (by decide) ?_
            refine lv_imul hx hb dX4_readNumber_82 ?_
            refine lv_eqi (y := 6) (by decide) ?_
            refine lv_iload_n hx hb dX4_readNumber_83 rfl (lv_at hl 3 rfl) ?_
            refine lv_iadd hx hb dX4_readNumber_84 ?_
            refine lv_eqi (y := 8) (by decide) ?_
            refine lv_istore (lv' := [(5, .int 8), (3, .int i_45), (0, .ref Rd), (1, .int (nI 4)), (2, .int (nI 2)), (4, .int i_44)]) hx hb dX4_readNumber_85 hl (by decide) rfl (fun ls hl => ?_)
            refine lv_iload_n hx hb dX4_readNumber_87 rfl (lv_at hl 1 rfl) ?_
            refine va_gets hx hb hZ.2.2.1 hS hown f84 (fun _ h9 => h9) dX4_readNumber_88 ?_
            refine lv_iload hx hb dX4_readNumber_91 (lv_at hl 0 rfl) ?_
            refine va_ti (v := .int 0) hx hb hZ.2.2.2.1 hS (by unfold vp_in; decide) rfl dX4_readNumber_93 ?_
            refine va_gets hx hb hZ.2.2.2.2.1 hS hown f87 (fun _ h9 => h9) dX4_readNumber_94 ?_
            refine lv_iload hx hb dX4_readNumber_97 (lv_at hl 0 rfl) ?_
            refine va_ti (v := .int 9) hx hb hZ.2.2.2.2.2.1 hS (by unfold vp_in; decide) rfl dX4_readNumber_99 ?_
            refine ky_SNi (As := [.int i_45, .int 0, .int 9]) (rest := []) ⟨hx, hb, hml, hown, hts⟩ ⟨hK, hN⟩ hZ hP hD hS hA [] [0, 1, 2] (wc := []) (wr := [(Rv, .inl (g 0, 21, .inl fval)), (Rd, .inr (4, [.ref Tp, .int (nI ln), .int (nI z_46), .int zfa, .int (nI ht), .int (nI ct), .ref Rv])), (Tp, .inl (g 0, 160, .inl ftp))]) rfl rfl rfl rfl (by decide) (k_X6_outside l D g H.size i_45 0 9) ⟨va_cnB 3 hts ggX4_readNumber_X6_outside rfl rfl rfl hN.2.2.2.2.2.1 iiX6 (by decide +kernel) ⟨(Nat.le_of_ble_eq_true rfl), (Nat.le_of_ble_eq_true rfl)⟩, stX6_outside, trivial⟩ rfl hl.1 rfl (Nat.le_of_ble_eq_true rfl) dX4_readNumber_100 ⟨(Nat.le_of_ble_eq_true rfl), (Nat.le_of_ble_eq_true rfl)⟩ (fun r_257 u H locs hw hP2 hD2 hS2 => ?_)
            clear hP hD hS
            obtain ⟨rfl, rfl⟩ := hw
            have hPD : PD D A [(Rv, .inl (g 0, 21, .inl fval)), (Rd, .inr (4, [.ref Tp, .int (nI ln), .int (nI z_46), .int zfa, .int (nI ht), .int (nI ct), .ref Rv])), (Tp, .inl (g 0, 160, .inl ftp))] H := ⟨hP2, hD2⟩
            have hS := hS2; clear hP2 hD2 hS2; have hP := hPD.1; have hD := hPD.2; clear hPD
            refine W.widen (k := 0) (n := 0) (Nat.le_of_ble_eq_true rfl) (Nat.le_of_ble_eq_true rfl) ?_
            refine lv_if_eq (tgt := 117) hx hb dX4_readNumber_103 (by decide) (fun cb_258 => ?_) (fun cb_258 => ?_)
            · skip
              have hq_259 : ¬ (i_45 < 0 ∨ 9 < i_45) := b01_0.mp cb_258
              have hPq_263 := hP; have hDq_263 := hD; have hSq_263 := hS; have hlq_263 := hl; clear hP hD hS hl
              obtain ⟨j_260, hl_261, hu_262, rfl⟩ := rgo (L := 0) (U := 9) rfl rfl (show 0 < 2 ^ 31 by omega) (show 9 < 2 ^ 31 by omega) hq_259
              have hP := hPq_263; have hD := hDq_263; have hS := hSq_263; have hl := hlq_263; clear hPq_263 hDq_263 hSq_263 hlq_263
              refine lv_aload_n hx hb dX4_readNumber_117 rfl (lv_at hl 2 rfl) ?_
              refine va_get (D := D) (ci := 4) (v := .ref Rv) (C := RX4) (T := TX4) (N := 7) hx hb hts iX4 hown hK hP 1 rfl rfl 6 (by decide) f15 (fun _ h9 => h9) rfl dX4_readNumber_118 ?_
              refine lv_iload_n hx hb dX4_readNumber_121 rfl (lv_at hl 3 rfl) ?_
              refine lv_iconst (v := 3) hx hb dX4_readNumber_122 (by decide) ?_
              refine lv_imul hx hb dX4_readNumber_123 ?_
              refine lv_eqi (y := 12) (by decide) ?_
              refine lv_iload_n hx hb dX4_readNumber_124 rfl (lv_at hl 4 rfl) ?_
              refine lv_iadd hx hb dX4_readNumber_125 ?_
              refine lv_eqi (y := 14) (by decide) ?_
              refine lv_iload_n hx hb dX4_readNumber_126 rfl (lv_at hl 1 rfl) ?_
              refine va_iast hx hb hK hP hD hS 0 0 rfl rfl (by unfold vp_in; decide) dX4_readNumber_127 (fun H locs hP2 hD2 hS2 => ?_)
              clear hP hD hS
              have hPD : PD D A [(Rv, .inl (g 0, 21, .inl (upd fval 14 (nI j_260)))), (Rd, .inr (4, [.ref Tp, .int (nI ln), .int (nI z_46), .int zfa, .int (nI ht), .int (nI ct), .ref Rv])), (Tp, .inl (g 0, 160, .inl ftp))] H := ⟨hP2, hD2⟩
              have hS := hS2; clear hP2 hD2 hS2; have hP := hPD.1; have hD := hPD.2; clear hPD
              have hF_264 : vOK (upd fval 14 (nI j_260)) := vOK_upd (h2) (k := 14) (n := j_260) (Nat.le_trans (show j_260 ≤ 9 by omega) (Nat.le_of_ble_eq_true rfl))
              generalize upd fval 14 (nI j_260) = F_264 at hP hD hF_264
              have hPD9 : PD D A [(Rd, .inr (4, [.ref Tp, .int (nI ln), .int (nI z_46), .int zfa, .int (nI ht), .int (nI ct), .ref Rv])), (Tp, .inl (g 0, 160, .inl ftp)), (Rv, .inl (g 0, 21, .inl F_264))] H := ⟨hP.sub [1, 2, 0] rfl, hD.sub [1, 2, 0] (by decide) rfl⟩
              have hP9 := hPD9.1; have hD9 := hPD9.2
              subst hQ
              refine W.widen (k := 0) (n := 0) (Nat.le_of_ble_eq_true rfl) (Nat.le_of_ble_eq_true rfl) ?_
              exact W.vret hx hb hr (fun tS htS _ => ⟨⟨_, rfl, ⟨z_46, zfa, F_264, rfl, (show z_46 ≤ ln by omega), (hF_264)⟩, by rw [htS]; exact hP9, hD9⟩, hS.F htS⟩) hS.2.2 dX4_readNumber_128
            · skip
              have hq_265 : i_45 < 0 ∨ 9 < i_45 := b01_1.mp cb_258
              refine lv_aload_n hx hb dX4_readNumber_106 rfl (lv_at hl 2 rfl) ?_
              refine lv_aload_n hx hb dX4_readNumber_107 rfl (lv_at hl 2 rfl) ?_
              refine va_get (D := D) (ci := 4) (v := .int (nI z_46)) (C := RX4) (T := TX4) (N := 7) hx hb hts iX4 hown hK hP 1 rfl rfl 2 (by decide) f28 (fun _ h9 => h9) rfl dX4_readNumber_108 ?_
              refine lv_iconst (v := 1) hx hb dX4_readNumber_111 (by decide) ?_
              refine lv_isub hx hb dX4_readNumber_112 ?_
              refine lv_topi (fun y_266 _ => ?_)
              refine va_put (D := D) (ci := 4) (v := .int y_266) (ty := .int) (C := RX4) (T := TX4) (N := 7) hx hb hts iX4 tyX4 tyX4_ok nmX4 hown hK hP hD hS 1 rfl rfl 3 (by decide) f31 (fun _ h9 => h9) rfl (by decide +kernel) (rfl) (rfl) (Nat.le_of_ble_eq_true rfl) dX4_readNumber_113 (fun H locs hP2 hD2 hS2 => ?_)
              clear hP hD hS
              have hPD : PD D A [(Rv, .inl (g 0, 21, .inl fval)), (Rd, .inr (4, [.ref Tp, .int (nI ln), .int (nI z_46), .int y_266, .int (nI ht), .int (nI ct), .ref Rv])), (Tp, .inl (g 0, 160, .inl ftp))] H := ⟨hP2, hD2⟩
              have hS := hS2; clear hP2 hD2 hS2; have hP := hPD.1; have hD := hPD.2; clear hPD
              have hPD9 : PD D A [(Rd, .inr (4, [.ref Tp, .int (nI ln), .int (nI z_46), .int y_266, .int (nI ht), .int (nI ct), .ref Rv])), (Tp, .inl (g 0, 160, .inl ftp)), (Rv, .inl (g 0, 21, .inl fval))] H := ⟨hP.sub [1, 2, 0] rfl, hD.sub [1, 2, 0] (by decide) rfl⟩
              have hP9 := hPD9.1; have hD9 := hPD9.2
              subst hQ
              refine W.widen (k := 0) (n := 0) (Nat.le_of_ble_eq_true rfl) (Nat.le_of_ble_eq_true rfl) ?_
              exact W.vret hx hb hr (fun tS htS _ => ⟨⟨_, rfl, ⟨z_46, y_266, fval, rfl, (show z_46 ≤ ln by omega), (h2)⟩, by rw [htS]; exact hP9, hD9⟩, hS.F htS⟩) hS.2.2 dX4_readNumber_116
        · skip
          have hP := hPq_96; have hD := hDq_96; have hS := hSq_96; have hl := hlq_96; clear hPq_96 hDq_96 hSq_96 hlq_96
          refine lv_iload_n hx hb dX4_readNumber_77 rfl (lv_at hl 2 rfl) ?_
          have hPq_267 := hP; have hDq_267 := hD; have hSq_267 := hS; have hlq_267 := hl; clear hP hD hS hl
          rcases (show it = 0 ∨ it = 1 ∨ it = 2 by omega) with rfl | rfl | rfl
          · skip
            have hP := hPq_267; have hD := hDq_267; have hS := hSq_267; have hl := hlq_267; clear hPq_267 hDq_267 hSq_267 hlq_267
            refine ky_Si (As := [.int (nI 5)]) (rest := []) ⟨hx, hb, hml, hown, hts⟩ ⟨hK, hN⟩ hZ hP hD hS hA [] [0, 1, 2] (wc := []) (wr := [(Rv, .inl (g 0, 21, .inl fval)), (Rd, .inr (4, [.ref Tp, .int (nI ln), .int (nI z_46), .int zfa, .int (nI ht), .int (nI ct), .ref Rv])), (Tp, .inl (g 0, 160, .inl ftp))]) rfl rfl rfl rfl (by decide) (k_X4_kindOf_5 l D g H.size) (va_cwS 1 hts gX4_readNumber_X4_kindOf rfl rfl rfl (by decide +kernel) ⟨(Nat.le_of_ble_eq_true rfl), (Nat.le_of_ble_eq_true rfl)⟩) rfl hl.1 rfl (Nat.le_of_ble_eq_true rfl) dX4_readNumber_78 ⟨(Nat.le_of_ble_eq_true rfl), (Nat.le_of_ble_eq_true rfl)⟩ (fun r_268 u H locs hw hP2 hD2 hS2 => ?_)
            clear hP hD hS
            obtain ⟨rfl, rfl⟩ := hw
            have hPD : PD D A [(Rv, .inl (g 0, 21, .inl fval)), (Rd, .inr (4, [.ref Tp, .int (nI ln), .int (nI z_46), .int zfa, .int (nI ht), .int (nI ct), .ref Rv])), (Tp, .inl (g 0, 160, .inl ftp))] H := ⟨hP2, hD2⟩
            have hS := hS2; clear hP2 hD2 hS2; have hP := hPD.1; have hD := hPD.2; clear hPD
            refine W.widen (k := 0) (n := 0) (Nat.le_of_ble_eq_true rfl) (Nat.le_of_ble_eq_true rfl) ?_
            refine lv_iconst (v := 3) hx hb dX4_readNumber_81 (by decide) ?_
            refine lv_imul hx hb dX4_readNumber_82 ?_
            refine lv_eqi (y := 6) (by decide) ?_
            refine lv_iload_n hx hb dX4_readNumber_83 rfl (lv_at hl 3 rfl) ?_
            refine lv_iadd hx hb dX4_readNumber_84 ?_
            refine lv_eqi (y := 6) (by decide) ?_
            refine lv_istore (lv' := [(5, .int 6), (3, .int i_45), (0, .ref Rd), (1, .int (nI 5)), (2, .int (nI 0)), (4, .int i_44)]) hx hb dX4_readNumber_85 hl (by decide) rfl (fun ls hl => ?_)
            refine lv_iload_n hx hb dX4_readNumber_87 rfl (lv_at hl 1 rfl) ?_
            refine va_gets hx hb hZ.2.2.1 hS hown f84 (fun _ h9 => h9) dX4_readNumber_88 ?_
            refine lv_iload hx hb dX4_readNumber_91 (lv_at hl 0 rfl) ?_
            refine va_ti (v := .int 0) hx hb hZ.2.2.2.1 hS (by unfold vp_in; decide) rfl dX4_readNumber_93 ?_
            refine va_gets hx hb hZ.2.2.2.2.1 hS hown f87 (fun _ h9 => h9) dX4_readNumber_94 ?_
            refine lv_iload hx hb dX4_readNumber_97 (lv_at hl 0 rfl) ?_
            refine va_ti (v := .int 9) hx hb hZ.2.2.2.2.2.1 hS (by unfold vp_in; decide) rfl dX4_readNumber_99 ?_
            refine ky_SNi (As := [.int i_45, .int 0, .int 9]) (rest := []) ⟨hx, hb, hml, hown, hts⟩ ⟨hK, hN⟩ hZ hP hD hS hA [] [0, 1, 2] (wc := []) (wr := [(Rv, .inl (g 0, 21, .inl fval)), (Rd, .inr (4, [.ref Tp, .int (nI ln), .int (nI z_46), .int zfa, .int (nI ht), .int (nI ct), .ref Rv])), (Tp, .inl (g 0, 160, .inl ftp))]) rfl rfl rfl rfl (by decide) (k_X6_outside l D g H.size i_45 0 9) ⟨va_cnB 3 hts ggX4_readNumber_X6_outside rfl rfl rfl hN.2.2.2.2.2.1 iiX6 (by decide +kernel) ⟨(Nat.le_of_ble_eq_true rfl), (Nat.le_of_ble_eq_true rfl)⟩, stX6_outside, trivial⟩ rfl hl.1 rfl (Nat.le_of_ble_eq_true rfl) dX4_readNumber_100 ⟨(Nat.le_of_ble_eq_true rfl), (Nat.le_of_ble_eq_true rfl)⟩ (fun r_269 u H locs hw hP2 hD2 hS2 => ?_)
            clear hP hD hS
            obtain ⟨rfl, rfl⟩ := hw
            have hPD : PD D A [(Rv, .inl (g 0, 21, .inl fval)), (Rd, .inr (4, [.ref Tp, .int (nI ln), .int (nI z_46), .int zfa, .int (nI ht), .int (nI ct), .ref Rv])), (Tp, .inl (g 0, 160, .inl ftp))] H := ⟨hP2, hD2⟩
            have hS := hS2; clear hP2 hD2 hS2; have hP := hPD.1; have hD := hPD.2; clear hPD
            refine W.widen (k := 0) (n := 0) (Nat.le_of_ble_eq_true rfl) (Nat.le_of_ble_eq_true rfl) ?_
            refine lv_if_eq (tgt := 117) hx hb dX4_readNumber_103 (by decide) (fun cb_270 => ?_) (fun cb_270 => ?_)
            · skip
              have hq_271 : ¬ (i_45 < 0 ∨ 9 < i_45) := b01_0.mp cb_270
              have hPq_275 := hP; have hDq_275 := hD; have hSq_275 := hS; have hlq_275 := hl; clear hP hD hS hl
              obtain ⟨j_272, hl_273, hu_274, rfl⟩ := rgo (L := 0) (U := 9) rfl rfl (show 0 < 2 ^ 31 by omega) (show 9 < 2 ^ 31 by omega) hq_271
              have hP := hPq_275; have hD := hDq_275; have hS := hSq_275; have hl := hlq_275; clear hPq_275 hDq_275 hSq_275 hlq_275
              refine lv_aload_n hx hb dX4_readNumber_117 rfl (lv_at hl 2 rfl) ?_
              refine va_get (D := D) (ci := 4) (v := .ref Rv) (C := RX4) (T := TX4) (N := 7) hx hb hts iX4 hown hK hP 1 rfl rfl 6 (by decide) f15 (fun _ h9 => h9) rfl dX4_readNumber_118 ?_
              refine lv_iload_n hx hb dX4_readNumber_121 rfl (lv_at hl 3 rfl) ?_
              refine lv_iconst (v := 3) hx hb dX4_readNumber_122 (by decide) ?_
              refine lv_imul hx hb dX4_readNumber_123 ?_
              refine lv_eqi (y := 15) (by decide) ?_
              refine lv_iload_n hx hb dX4_readNumber_124 rfl (lv_at hl 4 rfl) ?_
              refine lv_iadd hx hb dX4_readNumber_125 ?_
              refine lv_eqi (y := 15) (by decide) ?_
              refine lv_iload_n hx hb dX4_readNumber_126 rfl (lv_at hl 1 rfl) ?_
              refine va_iast hx hb hK hP hD hS 0 0 rfl rfl (by unfold vp_in; decide) dX4_readNumber_127 (fun H locs hP2 hD2 hS2 => ?_)
              clear hP hD hS
              have hPD : PD D A [(Rv, .inl (g 0, 21, .inl (upd fval 15 (nI j_272)))), (Rd, .inr (4, [.ref Tp, .int (nI ln), .int (nI z_46), .int zfa, .int (nI ht), .int (nI ct), .ref Rv])), (Tp, .inl (g 0, 160, .inl ftp))] H := ⟨hP2, hD2⟩
              have hS := hS2; clear hP2 hD2 hS2; have hP := hPD.1; have hD := hPD.2; clear hPD
              have hF_276 : vOK (upd fval 15 (nI j_272)) := vOK_upd (h2) (k := 15) (n := j_272) (Nat.le_trans (show j_272 ≤ 9 by omega) (Nat.le_of_ble_eq_true rfl))
              generalize upd fval 15 (nI j_272) = F_276 at hP hD hF_276
              have hPD9 : PD D A [(Rd, .inr (4, [.ref Tp, .int (nI ln), .int (nI z_46), .int zfa, .int (nI ht), .int (nI ct), .ref Rv])), (Tp, .inl (g 0, 160, .inl ftp)), (Rv, .inl (g 0, 21, .inl F_276))] H := ⟨hP.sub [1, 2, 0] rfl, hD.sub [1, 2, 0] (by decide) rfl⟩
              have hP9 := hPD9.1; have hD9 := hPD9.2
              subst hQ
              refine W.widen (k := 0) (n := 0) (Nat.le_of_ble_eq_true rfl) (Nat.le_of_ble_eq_true rfl) ?_
              exact W.vret hx hb hr (fun tS htS _ => ⟨⟨_, rfl, ⟨z_46, zfa, F_276, rfl, (show z_46 ≤ ln by omega), (hF_276)⟩, by rw [htS]; exact hP9, hD9⟩, hS.F htS⟩) hS.2.2 dX4_readNumber_128
            · skip
              have hq_277 : i_45 < 0 ∨ 9 < i_45 := b01_1.mp cb_270
              refine lv_aload_n hx hb dX4_readNumber_106 rfl (lv_at hl 2 rfl) ?_
              refine lv_aload_n hx hb dX4_readNumber_107 rfl (lv_at hl 2 rfl) ?_
              refine va_get (D := D) (ci := 4) (v := .int (nI z_46)) (C := RX4) (T := TX4) (N := 7) hx hb hts iX4 hown hK hP 1 rfl rfl 2 (by decide) f28 (fun _ h9 => h9) rfl dX4_readNumber_108 ?_
              refine lv_iconst (v := 1) hx hb dX4_readNumber_111 (by decide) ?_
              refine lv_isub hx hb dX4_readNumber_112 ?_
              refine lv_topi (fun y_278 _ => ?_)
              refine va_put (D := D) (ci := 4) (v := .int y_278) (ty := .int) (C := RX4) (T := TX4) (N := 7) hx hb hts iX4 tyX4 tyX4_ok nmX4 hown hK hP hD hS 1 rfl rfl 3 (by decide) f31 (fun _ h9 => h9) rfl (by decide +kernel) (rfl) (rfl) (Nat.le_of_ble_eq_true rfl) dX4_readNumber_113 (fun H locs hP2 hD2 hS2 => ?_)
              clear hP hD hS
              have hPD : PD D A [(Rv, .inl (g 0, 21, .inl fval)), (Rd, .inr (4, [.ref Tp, .int (nI ln), .int (nI z_46), .int y_278, .int (nI ht), .int (nI ct), .ref Rv])), (Tp, .inl (g 0, 160, .inl ftp))] H := ⟨hP2, hD2⟩
              have hS := hS2; clear hP2 hD2 hS2; have hP := hPD.1; have hD := hPD.2; clear hPD
              have hPD9 : PD D A [(Rd, .inr (4, [.ref Tp, .int (nI ln), .int (nI z_46), .int y_278, .int (nI ht), .int (nI ct), .ref Rv])), (Tp, .inl (g 0, 160, .inl ftp)), (Rv, .inl (g 0, 21, .inl fval))] H := ⟨hP.sub [1, 2, 0] rfl, hD.sub [1, 2, 0] (by decide) rfl⟩
              have hP9 := hPD9.1; have hD9 := hPD9.2
              subst hQ
              refine W.widen (k := 0) (n := 0) (Nat.le_of_ble_eq_true rfl) (Nat.le_of_ble_eq_true rfl) ?_
              exact W.vret hx hb hr (fun tS htS _ => ⟨⟨_, rfl, ⟨z_46, y_278, fval, rfl, (show z_46 ≤ ln by omega), (h2)⟩, by rw [htS]; exact hP9, hD9⟩, hS.F htS⟩) hS.2.2 dX4_readNumber_116
          · skip
            have hP := hPq_267; have hD := hDq_267; have hS := hSq_267; have hl := hlq_267; clear hPq_267 hDq_267 hSq_267 hlq_267
            refine ky_Si (As := [.int (nI 5)]) (rest := []) ⟨hx, hb, hml, hown, hts⟩ ⟨hK, hN⟩ hZ hP hD hS hA [] [0, 1, 2] (wc := []) (wr := [(Rv, .inl (g 0, 21, .inl fval)), (Rd, .inr (4, [.ref Tp, .int (nI ln), .int (nI z_46), .int zfa, .int (nI ht), .int (nI ct), .ref Rv])), (Tp, .inl (g 0, 160, .inl ftp))]) rfl rfl rfl rfl (by decide) (k_X4_kindOf_5 l D g H.size) (va_cwS 1 hts gX4_readNumber_X4_kindOf rfl rfl rfl (by decide +kernel) ⟨(Nat.le_of_ble_eq_true rfl), (Nat.le_of_ble_eq_true rfl)⟩) rfl hl.1 rfl (Nat.le_of_ble_eq_true rfl) dX4_readNumber_78 ⟨(Nat.le_of_ble_eq_true rfl), (Nat.le_of_ble_eq_true rfl)⟩ (fun r_279 u H locs hw hP2 hD2 hS2 => ?_)
            clear hP hD hS
            obtain ⟨rfl, rfl⟩ := hw
            have hPD : PD D A [(Rv, .inl (g 0, 21, .inl fval)), (Rd, .inr (4, [.ref Tp, .int (nI ln), .int (nI z_46), .int zfa, .int (nI ht), .int (nI ct), .ref Rv])), (Tp, .inl (g 0, 160, .inl ftp))] H := ⟨hP2, hD2⟩
            have hS := hS2; clear hP2 hD2 hS2; have hP := hPD.1; have hD := hPD.2; clear hPD
            refine W.widen (k := 0) (n := 0) (Nat.le_of_ble_eq_true rfl) (Nat.le_of_ble_eq_true rfl) ?_
            refine lv_iconst (v := 3) hx hb dX4_readNumber_81 (by decide) ?_
            refine lv_imul hx hb dX4_readNumber_82 ?_
            refine lv_eqi (y := 6) (by decide) ?_
            refine lv_iload_n hx hb dX4_readNumber_83 rfl (lv_at hl 3 rfl) ?_
            refine lv_iadd hx hb dX4_readNumber_84 ?_
            refine lv_eqi (y := 7) (by decide) ?_
            refine lv_istore (lv' := [(5, .int 7), (3, .int i_45), (0, .ref Rd), (1, .int (nI 5)), (2, .int (nI 1)), (4, .int i_44)]) hx hb dX4_readNumber_85 hl (by decide) rfl (fun ls hl => ?_)
            refine lv_iload_n hx hb dX4_readNumber_87 rfl (lv_at hl 1 rfl) ?_
            refine va_gets hx hb hZ.2.2.1 hS hown f84 (fun _ h9 => h9) dX4_readNumber_88 ?_
            refine lv_iload hx hb dX4_readNumber_91 (lv_at hl 0 rfl) ?_
            refine va_ti (v := .int 0) hx hb hZ.2.2.2.1 hS (by unfold vp_in; decide) rfl dX4_readNumber_93 ?_
            refine va_gets hx hb hZ.2.2.2.2.1 hS hown f87 (fun _ h9 => h9) dX4_readNumber_94 ?_
            refine lv_iload hx hb dX4_readNumber_97 (lv_at hl 0 rfl) ?_
            refine va_ti (v := .int 20) hx hb hZ.2.2.2.2.2.1 hS (by unfold vp_in; decide) rfl dX4_readNumber_99 ?_
            refine ky_SNi (As := [.int i_45, .int 0, .int 20]) (rest := []) ⟨hx, hb, hml, hown, hts⟩ ⟨hK, hN⟩ hZ hP hD hS hA [] [0, 1, 2] (wc := []) (wr := [(Rv, .inl (g 0, 21, .inl fval)), (Rd, .inr (4, [.ref Tp, .int (nI ln), .int (nI z_46), .int zfa, .int (nI ht), .int (nI ct), .ref Rv])), (Tp, .inl (g 0, 160, .inl ftp))]) rfl rfl rfl rfl (by decide) (k_X6_outside l D g H.size i_45 0 20) ⟨va_cnB 3 hts ggX4_readNumber_X6_outside rfl rfl rfl hN.2.2.2.2.2.1 iiX6 (by decide +kernel) ⟨(Nat.le_of_ble_eq_true rfl), (Nat.le_of_ble_eq_true rfl)⟩, stX6_outside, trivial⟩ rfl hl.1 rfl (Nat.le_of_ble_eq_true rfl) dX4_readNumber_100 ⟨(Nat.le_of_ble_eq_true rfl), (Nat.le_of_ble_eq_true rfl)⟩ (fun r_280 u H locs hw hP2 hD2 hS2 => ?_)
            clear hP hD hS
            obtain ⟨rfl, rfl⟩ := hw
            have hPD : PD D A [(Rv, .inl (g 0, 21, .inl fval)), (Rd, .inr (4, [.ref Tp, .int (nI ln), .int (nI z_46), .int zfa, .int (nI ht), .int (nI ct), .ref Rv])), (Tp, .inl (g 0, 160, .inl ftp))] H := ⟨hP2, hD2⟩
            have hS := hS2; clear hP2 hD2 hS2; have hP := hPD.1; have hD := hPD.2; clear hPD
            refine W.widen (k := 0) (n := 0) (Nat.le_of_ble_eq_true rfl) (Nat.le_of_ble_eq_true rfl) ?_
            refine lv_if_eq (tgt := 117) hx hb dX4_readNumber_103 (by decide) (fun cb_281 => ?_) (fun cb_281 => ?_)
            · skip
              have hq_282 : ¬ (i_45 < 0 ∨ 20 < i_45) := b01_0.mp cb_281
              have hPq_286 := hP; have hDq_286 := hD; have hSq_286 := hS; have hlq_286 := hl; clear hP hD hS hl
              obtain ⟨j_283, hl_284, hu_285, rfl⟩ := rgo (L := 0) (U := 20) rfl rfl (show 0 < 2 ^ 31 by omega) (show 20 < 2 ^ 31 by omega) hq_282
              have hP := hPq_286; have hD := hDq_286; have hS := hSq_286; have hl := hlq_286; clear hPq_286 hDq_286 hSq_286 hlq_286
              refine lv_aload_n hx hb dX4_readNumber_117 rfl (lv_at hl 2 rfl) ?_
              refine va_get (D := D) (ci := 4) (v := .ref Rv) (C := RX4) (T := TX4) (N := 7) hx hb hts iX4 hown hK hP 1 rfl rfl 6 (by decide) f15 (fun _ h9 => h9) rfl dX4_readNumber_118 ?_
              refine lv_iload_n hx hb dX4_readNumber_121 rfl (lv_at hl 3 rfl) ?_
              refine lv_iconst (v := 3) hx hb dX4_readNumber_122 (by decide) ?_
              refine lv_imul hx hb dX4_readNumber_123 ?_
              refine lv_eqi (y := 15) (by decide) ?_
              refine lv_iload_n hx hb dX4_readNumber_124 rfl (lv_at hl 4 rfl) ?_
              refine lv_iadd hx hb dX4_readNumber_125 ?_
              refine lv_eqi (y := 16) (by decide) ?_
              refine lv_iload_n hx hb dX4_readNumber_126 rfl (lv_at hl 1 rfl) ?_
              refine va_iast hx hb hK hP hD hS 0 0 rfl rfl (by unfold vp_in; decide) dX4_readNumber_127 (fun H locs hP2 hD2 hS2 => ?_)
              clear hP hD hS
              have hPD : PD D A [(Rv, .inl (g 0, 21, .inl (upd fval 16 (nI j_283)))), (Rd, .inr (4, [.ref Tp, .int (nI ln), .int (nI z_46), .int zfa, .int (nI ht), .int (nI ct), .ref Rv])), (Tp, .inl (g 0, 160, .inl ftp))] H := ⟨hP2, hD2⟩
              have hS := hS2; clear hP2 hD2 hS2; have hP := hPD.1; have hD := hPD.2; clear hPD
              have hF_287 : vOK (upd fval 16 (nI j_283)) := vOK_upd (h2) (k := 16) (n := j_283) (Nat.le_trans (show j_283 ≤ 20 by omega) (Nat.le_of_ble_eq_true rfl))
              generalize upd fval 16 (nI j_283) = F_287 at hP hD hF_287
              have hPD9 : PD D A [(Rd, .inr (4, [.ref Tp, .int (nI ln), .int (nI z_46), .int zfa, .int (nI ht), .int (nI ct), .ref Rv])), (Tp, .inl (g 0, 160, .inl ftp)), (Rv, .inl (g 0, 21, .inl F_287))] H := ⟨hP.sub [1, 2, 0] rfl, hD.sub [1, 2, 0] (by decide) rfl⟩
              have hP9 := hPD9.1; have hD9 := hPD9.2
              subst hQ
              refine W.widen (k := 0) (n := 0) (Nat.le_of_ble_eq_true rfl) (Nat.le_of_ble_eq_true rfl) ?_
              exact W.vret hx hb hr (fun tS htS _ => ⟨⟨_, rfl, ⟨z_46, zfa, F_287, rfl, (show z_46 ≤ ln by omega), (hF_287)⟩, by rw [htS]; exact hP9, hD9⟩, hS.F htS⟩) hS.2.2 dX4_readNumber_128
            · skip
              have hq_288 : i_45 < 0 ∨ 20 < i_45 := b01_1.mp cb_281
              refine lv_aload_n hx hb dX4_readNumber_106 rfl (lv_at hl 2 rfl) ?_
              refine lv_aload_n hx hb dX4_readNumber_107 rfl (lv_at hl 2 rfl) ?_
              refine va_get (D := D) (ci := 4) (v := .int (nI z_46)) (C := RX4) (T := TX4) (N := 7) hx hb hts iX4 hown hK hP 1 rfl rfl 2 (by decide) f28 (fun _ h9 => h9) rfl dX4_readNumber_108 ?_
              refine lv_iconst (v := 1) hx hb dX4_readNumber_111 (by decide) ?_
              refine lv_isub hx hb dX4_readNumber_112 ?_
              refine lv_topi (fun y_289 _ => ?_)
              refine va_put (D := D) (ci := 4) (v := .int y_289) (ty := .int) (C := RX4) (T := TX4) (N := 7) hx hb hts iX4 tyX4 tyX4_ok nmX4 hown hK hP hD hS 1 rfl rfl 3 (by decide) f31 (fun _ h9 => h9) rfl (by decide +kernel) (rfl) (rfl) (Nat.le_of_ble_eq_true rfl) dX4_readNumber_113 (fun H locs hP2 hD2 hS2 => ?_)
              clear hP hD hS
              have hPD : PD D A [(Rv, .inl (g 0, 21, .inl fval)), (Rd, .inr (4, [.ref Tp, .int (nI ln), .int (nI z_46), .int y_289, .int (nI ht), .int (nI ct), .ref Rv])), (Tp, .inl (g 0, 160, .inl ftp))] H := ⟨hP2, hD2⟩
              have hS := hS2; clear hP2 hD2 hS2; have hP := hPD.1; have hD := hPD.2; clear hPD
              have hPD9 : PD D A [(Rd, .inr (4, [.ref Tp, .int (nI ln), .int (nI z_46), .int y_289, .int (nI ht), .int (nI ct), .ref Rv])), (Tp, .inl (g 0, 160, .inl ftp)), (Rv, .inl (g 0, 21, .inl fval))] H := ⟨hP.sub [1, 2, 0] rfl, hD.sub [1, 2, 0] (by decide) rfl⟩
              have hP9 := hPD9.1; have hD9 := hPD9.2
              subst hQ
              refine W.widen (k := 0) (n := 0) (Nat.le_of_ble_eq_true rfl) (Nat.le_of_ble_eq_true rfl) ?_
              exact W.vret hx hb hr (fun tS htS _ => ⟨⟨_, rfl, ⟨z_46, y_289, fval, rfl, (show z_46 ≤ ln by omega), (h2)⟩, by rw [htS]; exact hP9, hD9⟩, hS.F htS⟩) hS.2.2 dX4_readNumber_116
          · skip
            have hP := hPq_267; have hD := hDq_267; have hS := hSq_267; have hl := hlq_267; clear hPq_267 hDq_267 hSq_267 hlq_267
            refine ky_Si (As := [.int (nI 5)]) (rest := []) ⟨hx, hb, hml, hown, hts⟩ ⟨hK, hN⟩ hZ hP hD hS hA [] [0, 1, 2] (wc := []) (wr := [(Rv, .inl (g 0, 21, .inl fval)), (Rd, .inr (4, [.ref Tp, .int (nI ln), .int (nI z_46), .int zfa, .int (nI ht), .int (nI ct), .ref Rv])), (Tp, .inl (g 0, 160, .inl ftp))]) rfl rfl rfl rfl (by decide) (k_X4_kindOf_5 l D g H.size) (va_cwS 1 hts gX4_readNumber_X4_kindOf rfl rfl rfl (by decide +kernel) ⟨(Nat.le_of_ble_eq_true rfl), (Nat.le_of_ble_eq_true rfl)⟩) rfl hl.1 rfl (Nat.le_of_ble_eq_true rfl) dX4_readNumber_78 ⟨(Nat.le_of_ble_eq_true rfl), (Nat.le_of_ble_eq_true rfl)⟩ (fun r_290 u H locs hw hP2 hD2 hS2 => ?_)
            clear hP hD hS
            obtain ⟨rfl, rfl⟩ := hw
            have hPD : PD D A [(Rv, .inl (g 0, 21, .inl fval)), (Rd, .inr (4, [.ref Tp, .int (nI ln), .int (nI z_46), .int zfa, .int (nI ht), .int (nI ct), .ref Rv])), (Tp, .inl (g 0, 160, .inl ftp))] H := ⟨hP2, hD2⟩
            have hS := hS2; clear hP2 hD2 hS2; have hP := hPD.1; have hD := hPD.2; clear hPD
            refine W.widen (k := 0) (n := 0) (Nat.le_of_ble_eq_true rfl) (Nat.le_of_ble_eq_true rfl) ?_
            refine lv_iconst (v := 3) hx hb dX4_readNumber_81 (by decide) ?_
            refine lv_imul hx hb dX4_readNumber_82 ?_
            refine lv_eqi (y := 6) (by decide) ?_
            refine lv_iload_n hx hb dX4_readNumber_83 rfl (lv_at hl 3 rfl) ?_
            refine lv_iadd hx hb dX4_readNumber_84 ?_
            refine lv_eqi (y := 8) (by decide) ?_
            refine lv_istore (lv' := [(5, .int 8), (3, .int i_45), (0, .ref Rd), (1, .int (nI 5)), (2, .int (nI 2)), (4, .int i_44)]) hx hb dX4_readNumber_85 hl (by decide) rfl (fun ls hl => ?_)
            refine lv_iload_n hx hb dX4_readNumber_87 rfl (lv_at hl 1 rfl) ?_
            refine va_gets hx hb hZ.2.2.1 hS hown f84 (fun _ h9 => h9) dX4_readNumber_88 ?_
            refine lv_iload hx hb dX4_readNumber_91 (lv_at hl 0 rfl) ?_
            refine va_ti (v := .int 0) hx hb hZ.2.2.2.1 hS (by unfold vp_in; decide) rfl dX4_readNumber_93 ?_
            refine va_gets hx hb hZ.2.2.2.2.1 hS hown f87 (fun _ h9 => h9) dX4_readNumber_94 ?_
            refine lv_iload hx hb dX4_readNumber_97 (lv_at hl 0 rfl) ?_
            refine va_ti (v := .int 9) hx hb hZ.2.2.2.2.2.1 hS (by unfold vp_in; decide) rfl dX4_readNumber_99 ?_
            refine ky_SNi (As := [.int i_45, .int 0, .int 9]) (rest := []) ⟨hx, hb, hml, hown, hts⟩ ⟨hK, hN⟩ hZ hP hD hS hA [] [0, 1, 2] (wc := []) (wr := [(Rv, .inl (g 0, 21, .inl fval)), (Rd, .inr (4, [.ref Tp, .int (nI ln), .int (nI z_46), .int zfa, .int (nI ht), .int (nI ct), .ref Rv])), (Tp, .inl (g 0, 160, .inl ftp))]) rfl rfl rfl rfl (by decide) (k_X6_outside l D g H.size i_45 0 9) ⟨va_cnB 3 hts ggX4_readNumber_X6_outside rfl rfl rfl hN.2.2.2.2.2.1 iiX6 (by decide +kernel) ⟨(Nat.le_of_ble_eq_true rfl), (Nat.le_of_ble_eq_true rfl)⟩, stX6_outside, trivial⟩ rfl hl.1 rfl (Nat.le_of_ble_eq_true rfl) dX4_readNumber_100 ⟨(Nat.le_of_ble_eq_true rfl), (Nat.le_of_ble_eq_true rfl)⟩ (fun r_291 u H locs hw hP2 hD2 hS2 => ?_)
            clear hP hD hS
            obtain ⟨rfl, rfl⟩ := hw
            have hPD : PD D A [(Rv, .inl (g 0, 21, .inl fval)), (Rd, .inr (4, [.ref Tp, .int (nI ln), .int (nI z_46), .int zfa, .int (nI ht), .int (nI ct), .ref Rv])), (Tp, .inl (g 0, 160, .inl ftp))] H := ⟨hP2, hD2⟩
            have hS := hS2; clear hP2 hD2 hS2; have hP := hPD.1; have hD := hPD.2; clear hPD
            refine W.widen (k := 0) (n := 0) (Nat.le_of_ble_eq_true rfl) (Nat.le_of_ble_eq_true rfl) ?_
            refine lv_if_eq (tgt := 117) hx hb dX4_readNumber_103 (by decide) (fun cb_292 => ?_) (fun cb_292 => ?_)
            · skip
              have hq_293 : ¬ (i_45 < 0 ∨ 9 < i_45) := b01_0.mp cb_292
              have hPq_297 := hP; have hDq_297 := hD; have hSq_297 := hS; have hlq_297 := hl; clear hP hD hS hl
              obtain ⟨j_294, hl_295, hu_296, rfl⟩ := rgo (L := 0) (U := 9) rfl rfl (show 0 < 2 ^ 31 by omega) (show 9 < 2 ^ 31 by omega) hq_293
              have hP := hPq_297; have hD := hDq_297; have hS := hSq_297; have hl := hlq_297; clear hPq_297 hDq_297 hSq_297 hlq_297
              refine lv_aload_n hx hb dX4_readNumber_117 rfl (lv_at hl 2 rfl) ?_
              refine va_get (D := D) (ci := 4) (v := .ref Rv) (C := RX4) (T := TX4) (N := 7) hx hb hts iX4 hown hK hP 1 rfl rfl 6 (by decide) f15 (fun _ h9 => h9) rfl dX4_readNumber_118 ?_
              refine lv_iload_n hx hb dX4_readNumber_121 rfl (lv_at hl 3 rfl) ?_
              refine lv_iconst (v := 3) hx hb dX4_readNumber_122 (by decide) ?_
              refine lv_imul hx hb dX4_readNumber_123 ?_
              refine lv_eqi (y := 15) (by decide) ?_
              refine lv_iload_n hx hb dX4_readNumber_124 rfl (lv_at hl 4 rfl) ?_
              refine lv_iadd hx hb dX4_readNumber_125 ?_
              refine lv_eqi (y := 17) (by decide) ?_
              refine lv_iload_n hx hb dX4_readNumber_126 rfl (lv_at hl 1 rfl) ?_
              refine va_iast hx hb hK hP hD hS 0 0 rfl rfl (by unfold vp_in; decide) dX4_readNumber_127 (fun H locs hP2 hD2 hS2 => ?_)
              clear hP hD hS
              have hPD : PD D A [(Rv, .inl (g 0, 21, .inl (upd fval 17 (nI j_294)))), (Rd, .inr (4, [.ref Tp, .int (nI ln), .int (nI z_46), .int zfa, .int (nI ht), .int (nI ct), .ref Rv])), (Tp, .inl (g 0, 160, .inl ftp))] H := ⟨hP2, hD2⟩
              have hS := hS2; clear hP2 hD2 hS2; have hP := hPD.1; have hD := hPD.2; clear hPD
              have hF_298 : vOK (upd fval 17 (nI j_294)) := vOK_upd (h2) (k := 17) (n := j_294) (Nat.le_trans (show j_294 ≤ 9 by omega) (Nat.le_of_ble_eq_true rfl))
              generalize upd fval 17 (nI j_294) = F_298 at hP hD hF_298
              have hPD9 : PD D A [(Rd, .inr (4, [.ref Tp, .int (nI ln), .int (nI z_46), .int zfa, .int (nI ht), .int (nI ct), .ref Rv])), (Tp, .inl (g 0, 160, .inl ftp)), (Rv, .inl (g 0, 21, .inl F_298))] H := ⟨hP.sub [1, 2, 0] rfl, hD.sub [1, 2, 0] (by decide) rfl⟩
              have hP9 := hPD9.1; have hD9 := hPD9.2
              subst hQ
              refine W.widen (k := 0) (n := 0) (Nat.le_of_ble_eq_true rfl) (Nat.le_of_ble_eq_true rfl) ?_
              exact W.vret hx hb hr (fun tS htS _ => ⟨⟨_, rfl, ⟨z_46, zfa, F_298, rfl, (show z_46 ≤ ln by omega), (hF_298)⟩, by rw [htS]; exact hP9, hD9⟩, hS.F htS⟩) hS.2.2 dX4_readNumber_128
            · skip
              have hq_299 : i_45 < 0 ∨ 9 < i_45 := b01_1.mp cb_292
              refine lv_aload_n hx hb dX4_readNumber_106 rfl (lv_at hl 2 rfl) ?_
              refine lv_aload_n hx hb dX4_readNumber_107 rfl (lv_at hl 2 rfl) ?_
              refine va_get (D := D) (ci := 4) (v := .int (nI z_46)) (C := RX4) (T := TX4) (N := 7) hx hb hts iX4 hown hK hP 1 rfl rfl 2 (by decide) f28 (fun _ h9 => h9) rfl dX4_readNumber_108 ?_
              refine lv_iconst (v := 1) hx hb dX4_readNumber_111 (by decide) ?_
              refine lv_isub hx hb dX4_readNumber_112 ?_
              refine lv_topi (fun y_300 _ => ?_)
              refine va_put (D := D) (ci := 4) (v := .int y_300) (ty := .int) (C := RX4) (T := TX4) (N := 7) hx hb hts iX4 tyX4 tyX4_ok nmX4 hown hK hP hD hS 1 rfl rfl 3 (by decide) f31 (fun _ h9 => h9) rfl (by decide +kernel) (rfl) (rfl) (Nat.le_of_ble_eq_true rfl) dX4_readNumber_113 (fun H locs hP2 hD2 hS2 => ?_)
              clear hP hD hS
              have hPD : PD D A [(Rv, .inl (g 0, 21, .inl fval)), (Rd, .inr (4, [.ref Tp, .int (nI ln), .int (nI z_46), .int y_300, .int (nI ht), .int (nI ct), .ref Rv])), (Tp, .inl (g 0, 160, .inl ftp))] H := ⟨hP2, hD2⟩
              have hS := hS2; clear hP2 hD2 hS2; have hP := hPD.1; have hD := hPD.2; clear hPD
              have hPD9 : PD D A [(Rd, .inr (4, [.ref Tp, .int (nI ln), .int (nI z_46), .int y_300, .int (nI ht), .int (nI ct), .ref Rv])), (Tp, .inl (g 0, 160, .inl ftp)), (Rv, .inl (g 0, 21, .inl fval))] H := ⟨hP.sub [1, 2, 0] rfl, hD.sub [1, 2, 0] (by decide) rfl⟩
              have hP9 := hPD9.1; have hD9 := hPD9.2
              subst hQ
              refine W.widen (k := 0) (n := 0) (Nat.le_of_ble_eq_true rfl) (Nat.le_of_ble_eq_true rfl) ?_
              exact W.vret hx hb hr (fun tS htS _ => ⟨⟨_, rfl, ⟨z_46, y_300, fval, rfl, (show z_46 ≤ ln by omega), (h2)⟩, by rw [htS]; exact hP9, hD9⟩, hS.F htS⟩) hS.2.2 dX4_readNumber_116
        · skip
          have hP := hPq_96; have hD := hDq_96; have hS := hSq_96; have hl := hlq_96; clear hPq_96 hDq_96 hSq_96 hlq_96
          refine lv_iload_n hx hb dX4_readNumber_77 rfl (lv_at hl 2 rfl) ?_
          have hPq_301 := hP; have hDq_301 := hD; have hSq_301 := hS; have hlq_301 := hl; clear hP hD hS hl
          rcases (show it = 0 ∨ it = 1 ∨ it = 2 by omega) with rfl | rfl | rfl
          · skip
            have hP := hPq_301; have hD := hDq_301; have hS := hSq_301; have hl := hlq_301; clear hPq_301 hDq_301 hSq_301 hlq_301
            refine ky_Si (As := [.int (nI 6)]) (rest := []) ⟨hx, hb, hml, hown, hts⟩ ⟨hK, hN⟩ hZ hP hD hS hA [] [0, 1, 2] (wc := []) (wr := [(Rv, .inl (g 0, 21, .inl fval)), (Rd, .inr (4, [.ref Tp, .int (nI ln), .int (nI z_46), .int zfa, .int (nI ht), .int (nI ct), .ref Rv])), (Tp, .inl (g 0, 160, .inl ftp))]) rfl rfl rfl rfl (by decide) (k_X4_kindOf_6 l D g H.size) (va_cwS 1 hts gX4_readNumber_X4_kindOf rfl rfl rfl (by decide +kernel) ⟨(Nat.le_of_ble_eq_true rfl), (Nat.le_of_ble_eq_true rfl)⟩) rfl hl.1 rfl (Nat.le_of_ble_eq_true rfl) dX4_readNumber_78 ⟨(Nat.le_of_ble_eq_true rfl), (Nat.le_of_ble_eq_true rfl)⟩ (fun r_302 u H locs hw hP2 hD2 hS2 => ?_)
            clear hP hD hS
            obtain ⟨rfl, rfl⟩ := hw
            have hPD : PD D A [(Rv, .inl (g 0, 21, .inl fval)), (Rd, .inr (4, [.ref Tp, .int (nI ln), .int (nI z_46), .int zfa, .int (nI ht), .int (nI ct), .ref Rv])), (Tp, .inl (g 0, 160, .inl ftp))] H := ⟨hP2, hD2⟩
            have hS := hS2; clear hP2 hD2 hS2; have hP := hPD.1; have hD := hPD.2; clear hPD
            refine W.widen (k := 0) (n := 0) (Nat.le_of_ble_eq_true rfl) (Nat.le_of_ble_eq_true rfl) ?_
            refine lv_iconst (v := 3) hx hb dX4_readNumber_81 (by decide) ?_
            refine lv_imul hx hb dX4_readNumber_82 ?_
            refine lv_eqi (y := 6) (by decide) ?_
            refine lv_iload_n hx hb dX4_readNumber_83 rfl (lv_at hl 3 rfl) ?_
            refine lv_iadd hx hb dX4_readNumber_84 ?_
            refine lv_eqi (y := 6) (by decide) ?_
            refine lv_istore (lv' := [(5, .int 6), (3, .int i_45), (0, .ref Rd), (1, .int (nI 6)), (2, .int (nI 0)), (4, .int i_44)]) hx hb dX4_readNumber_85 hl (by decide) rfl (fun ls hl => ?_)
            refine lv_iload_n hx hb dX4_readNumber_87 rfl (lv_at hl 1 rfl) ?_
            refine va_gets hx hb hZ.2.2.1 hS hown f84 (fun _ h9 => h9) dX4_readNumber_88 ?_
            refine lv_iload hx hb dX4_readNumber_91 (lv_at hl 0 rfl) ?_
            refine va_ti (v := .int 0) hx hb hZ.2.2.2.1 hS (by unfold vp_in; decide) rfl dX4_readNumber_93 ?_
            refine va_gets hx hb hZ.2.2.2.2.1 hS hown f87 (fun _ h9 => h9) dX4_readNumber_94 ?_
            refine lv_iload hx hb dX4_readNumber_97 (lv_at hl 0 rfl) ?_
            refine va_ti (v := .int 9) hx hb hZ.2.2.2.2.2.1 hS (by unfold vp_in; decide) rfl dX4_readNumber_99 ?_
            refine ky_SNi (As := [.int i_45, .int 0, .int 9]) (rest := []) ⟨hx, hb, hml, hown, hts⟩ ⟨hK, hN⟩ hZ hP hD hS hA [] [0, 1, 2] (wc := []) (wr := [(Rv, .inl (g 0, 21, .inl fval)), (Rd, .inr (4, [.ref Tp, .int (nI ln), .int (nI z_46), .int zfa, .int (nI ht), .int (nI ct), .ref Rv])), (Tp, .inl (g 0, 160, .inl ftp))]) rfl rfl rfl rfl (by decide) (k_X6_outside l D g H.size i_45 0 9) ⟨va_cnB 3 hts ggX4_readNumber_X6_outside rfl rfl rfl hN.2.2.2.2.2.1 iiX6 (by decide +kernel) ⟨(Nat.le_of_ble_eq_true rfl), (Nat.le_of_ble_eq_true rfl)⟩, stX6_outside, trivial⟩ rfl hl.1 rfl (Nat.le_of_ble_eq_true rfl) dX4_readNumber_100 ⟨(Nat.le_of_ble_eq_true rfl), (Nat.le_of_ble_eq_true rfl)⟩ (fun r_303 u H locs hw hP2 hD2 hS2 => ?_)
            clear hP hD hS
            obtain ⟨rfl, rfl⟩ := hw
            have hPD : PD D A [(Rv, .inl (g 0, 21, .inl fval)), (Rd, .inr (4, [.ref Tp, .int (nI ln), .int (nI z_46), .int zfa, .int (nI ht), .int (nI ct), .ref Rv])), (Tp, .inl (g 0, 160, .inl ftp))] H := ⟨hP2, hD2⟩
            have hS := hS2; clear hP2 hD2 hS2; have hP := hPD.1; have hD := hPD.2; clear hPD
            refine W.widen (k := 0) (n := 0) (Nat.le_of_ble_eq_true rfl) (Nat.le_of_ble_eq_true rfl) ?_
            refine lv_if_eq (tgt := 117) hx hb dX4_readNumber_103 (by decide) (fun cb_304 => ?_) (fun cb_304 => ?_)
            · skip
              have hq_305 : ¬ (i_45 < 0 ∨ 9 < i_45) := b01_0.mp cb_304
              have hPq_309 := hP; have hDq_309 := hD; have hSq_309 := hS; have hlq_309 := hl; clear hP hD hS hl
              obtain ⟨j_306, hl_307, hu_308, rfl⟩ := rgo (L := 0) (U := 9) rfl rfl (show 0 < 2 ^ 31 by omega) (show 9 < 2 ^ 31 by omega) hq_305
              have hP := hPq_309; have hD := hDq_309; have hS := hSq_309; have hl := hlq_309; clear hPq_309 hDq_309 hSq_309 hlq_309
              refine lv_aload_n hx hb dX4_readNumber_117 rfl (lv_at hl 2 rfl) ?_
              refine va_get (D := D) (ci := 4) (v := .ref Rv) (C := RX4) (T := TX4) (N := 7) hx hb hts iX4 hown hK hP 1 rfl rfl 6 (by decide) f15 (fun _ h9 => h9) rfl dX4_readNumber_118 ?_
              refine lv_iload_n hx hb dX4_readNumber_121 rfl (lv_at hl 3 rfl) ?_
              refine lv_iconst (v := 3) hx hb dX4_readNumber_122 (by decide) ?_
              refine lv_imul hx hb dX4_readNumber_123 ?_
              refine lv_eqi (y := 18) (by decide) ?_
              refine lv_iload_n hx hb dX4_readNumber_124 rfl (lv_at hl 4 rfl) ?_
              refine lv_iadd hx hb dX4_readNumber_125 ?_
              refine lv_eqi (y := 18) (by decide) ?_
              refine lv_iload_n hx hb dX4_readNumber_126 rfl (lv_at hl 1 rfl) ?_
              refine va_iast hx hb hK hP hD hS 0 0 rfl rfl (by unfold vp_in; decide) dX4_readNumber_127 (fun H locs hP2 hD2 hS2 => ?_)
              clear hP hD hS
              have hPD : PD D A [(Rv, .inl (g 0, 21, .inl (upd fval 18 (nI j_306)))), (Rd, .inr (4, [.ref Tp, .int (nI ln), .int (nI z_46), .int zfa, .int (nI ht), .int (nI ct), .ref Rv])), (Tp, .inl (g 0, 160, .inl ftp))] H := ⟨hP2, hD2⟩
              have hS := hS2; clear hP2 hD2 hS2; have hP := hPD.1; have hD := hPD.2; clear hPD
              have hF_310 : vOK (upd fval 18 (nI j_306)) := vOK_upd (h2) (k := 18) (n := j_306) (Nat.le_trans (show j_306 ≤ 9 by omega) (Nat.le_of_ble_eq_true rfl))
              generalize upd fval 18 (nI j_306) = F_310 at hP hD hF_310
              have hPD9 : PD D A [(Rd, .inr (4, [.ref Tp, .int (nI ln), .int (nI z_46), .int zfa, .int (nI ht), .int (nI ct), .ref Rv])), (Tp, .inl (g 0, 160, .inl ftp)), (Rv, .inl (g 0, 21, .inl F_310))] H := ⟨hP.sub [1, 2, 0] rfl, hD.sub [1, 2, 0] (by decide) rfl⟩
              have hP9 := hPD9.1; have hD9 := hPD9.2
              subst hQ
              refine W.widen (k := 0) (n := 0) (Nat.le_of_ble_eq_true rfl) (Nat.le_of_ble_eq_true rfl) ?_
              exact W.vret hx hb hr (fun tS htS _ => ⟨⟨_, rfl, ⟨z_46, zfa, F_310, rfl, (show z_46 ≤ ln by omega), (hF_310)⟩, by rw [htS]; exact hP9, hD9⟩, hS.F htS⟩) hS.2.2 dX4_readNumber_128
            · skip
              have hq_311 : i_45 < 0 ∨ 9 < i_45 := b01_1.mp cb_304
              refine lv_aload_n hx hb dX4_readNumber_106 rfl (lv_at hl 2 rfl) ?_
              refine lv_aload_n hx hb dX4_readNumber_107 rfl (lv_at hl 2 rfl) ?_
              refine va_get (D := D) (ci := 4) (v := .int (nI z_46)) (C := RX4) (T := TX4) (N := 7) hx hb hts iX4 hown hK hP 1 rfl rfl 2 (by decide) f28 (fun _ h9 => h9) rfl dX4_readNumber_108 ?_
              refine lv_iconst (v := 1) hx hb dX4_readNumber_111 (by decide) ?_
              refine lv_isub hx hb dX4_readNumber_112 ?_
              refine lv_topi (fun y_312 _ => ?_)
              refine va_put (D := D) (ci := 4) (v := .int y_312) (ty := .int) (C := RX4) (T := TX4) (N := 7) hx hb hts iX4 tyX4 tyX4_ok nmX4 hown hK hP hD hS 1 rfl rfl 3 (by decide) f31 (fun _ h9 => h9) rfl (by decide +kernel) (rfl) (rfl) (Nat.le_of_ble_eq_true rfl) dX4_readNumber_113 (fun H locs hP2 hD2 hS2 => ?_)
              clear hP hD hS
              have hPD : PD D A [(Rv, .inl (g 0, 21, .inl fval)), (Rd, .inr (4, [.ref Tp, .int (nI ln), .int (nI z_46), .int y_312, .int (nI ht), .int (nI ct), .ref Rv])), (Tp, .inl (g 0, 160, .inl ftp))] H := ⟨hP2, hD2⟩
              have hS := hS2; clear hP2 hD2 hS2; have hP := hPD.1; have hD := hPD.2; clear hPD
              have hPD9 : PD D A [(Rd, .inr (4, [.ref Tp, .int (nI ln), .int (nI z_46), .int y_312, .int (nI ht), .int (nI ct), .ref Rv])), (Tp, .inl (g 0, 160, .inl ftp)), (Rv, .inl (g 0, 21, .inl fval))] H := ⟨hP.sub [1, 2, 0] rfl, hD.sub [1, 2, 0] (by decide) rfl⟩
              have hP9 := hPD9.1; have hD9 := hPD9.2
              subst hQ
              refine W.widen (k := 0) (n := 0) (Nat.le_of_ble_eq_true rfl) (Nat.le_of_ble_eq_true rfl) ?_
              exact W.vret hx hb hr (fun tS htS _ => ⟨⟨_, rfl, ⟨z_46, y_312, fval, rfl, (show z_46 ≤ ln by omega), (h2)⟩, by rw [htS]; exact hP9, hD9⟩, hS.F htS⟩) hS.2.2 dX4_readNumber_116
          · skip
            have hP := hPq_301; have hD := hDq_301; have hS := hSq_301; have hl := hlq_301; clear hPq_301 hDq_301 hSq_301 hlq_301
            refine ky_Si (As := [.int (nI 6)]) (rest := []) ⟨hx, hb, hml, hown, hts⟩ ⟨hK, hN⟩ hZ hP hD hS hA [] [0, 1, 2] (wc := []) (wr := [(Rv, .inl (g 0, 21, .inl fval)), (Rd, .inr (4, [.ref Tp, .int (nI ln), .int (nI z_46), .int zfa, .int (nI ht), .int (nI ct), .ref Rv])), (Tp, .inl (g 0, 160, .inl ftp))]) rfl rfl rfl rfl (by decide) (k_X4_kindOf_6 l D g H.size) (va_cwS 1 hts gX4_readNumber_X4_kindOf rfl rfl rfl (by decide +kernel) ⟨(Nat.le_of_ble_eq_true rfl), (Nat.le_of_ble_eq_true rfl)⟩) rfl hl.1 rfl (Nat.le_of_ble_eq_true rfl) dX4_readNumber_78 ⟨(Nat.le_of_ble_eq_true rfl), (Nat.le_of_ble_eq_true rfl)⟩ (fun r_313 u H locs hw hP2 hD2 hS2 => ?_)
            clear hP hD hS
            obtain ⟨rfl, rfl⟩ := hw
            have hPD : PD D A [(Rv, .inl (g 0, 21, .inl fval)), (Rd, .inr (4, [.ref Tp, .int (nI ln), .int (nI z_46), .int zfa, .int (nI ht), .int (nI ct), .ref Rv])), (Tp, .inl (g 0, 160, .inl ftp))] H := ⟨hP2, hD2⟩
            have hS := hS2; clear hP2 hD2 hS2; have hP := hPD.1; have hD := hPD.2; clear hPD
            refine W.widen (k := 0) (n := 0) (Nat.le_of_ble_eq_true rfl) (Nat.le_of_ble_eq_true rfl) ?_
            refine lv_iconst (v := 3) hx hb dX4_readNumber_81 (by decide) ?_
            refine lv_imul hx hb dX4_readNumber_82 ?_
            refine lv_eqi (y := 6) (by decide) ?_
            refine lv_iload_n hx hb dX4_readNumber_83 rfl (lv_at hl 3 rfl) ?_
            refine lv_iadd hx hb dX4_readNumber_84 ?_
            refine lv_eqi (y := 7) (by decide) ?_
            refine lv_istore (lv' := [(5, .int 7), (3, .int i_45), (0, .ref Rd), (1, .int (nI 6)), (2, .int (nI 1)), (4, .int i_44)]) hx hb dX4_readNumber_85 hl (by decide) rfl (fun ls hl => ?_)
            refine lv_iload_n hx hb dX4_readNumber_87 rfl (lv_at hl 1 rfl) ?_
            refine va_gets hx hb hZ.2.2.1 hS hown f84 (fun _ h9 => h9) dX4_readNumber_88 ?_
            refine lv_iload hx hb dX4_readNumber_91 (lv_at hl 0 rfl) ?_
            refine va_ti (v := .int 0) hx hb hZ.2.2.2.1 hS (by unfold vp_in; decide) rfl dX4_readNumber_93 ?_
            refine va_gets hx hb hZ.2.2.2.2.1 hS hown f87 (fun _ h9 => h9) dX4_readNumber_94 ?_
            refine lv_iload hx hb dX4_readNumber_97 (lv_at hl 0 rfl) ?_
            refine va_ti (v := .int 20) hx hb hZ.2.2.2.2.2.1 hS (by unfold vp_in; decide) rfl dX4_readNumber_99 ?_
            refine ky_SNi (As := [.int i_45, .int 0, .int 20]) (rest := []) ⟨hx, hb, hml, hown, hts⟩ ⟨hK, hN⟩ hZ hP hD hS hA [] [0, 1, 2] (wc := []) (wr := [(Rv, .inl (g 0, 21, .inl fval)), (Rd, .inr (4, [.ref Tp, .int (nI ln), .int (nI z_46), .int zfa, .int (nI ht), .int (nI ct), .ref Rv])), (Tp, .inl (g 0, 160, .inl ftp))]) rfl rfl rfl rfl (by decide) (k_X6_outside l D g H.size i_45 0 20) ⟨va_cnB 3 hts ggX4_readNumber_X6_outside rfl rfl rfl hN.2.2.2.2.2.1 iiX6 (by decide +kernel) ⟨(Nat.le_of_ble_eq_true rfl), (Nat.le_of_ble_eq_true rfl)⟩, stX6_outside, trivial⟩ rfl hl.1 rfl (Nat.le_of_ble_eq_true rfl) dX4_readNumber_100 ⟨(Nat.le_of_ble_eq_true rfl), (Nat.le_of_ble_eq_true rfl)⟩ (fun r_314 u H locs hw hP2 hD2 hS2 => ?_)
            clear hP hD hS
            obtain ⟨rfl, rfl⟩ := hw
            have hPD : PD D A [(Rv, .inl (g 0, 21, .inl fval)), (Rd, .inr (4, [.ref Tp, .int (nI ln), .int (nI z_46), .int zfa, .int (nI ht), .int (nI ct), .ref Rv])), (Tp, .inl (g 0, 160, .inl ftp))] H := ⟨hP2, hD2⟩
            have hS := hS2; clear hP2 hD2 hS2; have hP := hPD.1; have hD := hPD.2; clear hPD
            refine W.widen (k := 0) (n := 0) (Nat.le_of_ble_eq_true rfl) (Nat.le_of_ble_eq_true rfl) ?_
            refine lv_if_eq (tgt := 117) hx hb dX4_readNumber_103 (by decide) (fun cb_315 => ?_) (fun cb_315 => ?_)
            · skip
              have hq_316 : ¬ (i_45 < 0 ∨ 20 < i_45) := b01_0.mp cb_315
              have hPq_320 := hP; have hDq_320 := hD; have hSq_320 := hS; have hlq_320 := hl; clear hP hD hS hl
              obtain ⟨j_317, hl_318, hu_319, rfl⟩ := rgo (L := 0) (U := 20) rfl rfl (show 0 < 2 ^ 31 by omega) (show 20 < 2 ^ 31 by omega) hq_316
              have hP := hPq_320; have hD := hDq_320; have hS := hSq_320; have hl := hlq_320; clear hPq_320 hDq_320 hSq_320 hlq_320
              refine lv_aload_n hx hb dX4_readNumber_117 rfl (lv_at hl 2 rfl) ?_
              refine va_get (D := D) (ci := 4) (v := .ref Rv) (C := RX4) (T := TX4) (N := 7) hx hb hts iX4 hown hK hP 1 rfl rfl 6 (by decide) f15 (fun _ h9 => h9) rfl dX4_readNumber_118 ?_
              refine lv_iload_n hx hb dX4_readNumber_121 rfl (lv_at hl 3 rfl) ?_
              refine lv_iconst (v := 3) hx hb dX4_readNumber_122 (by decide) ?_
              refine lv_imul hx hb dX4_readNumber_123 ?_
              refine lv_eqi (y := 18) (by decide) ?_
              refine lv_iload_n hx hb dX4_readNumber_124 rfl (lv_at hl 4 rfl) ?_
              refine lv_iadd hx hb dX4_readNumber_125 ?_
              refine lv_eqi (y := 19) (by decide) ?_
              refine lv_iload_n hx hb dX4_readNumber_126 rfl (lv_at hl 1 rfl) ?_
              refine va_iast hx hb hK hP hD hS 0 0 rfl rfl (by unfold vp_in; decide) dX4_readNumber_127 (fun H locs hP2 hD2 hS2 => ?_)
              clear hP hD hS
              have hPD : PD D A [(Rv, .inl (g 0, 21, .inl (upd fval 19 (nI j_317)))), (Rd, .inr (4, [.ref Tp, .int (nI ln), .int (nI z_46), .int zfa, .int (nI ht), .int (nI ct), .ref Rv])), (Tp, .inl (g 0, 160, .inl ftp))] H := ⟨hP2, hD2⟩
              have hS := hS2; clear hP2 hD2 hS2; have hP := hPD.1; have hD := hPD.2; clear hPD
              have hF_321 : vOK (upd fval 19 (nI j_317)) := vOK_upd (h2) (k := 19) (n := j_317) (Nat.le_trans (show j_317 ≤ 20 by omega) (Nat.le_of_ble_eq_true rfl))
              generalize upd fval 19 (nI j_317) = F_321 at hP hD hF_321
              have hPD9 : PD D A [(Rd, .inr (4, [.ref Tp, .int (nI ln), .int (nI z_46), .int zfa, .int (nI ht), .int (nI ct), .ref Rv])), (Tp, .inl (g 0, 160, .inl ftp)), (Rv, .inl (g 0, 21, .inl F_321))] H := ⟨hP.sub [1, 2, 0] rfl, hD.sub [1, 2, 0] (by decide) rfl⟩
              have hP9 := hPD9.1; have hD9 := hPD9.2
              subst hQ
              refine W.widen (k := 0) (n := 0) (Nat.le_of_ble_eq_true rfl) (Nat.le_of_ble_eq_true rfl) ?_
              exact W.vret hx hb hr (fun tS htS _ => ⟨⟨_, rfl, ⟨z_46, zfa, F_321, rfl, (show z_46 ≤ ln by omega), (hF_321)⟩, by rw [htS]; exact hP9, hD9⟩, hS.F htS⟩) hS.2.2 dX4_readNumber_128
            · skip
              have hq_322 : i_45 < 0 ∨ 20 < i_45 := b01_1.mp cb_315
              refine lv_aload_n hx hb dX4_readNumber_106 rfl (lv_at hl 2 rfl) ?_
              refine lv_aload_n hx hb dX4_readNumber_107 rfl (lv_at hl 2 rfl) ?_
              refine va_get (D := D) (ci := 4) (v := .int (nI z_46)) (C := RX4) (T := TX4) (N := 7) hx hb hts iX4 hown hK hP 1 rfl rfl 2 (by decide) f28 (fun _ h9 => h9) rfl dX4_readNumber_108 ?_
              refine lv_iconst (v := 1) hx hb dX4_readNumber_111 (by decide) ?_
              refine lv_isub hx hb dX4_readNumber_112 ?_
              refine lv_topi (fun y_323 _ => ?_)
              refine va_put (D := D) (ci := 4) (v := .int y_323) (ty := .int) (C := RX4) (T := TX4) (N := 7) hx hb hts iX4 tyX4 tyX4_ok nmX4 hown hK hP hD hS 1 rfl rfl 3 (by decide) f31 (fun _ h9 => h9) rfl (by decide +kernel) (rfl) (rfl) (Nat.le_of_ble_eq_true rfl) dX4_readNumber_113 (fun H locs hP2 hD2 hS2 => ?_)
              clear hP hD hS
              have hPD : PD D A [(Rv, .inl (g 0, 21, .inl fval)), (Rd, .inr (4, [.ref Tp, .int (nI ln), .int (nI z_46), .int y_323, .int (nI ht), .int (nI ct), .ref Rv])), (Tp, .inl (g 0, 160, .inl ftp))] H := ⟨hP2, hD2⟩
              have hS := hS2; clear hP2 hD2 hS2; have hP := hPD.1; have hD := hPD.2; clear hPD
              have hPD9 : PD D A [(Rd, .inr (4, [.ref Tp, .int (nI ln), .int (nI z_46), .int y_323, .int (nI ht), .int (nI ct), .ref Rv])), (Tp, .inl (g 0, 160, .inl ftp)), (Rv, .inl (g 0, 21, .inl fval))] H := ⟨hP.sub [1, 2, 0] rfl, hD.sub [1, 2, 0] (by decide) rfl⟩
              have hP9 := hPD9.1; have hD9 := hPD9.2
              subst hQ
              refine W.widen (k := 0) (n := 0) (Nat.le_of_ble_eq_true rfl) (Nat.le_of_ble_eq_true rfl) ?_
              exact W.vret hx hb hr (fun tS htS _ => ⟨⟨_, rfl, ⟨z_46, y_323, fval, rfl, (show z_46 ≤ ln by omega), (h2)⟩, by rw [htS]; exact hP9, hD9⟩, hS.F htS⟩) hS.2.2 dX4_readNumber_116
          · skip
            have hP := hPq_301; have hD := hDq_301; have hS := hSq_301; have hl := hlq_301; clear hPq_301 hDq_301 hSq_301 hlq_301
            refine ky_Si (As := [.int (nI 6)]) (rest := []) ⟨hx, hb, hml, hown, hts⟩ ⟨hK, hN⟩ hZ hP hD hS hA [] [0, 1, 2] (wc := []) (wr := [(Rv, .inl (g 0, 21, .inl fval)), (Rd, .inr (4, [.ref Tp, .int (nI ln), .int (nI z_46), .int zfa, .int (nI ht), .int (nI ct), .ref Rv])), (Tp, .inl (g 0, 160, .inl ftp))]) rfl rfl rfl rfl (by decide) (k_X4_kindOf_6 l D g H.size) (va_cwS 1 hts gX4_readNumber_X4_kindOf rfl rfl rfl (by decide +kernel) ⟨(Nat.le_of_ble_eq_true rfl), (Nat.le_of_ble_eq_true rfl)⟩) rfl hl.1 rfl (Nat.le_of_ble_eq_true rfl) dX4_readNumber_78 ⟨(Nat.le_of_ble_eq_true rfl), (Nat.le_of_ble_eq_true rfl)⟩ (fun r_324 u H locs hw hP2 hD2 hS2 => ?_)
            clear hP hD hS
            obtain ⟨rfl, rfl⟩ := hw
            have hPD : PD D A [(Rv, .inl (g 0, 21, .inl fval)), (Rd, .inr (4, [.ref Tp, .int (nI ln), .int (nI z_46), .int zfa, .int (nI ht), .int (nI ct), .ref Rv])), (Tp, .inl (g 0, 160, .inl ftp))] H := ⟨hP2, hD2⟩
            have hS := hS2; clear hP2 hD2 hS2; have hP := hPD.1; have hD := hPD.2; clear hPD
            refine W.widen (k := 0) (n := 0) (Nat.le_of_ble_eq_true rfl) (Nat.le_of_ble_eq_true rfl) ?_
            refine lv_iconst (v := 3) hx hb dX4_readNumber_81 (by decide) ?_
            refine lv_imul hx hb dX4_readNumber_82 ?_
            refine lv_eqi (y := 6) (by decide) ?_
            refine lv_iload_n hx hb dX4_readNumber_83 rfl (lv_at hl 3 rfl) ?_
            refine lv_iadd hx hb dX4_readNumber_84 ?_
            refine lv_eqi (y := 8) (by decide) ?_
            refine lv_istore (lv' := [(5, .int 8), (3, .int i_45), (0, .ref Rd), (1, .int (nI 6)), (2, .int (nI 2)), (4, .int i_44)]) hx hb dX4_readNumber_85 hl (by decide) rfl (fun ls hl => ?_)
            refine lv_iload_n hx hb dX4_readNumber_87 rfl (lv_at hl 1 rfl) ?_
            refine va_gets hx hb hZ.2.2.1 hS hown f84 (fun _ h9 => h9) dX4_readNumber_88 ?_
            refine lv_iload hx hb dX4_readNumber_91 (lv_at hl 0 rfl) ?_
            refine va_ti (v := .int 0) hx hb hZ.2.2.2.1 hS (by unfold vp_in; decide) rfl dX4_readNumber_93 ?_
            refine va_gets hx hb hZ.2.2.2.2.1 hS hown f87 (fun _ h9 => h9) dX4_readNumber_94 ?_
            refine lv_iload hx hb dX4_readNumber_97 (lv_at hl 0 rfl) ?_
            refine va_ti (v := .int 9) hx hb hZ.2.2.2.2.2.1 hS (by unfold vp_in; decide) rfl dX4_readNumber_99 ?_
            refine ky_SNi (As := [.int i_45, .int 0, .int 9]) (rest := []) ⟨hx, hb, hml, hown, hts⟩ ⟨hK, hN⟩ hZ hP hD hS hA [] [0, 1, 2] (wc := []) (wr := [(Rv, .inl (g 0, 21, .inl fval)), (Rd, .inr (4, [.ref Tp, .int (nI ln), .int (nI z_46), .int zfa, .int (nI ht), .int (nI ct), .ref Rv])), (Tp, .inl (g 0, 160, .inl ftp))]) rfl rfl rfl rfl (by decide) (k_X6_outside l D g H.size i_45 0 9) ⟨va_cnB 3 hts ggX4_readNumber_X6_outside rfl rfl rfl hN.2.2.2.2.2.1 iiX6 (by decide +kernel) ⟨(Nat.le_of_ble_eq_true rfl), (Nat.le_of_ble_eq_true rfl)⟩, stX6_outside, trivial⟩ rfl hl.1 rfl (Nat.le_of_ble_eq_true rfl) dX4_readNumber_100 ⟨(Nat.le_of_ble_eq_true rfl), (Nat.le_of_ble_eq_true rfl)⟩ (fun r_325 u H locs hw hP2 hD2 hS2 => ?_)
            clear hP hD hS
            obtain ⟨rfl, rfl⟩ := hw
            have hPD : PD D A [(Rv, .inl (g 0, 21, .inl fval)), (Rd, .inr (4, [.ref Tp, .int (nI ln), .int (nI z_46), .int zfa, .int (nI ht), .int (nI ct), .ref Rv])), (Tp, .inl (g 0, 160, .inl ftp))] H := ⟨hP2, hD2⟩
            have hS := hS2; clear hP2 hD2 hS2; have hP := hPD.1; have hD := hPD.2; clear hPD
            refine W.widen (k := 0) (n := 0) (Nat.le_of_ble_eq_true rfl) (Nat.le_of_ble_eq_true rfl) ?_
            refine lv_if_eq (tgt := 117) hx hb dX4_readNumber_103 (by decide) (fun cb_326 => ?_) (fun cb_326 => ?_)
            · skip
              have hq_327 : ¬ (i_45 < 0 ∨ 9 < i_45) := b01_0.mp cb_326
              have hPq_331 := hP; have hDq_331 := hD; have hSq_331 := hS; have hlq_331 := hl; clear hP hD hS hl
              obtain ⟨j_328, hl_329, hu_330, rfl⟩ := rgo (L := 0) (U := 9) rfl rfl (show 0 < 2 ^ 31 by omega) (show 9 < 2 ^ 31 by omega) hq_327
              have hP := hPq_331; have hD := hDq_331; have hS := hSq_331; have hl := hlq_331; clear hPq_331 hDq_331 hSq_331 hlq_331
              refine lv_aload_n hx hb dX4_readNumber_117 rfl (lv_at hl 2 rfl) ?_
              refine va_get (D := D) (ci := 4) (v := .ref Rv) (C := RX4) (T := TX4) (N := 7) hx hb hts iX4 hown hK hP 1 rfl rfl 6 (by decide) f15 (fun _ h9 => h9) rfl dX4_readNumber_118 ?_
              refine lv_iload_n hx hb dX4_readNumber_121 rfl (lv_at hl 3 rfl) ?_
              refine lv_iconst (v := 3) hx hb dX4_readNumber_122 (by decide) ?_
              refine lv_imul hx hb dX4_readNumber_123 ?_
              refine lv_eqi (y := 18) (by decide) ?_
              refine lv_iload_n hx hb dX4_readNumber_124 rfl (lv_at hl 4 rfl) ?_
              refine lv_iadd hx hb dX4_readNumber_125 ?_
              refine lv_eqi (y := 20) (by decide) ?_
              refine lv_iload_n hx hb dX4_readNumber_126 rfl (lv_at hl 1 rfl) ?_
              refine va_iast hx hb hK hP hD hS 0 0 rfl rfl (by unfold vp_in; decide) dX4_readNumber_127 (fun H locs hP2 hD2 hS2 => ?_)
              clear hP hD hS
              have hPD : PD D A [(Rv, .inl (g 0, 21, .inl (upd fval 20 (nI j_328)))), (Rd, .inr (4, [.ref Tp, .int (nI ln), .int (nI z_46), .int zfa, .int (nI ht), .int (nI ct), .ref Rv])), (Tp, .inl (g 0, 160, .inl ftp))] H := ⟨hP2, hD2⟩
              have hS := hS2; clear hP2 hD2 hS2; have hP := hPD.1; have hD := hPD.2; clear hPD
              have hF_332 : vOK (upd fval 20 (nI j_328)) := vOK_upd (h2) (k := 20) (n := j_328) (Nat.le_trans (show j_328 ≤ 9 by omega) (Nat.le_of_ble_eq_true rfl))
              generalize upd fval 20 (nI j_328) = F_332 at hP hD hF_332
              have hPD9 : PD D A [(Rd, .inr (4, [.ref Tp, .int (nI ln), .int (nI z_46), .int zfa, .int (nI ht), .int (nI ct), .ref Rv])), (Tp, .inl (g 0, 160, .inl ftp)), (Rv, .inl (g 0, 21, .inl F_332))] H := ⟨hP.sub [1, 2, 0] rfl, hD.sub [1, 2, 0] (by decide) rfl⟩
              have hP9 := hPD9.1; have hD9 := hPD9.2
              subst hQ
              refine W.widen (k := 0) (n := 0) (Nat.le_of_ble_eq_true rfl) (Nat.le_of_ble_eq_true rfl) ?_
              exact W.vret hx hb hr (fun tS htS _ => ⟨⟨_, rfl, ⟨z_46, zfa, F_332, rfl, (show z_46 ≤ ln by omega), (hF_332)⟩, by rw [htS]; exact hP9, hD9⟩, hS.F htS⟩) hS.2.2 dX4_readNumber_128
            · skip
              have hq_333 : i_45 < 0 ∨ 9 < i_45 := b01_1.mp cb_326
              refine lv_aload_n hx hb dX4_readNumber_106 rfl (lv_at hl 2 rfl) ?_
              refine lv_aload_n hx hb dX4_readNumber_107 rfl (lv_at hl 2 rfl) ?_
              refine va_get (D := D) (ci := 4) (v := .int (nI z_46)) (C := RX4) (T := TX4) (N := 7) hx hb hts iX4 hown hK hP 1 rfl rfl 2 (by decide) f28 (fun _ h9 => h9) rfl dX4_readNumber_108 ?_
              refine lv_iconst (v := 1) hx hb dX4_readNumber_111 (by decide) ?_
              refine lv_isub hx hb dX4_readNumber_112 ?_
              refine lv_topi (fun y_334 _ => ?_)
              refine va_put (D := D) (ci := 4) (v := .int y_334) (ty := .int) (C := RX4) (T := TX4) (N := 7) hx hb hts iX4 tyX4 tyX4_ok nmX4 hown hK hP hD hS 1 rfl rfl 3 (by decide) f31 (fun _ h9 => h9) rfl (by decide +kernel) (rfl) (rfl) (Nat.le_of_ble_eq_true rfl) dX4_readNumber_113 (fun H locs hP2 hD2 hS2 => ?_)
              clear hP hD hS
              have hPD : PD D A [(Rv, .inl (g 0, 21, .inl fval)), (Rd, .inr (4, [.ref Tp, .int (nI ln), .int (nI z_46), .int y_334, .int (nI ht), .int (nI ct), .ref Rv])), (Tp, .inl (g 0, 160, .inl ftp))] H := ⟨hP2, hD2⟩
              have hS := hS2; clear hP2 hD2 hS2; have hP := hPD.1; have hD := hPD.2; clear hPD
              have hPD9 : PD D A [(Rd, .inr (4, [.ref Tp, .int (nI ln), .int (nI z_46), .int y_334, .int (nI ht), .int (nI ct), .ref Rv])), (Tp, .inl (g 0, 160, .inl ftp)), (Rv, .inl (g 0, 21, .inl fval))] H := ⟨hP.sub [1, 2, 0] rfl, hD.sub [1, 2, 0] (by decide) rfl⟩
              have hP9 := hPD9.1; have hD9 := hPD9.2
              subst hQ
              refine W.widen (k := 0) (n := 0) (Nat.le_of_ble_eq_true rfl) (Nat.le_of_ble_eq_true rfl) ?_
              exact W.vret hx hb hr (fun tS htS _ => ⟨⟨_, rfl, ⟨z_46, y_334, fval, rfl, (show z_46 ≤ ln by omega), (h2)⟩, by rw [htS]; exact hP9, hD9⟩, hS.F htS⟩) hS.2.2 dX4_readNumber_116
      · skip
        have hq_335 : z_46 < ln := hf_93 cb_94
        refine lv_aload_n hx hb dX4_readNumber_68 rfl (lv_at hl 1 rfl) ?_
        refine lv_aload_n hx hb dX4_readNumber_69 rfl (lv_at hl 1 rfl) ?_
        refine va_get (D := D) (ci := 4) (v := .int (nI z_46)) (C := RX4) (T := TX4) (N := 7) hx hb hts iX4 hown hK hP 1 rfl rfl 2 (by decide) f28 (fun _ h9 => h9) rfl dX4_readNumber_70 ?_
        refine va_put (D := D) (ci := 4) (v := .int (nI z_46)) (ty := .int) (C := RX4) (T := TX4) (N := 7) hx hb hts iX4 tyX4 tyX4_ok nmX4 hown hK hP hD hS 1 rfl rfl 3 (by decide) f31 (fun _ h9 => h9) rfl (by decide +kernel) (rfl) (rfl) (Nat.le_of_ble_eq_true rfl) dX4_readNumber_73 (fun H locs hP2 hD2 hS2 => ?_)
        clear hP hD hS
        have hPD : PD D A [(Rv, .inl (g 0, 21, .inl fval)), (Rd, .inr (4, [.ref Tp, .int (nI ln), .int (nI z_46), .int (nI z_46), .int (nI ht), .int (nI ct), .ref Rv])), (Tp, .inl (g 0, 160, .inl ftp))] H := ⟨hP2, hD2⟩
        have hS := hS2; clear hP2 hD2 hS2; have hP := hPD.1; have hD := hPD.2; clear hPD
        have hPD9 : PD D A [(Rd, .inr (4, [.ref Tp, .int (nI ln), .int (nI z_46), .int (nI z_46), .int (nI ht), .int (nI ct), .ref Rv])), (Tp, .inl (g 0, 160, .inl ftp)), (Rv, .inl (g 0, 21, .inl fval))] H := ⟨hP.sub [1, 2, 0] rfl, hD.sub [1, 2, 0] (by decide) rfl⟩
        have hP9 := hPD9.1; have hD9 := hPD9.2
        subst hQ
        refine W.widen (k := 0) (n := 0) (Nat.le_of_ble_eq_true rfl) (Nat.le_of_ble_eq_true rfl) ?_
        exact W.vret hx hb hr (fun tS htS _ => ⟨⟨_, rfl, ⟨z_46, (nI z_46), fval, rfl, (show z_46 ≤ ln by omega), (h2)⟩, by rw [htS]; exact hP9, hD9⟩, hS.F htS⟩) hS.2.2 dX4_readNumber_76
  refine lv_iconst (v := 0) hx hb dX4_readNumber_6 (by decide) ?_
  refine lv_istore (lv' := [(4, .int 0), (3, .int 0), (0, .ref Rd), (1, .int (nI cl)), (2, .int (nI it))]) hx hb dX4_readNumber_7 hl (by decide) rfl (fun ls hl => ?_)
  have loop_362 : ∀ (Nloop_362 : Nat) (i_345 : Nat) (i_346 : Int32) (z_347 : Nat) (hbi_345 : i_345 ≤ 2) (hv_361 : z_347 ≤ ln) (hmloop_362 : 2 - i_345 < Nloop_362) (H : Heap) (locs : List Loc) (ls : Array Slot), va_P D vwCl [(Rv, .inl (g 0, 21, .inl fval)), (Rd, .inr (4, [.ref Tp, .int (nI ln), .int (nI z_347), .int zfa, .int (nI ht), .int (nI ct), .ref Rv])), (Tp, .inl (g 0, 160, .inl ftp))] H → va_D A [(Rv, .inl (g 0, 21, .inl fval)), (Rd, .inr (4, [.ref Tp, .int (nI ln), .int (nI z_347), .int zfa, .int (nI ht), .int (nI ct), .ref Rv])), (Tp, .inl (g 0, 160, .inl ftp))] → va_S A s.heap H locs → lv_has ls 6 [(4, .int (nI i_345)), (3, .int i_346), (0, .ref Rd), (1, .int (nI cl)), (2, .int (nI it))] → W p l e (headSpec wsX4_readNumber ({ frames := 1, cells := 0, slots := 0, locals := 22 })).room s m ([.ref Rd, .int (nI cl), .int (nI it)] : List Value).toArray below meth c H locs 0 0 Q (F0 m 9 ls []) := by
    clear hP hD hS hl
    intro Nloop_362
    induction Nloop_362 with
    | zero => intro i_345 i_346 z_347 hbi_345 hv_361 hm9; exact absurd hm9 (Nat.not_lt_zero _)
    | succ Nloop_362 loop_362_ih =>
      intro i_345 i_346 z_347 hbi_345 hv_361 hmloop_362 H locs ls hP hD hS hl
      refine lv_iload hx hb dX4_readNumber_9 (lv_at hl 0 rfl) ?_
      refine lv_iconst (v := 2) hx hb dX4_readNumber_11 (by decide) ?_
      refine lv_icmp_ge (tgt := 56) hx hb dX4_readNumber_12 (by decide) (fun cb_363 => ?_) (fun cb_363 => ?_)
      · skip
        have cn_364 : 2 ≤ i_345 := (nI_leI (show 2 < 2 ^ 31 by omega) (show i_345 < 2 ^ 31 by omega)).mp cb_363
        exact join_88 (nI i_345) i_346 z_347 (show z_347 ≤ ln by omega) _ _ _ hP hD hS (lv_sub hl [1, 2, 3, 4, 0] rfl)
      · skip
        have cn_365 : i_345 < 2 := Nat.lt_of_not_le (fun q9 => cb_363 ((nI_leI (show 2 < 2 ^ 31 by omega) (show i_345 < 2 ^ 31 by omega)).mpr q9))
        refine lv_aload_n hx hb dX4_readNumber_15 rfl (lv_at hl 2 rfl) ?_
        refine ky_Vi (As := []) (rest := []) ⟨hx, hb, hml, hown, hts⟩ ⟨hK, hN⟩ hZ hP hD hS hA [1, 2] [0] (wc := [(Rd, .inr (4, [.ref Tp, .int (nI ln), .int (nI z_347), .int zfa, .int (nI ht), .int (nI ct), .ref Rv])), (Tp, .inl (g 0, 160, .inl ftp))]) (wr := [(Rv, .inl (g 0, 21, .inl fval))]) rfl rfl rfl rfl (by decide) (k_X4_isDigitHere l D g H.size Rd Tp ln z_347 zfa ht ct Rv ftp (show ln ≤ 160 by omega) (show z_347 ≤ ln by omega)) (cwV 0 hts gX4_readNumber_X4_isDigitHere rfl rfl rfl (by decide +kernel) ⟨(Nat.le_of_ble_eq_true rfl), (Nat.le_of_ble_eq_true rfl)⟩) 1 4 rfl rfl rfl rfl hl.1 rfl (Nat.le_of_ble_eq_true rfl) dX4_readNumber_16 ⟨(Nat.le_of_ble_eq_true rfl), (Nat.le_of_ble_eq_true rfl)⟩ (fun r_366 u H locs hw hP2 hD2 hS2 => ?_)
        clear hP hD hS
        obtain ⟨zr_367, rfl, rfl, hf_368⟩ := hw
        have hPD : PD D A [(Rv, .inl (g 0, 21, .inl fval)), (Rd, .inr (4, [.ref Tp, .int (nI ln), .int (nI z_347), .int zfa, .int (nI ht), .int (nI ct), .ref Rv])), (Tp, .inl (g 0, 160, .inl ftp))] H := ⟨hP2, hD2⟩
        have hS := hS2; clear hP2 hD2 hS2; have hP := hPD.1; have hD := hPD.2; clear hPD
        refine W.widen (k := 0) (n := 0) (Nat.le_of_ble_eq_true rfl) (Nat.le_of_ble_eq_true rfl) ?_
        refine lv_if_eq (tgt := 56) hx hb dX4_readNumber_19 (by decide) (fun cb_369 => ?_) (fun cb_369 => ?_)
        · skip
          have hPq_370 := hP; have hDq_370 := hD; have hSq_370 := hS; have hlq_370 := hl; clear hP hD hS hl
          subst cb_369
          have hP := hPq_370; have hD := hDq_370; have hS := hSq_370; have hl := hlq_370; clear hPq_370 hDq_370 hSq_370 hlq_370
          exact join_88 (nI i_345) i_346 z_347 (show z_347 ≤ ln by omega) _ _ _ hP hD hS (lv_sub hl [1, 2, 3, 4, 0] rfl)
        · skip
          have hq_371 : z_347 < ln := hf_368 cb_369
          refine lv_iload_n hx hb dX4_readNumber_22 rfl (lv_at hl 1 rfl) ?_
          refine lv_bipush (v := 10) hx hb dX4_readNumber_23 (by decide) ?_
          refine lv_imul hx hb dX4_readNumber_25 ?_
          refine lv_topi (fun y_372 _ => ?_)
          refine lv_aload_n hx hb dX4_readNumber_26 rfl (lv_at hl 2 rfl) ?_
          refine va_get (D := D) (ci := 4) (v := .ref Tp) (C := RX4) (T := TX4) (N := 7) hx hb hts iX4 hown hK hP 1 rfl rfl 0 (by decide) f9 (fun _ h9 => h9) rfl dX4_readNumber_27 ?_
          refine lv_aload_n hx hb dX4_readNumber_30 rfl (lv_at hl 2 rfl) ?_
          refine va_get (D := D) (ci := 4) (v := .int (nI z_347)) (C := RX4) (T := TX4) (N := 7) hx hb hts iX4 hown hK hP 1 rfl rfl 2 (by decide) f28 (fun _ h9 => h9) rfl dX4_readNumber_31 ?_
          refine va_iald hx hb hK hP 2 0 rfl rfl (vp_in_nI (show z_347 < 160 by omega) (by decide)) dX4_readNumber_34 ?_
          refine lv_eqi (y := (ftp (z_347))) (congrArg ftp (nI_clamp (show z_347 < 2 ^ 31 by omega))) ?_
          refine lv_topi (fun y_373 _ => ?_)
          refine lv_iadd hx hb dX4_readNumber_35 ?_
          refine lv_topi (fun y_374 _ => ?_)
          refine lv_bipush (v := 48) hx hb dX4_readNumber_36 (by decide) ?_
          refine lv_isub hx hb dX4_readNumber_38 ?_
          refine lv_topi (fun y_375 _ => ?_)
          refine lv_istore_n (lv' := [(3, .int y_375), (4, .int (nI i_345)), (0, .ref Rd), (1, .int (nI cl)), (2, .int (nI it))]) hx hb dX4_readNumber_39 rfl hl (by decide) rfl (fun ls hl => ?_)
          refine lv_iinc (v := (nI (i_345 + 1))) (lv' := [(4, .int (nI (i_345 + 1))), (3, .int y_375), (0, .ref Rd), (1, .int (nI cl)), (2, .int (nI it))]) hx hb dX4_readNumber_40 hl (k := 1) rfl (nI_1 (i_345)) (by decide) rfl (fun ls hl => ?_)
          refine lv_aload_n hx hb dX4_readNumber_43 rfl (lv_at hl 2 rfl) ?_
          refine lv_dup hx hb dX4_readNumber_44 rfl ?_
          refine va_get (D := D) (ci := 4) (v := .int (nI z_347)) (C := RX4) (T := TX4) (N := 7) hx hb hts iX4 hown hK hP 1 rfl rfl 2 (by decide) f28 (fun _ h9 => h9) rfl dX4_readNumber_45 ?_
          refine lv_iconst (v := 1) hx hb dX4_readNumber_48 (by decide) ?_
          refine lv_iadd hx hb dX4_readNumber_49 ?_
          refine lv_eqi (y := (nI (z_347 + 1))) (nI_add (z_347) (1)) ?_
          refine va_put (D := D) (ci := 4) (v := .int (nI (z_347 + 1))) (ty := .int) (C := RX4) (T := TX4) (N := 7) hx hb hts iX4 tyX4 tyX4_ok nmX4 hown hK hP hD hS 1 rfl rfl 2 (by decide) f28 (fun _ h9 => h9) rfl (by decide +kernel) (rfl) (rfl) (Nat.le_of_ble_eq_true rfl) dX4_readNumber_50 (fun H locs hP2 hD2 hS2 => ?_)
          clear hP hD hS
          have hPD : PD D A [(Rv, .inl (g 0, 21, .inl fval)), (Rd, .inr (4, [.ref Tp, .int (nI ln), .int (nI (z_347 + 1)), .int zfa, .int (nI ht), .int (nI ct), .ref Rv])), (Tp, .inl (g 0, 160, .inl ftp))] H := ⟨hP2, hD2⟩
          have hS := hS2; clear hP2 hD2 hS2; have hP := hPD.1; have hD := hPD.2; clear hPD
          refine lv_goto (tgt := 9) hx hb dX4_readNumber_53 (by decide) ?_
          exact loop_362_ih (i_345 + 1) y_375 (z_347 + 1) (show (i_345 + 1) ≤ 2 by omega) (show (z_347 + 1) ≤ ln by omega) (show 2 - (i_345 + 1) < Nloop_362 by omega) _ _ _ hP hD hS hl
  exact loop_362 _ 0 0 axx_2 (show 0 ≤ 2 by omega) (show axx_2 ≤ ln by omega) (Nat.lt_succ_self _) _ _ _ hP hD hS hl
