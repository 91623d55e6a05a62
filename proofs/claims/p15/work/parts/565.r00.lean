set_option maxHeartbeats 4000000 in
set_option maxRecDepth 100000 in
theorem r_X4_passBlanks (l : Launch) (D : va_G) (g : Nat → ClassId) (sz : Nat) (Rd : Nat) (Tp : Nat) (ln : Nat) (ax : Nat) (zfa : Int32) (ht : Nat) (ct : Nat) (Rv : Nat) (ftp : Nat → Int32) (h0 : ln ≤ 160) (h1 : ax ≤ ln) : Met l yX4_passBlanks wsX4_passBlanks ({ frames := 0, cells := 0, slots := 0, locals := 0 }) (va_Pc [.ref Rd] (pre D g sz [(Rd, .inr (4, [.ref Tp, .int (nI ln), .int (nI ax), .int zfa, .int (nI ht), .int (nI ct), .ref Rv])), (Tp, .inl (g 0, 160, .inl ftp))])) (va_Qv (fun (u : va_W) => ∃ (axx : Nat), u = [(Rd, .inr (4, [.ref Tp, .int (nI ln), .int (nI axx), .int zfa, .int (nI ht), .int (nI ct), .ref Rv])), (Tp, .inl (g 0, 160, .inl ftp))] ∧ (axx ≤ ln) ∧ (axx = sB ftp ln ax)) (wd D (va_A [(Rd, .inr (4, [.ref Tp, .int (nI ln), .int (nI ax), .int zfa, .int (nI ht), .int (nI ct), .ref Rv])), (Tp, .inl (g 0, 160, .inl ftp))] sz)) (va_A [(Rd, .inr (4, [.ref Tp, .int (nI ln), .int (nI ax), .int zfa, .int (nI ht), .int (nI ct), .ref Rv])), (Tp, .inl (g 0, 160, .inl ftp))] sz)) 0 0 (va_A [(Rd, .inr (4, [.ref Tp, .int (nI ln), .int (nI ax), .int zfa, .int (nI ht), .int (nI ct), .ref Rv])), (Tp, .inl (g 0, 160, .inl ftp))] sz) := by
  refine Met.ofW (cc := cX4_passBlanks) (maxL := 1) (ret := none) (by decide) rfl ?_
  intro p e s m args below meth c s₁ B hml hv
  obtain ⟨rfl, hsz, hP, ⟨hK, hN⟩, hD0, hZ⟩ := hv
  have hx := B.exec
  have hb := B.bytes
  have hr := B.returns
  have hts := atoms_spec (ws := wsX4_passBlanks) B.pre
  have hown : s.vm.findClass RX4 = some m.cls := findClass_of_methodNamed B.named
  have hlocks := B.notSynchronized
  clear B
  subst hsz
  have hD := hD0.self (sz := s.heap.size)
  clear hD0
  generalize hAe : va_A [(Rd, .inr (4, [.ref Tp, .int (nI ln), .int (nI ax), .int zfa, .int (nI ht), .int (nI ct), .ref Rv])), (Tp, .inl (g 0, 160, .inl ftp))] s.heap.size = A at hD hZ ⊢
  have hA : ∀ q : Nat, s.heap.size ≤ q → A q := fun q h => by rw [← hAe]; exact Or.inr h
  have hS : va_S A s.heap s.heap [] := va_S.rf
  have f24 := hts (.fieldLink RX4 24 "HopCredits$Reading" "length" "I") (List.mem_of_getElem? (i := 2) rfl)
  have f28 := hts (.fieldLink RX4 28 "HopCredits$Reading" "at" "I") (List.mem_of_getElem? (i := 1) rfl)
  have f9 := hts (.fieldLink RX4 9 "HopCredits$Reading" "text" "[I") (List.mem_of_getElem? (i := 3) rfl)
  have iX4 : ∀ w ∈ u_ws RX4 TX4 7, w ∈ wsX4_passBlanks := fun w h => List.mem_cons_of_mem _ (List.mem_append_right _ (h))
  have hl := lv_entry ([.ref Rd]) (n := 1) (Nat.le_of_ble_eq_true rfl)
  rw [lg_entry_eq]
  generalize (lg_sl ([.ref Rd]) ++ List.replicate (1 - (lg_sl ([.ref Rd])).length) Slot.unset).toArray = ls at hl ⊢
  have hl : lv_has ls 1 [(0, .ref Rd)] := hl
  generalize hQ : MQ below _ _ s _ _ _ = Q
  generalize hH : s.heap = H at hP ⊢
  have hS : va_S A s.heap H [] := by rw [← hH]; exact hS
  clear hH
  have loop_18 : ∀ (Nloop_18 : Nat) (z_8 : Nat) (hbz_8 : z_8 ≤ ln) (hv_16 : z_8 ≤ ln) (hv_17 : sB ftp ln z_8 = sB ftp ln ax) (hmloop_18 : ln - z_8 < Nloop_18) (H : Heap) (locs : List Loc) (ls : Array Slot), va_P D vwCl [(Rd, .inr (4, [.ref Tp, .int (nI ln), .int (nI z_8), .int zfa, .int (nI ht), .int (nI ct), .ref Rv])), (Tp, .inl (g 0, 160, .inl ftp))] H → va_D A [(Rd, .inr (4, [.ref Tp, .int (nI ln), .int (nI z_8), .int zfa, .int (nI ht), .int (nI ct), .ref Rv])), (Tp, .inl (g 0, 160, .inl ftp))] → va_S A s.heap H locs → lv_has ls 1 [(0, .ref Rd)] → W p l e (headSpec wsX4_passBlanks ({ frames := 0, cells := 0, slots := 0, locals := 0 })).room s m ([.ref Rd] : List Value).toArray below meth c H locs 0 0 Q (F0 m 0 ls []) := by
    clear hP hD hS hl
    intro Nloop_18
    induction Nloop_18 with
    | zero => intro z_8 hbz_8 hv_16 hv_17 hm9; exact absurd hm9 (Nat.not_lt_zero _)
    | succ Nloop_18 loop_18_ih =>
      intro z_8 hbz_8 hv_16 hv_17 hmloop_18 H locs ls hP hD hS hl
      refine lv_aload_n hx hb dX4_passBlanks_0 rfl (lv_at hl 0 rfl) ?_
      refine va_get (D := D) (ci := 4) (v := .int (nI z_8)) (C := RX4) (T := TX4) (N := 7) hx hb hts iX4 hown hK hP 0 rfl rfl 2 (by decide) f28 (fun _ h9 => h9) rfl dX4_passBlanks_1 ?_
      refine lv_aload_n hx hb dX4_passBlanks_4 rfl (lv_at hl 0 rfl) ?_
      refine va_get (D := D) (ci := 4) (v := .int (nI ln)) (C := RX4) (T := TX4) (N := 7) hx hb hts iX4 hown hK hP 0 rfl rfl 1 (by decide) f24 (fun _ h9 => h9) rfl dX4_passBlanks_5 ?_
      refine lv_icmp_ge (tgt := 38) hx hb dX4_passBlanks_8 (by decide) (fun cb_19 => ?_) (fun cb_19 => ?_)
      · skip
        have cn_20 : ln ≤ z_8 := (nI_leI (show ln < 2 ^ 31 by omega) (show z_8 < 2 ^ 31 by omega)).mp cb_19
        have hsb_21 := sB_s (T := ftp) (n := ln) (i := z_8) (fun q => absurd q.1 (show ¬ z_8 < ln by omega))
        have hP9 := hP; have hD9 := hD
        subst hQ
        refine W.widen (k := 0) (n := 0) (Nat.le_of_ble_eq_true rfl) (Nat.le_of_ble_eq_true rfl) ?_
        exact W.vret hx hb hr (fun tS htS _ => ⟨⟨_, rfl, ⟨z_8, rfl, (show z_8 ≤ ln by omega), (show z_8 = sB ftp ln ax by omega)⟩, by rw [htS]; exact hP9, hD9⟩, hS.F htS⟩) hS.2.2 dX4_passBlanks_38
      · skip
        have cn_22 : z_8 < ln := Nat.lt_of_not_le (fun q9 => cb_19 ((nI_leI (show ln < 2 ^ 31 by omega) (show z_8 < 2 ^ 31 by omega)).mpr q9))
        refine lv_aload_n hx hb dX4_passBlanks_11 rfl (lv_at hl 0 rfl) ?_
        refine va_get (D := D) (ci := 4) (v := .ref Tp) (C := RX4) (T := TX4) (N := 7) hx hb hts iX4 hown hK hP 0 rfl rfl 0 (by decide) f9 (fun _ h9 => h9) rfl dX4_passBlanks_12 ?_
        refine lv_aload_n hx hb dX4_passBlanks_15 rfl (lv_at hl 0 rfl) ?_
        refine va_get (D := D) (ci := 4) (v := .int (nI z_8)) (C := RX4) (T := TX4) (N := 7) hx hb hts iX4 hown hK hP 0 rfl rfl 2 (by decide) f28 (fun _ h9 => h9) rfl dX4_passBlanks_16 ?_
        refine va_iald hx hb hK hP 1 0 rfl rfl (vp_in_nI (show z_8 < 160 by omega) (by decide)) dX4_passBlanks_19 ?_
        refine lv_eqi (y := (ftp (z_8))) (congrArg ftp (nI_clamp (show z_8 < 2 ^ 31 by omega))) ?_
        refine lv_bipush (v := 32) hx hb dX4_passBlanks_20 (by decide) ?_
        refine lv_icmp_ne (tgt := 38) hx hb dX4_passBlanks_22 (by decide) (fun cb_23 => ?_) (fun cb_23 => ?_)
        · skip
          have hsb_24 := sB_s (T := ftp) (n := ln) (i := z_8) (fun q => cb_23 q.2)
          have hP9 := hP; have hD9 := hD
          subst hQ
          refine W.widen (k := 0) (n := 0) (Nat.le_of_ble_eq_true rfl) (Nat.le_of_ble_eq_true rfl) ?_
          exact W.vret hx hb hr (fun tS htS _ => ⟨⟨_, rfl, ⟨z_8, rfl, (show z_8 ≤ ln by omega), (show z_8 = sB ftp ln ax by omega)⟩, by rw [htS]; exact hP9, hD9⟩, hS.F htS⟩) hS.2.2 dX4_passBlanks_38
        · skip
          have hsb_25 := sB_b (T := ftp) (n := ln) (i := z_8) (show z_8 < ln by omega) cb_23
          refine lv_aload_n hx hb dX4_passBlanks_25 rfl (lv_at hl 0 rfl) ?_
          refine lv_dup hx hb dX4_passBlanks_26 rfl ?_
          refine va_get (D := D) (ci := 4) (v := .int (nI z_8)) (C := RX4) (T := TX4) (N := 7) hx hb hts iX4 hown hK hP 0 rfl rfl 2 (by decide) f28 (fun _ h9 => h9) rfl dX4_passBlanks_27 ?_
          refine lv_iconst (v := 1) hx hb dX4_passBlanks_30 (by decide) ?_
          refine lv_iadd hx hb dX4_passBlanks_31 ?_
          refine lv_eqi (y := (nI (z_8 + 1))) (nI_add (z_8) (1)) ?_
          refine va_put (D := D) (ci := 4) (v := .int (nI (z_8 + 1))) (ty := .int) (C := RX4) (T := TX4) (N := 7) hx hb hts iX4 tyX4 tyX4_ok nmX4 hown hK hP hD hS 0 rfl rfl 2 (by decide) f28 (fun _ h9 => h9) rfl (by decide +kernel) (rfl) (rfl) (Nat.le_of_ble_eq_true rfl) dX4_passBlanks_32 (fun H locs hP2 hD2 hS2 => ?_)
          clear hP hD hS
          have hPD : PD D A [(Rd, .inr (4, [.ref Tp, .int (nI ln), .int (nI (z_8 + 1)), .int zfa, .int (nI ht), .int (nI ct), .ref Rv])), (Tp, .inl (g 0, 160, .inl ftp))] H := ⟨hP2, hD2⟩
          have hS := hS2; clear hP2 hD2 hS2; have hP := hPD.1; have hD := hPD.2; clear hPD
          refine lv_goto (tgt := 0) hx hb dX4_passBlanks_35 (by decide) ?_
          exact loop_18_ih (z_8 + 1) (show (z_8 + 1) ≤ ln by omega) (show (z_8 + 1) ≤ ln by omega) (show sB ftp ln (z_8 + 1) = sB ftp ln ax by omega) (show ln - (z_8 + 1) < Nloop_18 by omega) _ _ _ hP hD hS hl
  exact loop_18 _ ax (show ax ≤ ln by omega) (show ax ≤ ln by omega) (show sB ftp ln ax = sB ftp ln ax by omega) (Nat.lt_succ_self _) _ _ _ hP hD hS hl

set_option maxHeartbeats 4000000 in
set_option maxRecDepth 100000 in
theorem r_X4_isDigitHere (l : Launch) (D : va_G) (g : Nat → ClassId) (sz : Nat) (Rd : Nat) (Tp : Nat) (ln : Nat) (ax : Nat) (zfa : Int32) (ht : Nat) (ct : Nat) (Rv : Nat) (ftp : Nat → Int32) (h0 : ln ≤ 160) (h1 : ax ≤ ln) : Met l yX4_isDigitHere wsX4_isDigitHere ({ frames := 0, cells := 0, slots := 0, locals := 0 }) (va_Pc [.ref Rd] (pre D g sz [(Rd, .inr (4, [.ref Tp, .int (nI ln), .int (nI ax), .int zfa, .int (nI ht), .int (nI ct), .ref Rv])), (Tp, .inl (g 0, 160, .inl ftp))])) (va_Qi (fun (r : Int32) (u : va_W) => u = [(Rd, .inr (4, [.ref Tp, .int (nI ln), .int (nI ax), .int zfa, .int (nI ht), .int (nI ct), .ref Rv])), (Tp, .inl (g 0, 160, .inl ftp))] ∧ r = (if pD ftp ln ax then 1 else 0)) (wd D (va_A [(Rd, .inr (4, [.ref Tp, .int (nI ln), .int (nI ax), .int zfa, .int (nI ht), .int (nI ct), .ref Rv])), (Tp, .inl (g 0, 160, .inl ftp))] sz)) (va_A [(Rd, .inr (4, [.ref Tp, .int (nI ln), .int (nI ax), .int zfa, .int (nI ht), .int (nI ct), .ref Rv])), (Tp, .inl (g 0, 160, .inl ftp))] sz)) 0 0 (va_A [(Rd, .inr (4, [.ref Tp, .int (nI ln), .int (nI ax), .int zfa, .int (nI ht), .int (nI ct), .ref Rv])), (Tp, .inl (g 0, 160, .inl ftp))] sz) := by
  refine Met.ofW (cc := cX4_isDigitHere) (maxL := 1) (ret := (some .boolean)) (by decide) rfl ?_
  intro p e s m args below meth c s₁ B hml hv
  obtain ⟨rfl, hsz, hP, ⟨hK, hN⟩, hD0, hZ⟩ := hv
  have hx := B.exec
  have hb := B.bytes
  have hr := B.returns
  have hts := atoms_spec (ws := wsX4_isDigitHere) B.pre
  have hown : s.vm.findClass RX4 = some m.cls := findClass_of_methodNamed B.named
  have hlocks := B.notSynchronized
  clear B
  subst hsz
  have hD := hD0.self (sz := s.heap.size)
  clear hD0
  generalize hAe : va_A [(Rd, .inr (4, [.ref Tp, .int (nI ln), .int (nI ax), .int zfa, .int (nI ht), .int (nI ct), .ref Rv])), (Tp, .inl (g 0, 160, .inl ftp))] s.heap.size = A at hD hZ ⊢
  have hA : ∀ q : Nat, s.heap.size ≤ q → A q := fun q h => by rw [← hAe]; exact Or.inr h
  have hS : va_S A s.heap s.heap [] := va_S.rf
  have f24 := hts (.fieldLink RX4 24 "HopCredits$Reading" "length" "I") (List.mem_of_getElem? (i := 2) rfl)
  have f28 := hts (.fieldLink RX4 28 "HopCredits$Reading" "at" "I") (List.mem_of_getElem? (i := 1) rfl)
  have f9 := hts (.fieldLink RX4 9 "HopCredits$Reading" "text" "[I") (List.mem_of_getElem? (i := 3) rfl)
  have iX4 : ∀ w ∈ u_ws RX4 TX4 7, w ∈ wsX4_isDigitHere := fun w h => List.mem_cons_of_mem _ (List.mem_append_right _ (h))
  have hl := lv_entry ([.ref Rd]) (n := 1) (Nat.le_of_ble_eq_true rfl)
  rw [lg_entry_eq]
  generalize (lg_sl ([.ref Rd]) ++ List.replicate (1 - (lg_sl ([.ref Rd])).length) Slot.unset).toArray = ls at hl ⊢
  have hl : lv_has ls 1 [(0, .ref Rd)] := hl
  generalize hQ : MQ below _ _ s _ _ _ = Q
  generalize hH : s.heap = H at hP ⊢
  have hS : va_S A s.heap H [] := by rw [← hH]; exact hS
  clear hH
  refine lv_aload_n hx hb dX4_isDigitHere_0 rfl (lv_at hl 0 rfl) ?_
  refine va_get (D := D) (ci := 4) (v := .int (nI ax)) (C := RX4) (T := TX4) (N := 7) hx hb hts iX4 hown hK hP 0 rfl rfl 2 (by decide) f28 (fun _ h9 => h9) rfl dX4_isDigitHere_1 ?_
  refine lv_aload_n hx hb dX4_isDigitHere_4 rfl (lv_at hl 0 rfl) ?_
  refine va_get (D := D) (ci := 4) (v := .int (nI ln)) (C := RX4) (T := TX4) (N := 7) hx hb hts iX4 hown hK hP 0 rfl rfl 1 (by decide) f24 (fun _ h9 => h9) rfl dX4_isDigitHere_5 ?_
  refine lv_icmp_ge (tgt := 43) hx hb dX4_isDigitHere_8 (by decide) (fun cb_1 => ?_) (fun cb_1 => ?_)
  · skip
    have cn_2 : ln ≤ ax := (nI_leI (show ln < 2 ^ 31 by omega) (show ax < 2 ^ 31 by omega)).mp cb_1
    refine lv_iconst (v := 0) hx hb dX4_isDigitHere_43 (by decide) ?_
    have hP9 := hP; have hD9 := hD
    subst hQ
    refine W.widen (k := 0) (n := 0) (Nat.le_of_ble_eq_true rfl) (Nat.le_of_ble_eq_true rfl) ?_
    exact W.zret (v := 0) (ty := .boolean) hx hb hr (rfl) (fun tS htS _ => ⟨⟨_, _, rfl, ⟨rfl, (if_neg (fun q => absurd q.1 (show ¬ ax < ln by omega))).symm⟩, by rw [htS]; exact hP9, hD9⟩, hS.F htS⟩) hS.2.2 dX4_isDigitHere_44
  · skip
    have cn_3 : ax < ln := Nat.lt_of_not_le (fun q9 => cb_1 ((nI_leI (show ln < 2 ^ 31 by omega) (show ax < 2 ^ 31 by omega)).mpr q9))
    refine lv_aload_n hx hb dX4_isDigitHere_11 rfl (lv_at hl 0 rfl) ?_
    refine va_get (D := D) (ci := 4) (v := .ref Tp) (C := RX4) (T := TX4) (N := 7) hx hb hts iX4 hown hK hP 0 rfl rfl 0 (by decide) f9 (fun _ h9 => h9) rfl dX4_isDigitHere_12 ?_
    refine lv_aload_n hx hb dX4_isDigitHere_15 rfl (lv_at hl 0 rfl) ?_
    refine va_get (D := D) (ci := 4) (v := .int (nI ax)) (C := RX4) (T := TX4) (N := 7) hx hb hts iX4 hown hK hP 0 rfl rfl 2 (by decide) f28 (fun _ h9 => h9) rfl dX4_isDigitHere_16 ?_
    refine va_iald hx hb hK hP 1 0 rfl rfl (vp_in_nI (show ax < 160 by omega) (by decide)) dX4_isDigitHere_19 ?_
    refine lv_eqi (y := (ftp (ax))) (congrArg ftp (nI_clamp (show ax < 2 ^ 31 by omega))) ?_
    refine lv_bipush (v := 48) hx hb dX4_isDigitHere_20 (by decide) ?_
    refine lv_icmp_lt (tgt := 43) hx hb dX4_isDigitHere_22 (by decide) (fun cb_4 => ?_) (fun cb_4 => ?_)
    · skip
      refine lv_iconst (v := 0) hx hb dX4_isDigitHere_43 (by decide) ?_
      have hP9 := hP; have hD9 := hD
      subst hQ
      refine W.widen (k := 0) (n := 0) (Nat.le_of_ble_eq_true rfl) (Nat.le_of_ble_eq_true rfl) ?_
      exact W.zret (v := 0) (ty := .boolean) hx hb hr (rfl) (fun tS htS _ => ⟨⟨_, _, rfl, ⟨rfl, (if_neg (fun q => absurd q.2.1 (Int32.not_le.mpr cb_4))).symm⟩, by rw [htS]; exact hP9, hD9⟩, hS.F htS⟩) hS.2.2 dX4_isDigitHere_44
    · skip
      refine lv_aload_n hx hb dX4_isDigitHere_25 rfl (lv_at hl 0 rfl) ?_
      refine va_get (D := D) (ci := 4) (v := .ref Tp) (C := RX4) (T := TX4) (N := 7) hx hb hts iX4 hown hK hP 0 rfl rfl 0 (by decide) f9 (fun _ h9 => h9) rfl dX4_isDigitHere_26 ?_
      refine lv_aload_n hx hb dX4_isDigitHere_29 rfl (lv_at hl 0 rfl) ?_
      refine va_get (D := D) (ci := 4) (v := .int (nI ax)) (C := RX4) (T := TX4) (N := 7) hx hb hts iX4 hown hK hP 0 rfl rfl 2 (by decide) f28 (fun _ h9 => h9) rfl dX4_isDigitHere_30 ?_
      refine va_iald hx hb hK hP 1 0 rfl rfl (vp_in_nI (show ax < 160 by omega) (by decide)) dX4_isDigitHere_33 ?_
      refine lv_eqi (y := (ftp (ax))) (congrArg ftp (nI_clamp (show ax < 2 ^ 31 by omega))) ?_
      refine lv_bipush (v := 57) hx hb dX4_isDigitHere_34 (by decide) ?_
      refine lv_icmp_gt (tgt := 43) hx hb dX4_isDigitHere_36 (by decide) (fun cb_5 => ?_) (fun cb_5 => ?_)
      · skip
        refine lv_iconst (v := 0) hx hb dX4_isDigitHere_43 (by decide) ?_
        have hP9 := hP; have hD9 := hD
        subst hQ
        refine W.widen (k := 0) (n := 0) (Nat.le_of_ble_eq_true rfl) (Nat.le_of_ble_eq_true rfl) ?_
        exact W.zret (v := 0) (ty := .boolean) hx hb hr (rfl) (fun tS htS _ => ⟨⟨_, _, rfl, ⟨rfl, (if_neg (fun q => absurd q.2.2 (Int32.not_le.mpr cb_5))).symm⟩, by rw [htS]; exact hP9, hD9⟩, hS.F htS⟩) hS.2.2 dX4_isDigitHere_44
      · skip
        refine lv_iconst (v := 1) hx hb dX4_isDigitHere_39 (by decide) ?_
        refine lv_goto (tgt := 44) hx hb dX4_isDigitHere_40 (by decide) ?_
        have hP9 := hP; have hD9 := hD
        subst hQ
        refine W.widen (k := 0) (n := 0) (Nat.le_of_ble_eq_true rfl) (Nat.le_of_ble_eq_true rfl) ?_
        exact W.zret (v := 1) (ty := .boolean) hx hb hr (rfl) (fun tS htS _ => ⟨⟨_, _, rfl, ⟨rfl, (if_pos ⟨show ax < ln by omega, Int32.not_lt.mp cb_4, Int32.not_lt.mp cb_5⟩).symm⟩, by rw [htS]; exact hP9, hD9⟩, hS.F htS⟩) hS.2.2 dX4_isDigitHere_44

set_option maxHeartbeats 4000000 in
set_option maxRecDepth 100000 in
theorem r_X4_readNumber_00 (l : Launch) (D : va_G) (g : Nat → ClassId) (sz : Nat) (Rd : Nat) (Tp : Nat) (ln : Nat) (ax : Nat) (ht : Nat) (ct : Nat) (Rv : Nat) (ftp : Nat → Int32) (fval : Nat → Int32) (h0 : ln ≤ 160) (h1 : ax ≤ ln) (h2 : vOK fval) : Met l yX4_readNumber wsX4_readNumber ({ frames := 1, cells := 0, slots := 0, locals := 22 }) (va_Pc [.ref Rd, .int 0, .int 0] (pre D g sz [(Rd, .inr (4, [.ref Tp, .int (nI ln), .int (nI ax), .int (-1), .int (nI ht), .int (nI ct), .ref Rv])), (Tp, .inl (g 0, 160, .inl ftp)), (Rv, .inl (g 0, 21, .inl fval))])) (va_Qv (fun (u : va_W) => ∃ (axx : Nat) (zfax : Int32) (fvalx : Nat → Int32), u = [(Rd, .inr (4, [.ref Tp, .int (nI ln), .int (nI axx), .int zfax, .int (nI ht), .int (nI ct), .ref Rv])), (Tp, .inl (g 0, 160, .inl ftp)), (Rv, .inl (g 0, 21, .inl fvalx))] ∧ (axx ≤ ln) ∧ (vOK fvalx) ∧ (zfax = nmF ftp ln ax 1 4) ∧ (zfax = -1 → axx = nmE ftp ln ax ∧ fvalx = upd fval 0 (nmV ftp ln ax))) (wd D (va_A [(Rd, .inr (4, [.ref Tp, .int (nI ln), .int (nI ax), .int (-1), .int (nI ht), .int (nI ct), .ref Rv])), (Tp, .inl (g 0, 160, .inl ftp)), (Rv, .inl (g 0, 21, .inl fval))] sz)) (va_A [(Rd, .inr (4, [.ref Tp, .int (nI ln), .int (nI ax), .int (-1), .int (nI ht), .int (nI ct), .ref Rv])), (Tp, .inl (g 0, 160, .inl ftp)), (Rv, .inl (g 0, 21, .inl fval))] sz)) 0 0 (va_A [(Rd, .inr (4, [.ref Tp, .int (nI ln), .int (nI ax), .int (-1), .int (nI ht), .int (nI ct), .ref Rv])), (Tp, .inl (g 0, 160, .inl ftp)), (Rv, .inl (g 0, 21, .inl fval))] sz) := by
  refine Met.ofW (cc := cX4_readNumber) (maxL := 6) (ret := none) (by decide) rfl ?_
  intro p e s m args below meth c s₁ B hml hv
  obtain ⟨rfl, hsz, hP, ⟨hK, hN⟩, hD0, hZ⟩ := hv
  have hx := B.exec
  have hb := B.bytes
  have hr := B.returns
  have hts := atoms_spec (ws := wsX4_readNumber) B.pre
  have hown : s.vm.findClass RX4 = some m.cls := findClass_of_methodNamed B.named
  have hlocks := B.notSynchronized
  clear B
  subst hsz
  have hD := hD0.self (sz := s.heap.size)
  clear hD0
  generalize hAe : va_A [(Rd, .inr (4, [.ref Tp, .int (nI ln), .int (nI ax), .int (-1), .int (nI ht), .int (nI ct), .ref Rv])), (Tp, .inl (g 0, 160, .inl ftp)), (Rv, .inl (g 0, 21, .inl fval))] s.heap.size = A at hD hZ ⊢
  have hA : ∀ q : Nat, s.heap.size ≤ q → A q := fun q h => by rw [← hAe]; exact Or.inr h
  have hS : va_S A s.heap s.heap [] := va_S.rf
  have f15 := hts (.fieldLink RX4 15 "HopCredits$Reading" "values" "[I") (List.mem_of_getElem? (i := 6) rfl)
  have f28 := hts (.fieldLink RX4 28 "HopCredits$Reading" "at" "I") (List.mem_of_getElem? (i := 2) rfl)
  have f31 := hts (.fieldLink RX4 31 "HopCredits$Reading" "fault" "I") (List.mem_of_getElem? (i := 3) rfl)
  have f84 := hts (.fieldLink RX4 84 "HopCredits$Reading" "LOWS" "[I") (List.mem_of_getElem? (i := 4) rfl)
  have f87 := hts (.fieldLink RX4 87 "HopCredits$Reading" "HIGHS" "[I") (List.mem_of_getElem? (i := 5) rfl)
  have f9 := hts (.fieldLink RX4 9 "HopCredits$Reading" "text" "[I") (List.mem_of_getElem? (i := 1) rfl)
  have iiX6 := hts (.initialized RX6) (List.mem_of_getElem? (i := 21) rfl)
  have stX6_outside := hts (.static yX6_outside) (List.mem_of_getElem? (i := 20) rfl)
  have iX4 : ∀ w ∈ u_ws RX4 TX4 7, w ∈ wsX4_readNumber := fun w h => List.mem_cons_of_mem _ (List.mem_append_right _ (h))
  have hl := lv_entry ([.ref Rd, .int 0, .int 0]) (n := 6) (Nat.le_of_ble_eq_true rfl)
  rw [lg_entry_eq]
  generalize (lg_sl ([.ref Rd, .int 0, .int 0]) ++ List.replicate (6 - (lg_sl ([.ref Rd, .int 0, .int 0])).length) Slot.unset).toArray = ls at hl ⊢
  have hl : lv_has ls 6 [(0, .ref Rd), (1, .int 0), (2, .int 0)] := hl
  generalize hQ : MQ below _ _ s _ _ _ = Q
  generalize hH : s.heap = H at hP ⊢
  have hS : va_S A s.heap H [] := by rw [← hH]; exact hS
  clear hH
  refine lv_aload_n hx hb dX4_readNumber_0 rfl (lv_at hl 0 rfl) ?_
  refine ky_Vv (As := []) (rest := []) ⟨hx, hb, hml, hown, hts⟩ ⟨hK, hN⟩ hZ hP hD hS hA [0, 1] [2] (wc := [(Rd, .inr (4, [.ref Tp, .int (nI ln), .int (nI ax), .int (-1), .int (nI ht), .int (nI ct), .ref Rv])), (Tp, .inl (g 0, 160, .inl ftp))]) (wr := [(Rv, .inl (g 0, 21, .inl fval))]) rfl rfl rfl rfl (by decide) (r_X4_passBlanks l D g H.size Rd Tp ln ax (-1) ht ct Rv ftp (show ln ≤ 160 by omega) (show ax ≤ ln by omega)) (cwV 0 hts gX4_readNumber_X4_passBlanks rfl rfl rfl (by decide +kernel) ⟨(Nat.le_of_ble_eq_true rfl), (Nat.le_of_ble_eq_true rfl)⟩) 0 4 rfl rfl rfl rfl hl.1 rfl (Nat.le_of_ble_eq_true rfl) dX4_readNumber_1 ⟨(Nat.le_of_ble_eq_true rfl), (Nat.le_of_ble_eq_true rfl)⟩ (fun u H locs hw hP2 hD2 hS2 => ?_)
  clear hP hD hS
  obtain ⟨axx_2, rfl, hf_3, hf_4⟩ := hw
  have hPD : PD D A [(Rv, .inl (g 0, 21, .inl fval)), (Rd, .inr (4, [.ref Tp, .int (nI ln), .int (nI axx_2), .int (-1), .int (nI ht), .int (nI ct), .ref Rv])), (Tp, .inl (g 0, 160, .inl ftp))] H := ⟨hP2, hD2⟩
  have hS := hS2; clear hP2 hD2 hS2; have hP := hPD.1; have hD := hPD.2; clear hPD
  refine W.widen (k := 0) (n := 0) (Nat.le_of_ble_eq_true rfl) (Nat.le_of_ble_eq_true rfl) ?_
  refine lv_iconst (v := 0) hx hb dX4_readNumber_4 (by decide) ?_
  refine lv_istore_n (lv' := [(3, .int 0), (0, .ref Rd), (1, .int 0), (2, .int 0)]) hx hb dX4_readNumber_5 rfl hl (by decide) rfl (fun ls hl => ?_)
  refine lv_iconst (v := 0) hx hb dX4_readNumber_6 (by decide) ?_
  refine lv_istore (lv' := [(4, .int 0), (3, .int 0), (0, .ref Rd), (1, .int 0), (2, .int 0)]) hx hb dX4_readNumber_7 hl (by decide) rfl (fun ls hl => ?_)
  refine lv_iload hx hb dX4_readNumber_9 (lv_at hl 0 rfl) ?_
  refine lv_iconst (v := 2) hx hb dX4_readNumber_11 (by decide) ?_
  refine lv_icmp_ge (tgt := 56) hx hb dX4_readNumber_12 (by decide) (fun cb => absurd cb (by decide)) (fun _ => ?_)
  refine lv_aload_n hx hb dX4_readNumber_15 rfl (lv_at hl 2 rfl) ?_
  refine ky_Vi (As := []) (rest := []) ⟨hx, hb, hml, hown, hts⟩ ⟨hK, hN⟩ hZ hP hD hS hA [1, 2] [0] (wc := [(Rd, .inr (4, [.ref Tp, .int (nI ln), .int (nI axx_2), .int (-1), .int (nI ht), .int (nI ct), .ref Rv])), (Tp, .inl (g 0, 160, .inl ftp))]) (wr := [(Rv, .inl (g 0, 21, .inl fval))]) rfl rfl rfl rfl (by decide) (r_X4_isDigitHere l D g H.size Rd Tp ln axx_2 (-1) ht ct Rv ftp (show ln ≤ 160 by omega) (show axx_2 ≤ ln by omega)) (cwV 0 hts gX4_readNumber_X4_isDigitHere rfl rfl rfl (by decide +kernel) ⟨(Nat.le_of_ble_eq_true rfl), (Nat.le_of_ble_eq_true rfl)⟩) 1 4 rfl rfl rfl rfl hl.1 rfl (Nat.le_of_ble_eq_true rfl) dX4_readNumber_16 ⟨(Nat.le_of_ble_eq_true rfl), (Nat.le_of_ble_eq_true rfl)⟩ (fun r_5 u H locs hw hP2 hD2 hS2 => ?_)
  clear hP hD hS
  obtain ⟨rfl, rfl⟩ := hw
  have hPD : PD D A [(Rv, .inl (g 0, 21, .inl fval)), (Rd, .inr (4, [.ref Tp, .int (nI ln), .int (nI axx_2), .int (-1), .int (nI ht), .int (nI ct), .ref Rv])), (Tp, .inl (g 0, 160, .inl ftp))] H := ⟨hP2, hD2⟩
  have hS := hS2; clear hP2 hD2 hS2; have hP := hPD.1; have hD := hPD.2; clear hPD
  refine W.widen (k := 0) (n := 0) (Nat.le_of_ble_eq_true rfl) (Nat.le_of_ble_eq_true rfl) ?_
  refine lv_if_eq (tgt := 56) hx hb dX4_readNumber_19 (by decide) (fun cb_6 => ?_) (fun cb_6 => ?_)
  · skip
    have hq_7 : ¬ (pD ftp ln axx_2) := b01_0.mp cb_6
    refine lv_iload hx hb dX4_readNumber_56 (lv_at hl 0 rfl) ?_
    refine lv_if_eq (tgt := 68) hx hb dX4_readNumber_58 (by decide) (fun _ => ?_) (fun cb => absurd (by decide) cb)
    refine lv_aload_n hx hb dX4_readNumber_68 rfl (lv_at hl 2 rfl) ?_
    refine lv_aload_n hx hb dX4_readNumber_69 rfl (lv_at hl 2 rfl) ?_
    refine va_get (D := D) (ci := 4) (v := .int (nI axx_2)) (C := RX4) (T := TX4) (N := 7) hx hb hts iX4 hown hK hP 1 rfl rfl 2 (by decide) f28 (fun _ h9 => h9) rfl dX4_readNumber_70 ?_
    refine va_put (D := D) (ci := 4) (v := .int (nI axx_2)) (ty := .int) (C := RX4) (T := TX4) (N := 7) hx hb hts iX4 tyX4 tyX4_ok nmX4 hown hK hP hD hS 1 rfl rfl 3 (by decide) f31 (fun _ h9 => h9) rfl (by decide +kernel) (rfl) (rfl) (Nat.le_of_ble_eq_true rfl) dX4_readNumber_73 (fun H locs hP2 hD2 hS2 => ?_)
    clear hP hD hS
    have hPD : PD D A [(Rv, .inl (g 0, 21, .inl fval)), (Rd, .inr (4, [.ref Tp, .int (nI ln), .int (nI axx_2), .int (nI axx_2), .int (nI ht), .int (nI ct), .ref Rv])), (Tp, .inl (g 0, 160, .inl ftp))] H := ⟨hP2, hD2⟩
    have hS := hS2; clear hP2 hD2 hS2; have hP := hPD.1; have hD := hPD.2; clear hPD
    have hPD9 : PD D A [(Rd, .inr (4, [.ref Tp, .int (nI ln), .int (nI axx_2), .int (nI axx_2), .int (nI ht), .int (nI ct), .ref Rv])), (Tp, .inl (g 0, 160, .inl ftp)), (Rv, .inl (g 0, 21, .inl fval))] H := ⟨hP.sub [1, 2, 0] rfl, hD.sub [1, 2, 0] (by decide) rfl⟩
    have hP9 := hPD9.1; have hD9 := hPD9.2
    subst hQ
    refine W.widen (k := 0) (n := 0) (Nat.le_of_ble_eq_true rfl) (Nat.le_of_ble_eq_true rfl) ?_
    exact W.vret hx hb hr (fun tS htS _ => ⟨⟨_, rfl, ⟨axx_2, (nI axx_2), fval, rfl, (show axx_2 ≤ ln by omega), h2, (nm_0 (show axx_2 = sB ftp ln ax by omega) hq_7).symm, (fun q => absurd q (m1_ne (show axx_2 < 2 ^ 31 by omega)))⟩, by rw [htS]; exact hP9, hD9⟩, hS.F htS⟩) hS.2.2 dX4_readNumber_76
  · skip
    have hq_8 : pD ftp ln axx_2 := b01_1.mp cb_6
    refine lv_iload_n hx hb dX4_readNumber_22 rfl (lv_at hl 1 rfl) ?_
    refine lv_bipush (v := 10) hx hb dX4_readNumber_23 (by decide) ?_
    refine lv_imul hx hb dX4_readNumber_25 ?_
    refine lv_eqi (y := 0) (by decide) ?_
    refine lv_aload_n hx hb dX4_readNumber_26 rfl (lv_at hl 2 rfl) ?_
    refine va_get (D := D) (ci := 4) (v := .ref Tp) (C := RX4) (T := TX4) (N := 7) hx hb hts iX4 hown hK hP 1 rfl rfl 0 (by decide) f9 (fun _ h9 => h9) rfl dX4_readNumber_27 ?_
    refine lv_aload_n hx hb dX4_readNumber_30 rfl (lv_at hl 2 rfl) ?_
    refine va_get (D := D) (ci := 4) (v := .int (nI axx_2)) (C := RX4) (T := TX4) (N := 7) hx hb hts iX4 hown hK hP 1 rfl rfl 2 (by decide) f28 (fun _ h9 => h9) rfl dX4_readNumber_31 ?_
    refine va_iald hx hb hK hP 2 0 rfl rfl (vp_in_nI (show axx_2 < 160 by omega) (by decide)) dX4_readNumber_34 ?_
    refine lv_eqi (y := (ftp (axx_2))) (congrArg ftp (nI_clamp (show axx_2 < 2 ^ 31 by omega))) ?_
    refine lv_iadd hx hb dX4_readNumber_35 ?_
    refine lv_bipush (v := 48) hx hb dX4_readNumber_36 (by decide) ?_
    refine lv_isub hx hb dX4_readNumber_38 ?_
    refine lv_istore_n (lv' := [(3, .int ((0 + (ftp (axx_2))) - 48)), (4, .int 0), (0, .ref Rd), (1, .int 0), (2, .int 0)]) hx hb dX4_readNumber_39 rfl hl (by decide) rfl (fun ls hl => ?_)
    refine lv_iinc (v := 1) (lv' := [(4, .int 1), (3, .int ((0 + (ftp (axx_2))) - 48)), (0, .ref Rd), (1, .int 0), (2, .int 0)]) hx hb dX4_readNumber_40 hl (k := 1) rfl (by decide) (by decide) rfl (fun ls hl => ?_)
    refine lv_aload_n hx hb dX4_readNumber_43 rfl (lv_at hl 2 rfl) ?_
    refine lv_dup hx hb dX4_readNumber_44 rfl ?_
    refine va_get (D := D) (ci := 4) (v := .int (nI axx_2)) (C := RX4) (T := TX4) (N := 7) hx hb hts iX4 hown hK hP 1 rfl rfl 2 (by decide) f28 (fun _ h9 => h9) rfl dX4_readNumber_45 ?_
    refine lv_iconst (v := 1) hx hb dX4_readNumber_48 (by decide) ?_
    refine lv_iadd hx hb dX4_readNumber_49 ?_
    refine lv_eqi (y := (nI (axx_2 + 1))) (nI_add (axx_2) (1)) ?_
    refine va_put (D := D) (ci := 4) (v := .int (nI (axx_2 + 1))) (ty := .int) (C := RX4) (T := TX4) (N := 7) hx hb hts iX4 tyX4 tyX4_ok nmX4 hown hK hP hD hS 1 rfl rfl 2 (by decide) f28 (fun _ h9 => h9) rfl (by decide +kernel) (rfl) (rfl) (Nat.le_of_ble_eq_true rfl) dX4_readNumber_50 (fun H locs hP2 hD2 hS2 => ?_)
    clear hP hD hS
    have hPD : PD D A [(Rv, .inl (g 0, 21, .inl fval)), (Rd, .inr (4, [.ref Tp, .int (nI ln), .int (nI (axx_2 + 1)), .int (-1), .int (nI ht), .int (nI ct), .ref Rv])), (Tp, .inl (g 0, 160, .inl ftp))] H := ⟨hP2, hD2⟩
    have hS := hS2; clear hP2 hD2 hS2; have hP := hPD.1; have hD := hPD.2; clear hPD
    refine lv_goto (tgt := 9) hx hb dX4_readNumber_53 (by decide) ?_
    refine lv_iload hx hb dX4_readNumber_9 (lv_at hl 0 rfl) ?_
    refine lv_iconst (v := 2) hx hb dX4_readNumber_11 (by decide) ?_
    refine lv_icmp_ge (tgt := 56) hx hb dX4_readNumber_12 (by decide) (fun cb => absurd cb (by decide)) (fun _ => ?_)
    refine lv_aload_n hx hb dX4_readNumber_15 rfl (lv_at hl 2 rfl) ?_
    refine ky_Vi (As := []) (rest := []) ⟨hx, hb, hml, hown, hts⟩ ⟨hK, hN⟩ hZ hP hD hS hA [1, 2] [0] (wc := [(Rd, .inr (4, [.ref Tp, .int (nI ln), .int (nI (axx_2 + 1)), .int (-1), .int (nI ht), .int (nI ct), .ref Rv])), (Tp, .inl (g 0, 160, .inl ftp))]) (wr := [(Rv, .inl (g 0, 21, .inl fval))]) rfl rfl rfl rfl (by decide) (r_X4_isDigitHere l D g H.size Rd Tp ln (axx_2 + 1) (-1) ht ct Rv ftp (show ln ≤ 160 by omega) (show (axx_2 + 1) ≤ ln by omega)) (cwV 0 hts gX4_readNumber_X4_isDigitHere rfl rfl rfl (by decide +kernel) ⟨(Nat.le_of_ble_eq_true rfl), (Nat.le_of_ble_eq_true rfl)⟩) 1 4 rfl rfl rfl rfl hl.1 rfl (Nat.le_of_ble_eq_true rfl) dX4_readNumber_16 ⟨(Nat.le_of_ble_eq_true rfl), (Nat.le_of_ble_eq_true rfl)⟩ (fun r_9 u H locs hw hP2 hD2 hS2 => ?_)
    clear hP hD hS
    obtain ⟨rfl, rfl⟩ := hw
    have hPD : PD D A [(Rv, .inl (g 0, 21, .inl fval)), (Rd, .inr (4, [.ref Tp, .int (nI ln), .int (nI (axx_2 + 1)), .int (-1), .int (nI ht), .int (nI ct), .ref Rv])), (Tp, .inl (g 0, 160, .inl ftp))] H := ⟨hP2, hD2⟩
    have hS := hS2; clear hP2 hD2 hS2; have hP := hPD.1; have hD := hPD.2; clear hPD
    refine W.widen (k := 0) (n := 0) (Nat.le_of_ble_eq_true rfl) (Nat.le_of_ble_eq_true rfl) ?_
    refine lv_if_eq (tgt := 56) hx hb dX4_readNumber_19 (by decide) (fun cb_10 => ?_) (fun cb_10 => ?_)
    · skip
      have hq_11 : ¬ (pD ftp ln (axx_2 + 1)) := b01_0.mp cb_10
      refine lv_iload hx hb dX4_readNumber_56 (lv_at hl 0 rfl) ?_
      refine lv_if_eq (tgt := 68) hx hb dX4_readNumber_58 (by decide) (fun cb => absurd cb (by decide)) (fun _ => ?_)
      refine lv_aload_n hx hb dX4_readNumber_61 rfl (lv_at hl 2 rfl) ?_
      refine ky_Vi (As := []) (rest := []) ⟨hx, hb, hml, hown, hts⟩ ⟨hK, hN⟩ hZ hP hD hS hA [1, 2] [0] (wc := [(Rd, .inr (4, [.ref Tp, .int (nI ln), .int (nI (axx_2 + 1)), .int (-1), .int (nI ht), .int (nI ct), .ref Rv])), (Tp, .inl (g 0, 160, .inl ftp))]) (wr := [(Rv, .inl (g 0, 21, .inl fval))]) rfl rfl rfl rfl (by decide) (r_X4_isDigitHere l D g H.size Rd Tp ln (axx_2 + 1) (-1) ht ct Rv ftp (show ln ≤ 160 by omega) (show (axx_2 + 1) ≤ ln by omega)) (cwV 0 hts gX4_readNumber_X4_isDigitHere rfl rfl rfl (by decide +kernel) ⟨(Nat.le_of_ble_eq_true rfl), (Nat.le_of_ble_eq_true rfl)⟩) 1 4 rfl rfl rfl rfl hl.1 rfl (Nat.le_of_ble_eq_true rfl) dX4_readNumber_62 ⟨(Nat.le_of_ble_eq_true rfl), (Nat.le_of_ble_eq_true rfl)⟩ (fun r_12 u H locs hw hP2 hD2 hS2 => ?_)
      clear hP hD hS
      obtain ⟨rfl, rfl⟩ := hw
      have hPD : PD D A [(Rv, .inl (g 0, 21, .inl fval)), (Rd, .inr (4, [.ref Tp, .int (nI ln), .int (nI (axx_2 + 1)), .int (-1), .int (nI ht), .int (nI ct), .ref Rv])), (Tp, .inl (g 0, 160, .inl ftp))] H := ⟨hP2, hD2⟩
      have hS := hS2; clear hP2 hD2 hS2; have hP := hPD.1; have hD := hPD.2; clear hPD
      refine W.widen (k := 0) (n := 0) (Nat.le_of_ble_eq_true rfl) (Nat.le_of_ble_eq_true rfl) ?_
      refine lv_if_eq (tgt := 77) hx hb dX4_readNumber_65 (by decide) (fun cb_13 => ?_) (fun cb_13 => ?_)
      · skip
        have hq_14 : ¬ (pD ftp ln (axx_2 + 1)) := b01_0.mp cb_13
        refine lv_iload_n hx hb dX4_readNumber_77 rfl (lv_at hl 3 rfl) ?_
        refine ky_Si (As := [.int 0]) (rest := []) ⟨hx, hb, hml, hown, hts⟩ ⟨hK, hN⟩ hZ hP hD hS hA [] [0, 1, 2] (wc := []) (wr := [(Rv, .inl (g 0, 21, .inl fval)), (Rd, .inr (4, [.ref Tp, .int (nI ln), .int (nI (axx_2 + 1)), .int (-1), .int (nI ht), .int (nI ct), .ref Rv])), (Tp, .inl (g 0, 160, .inl ftp))]) rfl rfl rfl rfl (by decide) (k_X4_kindOf_0 l D g H.size) (va_cwS 1 hts gX4_readNumber_X4_kindOf rfl rfl rfl (by decide +kernel) ⟨(Nat.le_of_ble_eq_true rfl), (Nat.le_of_ble_eq_true rfl)⟩) rfl hl.1 rfl (Nat.le_of_ble_eq_true rfl) dX4_readNumber_78 ⟨(Nat.le_of_ble_eq_true rfl), (Nat.le_of_ble_eq_true rfl)⟩ (fun r_15 u H locs hw hP2 hD2 hS2 => ?_)
        clear hP hD hS
        obtain ⟨rfl, rfl⟩ := hw
        have hPD : PD D A [(Rv, .inl (g 0, 21, .inl fval)), (Rd, .inr (4, [.ref Tp, .int (nI ln), .int (nI (axx_2 + 1)), .int (-1), .int (nI ht), .int (nI ct), .ref Rv])), (Tp, .inl (g 0, 160, .inl ftp))] H := ⟨hP2, hD2⟩
        have hS := hS2; clear hP2 hD2 hS2; have hP := hPD.1; have hD := hPD.2; clear hPD
        refine W.widen (k := 0) (n := 0) (Nat.le_of_ble_eq_true rfl) (Nat.le_of_ble_eq_true rfl) ?_
        refine lv_iconst (v := 3) hx hb dX4_readNumber_81 (by decide) ?_
        refine lv_imul hx hb dX4_readNumber_82 ?_
        refine lv_eqi (y := 0) (by decide) ?_
        refine lv_iload_n hx hb dX4_readNumber_83 rfl (lv_at hl 4 rfl) ?_
        refine lv_iadd hx hb dX4_readNumber_84 ?_
        refine lv_eqi (y := 0) (by decide) ?_
        refine lv_istore (lv' := [(5, .int 0), (4, .int 1), (3, .int ((0 + (ftp (axx_2))) - 48)), (0, .ref Rd), (1, .int 0), (2, .int 0)]) hx hb dX4_readNumber_85 hl (by decide) rfl (fun ls hl => ?_)
        refine lv_iload_n hx hb dX4_readNumber_87 rfl (lv_at hl 2 rfl) ?_
        refine va_gets hx hb hZ.2.2.1 hS hown f84 (fun _ h9 => h9) dX4_readNumber_88 ?_
        refine lv_iload hx hb dX4_readNumber_91 (lv_at hl 0 rfl) ?_
        refine va_ti (v := .int 1) hx hb hZ.2.2.2.1 hS (by unfold vp_in; decide) rfl dX4_readNumber_93 ?_
        refine va_gets hx hb hZ.2.2.2.2.1 hS hown f87 (fun _ h9 => h9) dX4_readNumber_94 ?_
        refine lv_iload hx hb dX4_readNumber_97 (lv_at hl 0 rfl) ?_
        refine va_ti (v := .int 4) hx hb hZ.2.2.2.2.2.1 hS (by unfold vp_in; decide) rfl dX4_readNumber_99 ?_
        refine ky_SNi (As := [.int ((0 + (ftp (axx_2))) - 48), .int 1, .int 4]) (rest := []) ⟨hx, hb, hml, hown, hts⟩ ⟨hK, hN⟩ hZ hP hD hS hA [] [0, 1, 2] (wc := []) (wr := [(Rv, .inl (g 0, 21, .inl fval)), (Rd, .inr (4, [.ref Tp, .int (nI ln), .int (nI (axx_2 + 1)), .int (-1), .int (nI ht), .int (nI ct), .ref Rv])), (Tp, .inl (g 0, 160, .inl ftp))]) rfl rfl rfl rfl (by decide) (k_X6_outside l D g H.size ((0 + (ftp (axx_2))) - 48) 1 4) ⟨va_cnB 3 hts ggX4_readNumber_X6_outside rfl rfl rfl hN.2.2.2.2.2.1 iiX6 (by decide +kernel) ⟨(Nat.le_of_ble_eq_true rfl), (Nat.le_of_ble_eq_true rfl)⟩, stX6_outside, trivial⟩ rfl hl.1 rfl (Nat.le_of_ble_eq_true rfl) dX4_readNumber_100 ⟨(Nat.le_of_ble_eq_true rfl), (Nat.le_of_ble_eq_true rfl)⟩ (fun r_16 u H locs hw hP2 hD2 hS2 => ?_)
        clear hP hD hS
        obtain ⟨rfl, rfl⟩ := hw
        have hPD : PD D A [(Rv, .inl (g 0, 21, .inl fval)), (Rd, .inr (4, [.ref Tp, .int (nI ln), .int (nI (axx_2 + 1)), .int (-1), .int (nI ht), .int (nI ct), .ref Rv])), (Tp, .inl (g 0, 160, .inl ftp))] H := ⟨hP2, hD2⟩
        have hS := hS2; clear hP2 hD2 hS2; have hP := hPD.1; have hD := hPD.2; clear hPD
        refine W.widen (k := 0) (n := 0) (Nat.le_of_ble_eq_true rfl) (Nat.le_of_ble_eq_true rfl) ?_
        refine lv_if_eq (tgt := 117) hx hb dX4_readNumber_103 (by decide) (fun cb_17 => ?_) (fun cb_17 => ?_)
        · skip
          have hq_18 : ¬ (((0 + (ftp (axx_2))) - 48) < 1 ∨ 4 < ((0 + (ftp (axx_2))) - 48)) := b01_0.mp cb_17
          have hq_19 : ¬ ((0 + (ftp (axx_2))) - 48) < 1 := fun q => hq_18 (Or.inl q); have hq_20 : ¬ (4 < ((0 + (ftp (axx_2))) - 48)) := fun q => hq_18 (Or.inr q)
          refine lv_aload_n hx hb dX4_readNumber_117 rfl (lv_at hl 3 rfl) ?_
          refine va_get (D := D) (ci := 4) (v := .ref Rv) (C := RX4) (T := TX4) (N := 7) hx hb hts iX4 hown hK hP 1 rfl rfl 6 (by decide) f15 (fun _ h9 => h9) rfl dX4_readNumber_118 ?_
          refine lv_iload_n hx hb dX4_readNumber_121 rfl (lv_at hl 4 rfl) ?_
          refine lv_iconst (v := 3) hx hb dX4_readNumber_122 (by decide) ?_
          refine lv_imul hx hb dX4_readNumber_123 ?_
          refine lv_eqi (y := 0) (by decide) ?_
          refine lv_iload_n hx hb dX4_readNumber_124 rfl (lv_at hl 5 rfl) ?_
          refine lv_iadd hx hb dX4_readNumber_125 ?_
          refine lv_eqi (y := 0) (by decide) ?_
          refine lv_iload_n hx hb dX4_readNumber_126 rfl (lv_at hl 2 rfl) ?_
          refine va_iast hx hb hK hP hD hS 0 0 rfl rfl (by unfold vp_in; decide) dX4_readNumber_127 (fun H locs hP2 hD2 hS2 => ?_)
          clear hP hD hS
          have hPD : PD D A [(Rv, .inl (g 0, 21, .inl (upd fval 0 ((0 + (ftp (axx_2))) - 48)))), (Rd, .inr (4, [.ref Tp, .int (nI ln), .int (nI (axx_2 + 1)), .int (-1), .int (nI ht), .int (nI ct), .ref Rv])), (Tp, .inl (g 0, 160, .inl ftp))] H := ⟨hP2, hD2⟩
          have hS := hS2; clear hP2 hD2 hS2; have hP := hPD.1; have hD := hPD.2; clear hPD
          have hPD9 : PD D A [(Rd, .inr (4, [.ref Tp, .int (nI ln), .int (nI (axx_2 + 1)), .int (-1), .int (nI ht), .int (nI ct), .ref Rv])), (Tp, .inl (g 0, 160, .inl ftp)), (Rv, .inl (g 0, 21, .inl (upd fval 0 ((0 + (ftp (axx_2))) - 48))))] H := ⟨hP.sub [1, 2, 0] rfl, hD.sub [1, 2, 0] (by decide) rfl⟩
          have hP9 := hPD9.1; have hD9 := hPD9.2
          subst hQ
          refine W.widen (k := 0) (n := 0) (Nat.le_of_ble_eq_true rfl) (Nat.le_of_ble_eq_true rfl) ?_
          exact W.vret hx hb hr (fun tS htS _ => ⟨⟨_, rfl, ⟨(axx_2 + 1), (-1), (upd fval 0 ((0 + (ftp (axx_2))) - 48)), rfl, (show (axx_2 + 1) ≤ ln by omega), (vOK_rng (k := 0) (L := 1) (U := 4) h2 rfl rfl (by decide) (by decide) hq_18 (Nat.le_of_ble_eq_true rfl)), (by rw [nm_b (show axx_2 = sB ftp ln ax by omega) hq_8 (fun q => hq_11 q.1), (nm_1 (show axx_2 = sB ftp ln ax by omega) hq_8 hq_11).1, (show nmV ftp ln ax = ((0 + (ftp (axx_2))) - 48) from (nm_1 (show axx_2 = sB ftp ln ax by omega) hq_8 hq_11).2), if_neg hq_18]), (fun _ => ⟨(nm_1 (show axx_2 = sB ftp ln ax by omega) hq_8 hq_11).1.symm, by rw [(show nmV ftp ln ax = ((0 + (ftp (axx_2))) - 48) from (nm_1 (show axx_2 = sB ftp ln ax by omega) hq_8 hq_11).2)]⟩)⟩, by rw [htS]; exact hP9, hD9⟩, hS.F htS⟩) hS.2.2 dX4_readNumber_128
        · skip
          have hq_21 : ((0 + (ftp (axx_2))) - 48) < 1 ∨ 4 < ((0 + (ftp (axx_2))) - 48) := b01_1.mp cb_17
          refine lv_aload_n hx hb dX4_readNumber_106 rfl (lv_at hl 3 rfl) ?_
          refine lv_aload_n hx hb dX4_readNumber_107 rfl (lv_at hl 3 rfl) ?_
          refine va_get (D := D) (ci := 4) (v := .int (nI (axx_2 + 1))) (C := RX4) (T := TX4) (N := 7) hx hb hts iX4 hown hK hP 1 rfl rfl 2 (by decide) f28 (fun _ h9 => h9) rfl dX4_readNumber_108 ?_
          refine lv_iconst (v := 1) hx hb dX4_readNumber_111 (by decide) ?_
          refine lv_isub hx hb dX4_readNumber_112 ?_
          refine lv_eqi (y := (nI ((axx_2 + 1) - 1))) (pk_sub (show 1 ≤ axx_2 + 1 by omega)) ?_
          refine va_put (D := D) (ci := 4) (v := .int (nI ((axx_2 + 1) - 1))) (ty := .int) (C := RX4) (T := TX4) (N := 7) hx hb hts iX4 tyX4 tyX4_ok nmX4 hown hK hP hD hS 1 rfl rfl 3 (by decide) f31 (fun _ h9 => h9) rfl (by decide +kernel) (rfl) (rfl) (Nat.le_of_ble_eq_true rfl) dX4_readNumber_113 (fun H locs hP2 hD2 hS2 => ?_)
          clear hP hD hS
          have hPD : PD D A [(Rv, .inl (g 0, 21, .inl fval)), (Rd, .inr (4, [.ref Tp, .int (nI ln), .int (nI (axx_2 + 1)), .int (nI ((axx_2 + 1) - 1)), .int (nI ht), .int (nI ct), .ref Rv])), (Tp, .inl (g 0, 160, .inl ftp))] H := ⟨hP2, hD2⟩
          have hS := hS2; clear hP2 hD2 hS2; have hP := hPD.1; have hD := hPD.2; clear hPD
          have hPD9 : PD D A [(Rd, .inr (4, [.ref Tp, .int (nI ln), .int (nI (axx_2 + 1)), .int (nI ((axx_2 + 1) - 1)), .int (nI ht), .int (nI ct), .ref Rv])), (Tp, .inl (g 0, 160, .inl ftp)), (Rv, .inl (g 0, 21, .inl fval))] H := ⟨hP.sub [1, 2, 0] rfl, hD.sub [1, 2, 0] (by decide) rfl⟩
          have hP9 := hPD9.1; have hD9 := hPD9.2
          subst hQ
          refine W.widen (k := 0) (n := 0) (Nat.le_of_ble_eq_true rfl) (Nat.le_of_ble_eq_true rfl) ?_
          exact W.vret hx hb hr (fun tS htS _ => ⟨⟨_, rfl, ⟨(axx_2 + 1), (nI ((axx_2 + 1) - 1)), fval, rfl, (show (axx_2 + 1) ≤ ln by omega), h2, (by rw [nm_b (show axx_2 = sB ftp ln ax by omega) hq_8 (fun q => hq_11 q.1), (nm_1 (show axx_2 = sB ftp ln ax by omega) hq_8 hq_11).1, (show nmV ftp ln ax = ((0 + (ftp (axx_2))) - 48) from (nm_1 (show axx_2 = sB ftp ln ax by omega) hq_8 hq_11).2), if_pos hq_21]), (fun q => absurd q (m1_ne (show axx_2 + 1 - 1 < 2 ^ 31 by omega)))⟩, by rw [htS]; exact hP9, hD9⟩, hS.F htS⟩) hS.2.2 dX4_readNumber_116
      · skip
        have hq_22 : pD ftp ln (axx_2 + 1) := b01_1.mp cb_13
        refine lv_aload_n hx hb dX4_readNumber_68 rfl (lv_at hl 2 rfl) ?_
        refine lv_aload_n hx hb dX4_readNumber_69 rfl (lv_at hl 2 rfl) ?_
        refine va_get (D := D) (ci := 4) (v := .int (nI (axx_2 + 1))) (C := RX4) (T := TX4) (N := 7) hx hb hts iX4 hown hK hP 1 rfl rfl 2 (by decide) f28 (fun _ h9 => h9) rfl dX4_readNumber_70 ?_
        refine va_put (D := D) (ci := 4) (v := .int (nI (axx_2 + 1))) (ty := .int) (C := RX4) (T := TX4) (N := 7) hx hb hts iX4 tyX4 tyX4_ok nmX4 hown hK hP hD hS 1 rfl rfl 3 (by decide) f31 (fun _ h9 => h9) rfl (by decide +kernel) (rfl) (rfl) (Nat.le_of_ble_eq_true rfl) dX4_readNumber_73 (fun H locs hP2 hD2 hS2 => ?_)
        clear hP hD hS
        have hPD : PD D A [(Rv, .inl (g 0, 21, .inl fval)), (Rd, .inr (4, [.ref Tp, .int (nI ln), .int (nI (axx_2 + 1)), .int (nI (axx_2 + 1)), .int (nI ht), .int (nI ct), .ref Rv])), (Tp, .inl (g 0, 160, .inl ftp))] H := ⟨hP2, hD2⟩
        have hS := hS2; clear hP2 hD2 hS2; have hP := hPD.1; have hD := hPD.2; clear hPD
        have hPD9 : PD D A [(Rd, .inr (4, [.ref Tp, .int (nI ln), .int (nI (axx_2 + 1)), .int (nI (axx_2 + 1)), .int (nI ht), .int (nI ct), .ref Rv])), (Tp, .inl (g 0, 160, .inl ftp)), (Rv, .inl (g 0, 21, .inl fval))] H := ⟨hP.sub [1, 2, 0] rfl, hD.sub [1, 2, 0] (by decide) rfl⟩
        have hP9 := hPD9.1; have hD9 := hPD9.2
        subst hQ
        refine W.widen (k := 0) (n := 0) (Nat.le_of_ble_eq_true rfl) (Nat.le_of_ble_eq_true rfl) ?_
        exact W.vret hx hb hr (fun tS htS _ => ⟨⟨_, rfl, ⟨(axx_2 + 1), (nI (axx_2 + 1)), fval, rfl, (show (axx_2 + 1) ≤ ln by omega), h2, (absurd hq_22 hq_11), (absurd hq_22 hq_11)⟩, by rw [htS]; exact hP9, hD9⟩, hS.F htS⟩) hS.2.2 dX4_readNumber_76
    · skip
      have hq_23 : pD ftp ln (axx_2 + 1) := b01_1.mp cb_10
      refine lv_iload_n hx hb dX4_readNumber_22 rfl (lv_at hl 1 rfl) ?_
      refine lv_bipush (v := 10) hx hb dX4_readNumber_23 (by decide) ?_
      refine lv_imul hx hb dX4_readNumber_25 ?_
      refine lv_aload_n hx hb dX4_readNumber_26 rfl (lv_at hl 2 rfl) ?_
      refine va_get (D := D) (ci := 4) (v := .ref Tp) (C := RX4) (T := TX4) (N := 7) hx hb hts iX4 hown hK hP 1 rfl rfl 0 (by decide) f9 (fun _ h9 => h9) rfl dX4_readNumber_27 ?_
      refine lv_aload_n hx hb dX4_readNumber_30 rfl (lv_at hl 2 rfl) ?_
      refine va_get (D := D) (ci := 4) (v := .int (nI (axx_2 + 1))) (C := RX4) (T := TX4) (N := 7) hx hb hts iX4 hown hK hP 1 rfl rfl 2 (by decide) f28 (fun _ h9 => h9) rfl dX4_readNumber_31 ?_
      refine va_iald hx hb hK hP 2 0 rfl rfl (vp_in_nI (show axx_2 + 1 < 160 by omega) (by decide)) dX4_readNumber_34 ?_
      refine lv_eqi (y := (ftp (axx_2 + 1))) (congrArg ftp (nI_clamp (show axx_2 + 1 < 2 ^ 31 by omega))) ?_
      refine lv_iadd hx hb dX4_readNumber_35 ?_
      refine lv_bipush (v := 48) hx hb dX4_readNumber_36 (by decide) ?_
      refine lv_isub hx hb dX4_readNumber_38 ?_
      refine lv_istore_n (lv' := [(3, .int (((((0 + (ftp (axx_2))) - 48) * 10) + (ftp (axx_2 + 1))) - 48)), (4, .int 1), (0, .ref Rd), (1, .int 0), (2, .int 0)]) hx hb dX4_readNumber_39 rfl hl (by decide) rfl (fun ls hl => ?_)
      refine lv_iinc (v := 2) (lv' := [(4, .int 2), (3, .int (((((0 + (ftp (axx_2))) - 48) * 10) + (ftp (axx_2 + 1))) - 48)), (0, .ref Rd), (1, .int 0), (2, .int 0)]) hx hb dX4_readNumber_40 hl (k := 1) rfl (by decide) (by decide) rfl (fun ls hl => ?_)
      refine lv_aload_n hx hb dX4_readNumber_43 rfl (lv_at hl 2 rfl) ?_
      refine lv_dup hx hb dX4_readNumber_44 rfl ?_
      refine va_get (D := D) (ci := 4) (v := .int (nI (axx_2 + 1))) (C := RX4) (T := TX4) (N := 7) hx hb hts iX4 hown hK hP 1 rfl rfl 2 (by decide) f28 (fun _ h9 => h9) rfl dX4_readNumber_45 ?_
      refine lv_iconst (v := 1) hx hb dX4_readNumber_48 (by decide) ?_
      refine lv_iadd hx hb dX4_readNumber_49 ?_
      refine lv_eqi (y := (nI (axx_2 + 1 + 1))) (nI_add (axx_2 + 1) (1)) ?_
      refine va_put (D := D) (ci := 4) (v := .int (nI (axx_2 + 1 + 1))) (ty := .int) (C := RX4) (T := TX4) (N := 7) hx hb hts iX4 tyX4 tyX4_ok nmX4 hown hK hP hD hS 1 rfl rfl 2 (by decide) f28 (fun _ h9 => h9) rfl (by decide +kernel) (rfl) (rfl) (Nat.le_of_ble_eq_true rfl) dX4_readNumber_50 (fun H locs hP2 hD2 hS2 => ?_)
      clear hP hD hS
      have hPD : PD D A [(Rv, .inl (g 0, 21, .inl fval)), (Rd, .inr (4, [.ref Tp, .int (nI ln), .int (nI (axx_2 + 1 + 1)), .int (-1), .int (nI ht), .int (nI ct), .ref Rv])), (Tp, .inl (g 0, 160, .inl ftp))] H := ⟨hP2, hD2⟩
      have hS := hS2; clear hP2 hD2 hS2; have hP := hPD.1; have hD := hPD.2; clear hPD
      refine lv_goto (tgt := 9) hx hb dX4_readNumber_53 (by decide) ?_
      refine lv_iload hx hb dX4_readNumber_9 (lv_at hl 0 rfl) ?_
      refine lv_iconst (v := 2) hx hb dX4_readNumber_11 (by decide) ?_
      refine lv_icmp_ge (tgt := 56) hx hb dX4_readNumber_12 (by decide) (fun _ => ?_) (fun cb => absurd (by decide) cb)
      refine lv_iload hx hb dX4_readNumber_56 (lv_at hl 0 rfl) ?_
      refine lv_if_eq (tgt := 68) hx hb dX4_readNumber_58 (by decide) (fun cb => absurd cb (by decide)) (fun _ => ?_)
      refine lv_aload_n hx hb dX4_readNumber_61 rfl (lv_at hl 2 rfl) ?_
      refine ky_Vi (As := []) (rest := []) ⟨hx, hb, hml, hown, hts⟩ ⟨hK, hN⟩ hZ hP hD hS hA [1, 2] [0] (wc := [(Rd, .inr (4, [.ref Tp, .int (nI ln), .int (nI (axx_2 + 1 + 1)), .int (-1), .int (nI ht), .int (nI ct), .ref Rv])), (Tp, .inl (g 0, 160, .inl ftp))]) (wr := [(Rv, .inl (g 0, 21, .inl fval))]) rfl rfl rfl rfl (by decide) (r_X4_isDigitHere l D g H.size Rd Tp ln (axx_2 + 1 + 1) (-1) ht ct Rv ftp (show ln ≤ 160 by omega) (show (axx_2 + 1 + 1) ≤ ln by omega)) (cwV 0 hts gX4_readNumber_X4_isDigitHere rfl rfl rfl (by decide +kernel) ⟨(Nat.le_of_ble_eq_true rfl), (Nat.le_of_ble_eq_true rfl)⟩) 1 4 rfl rfl rfl rfl hl.1 rfl (Nat.le_of_ble_eq_true rfl) dX4_readNumber_62 ⟨(Nat.le_of_ble_eq_true rfl), (Nat.le_of_ble_eq_true rfl)⟩ (fun r_24 u H locs hw hP2 hD2 hS2 => ?_)
      clear hP hD hS
      obtain ⟨rfl, rfl⟩ := hw
      have hPD : PD D A [(Rv, .inl (g 0, 21, .inl fval)), (Rd, .inr (4, [.ref Tp, .int (nI ln), .int (nI (axx_2 + 1 + 1)), .int (-1), .int (nI ht), .int (nI ct), .ref Rv])), (Tp, .inl (g 0, 160, .inl ftp))] H := ⟨hP2, hD2⟩
      have hS := hS2; clear hP2 hD2 hS2; have hP := hPD.1; have hD := hPD.2; clear hPD
      refine W.widen (k := 0) (n := 0) (Nat.le_of_ble_eq_true rfl) (Nat.le_of_ble_eq_true rfl) ?_
      refine lv_if_eq (tgt := 77) hx hb dX4_readNumber_65 (by decide) (fun cb_25 => ?_) (fun cb_25 => ?_)
      · skip
        have hq_26 : ¬ (pD ftp ln (axx_2 + 1 + 1)) := b01_0.mp cb_25
        refine lv_iload_n hx hb dX4_readNumber_77 rfl (lv_at hl 3 rfl) ?_
        refine ky_Si (As := [.int 0]) (rest := []) ⟨hx, hb, hml, hown, hts⟩ ⟨hK, hN⟩ hZ hP hD hS hA [] [0, 1, 2] (wc := []) (wr := [(Rv, .inl (g 0, 21, .inl fval)), (Rd, .inr (4, [.ref Tp, .int (nI ln), .int (nI (axx_2 + 1 + 1)), .int (-1), .int (nI ht), .int (nI ct), .ref Rv])), (Tp, .inl (g 0, 160, .inl ftp))]) rfl rfl rfl rfl (by decide) (k_X4_kindOf_0 l D g H.size) (va_cwS 1 hts gX4_readNumber_X4_kindOf rfl rfl rfl (by decide +kernel) ⟨(Nat.le_of_ble_eq_true rfl), (Nat.le_of_ble_eq_true rfl)⟩) rfl hl.1 rfl (Nat.le_of_ble_eq_true rfl) dX4_readNumber_78 ⟨(Nat.le_of_ble_eq_true rfl), (Nat.le_of_ble_eq_true rfl)⟩ (fun r_27 u H locs hw hP2 hD2 hS2 => ?_)
        clear hP hD hS
        obtain ⟨rfl, rfl⟩ := hw
        have hPD : PD D A [(Rv, .inl (g 0, 21, .inl fval)), (Rd, .inr (4, [.ref Tp, .int (nI ln), .int (nI (axx_2 + 1 + 1)), .int (-1), .int (nI ht), .int (nI ct), .ref Rv])), (Tp, .inl (g 0, 160, .inl ftp))] H := ⟨hP2, hD2⟩
        have hS := hS2; clear hP2 hD2 hS2; have hP := hPD.1; have hD := hPD.2; clear hPD
        refine W.widen (k := 0) (n := 0) (Nat.le_of_ble_eq_true rfl) (Nat.le_of_ble_eq_true rfl) ?_
        refine lv_iconst (v := 3) hx hb dX4_readNumber_81 (by decide) ?_
        refine lv_imul hx hb dX4_readNumber_82 ?_
        refine lv_eqi (y := 0) (by decide) ?_
        refine lv_iload_n hx hb dX4_readNumber_83 rfl (lv_at hl 4 rfl) ?_
        refine lv_iadd hx hb dX4_readNumber_84 ?_
        refine lv_eqi (y := 0) (by decide) ?_
        refine lv_istore (lv' := [(5, .int 0), (4, .int 2), (3, .int (((((0 + (ftp (axx_2))) - 48) * 10) + (ftp (axx_2 + 1))) - 48)), (0, .ref Rd), (1, .int 0), (2, .int 0)]) hx hb dX4_readNumber_85 hl (by decide) rfl (fun ls hl => ?_)
        refine lv_iload_n hx hb dX4_readNumber_87 rfl (lv_at hl 2 rfl) ?_
        refine va_gets hx hb hZ.2.2.1 hS hown f84 (fun _ h9 => h9) dX4_readNumber_88 ?_
        refine lv_iload hx hb dX4_readNumber_91 (lv_at hl 0 rfl) ?_
        refine va_ti (v := .int 1) hx hb hZ.2.2.2.1 hS (by unfold vp_in; decide) rfl dX4_readNumber_93 ?_
        refine va_gets hx hb hZ.2.2.2.2.1 hS hown f87 (fun _ h9 => h9) dX4_readNumber_94 ?_
        refine lv_iload hx hb dX4_readNumber_97 (lv_at hl 0 rfl) ?_
        refine va_ti (v := .int 4) hx hb hZ.2.2.2.2.2.1 hS (by unfold vp_in; decide) rfl dX4_readNumber_99 ?_
        refine ky_SNi (As := [.int (((((0 + (ftp (axx_2))) - 48) * 10) + (ftp (axx_2 + 1))) - 48), .int 1, .int 4]) (rest := []) ⟨hx, hb, hml, hown, hts⟩ ⟨hK, hN⟩ hZ hP hD hS hA [] [0, 1, 2] (wc := []) (wr := [(Rv, .inl (g 0, 21, .inl fval)), (Rd, .inr (4, [.ref Tp, .int (nI ln), .int (nI (axx_2 + 1 + 1)), .int (-1), .int (nI ht), .int (nI ct), .ref Rv])), (Tp, .inl (g 0, 160, .inl ftp))]) rfl rfl rfl rfl (by decide) (k_X6_outside l D g H.size (((((0 + (ftp (axx_2))) - 48) * 10) + (ftp (axx_2 + 1))) - 48) 1 4) ⟨va_cnB 3 hts ggX4_readNumber_X6_outside rfl rfl rfl hN.2.2.2.2.2.1 iiX6 (by decide +kernel) ⟨(Nat.le_of_ble_eq_true rfl), (Nat.le_of_ble_eq_true rfl)⟩, stX6_outside, trivial⟩ rfl hl.1 rfl (Nat.le_of_ble_eq_true rfl) dX4_readNumber_100 ⟨(Nat.le_of_ble_eq_true rfl), (Nat.le_of_ble_eq_true rfl)⟩ (fun r_28 u H locs hw hP2 hD2 hS2 => ?_)
        clear hP hD hS
        obtain ⟨rfl, rfl⟩ := hw
        have hPD : PD D A [(Rv, .inl (g 0, 21, .inl fval)), (Rd, .inr (4, [.ref Tp, .int (nI ln), .int (nI (axx_2 + 1 + 1)), .int (-1), .int (nI ht), .int (nI ct), .ref Rv])), (Tp, .inl (g 0, 160, .inl ftp))] H := ⟨hP2, hD2⟩
        have hS := hS2; clear hP2 hD2 hS2; have hP := hPD.1; have hD := hPD.2; clear hPD
        refine W.widen (k := 0) (n := 0) (Nat.le_of_ble_eq_true rfl) (Nat.le_of_ble_eq_true rfl) ?_
        refine lv_if_eq (tgt := 117) hx hb dX4_readNumber_103 (by decide) (fun cb_29 => ?_) (fun cb_29 => ?_)
        · skip
          have hq_30 : ¬ ((((((0 + (ftp (axx_2))) - 48) * 10) + (ftp (axx_2 + 1))) - 48) < 1 ∨ 4 < (((((0 + (ftp (axx_2))) - 48) * 10) + (ftp (axx_2 + 1))) - 48)) := b01_0.mp cb_29
          have hq_31 : ¬ (((((0 + (ftp (axx_2))) - 48) * 10) + (ftp (axx_2 + 1))) - 48) < 1 := fun q => hq_30 (Or.inl q); have hq_32 : ¬ (4 < (((((0 + (ftp (axx_2))) - 48) * 10) + (ftp (axx_2 + 1))) - 48)) := fun q => hq_30 (Or.inr q)
          refine lv_aload_n hx hb dX4_readNumber_117 rfl (lv_at hl 3 rfl) ?_
          refine va_get (D := D) (ci := 4) (v := .ref Rv) (C := RX4) (T := TX4) (N := 7) hx hb hts iX4 hown hK hP 1 rfl rfl 6 (by decide) f15 (fun _ h9 => h9) rfl dX4_readNumber_118 ?_
          refine lv_iload_n hx hb dX4_readNumber_121 rfl (lv_at hl 4 rfl) ?_
          refine lv_iconst (v := 3) hx hb dX4_readNumber_122 (by decide) ?_
          refine lv_imul hx hb dX4_readNumber_123 ?_
          refine lv_eqi (y := 0) (by decide) ?_
          refine lv_iload_n hx hb dX4_readNumber_124 rfl (lv_at hl 5 rfl) ?_
          refine lv_iadd hx hb dX4_readNumber_125 ?_
          refine lv_eqi (y := 0) (by decide) ?_
          refine lv_iload_n hx hb dX4_readNumber_126 rfl (lv_at hl 2 rfl) ?_
          refine va_iast hx hb hK hP hD hS 0 0 rfl rfl (by unfold vp_in; decide) dX4_readNumber_127 (fun H locs hP2 hD2 hS2 => ?_)
          clear hP hD hS
          have hPD : PD D A [(Rv, .inl (g 0, 21, .inl (upd fval 0 (((((0 + (ftp (axx_2))) - 48) * 10) + (ftp (axx_2 + 1))) - 48)))), (Rd, .inr (4, [.ref Tp, .int (nI ln), .int (nI (axx_2 + 1 + 1)), .int (-1), .int (nI ht), .int (nI ct), .ref Rv])), (Tp, .inl (g 0, 160, .inl ftp))] H := ⟨hP2, hD2⟩
          have hS := hS2; clear hP2 hD2 hS2; have hP := hPD.1; have hD := hPD.2; clear hPD
          have hPD9 : PD D A [(Rd, .inr (4, [.ref Tp, .int (nI ln), .int (nI (axx_2 + 1 + 1)), .int (-1), .int (nI ht), .int (nI ct), .ref Rv])), (Tp, .inl (g 0, 160, .inl ftp)), (Rv, .inl (g 0, 21, .inl (upd fval 0 (((((0 + (ftp (axx_2))) - 48) * 10) + (ftp (axx_2 + 1))) - 48))))] H := ⟨hP.sub [1, 2, 0] rfl, hD.sub [1, 2, 0] (by decide) rfl⟩
          have hP9 := hPD9.1; have hD9 := hPD9.2
          subst hQ
          refine W.widen (k := 0) (n := 0) (Nat.le_of_ble_eq_true rfl) (Nat.le_of_ble_eq_true rfl) ?_
          exact W.vret hx hb hr (fun tS htS _ => ⟨⟨_, rfl, ⟨(axx_2 + 1 + 1), (-1), (upd fval 0 (((((0 + (ftp (axx_2))) - 48) * 10) + (ftp (axx_2 + 1))) - 48)), rfl, (show (axx_2 + 1 + 1) ≤ ln by omega), (vOK_rng (k := 0) (L := 1) (U := 4) h2 rfl rfl (by decide) (by decide) hq_30 (Nat.le_of_ble_eq_true rfl)), (by rw [nm_b (show axx_2 = sB ftp ln ax by omega) hq_8 (fun q => hq_26 q.2), (nm_2 (show axx_2 = sB ftp ln ax by omega) hq_8 hq_23).1, (show nmV ftp ln ax = (((((0 + (ftp (axx_2))) - 48) * 10) + (ftp (axx_2 + 1))) - 48) from ((nm_2 (show axx_2 = sB ftp ln ax by omega) hq_8 hq_23).2.trans (by rw [Int32.mul_comm]))), if_neg hq_30]), (fun _ => ⟨(nm_2 (show axx_2 = sB ftp ln ax by omega) hq_8 hq_23).1.symm, by rw [(show nmV ftp ln ax = (((((0 + (ftp (axx_2))) - 48) * 10) + (ftp (axx_2 + 1))) - 48) from ((nm_2 (show axx_2 = sB ftp ln ax by omega) hq_8 hq_23).2.trans (by rw [Int32.mul_comm])))]⟩)⟩, by rw [htS]; exact hP9, hD9⟩, hS.F htS⟩) hS.2.2 dX4_readNumber_128
        · skip
          have hq_33 : (((((0 + (ftp (axx_2))) - 48) * 10) + (ftp (axx_2 + 1))) - 48) < 1 ∨ 4 < (((((0 + (ftp (axx_2))) - 48) * 10) + (ftp (axx_2 + 1))) - 48) := b01_1.mp cb_29
          refine lv_aload_n hx hb dX4_readNumber_106 rfl (lv_at hl 3 rfl) ?_
          refine lv_aload_n hx hb dX4_readNumber_107 rfl (lv_at hl 3 rfl) ?_
          refine va_get (D := D) (ci := 4) (v := .int (nI (axx_2 + 1 + 1))) (C := RX4) (T := TX4) (N := 7) hx hb hts iX4 hown hK hP 1 rfl rfl 2 (by decide) f28 (fun _ h9 => h9) rfl dX4_readNumber_108 ?_
          refine lv_iconst (v := 1) hx hb dX4_readNumber_111 (by decide) ?_
          refine lv_isub hx hb dX4_readNumber_112 ?_
          refine lv_eqi (y := (nI ((axx_2 + 1 + 1) - 1))) (pk_sub (show 1 ≤ axx_2 + 1 + 1 by omega)) ?_
          refine va_put (D := D) (ci := 4) (v := .int (nI ((axx_2 + 1 + 1) - 1))) (ty := .int) (C := RX4) (T := TX4) (N := 7) hx hb hts iX4 tyX4 tyX4_ok nmX4 hown hK hP hD hS 1 rfl rfl 3 (by decide) f31 (fun _ h9 => h9) rfl (by decide +kernel) (rfl) (rfl) (Nat.le_of_ble_eq_true rfl) dX4_readNumber_113 (fun H locs hP2 hD2 hS2 => ?_)
          clear hP hD hS
          have hPD : PD D A [(Rv, .inl (g 0, 21, .inl fval)), (Rd, .inr (4, [.ref Tp, .int (nI ln), .int (nI (axx_2 + 1 + 1)), .int (nI ((axx_2 + 1 + 1) - 1)), .int (nI ht), .int (nI ct), .ref Rv])), (Tp, .inl (g 0, 160, .inl ftp))] H := ⟨hP2, hD2⟩
          have hS := hS2; clear hP2 hD2 hS2; have hP := hPD.1; have hD := hPD.2; clear hPD
          have hPD9 : PD D A [(Rd, .inr (4, [.ref Tp, .int (nI ln), .int (nI (axx_2 + 1 + 1)), .int (nI ((axx_2 + 1 + 1) - 1)), .int (nI ht), .int (nI ct), .ref Rv])), (Tp, .inl (g 0, 160, .inl ftp)), (Rv, .inl (g 0, 21, .inl fval))] H := ⟨hP.sub [1, 2, 0] rfl, hD.sub [1, 2, 0] (by decide) rfl⟩
          have hP9 := hPD9.1; have hD9 := hPD9.2
          subst hQ
          refine W.widen (k := 0) (n := 0) (Nat.le_of_ble_eq_true rfl) (Nat.le_of_ble_eq_true rfl) ?_
          exact W.vret hx hb hr (fun tS htS _ => ⟨⟨_, rfl, ⟨(axx_2 + 1 + 1), (nI ((axx_2 + 1 + 1) - 1)), fval, rfl, (show (axx_2 + 1 + 1) ≤ ln by omega), h2, (by rw [nm_b (show axx_2 = sB ftp ln ax by omega) hq_8 (fun q => hq_26 q.2), (nm_2 (show axx_2 = sB ftp ln ax by omega) hq_8 hq_23).1, (show nmV ftp ln ax = (((((0 + (ftp (axx_2))) - 48) * 10) + (ftp (axx_2 + 1))) - 48) from ((nm_2 (show axx_2 = sB ftp ln ax by omega) hq_8 hq_23).2.trans (by rw [Int32.mul_comm]))), if_pos hq_33]), (fun q => absurd q (m1_ne (show axx_2 + 1 + 1 - 1 < 2 ^ 31 by omega)))⟩, by rw [htS]; exact hP9, hD9⟩, hS.F htS⟩) hS.2.2 dX4_readNumber_116
      · skip
        have hq_34 : pD ftp ln (axx_2 + 1 + 1) := b01_1.mp cb_25
        refine lv_aload_n hx hb dX4_readNumber_68 rfl (lv_at hl 2 rfl) ?_
        refine lv_aload_n hx hb dX4_readNumber_69 rfl (lv_at hl 2 rfl) ?_
        refine va_get (D := D) (ci := 4) (v := .int (nI (axx_2 + 1 + 1))) (C := RX4) (T := TX4) (N := 7) hx hb hts iX4 hown hK hP 1 rfl rfl 2 (by decide) f28 (fun _ h9 => h9) rfl dX4_readNumber_70 ?_
        refine va_put (D := D) (ci := 4) (v := .int (nI (axx_2 + 1 + 1))) (ty := .int) (C := RX4) (T := TX4) (N := 7) hx hb hts iX4 tyX4 tyX4_ok nmX4 hown hK hP hD hS 1 rfl rfl 3 (by decide) f31 (fun _ h9 => h9) rfl (by decide +kernel) (rfl) (rfl) (Nat.le_of_ble_eq_true rfl) dX4_readNumber_73 (fun H locs hP2 hD2 hS2 => ?_)
        clear hP hD hS
        have hPD : PD D A [(Rv, .inl (g 0, 21, .inl fval)), (Rd, .inr (4, [.ref Tp, .int (nI ln), .int (nI (axx_2 + 1 + 1)), .int (nI (axx_2 + 1 + 1)), .int (nI ht), .int (nI ct), .ref Rv])), (Tp, .inl (g 0, 160, .inl ftp))] H := ⟨hP2, hD2⟩
        have hS := hS2; clear hP2 hD2 hS2; have hP := hPD.1; have hD := hPD.2; clear hPD
        have hPD9 : PD D A [(Rd, .inr (4, [.ref Tp, .int (nI ln), .int (nI (axx_2 + 1 + 1)), .int (nI (axx_2 + 1 + 1)), .int (nI ht), .int (nI ct), .ref Rv])), (Tp, .inl (g 0, 160, .inl ftp)), (Rv, .inl (g 0, 21, .inl fval))] H := ⟨hP.sub [1, 2, 0] rfl, hD.sub [1, 2, 0] (by decide) rfl⟩
        have hP9 := hPD9.1; have hD9 := hPD9.2
        subst hQ
        refine W.widen (k := 0) (n := 0) (Nat.le_of_ble_eq_true rfl) (Nat.le_of_ble_eq_true rfl) ?_
        exact W.vret hx hb hr (fun tS htS _ => ⟨⟨_, rfl, ⟨(axx_2 + 1 + 1), (nI (axx_2 + 1 + 1)), fval, rfl, (show (axx_2 + 1 + 1) ≤ ln by omega), h2, (nm_3 (show axx_2 = sB ftp ln ax by omega) hq_8 hq_23 hq_34).symm, (fun q => absurd q (m1_ne (show axx_2 + 1 + 1 < 2 ^ 31 by omega)))⟩, by rw [htS]; exact hP9, hD9⟩, hS.F htS⟩) hS.2.2 dX4_readNumber_76

set_option maxHeartbeats 4000000 in
set_option maxRecDepth 100000 in
theorem r_X4_readNumber_01 (l : Launch) (D : va_G) (g : Nat → ClassId) (sz : Nat) (Rd : Nat) (Tp : Nat) (ln : Nat) (ax : Nat) (ht : Nat) (ct : Nat) (Rv : Nat) (ftp : Nat → Int32) (fval : Nat → Int32) (h0 : ln ≤ 160) (h1 : ax ≤ ln) (h2 : vOK fval) : Met l yX4_readNumber wsX4_readNumber ({ frames := 1, cells := 0, slots := 0, locals := 22 }) (va_Pc [.ref Rd, .int 0, .int 1] (pre D g sz [(Rd, .inr (4, [.ref Tp, .int (nI ln), .int (nI ax), .int (-1), .int (nI ht), .int (nI ct), .ref Rv])), (Tp, .inl (g 0, 160, .inl ftp)), (Rv, .inl (g 0, 21, .inl fval))])) (va_Qv (fun (u : va_W) => ∃ (axx : Nat) (zfax : Int32) (fvalx : Nat → Int32), u = [(Rd, .inr (4, [.ref Tp, .int (nI ln), .int (nI axx), .int zfax, .int (nI ht), .int (nI ct), .ref Rv])), (Tp, .inl (g 0, 160, .inl ftp)), (Rv, .inl (g 0, 21, .inl fvalx))] ∧ (axx ≤ ln) ∧ (vOK fvalx) ∧ (zfax = nmF ftp ln ax 0 20) ∧ (zfax = -1 → axx = nmE ftp ln ax ∧ fvalx = upd fval 1 (nmV ftp ln ax))) (wd D (va_A [(Rd, .inr (4, [.ref Tp, .int (nI ln), .int (nI ax), .int (-1), .int (nI ht), .int (nI ct), .ref Rv])), (Tp, .inl (g 0, 160, .inl ftp)), (Rv, .inl (g 0, 21, .inl fval))] sz)) (va_A [(Rd, .inr (4, [.ref Tp, .int (nI ln), .int (nI ax), .int (-1), .int (nI ht), .int (nI ct), .ref Rv])), (Tp, .inl (g 0, 160, .inl ftp)), (Rv, .inl (g 0, 21, .inl fval))] sz)) 0 0 (va_A [(Rd, .inr (4, [.ref Tp, .int (nI ln), .int (nI ax), .int (-1), .int (nI ht), .int (nI ct), .ref Rv])), (Tp, .inl (g 0, 160, .inl ftp)), (Rv, .inl (g 0, 21, .inl fval))] sz) := by
  refine Met.ofW (cc := cX4_readNumber) (maxL := 6) (ret := none) (by decide) rfl ?_
  intro p e s m args below meth c s₁ B hml hv
  obtain ⟨rfl, hsz, hP, ⟨hK, hN⟩, hD0, hZ⟩ := hv
  have hx := B.exec
  have hb := B.bytes
  have hr := B.returns
  have hts := atoms_spec (ws := wsX4_readNumber) B.pre
  have hown : s.vm.findClass RX4 = some m.cls := findClass_of_methodNamed B.named
  have hlocks := B.notSynchronized
  clear B
  subst hsz
  have hD := hD0.self (sz := s.heap.size)
  clear hD0
  generalize hAe : va_A [(Rd, .inr (4, [.ref Tp, .int (nI ln), .int (nI ax), .int (-1), .int (nI ht), .int (nI ct), .ref Rv])), (Tp, .inl (g 0, 160, .inl ftp)), (Rv, .inl (g 0, 21, .inl fval))] s.heap.size = A at hD hZ ⊢
  have hA : ∀ q : Nat, s.heap.size ≤ q → A q := fun q h => by rw [← hAe]; exact Or.inr h
  have hS : va_S A s.heap s.heap [] := va_S.rf
  have f15 := hts (.fieldLink RX4 15 "HopCredits$Reading" "values" "[I") (List.mem_of_getElem? (i := 6) rfl)
  have f28 := hts (.fieldLink RX4 28 "HopCredits$Reading" "at" "I") (List.mem_of_getElem? (i := 2) rfl)
  have f31 := hts (.fieldLink RX4 31 "HopCredits$Reading" "fault" "I") (List.mem_of_getElem? (i := 3) rfl)
  have f84 := hts (.fieldLink RX4 84 "HopCredits$Reading" "LOWS" "[I") (List.mem_of_getElem? (i := 4) rfl)
  have f87 := hts (.fieldLink RX4 87 "HopCredits$Reading" "HIGHS" "[I") (List.mem_of_getElem? (i := 5) rfl)
  have f9 := hts (.fieldLink RX4 9 "HopCredits$Reading" "text" "[I") (List.mem_of_getElem? (i := 1) rfl)
  have iiX6 := hts (.initialized RX6) (List.mem_of_getElem? (i := 21) rfl)
  have stX6_outside := hts (.static yX6_outside) (List.mem_of_getElem? (i := 20) rfl)
  have iX4 : ∀ w ∈ u_ws RX4 TX4 7, w ∈ wsX4_readNumber := fun w h => List.mem_cons_of_mem _ (List.mem_append_right _ (h))
  have hl := lv_entry ([.ref Rd, .int 0, .int 1]) (n := 6) (Nat.le_of_ble_eq_true rfl)
  rw [lg_entry_eq]
  generalize (lg_sl ([.ref Rd, .int 0, .int 1]) ++ List.replicate (6 - (lg_sl ([.ref Rd, .int 0, .int 1])).length) Slot.unset).toArray = ls at hl ⊢
  have hl : lv_has ls 6 [(0, .ref Rd), (1, .int 0), (2, .int 1)] := hl
  generalize hQ : MQ below _ _ s _ _ _ = Q
  generalize hH : s.heap = H at hP ⊢
  have hS : va_S A s.heap H [] := by rw [← hH]; exact hS
  clear hH
  refine lv_aload_n hx hb dX4_readNumber_0 rfl (lv_at hl 0 rfl) ?_
  refine ky_Vv (As := []) (rest := []) ⟨hx, hb, hml, hown, hts⟩ ⟨hK, hN⟩ hZ hP hD hS hA [0, 1] [2] (wc := [(Rd, .inr (4, [.ref Tp, .int (nI ln), .int (nI ax), .int (-1), .int (nI ht), .int (nI ct), .ref Rv])), (Tp, .inl (g 0, 160, .inl ftp))]) (wr := [(Rv, .inl (g 0, 21, .inl fval))]) rfl rfl rfl rfl (by decide) (r_X4_passBlanks l D g H.size Rd Tp ln ax (-1) ht ct Rv ftp (show ln ≤ 160 by omega) (show ax ≤ ln by omega)) (cwV 0 hts gX4_readNumber_X4_passBlanks rfl rfl rfl (by decide +kernel) ⟨(Nat.le_of_ble_eq_true rfl), (Nat.le_of_ble_eq_true rfl)⟩) 0 4 rfl rfl rfl rfl hl.1 rfl (Nat.le_of_ble_eq_true rfl) dX4_readNumber_1 ⟨(Nat.le_of_ble_eq_true rfl), (Nat.le_of_ble_eq_true rfl)⟩ (fun u H locs hw hP2 hD2 hS2 => ?_)
  clear hP hD hS
  obtain ⟨axx_2, rfl, hf_3, hf_4⟩ := hw
  have hPD : PD D A [(Rv, .inl (g 0, 21, .inl fval)), (Rd, .inr (4, [.ref Tp, .int (nI ln), .int (nI axx_2), .int (-1), .int (nI ht), .int (nI ct), .ref Rv])), (Tp, .inl (g 0, 160, .inl ftp))] H := ⟨hP2, hD2⟩
  have hS := hS2; clear hP2 hD2 hS2; have hP := hPD.1; have hD := hPD.2; clear hPD
  refine W.widen (k := 0) (n := 0) (Nat.le_of_ble_eq_true rfl) (Nat.le_of_ble_eq_true rfl) ?_
  refine lv_iconst (v := 0) hx hb dX4_readNumber_4 (by decide) ?_
  refine lv_istore_n (lv' := [(3, .int 0), (0, .ref Rd), (1, .int 0), (2, .int 1)]) hx hb dX4_readNumber_5 rfl hl (by decide) rfl (fun ls hl => ?_)
  refine lv_iconst (v := 0) hx hb dX4_readNumber_6 (by decide) ?_
  refine lv_istore (lv' := [(4, .int 0), (3, .int 0), (0, .ref Rd), (1, .int 0), (2, .int 1)]) hx hb dX4_readNumber_7 hl (by decide) rfl (fun ls hl => ?_)
  refine lv_iload hx hb dX4_readNumber_9 (lv_at hl 0 rfl) ?_
  refine lv_iconst (v := 2) hx hb dX4_readNumber_11 (by decide) ?_
  refine lv_icmp_ge (tgt := 56) hx hb dX4_readNumber_12 (by decide) (fun cb => absurd cb (by decide)) (fun _ => ?_)
  refine lv_aload_n hx hb dX4_readNumber_15 rfl (lv_at hl 2 rfl) ?_
  refine ky_Vi (As := []) (rest := []) ⟨hx, hb, hml, hown, hts⟩ ⟨hK, hN⟩ hZ hP hD hS hA [1, 2] [0] (wc := [(Rd, .inr (4, [.ref Tp, .int (nI ln), .int (nI axx_2), .int (-1), .int (nI ht), .int (nI ct), .ref Rv])), (Tp, .inl (g 0, 160, .inl ftp))]) (wr := [(Rv, .inl (g 0, 21, .inl fval))]) rfl rfl rfl rfl (by decide) (r_X4_isDigitHere l D g H.size Rd Tp ln axx_2 (-1) ht ct Rv ftp (show ln ≤ 160 by omega) (show axx_2 ≤ ln by omega)) (cwV 0 hts gX4_readNumber_X4_isDigitHere rfl rfl rfl (by decide +kernel) ⟨(Nat.le_of_ble_eq_true rfl), (Nat.le_of_ble_eq_true rfl)⟩) 1 4 rfl rfl rfl rfl hl.1 rfl (Nat.le_of_ble_eq_true rfl) dX4_readNumber_16 ⟨(Nat.le_of_ble_eq_true rfl), (Nat.le_of_ble_eq_true rfl)⟩ (fun r_5 u H locs hw hP2 hD2 hS2 => ?_)
  clear hP hD hS
  obtain ⟨rfl, rfl⟩ := hw
  have hPD : PD D A [(Rv, .inl (g 0, 21, .inl fval)), (Rd, .inr (4, [.ref Tp, .int (nI ln), .int (nI axx_2), .int (-1), .int (nI ht), .int (nI ct), .ref Rv])), (Tp, .inl (g 0, 160, .inl ftp))] H := ⟨hP2, hD2⟩
  have hS := hS2; clear hP2 hD2 hS2; have hP := hPD.1; have hD := hPD.2; clear hPD
  refine W.widen (k := 0) (n := 0) (Nat.le_of_ble_eq_true rfl) (Nat.le_of_ble_eq_true rfl) ?_
  refine lv_if_eq (tgt := 56) hx hb dX4_readNumber_19 (by decide) (fun cb_6 => ?_) (fun cb_6 => ?_)
  · skip
    have hq_7 : ¬ (pD ftp ln axx_2) := b01_0.mp cb_6
    refine lv_iload hx hb dX4_readNumber_56 (lv_at hl 0 rfl) ?_
    refine lv_if_eq (tgt := 68) hx hb dX4_readNumber_58 (by decide) (fun _ => ?_) (fun cb => absurd (by decide) cb)
    refine lv_aload_n hx hb dX4_readNumber_68 rfl (lv_at hl 2 rfl) ?_
    refine lv_aload_n hx hb dX4_readNumber_69 rfl (lv_at hl 2 rfl) ?_
    refine va_get (D := D) (ci := 4) (v := .int (nI axx_2)) (C := RX4) (T := TX4) (N := 7) hx hb hts iX4 hown hK hP 1 rfl rfl 2 (by decide) f28 (fun _ h9 => h9) rfl dX4_readNumber_70 ?_
    refine va_put (D := D) (ci := 4) (v := .int (nI axx_2)) (ty := .int) (C := RX4) (T := TX4) (N := 7) hx hb hts iX4 tyX4 tyX4_ok nmX4 hown hK hP hD hS 1 rfl rfl 3 (by decide) f31 (fun _ h9 => h9) rfl (by decide +kernel) (rfl) (rfl) (Nat.le_of_ble_eq_true rfl) dX4_readNumber_73 (fun H locs hP2 hD2 hS2 => ?_)
    clear hP hD hS
    have hPD : PD D A [(Rv, .inl (g 0, 21, .inl fval)), (Rd, .inr (4, [.ref Tp, .int (nI ln), .int (nI axx_2), .int (nI axx_2), .int (nI ht), .int (nI ct), .ref Rv])), (Tp, .inl (g 0, 160, .inl ftp))] H := ⟨hP2, hD2⟩
    have hS := hS2; clear hP2 hD2 hS2; have hP := hPD.1; have hD := hPD.2; clear hPD
    have hPD9 : PD D A [(Rd, .inr (4, [.ref Tp, .int (nI ln), .int (nI axx_2), .int (nI axx_2), .int (nI ht), .int (nI ct), .ref Rv])), (Tp, .inl (g 0, 160, .inl ftp)), (Rv, .inl (g 0, 21, .inl fval))] H := ⟨hP.sub [1, 2, 0] rfl, hD.sub [1, 2, 0] (by decide) rfl⟩
    have hP9 := hPD9.1; have hD9 := hPD9.2
    subst hQ
    refine W.widen (k := 0) (n := 0) (Nat.le_of_ble_eq_true rfl) (Nat.le_of_ble_eq_true rfl) ?_
    exact W.vret hx hb hr (fun tS htS _ => ⟨⟨_, rfl, ⟨axx_2, (nI axx_2), fval, rfl, (show axx_2 ≤ ln by omega), h2, (nm_0 (show axx_2 = sB ftp ln ax by omega) hq_7).symm, (fun q => absurd q (m1_ne (show axx_2 < 2 ^ 31 by omega)))⟩, by rw [htS]; exact hP9, hD9⟩, hS.F htS⟩) hS.2.2 dX4_readNumber_76
  · skip
    have hq_8 : pD ftp ln axx_2 := b01_1.mp cb_6
    refine lv_iload_n hx hb dX4_readNumber_22 rfl (lv_at hl 1 rfl) ?_
    refine lv_bipush (v := 10) hx hb dX4_readNumber_23 (by decide) ?_
    refine lv_imul hx hb dX4_readNumber_25 ?_
    refine lv_eqi (y := 0) (by decide) ?_
    refine lv_aload_n hx hb dX4_readNumber_26 rfl (lv_at hl 2 rfl) ?_
    refine va_get (D := D) (ci := 4) (v := .ref Tp) (C := RX4) (T := TX4) (N := 7) hx hb hts iX4 hown hK hP 1 rfl rfl 0 (by decide) f9 (fun _ h9 => h9) rfl dX4_readNumber_27 ?_
    refine lv_aload_n hx hb dX4_readNumber_30 rfl (lv_at hl 2 rfl) ?_
    refine va_get (D := D) (ci := 4) (v := .int (nI axx_2)) (C := RX4) (T := TX4) (N := 7) hx hb hts iX4 hown hK hP 1 rfl rfl 2 (by decide) f28 (fun _ h9 => h9) rfl dX4_readNumber_31 ?_
    refine va_iald hx hb hK hP 2 0 rfl rfl (vp_in_nI (show axx_2 < 160 by omega) (by decide)) dX4_readNumber_34 ?_
    refine lv_eqi (y := (ftp (axx_2))) (congrArg ftp (nI_clamp (show axx_2 < 2 ^ 31 by omega))) ?_
    refine lv_iadd hx hb dX4_readNumber_35 ?_
    refine lv_bipush (v := 48) hx hb dX4_readNumber_36 (by decide) ?_
    refine lv_isub hx hb dX4_readNumber_38 ?_
    refine lv_istore_n (lv' := [(3, .int ((0 + (ftp (axx_2))) - 48)), (4, .int 0), (0, .ref Rd), (1, .int 0), (2, .int 1)]) hx hb dX4_readNumber_39 rfl hl (by decide) rfl (fun ls hl => ?_)
    refine lv_iinc (v := 1) (lv' := [(4, .int 1), (3, .int ((0 + (ftp (axx_2))) - 48)), (0, .ref Rd), (1, .int 0), (2, .int 1)]) hx hb dX4_readNumber_40 hl (k := 1) rfl (by decide) (by decide) rfl (fun ls hl => ?_)
    refine lv_aload_n hx hb dX4_readNumber_43 rfl (lv_at hl 2 rfl) ?_
    refine lv_dup hx hb dX4_readNumber_44 rfl ?_
    refine va_get (D := D) (ci := 4) (v := .int (nI axx_2)) (C := RX4) (T := TX4) (N := 7) hx hb hts iX4 hown hK hP 1 rfl rfl 2 (by decide) f28 (fun _ h9 => h9) rfl dX4_readNumber_45 ?_
    refine lv_iconst (v := 1) hx hb dX4_readNumber_48 (by decide) ?_
    refine lv_iadd hx hb dX4_readNumber_49 ?_
    refine lv_eqi (y := (nI (axx_2 + 1))) (nI_add (axx_2) (1)) ?_
    refine va_put (D := D) (ci := 4) (v := .int (nI (axx_2 + 1))) (ty := .int) (C := RX4) (T := TX4) (N := 7) hx hb hts iX4 tyX4 tyX4_ok nmX4 hown hK hP hD hS 1 rfl rfl 2 (by decide) f28 (fun _ h9 => h9) rfl (by decide +kernel) (rfl) (rfl) (Nat.le_of_ble_eq_true rfl) dX4_readNumber_50 (fun H locs hP2 hD2 hS2 => ?_)
    clear hP hD hS
    have hPD : PD D A [(Rv, .inl (g 0, 21, .inl fval)), (Rd, .inr (4, [.ref Tp, .int (nI ln), .int (nI (axx_2 + 1)), .int (-1), .int (nI ht), .int (nI ct), .ref Rv])), (Tp, .inl (g 0, 160, .inl ftp))] H := ⟨hP2, hD2⟩
    have hS := hS2; clear hP2 hD2 hS2; have hP := hPD.1; have hD := hPD.2; clear hPD
    refine lv_goto (tgt := 9) hx hb dX4_readNumber_53 (by decide) ?_
    refine lv_iload hx hb dX4_readNumber_9 (lv_at hl 0 rfl) ?_
    refine lv_iconst (v := 2) hx hb dX4_readNumber_11 (by decide) ?_
    refine lv_icmp_ge (tgt := 56) hx hb dX4_readNumber_12 (by decide) (fun cb => absurd cb (by decide)) (fun _ => ?_)
    refine lv_aload_n hx hb dX4_readNumber_15 rfl (lv_at hl 2 rfl) ?_
    refine ky_Vi (As := []) (rest := []) ⟨hx, hb, hml, hown, hts⟩ ⟨hK, hN⟩ hZ hP hD hS hA [1, 2] [0] (wc := [(Rd, .inr (4, [.ref Tp, .int (nI ln), .int (nI (axx_2 + 1)), .int (-1), .int (nI ht), .int (nI ct), .ref Rv])), (Tp, .inl (g 0, 160, .inl ftp))]) (wr := [(Rv, .inl (g 0, 21, .inl fval))]) rfl rfl rfl rfl (by decide) (r_X4_isDigitHere l D g H.size Rd Tp ln (axx_2 + 1) (-1) ht ct Rv ftp (show ln ≤ 160 by omega) (show (axx_2 + 1) ≤ ln by omega)) (cwV 0 hts gX4_readNumber_X4_isDigitHere rfl rfl rfl (by decide +kernel) ⟨(Nat.le_of_ble_eq_true rfl), (Nat.le_of_ble_eq_true rfl)⟩) 1 4 rfl rfl rfl rfl hl.1 rfl (Nat.le_of_ble_eq_true rfl) dX4_readNumber_16 ⟨(Nat.le_of_ble_eq_true rfl), (Nat.le_of_ble_eq_true rfl)⟩ (fun r_9 u H locs hw hP2 hD2 hS2 => ?_)
    clear hP hD hS
    obtain ⟨rfl, rfl⟩ := hw
    have hPD : PD D A [(Rv, .inl (g 0, 21, .inl fval)), (Rd, .inr (4, [.ref Tp, .int (nI ln), .int (nI (axx_2 + 1)), .int (-1), .int (nI ht), .int (nI ct), .ref Rv])), (Tp, .inl (g 0, 160, .inl ftp))] H := ⟨hP2, hD2⟩
    have hS := hS2; clear hP2 hD2 hS2; have hP := hPD.1; have hD := hPD.2; clear hPD
    refine W.widen (k := 0) (n := 0) (Nat.le_of_ble_eq_true rfl) (Nat.le_of_ble_eq_true rfl) ?_
    refine lv_if_eq (tgt := 56) hx hb dX4_readNumber_19 (by decide) (fun cb_10 => ?_) (fun cb_10 => ?_)
    · skip
      have hq_11 : ¬ (pD ftp ln (axx_2 + 1)) := b01_0.mp cb_10
      refine lv_iload hx hb dX4_readNumber_56 (lv_at hl 0 rfl) ?_
      refine lv_if_eq (tgt := 68) hx hb dX4_readNumber_58 (by decide) (fun cb => absurd cb (by decide)) (fun _ => ?_)
      refine lv_aload_n hx hb dX4_readNumber_61 rfl (lv_at hl 2 rfl) ?_
      refine ky_Vi (As := []) (rest := []) ⟨hx, hb, hml, hown, hts⟩ ⟨hK, hN⟩ hZ hP hD hS hA [1, 2] [0] (wc := [(Rd, .inr (4, [.ref Tp, .int (nI ln), .int (nI (axx_2 + 1)), .int (-1), .int (nI ht), .int (nI ct), .ref Rv])), (Tp, .inl (g 0, 160, .inl ftp))]) (wr := [(Rv, .inl (g 0, 21, .inl fval))]) rfl rfl rfl rfl (by decide) (r_X4_isDigitHere l D g H.size Rd Tp ln (axx_2 + 1) (-1) ht ct Rv ftp (show ln ≤ 160 by omega) (show (axx_2 + 1) ≤ ln by omega)) (cwV 0 hts gX4_readNumber_X4_isDigitHere rfl rfl rfl (by decide +kernel) ⟨(Nat.le_of_ble_eq_true rfl), (Nat.le_of_ble_eq_true rfl)⟩) 1 4 rfl rfl rfl rfl hl.1 rfl (Nat.le_of_ble_eq_true rfl) dX4_readNumber_62 ⟨(Nat.le_of_ble_eq_true rfl), (Nat.le_of_ble_eq_true rfl)⟩ (fun r_12 u H locs hw hP2 hD2 hS2 => ?_)
      clear hP hD hS
      obtain ⟨rfl, rfl⟩ := hw
      have hPD : PD D A [(Rv, .inl (g 0, 21, .inl fval)), (Rd, .inr (4, [.ref Tp, .int (nI ln), .int (nI (axx_2 + 1)), .int (-1), .int (nI ht), .int (nI ct), .ref Rv])), (Tp, .inl (g 0, 160, .inl ftp))] H := ⟨hP2, hD2⟩
      have hS := hS2; clear hP2 hD2 hS2; have hP := hPD.1; have hD := hPD.2; clear hPD
      refine W.widen (k := 0) (n := 0) (Nat.le_of_ble_eq_true rfl) (Nat.le_of_ble_eq_true rfl) ?_
      refine lv_if_eq (tgt := 77) hx hb dX4_readNumber_65 (by decide) (fun cb_13 => ?_) (fun cb_13 => ?_)
      · skip
        have hq_14 : ¬ (pD ftp ln (axx_2 + 1)) := b01_0.mp cb_13
        refine lv_iload_n hx hb dX4_readNumber_77 rfl (lv_at hl 3 rfl) ?_
        refine ky_Si (As := [.int 0]) (rest := []) ⟨hx, hb, hml, hown, hts⟩ ⟨hK, hN⟩ hZ hP hD hS hA [] [0, 1, 2] (wc := []) (wr := [(Rv, .inl (g 0, 21, .inl fval)), (Rd, .inr (4, [.ref Tp, .int (nI ln), .int (nI (axx_2 + 1)), .int (-1), .int (nI ht), .int (nI ct), .ref Rv])), (Tp, .inl (g 0, 160, .inl ftp))]) rfl rfl rfl rfl (by decide) (k_X4_kindOf_0 l D g H.size) (va_cwS 1 hts gX4_readNumber_X4_kindOf rfl rfl rfl (by decide +kernel) ⟨(Nat.le_of_ble_eq_true rfl), (Nat.le_of_ble_eq_true rfl)⟩) rfl hl.1 rfl (Nat.le_of_ble_eq_true rfl) dX4_readNumber_78 ⟨(Nat.le_of_ble_eq_true rfl), (Nat.le_of_ble_eq_true rfl)⟩ (fun r_15 u H locs hw hP2 hD2 hS2 => ?_)
        clear hP hD hS
        obtain ⟨rfl, rfl⟩ := hw
        have hPD : PD D A [(Rv, .inl (g 0, 21, .inl fval)), (Rd, .inr (4, [.ref Tp, .int (nI ln), .int (nI (axx_2 + 1)), .int (-1), .int (nI ht), .int (nI ct), .ref Rv])), (Tp, .inl (g 0, 160, .inl ftp))] H := ⟨hP2, hD2⟩
        have hS := hS2; clear hP2 hD2 hS2; have hP := hPD.1; have hD := hPD.2; clear hPD
        refine W.widen (k := 0) (n := 0) (Nat.le_of_ble_eq_true rfl) (Nat.le_of_ble_eq_true rfl) ?_
        refine lv_iconst (v := 3) hx hb dX4_readNumber_81 (by decide) ?_
        refine lv_imul hx hb dX4_readNumber_82 ?_
        refine lv_eqi (y := 0) (by decide) ?_
        refine lv_iload_n hx hb dX4_readNumber_83 rfl (lv_at hl 4 rfl) ?_
        refine lv_iadd hx hb dX4_readNumber_84 ?_
        refine lv_eqi (y := 1) (by decide) ?_
        refine lv_istore (lv' := [(5, .int 1), (4, .int 1), (3, .int ((0 + (ftp (axx_2))) - 48)), (0, .ref Rd), (1, .int 0), (2, .int 1)]) hx hb dX4_readNumber_85 hl (by decide) rfl (fun ls hl => ?_)
        refine lv_iload_n hx hb dX4_readNumber_87 rfl (lv_at hl 2 rfl) ?_
        refine va_gets hx hb hZ.2.2.1 hS hown f84 (fun _ h9 => h9) dX4_readNumber_88 ?_
        refine lv_iload hx hb dX4_readNumber_91 (lv_at hl 0 rfl) ?_
        refine va_ti (v := .int 0) hx hb hZ.2.2.2.1 hS (by unfold vp_in; decide) rfl dX4_readNumber_93 ?_
        refine va_gets hx hb hZ.2.2.2.2.1 hS hown f87 (fun _ h9 => h9) dX4_readNumber_94 ?_
        refine lv_iload hx hb dX4_readNumber_97 (lv_at hl 0 rfl) ?_
        refine va_ti (v := .int 20) hx hb hZ.2.2.2.2.2.1 hS (by unfold vp_in; decide) rfl dX4_readNumber_99 ?_
        refine ky_SNi (As := [.int ((0 + (ftp (axx_2))) - 48), .int 0, .int 20]) (rest := []) ⟨hx, hb, hml, hown, hts⟩ ⟨hK, hN⟩ hZ hP hD hS hA [] [0, 1, 2] (wc := []) (wr := [(Rv, .inl (g 0, 21, .inl fval)), (Rd, .inr (4, [.ref Tp, .int (nI ln), .int (nI (axx_2 + 1)), .int (-1), .int (nI ht), .int (nI ct), .ref Rv])), (Tp, .inl (g 0, 160, .inl ftp))]) rfl rfl rfl rfl (by decide) (k_X6_outside l D g H.size ((0 + (ftp (axx_2))) - 48) 0 20) ⟨va_cnB 3 hts ggX4_readNumber_X6_outside rfl rfl rfl hN.2.2.2.2.2.1 iiX6 (by decide +kernel) ⟨(Nat.le_of_ble_eq_true rfl), (Nat.le_of_ble_eq_true rfl)⟩, stX6_outside, trivial⟩ rfl hl.1 rfl (Nat.le_of_ble_eq_true rfl) dX4_readNumber_100 ⟨(Nat.le_of_ble_eq_true rfl), (Nat.le_of_ble_eq_true rfl)⟩ (fun r_16 u H locs hw hP2 hD2 hS2 => ?_)
        clear hP hD hS
        obtain ⟨rfl, rfl⟩ := hw
        have hPD : PD D A [(Rv, .inl (g 0, 21, .inl fval)), (Rd, .inr (4, [.ref Tp, .int (nI ln), .int (nI (axx_2 + 1)), .int (-1), .int (nI ht), .int (nI ct), .ref Rv])), (Tp, .inl (g 0, 160, .inl ftp))] H := ⟨hP2, hD2⟩
        have hS := hS2; clear hP2 hD2 hS2; have hP := hPD.1; have hD := hPD.2; clear hPD
        refine W.widen (k := 0) (n := 0) (Nat.le_of_ble_eq_true rfl) (Nat.le_of_ble_eq_true rfl) ?_
        refine lv_if_eq (tgt := 117) hx hb dX4_readNumber_103 (by decide) (fun cb_17 => ?_) (fun cb_17 => ?_)
        · skip
          have hq_18 : ¬ (((0 + (ftp (axx_2))) - 48) < 0 ∨ 20 < ((0 + (ftp (axx_2))) - 48)) := b01_0.mp cb_17
          have hq_19 : ¬ ((0 + (ftp (axx_2))) - 48) < 0 := fun q => hq_18 (Or.inl q); have hq_20 : ¬ (20 < ((0 + (ftp (axx_2))) - 48)) := fun q => hq_18 (Or.inr q)
          refine lv_aload_n hx hb dX4_readNumber_117 rfl (lv_at hl 3 rfl) ?_
          refine va_get (D := D) (ci := 4) (v := .ref Rv) (C := RX4) (T := TX4) (N := 7) hx hb hts iX4 hown hK hP 1 rfl rfl 6 (by decide) f15 (fun _ h9 => h9) rfl dX4_readNumber_118 ?_
          refine lv_iload_n hx hb dX4_readNumber_121 rfl (lv_at hl 4 rfl) ?_
          refine lv_iconst (v := 3) hx hb dX4_readNumber_122 (by decide) ?_
          refine lv_imul hx hb dX4_readNumber_123 ?_
          refine lv_eqi (y := 0) (by decide) ?_
          refine lv_iload_n hx hb dX4_readNumber_124 rfl (lv_at hl 5 rfl) ?_
          refine lv_iadd hx hb dX4_readNumber_125 ?_
          refine lv_eqi (y := 1) (by decide) ?_
          refine lv_iload_n hx hb dX4_readNumber_126 rfl (lv_at hl 2 rfl) ?_
          refine va_iast hx hb hK hP hD hS 0 0 rfl rfl (by unfold vp_in; decide) dX4_readNumber_127 (fun H locs hP2 hD2 hS2 => ?_)
          clear hP hD hS
          have hPD : PD D A [(Rv, .inl (g 0, 21, .inl (upd fval 1 ((0 + (ftp (axx_2))) - 48)))), (Rd, .inr (4, [.ref Tp, .int (nI ln), .int (nI (axx_2 + 1)), .int (-1), .int (nI ht), .int (nI ct), .ref Rv])), (Tp, .inl (g 0, 160, .inl ftp))] H := ⟨hP2, hD2⟩
          have hS := hS2; clear hP2 hD2 hS2; have hP := hPD.1; have hD := hPD.2; clear hPD
          have hPD9 : PD D A [(Rd, .inr (4, [.ref Tp, .int (nI ln), .int (nI (axx_2 + 1)), .int (-1), .int (nI ht), .int (nI ct), .ref Rv])), (Tp, .inl (g 0, 160, .inl ftp)), (Rv, .inl (g 0, 21, .inl (upd fval 1 ((0 + (ftp (axx_2))) - 48))))] H := ⟨hP.sub [1, 2, 0] rfl, hD.sub [1, 2, 0] (by decide) rfl⟩
          have hP9 := hPD9.1; have hD9 := hPD9.2
          subst hQ
          refine W.widen (k := 0) (n := 0) (Nat.le_of_ble_eq_true rfl) (Nat.le_of_ble_eq_true rfl) ?_
          exact W.vret hx hb hr (fun tS htS _ => ⟨⟨_, rfl, ⟨(axx_2 + 1), (-1), (upd fval 1 ((0 + (ftp (axx_2))) - 48)), rfl, (show (axx_2 + 1) ≤ ln by omega), (vOK_rng (k := 1) (L := 0) (U := 20) h2 rfl rfl (by decide) (by decide) hq_18 (Nat.le_of_ble_eq_true rfl)), (by rw [nm_b (show axx_2 = sB ftp ln ax by omega) hq_8 (fun q => hq_11 q.1), (nm_1 (show axx_2 = sB ftp ln ax by omega) hq_8 hq_11).1, (show nmV ftp ln ax = ((0 + (ftp (axx_2))) - 48) from (nm_1 (show axx_2 = sB ftp ln ax by omega) hq_8 hq_11).2), if_neg hq_18]), (fun _ => ⟨(nm_1 (show axx_2 = sB ftp ln ax by omega) hq_8 hq_11).1.symm, by rw [(show nmV ftp ln ax = ((0 + (ftp (axx_2))) - 48) from (nm_1 (show axx_2 = sB ftp ln ax by omega) hq_8 hq_11).2)]⟩)⟩, by rw [htS]; exact hP9, hD9⟩, hS.F htS⟩) hS.2.2 dX4_readNumber_128
        · skip
          have hq_21 : ((0 + (ftp (axx_2))) - 48) < 0 ∨ 20 < ((0 + (ftp (axx_2))) - 48) := b01_1.mp cb_17
          refine lv_aload_n hx hb dX4_readNumber_106 rfl (lv_at hl 3 rfl) ?_
          refine lv_aload_n hx hb dX4_readNumber_107 rfl (lv_at hl 3 rfl) ?_
          refine va_get (D := D) (ci := 4) (v := .int (nI (axx_2 + 1))) (C := RX4) (T := TX4) (N := 7) hx hb hts iX4 hown hK hP 1 rfl rfl 2 (by decide) f28 (fun _ h9 => h9) rfl dX4_readNumber_108 ?_
          refine lv_iconst (v := 1) hx hb dX4_readNumber_111 (by decide) ?_
          refine lv_isub hx hb dX4_readNumber_112 ?_
          refine lv_eqi (y := (nI ((axx_2 + 1) - 1))) (pk_sub (show 1 ≤ axx_2 + 1 by omega)) ?_
          refine va_put (D := D) (ci := 4) (v := .int (nI ((axx_2 + 1) - 1))) (ty := .int) (C := RX4) (T := TX4) (N := 7) hx hb hts iX4 tyX4 tyX4_ok nmX4 hown hK hP hD hS 1 rfl rfl 3 (by decide) f31 (fun _ h9 => h9) rfl (by decide +kernel) (rfl) (rfl) (Nat.le_of_ble_eq_true rfl) dX4_readNumber_113 (fun H locs hP2 hD2 hS2 => ?_)
          clear hP hD hS
          have hPD : PD D A [(Rv, .inl (g 0, 21, .inl fval)), (Rd, .inr (4, [.ref Tp, .int (nI ln), .int (nI (axx_2 + 1)), .int (nI ((axx_2 + 1) - 1)), .int (nI ht), .int (nI ct), .ref Rv])), (Tp, .inl (g 0, 160, .inl ftp))] H := ⟨hP2, hD2⟩
          have hS := hS2; clear hP2 hD2 hS2; have hP := hPD.1; have hD := hPD.2; clear hPD
          have hPD9 : PD D A [(Rd, .inr (4, [.ref Tp, .int (nI ln), .int (nI (axx_2 + 1)), .int (nI ((axx_2 + 1) - 1)), .int (nI ht), .int (nI ct), .ref Rv])), (Tp, .inl (g 0, 160, .inl ftp)), (Rv, .inl (g 0, 21, .inl fval))] H := ⟨hP.sub [1, 2, 0] rfl, hD.sub [1, 2, 0] (by decide) rfl⟩
          have hP9 := hPD9.1; have hD9 := hPD9.2
          subst hQ
          refine W.widen (k := 0) (n := 0) (Nat.le_of_ble_eq_true rfl) (Nat.le_of_ble_eq_true rfl) ?_
          exact W.vret hx hb hr (fun tS htS _ => ⟨⟨_, rfl, ⟨(axx_2 + 1), (nI ((axx_2 + 1) - 1)), fval, rfl, (show (axx_2 + 1) ≤ ln by omega), h2, (by rw [nm_b (show axx_2 = sB ftp ln ax by omega) hq_8 (fun q => hq_11 q.1), (nm_1 (show axx_2 = sB ftp ln ax by omega) hq_8 hq_11).1, (show nmV ftp ln ax = ((0 + (ftp (axx_2))) - 48) from (nm_1 (show axx_2 = sB ftp ln ax by omega) hq_8 hq_11).2), if_pos hq_21]), (fun q => absurd q (m1_ne (show axx_2 + 1 - 1 < 2 ^ 31 by omega)))⟩, by rw [htS]; exact hP9, hD9⟩, hS.F htS⟩) hS.2.2 dX4_readNumber_116
      · skip
        have hq_22 : pD ftp ln (axx_2 + 1) := b01_1.mp cb_13
        refine lv_aload_n hx hb dX4_readNumber_68 rfl (lv_at hl 2 rfl) ?_
        refine lv_aload_n hx hb dX4_readNumber_69 rfl (lv_at hl 2 rfl) ?_
        refine va_get (D := D) (ci := 4) (v := .int (nI (axx_2 + 1))) (C := RX4) (T := TX4) (N := 7) hx hb hts iX4 hown hK hP 1 rfl rfl 2 (by decide) f28 (fun _ h9 => h9) rfl dX4_readNumber_70 ?_
        refine va_put (D := D) (ci := 4) (v := .int (nI (axx_2 + 1))) (ty := .int) (C := RX4) (T := TX4) (N := 7) hx hb hts iX4 tyX4 tyX4_ok nmX4 hown hK hP hD hS 1 rfl rfl 3 (by decide) f31 (fun _ h9 => h9) rfl (by decide +kernel) (rfl) (rfl) (Nat.le_of_ble_eq_true rfl) dX4_readNumber_73 (fun H locs hP2 hD2 hS2 => ?_)
        clear hP hD hS
        have hPD : PD D A [(Rv, .inl (g 0, 21, .inl fval)), (Rd, .inr (4, [.ref Tp, .int (nI ln), .int (nI (axx_2 + 1)), .int (nI (axx_2 + 1)), .int (nI ht), .int (nI ct), .ref Rv])), (Tp, .inl (g 0, 160, .inl ftp))] H := ⟨hP2, hD2⟩
        have hS := hS2; clear hP2 hD2 hS2; have hP := hPD.1; have hD := hPD.2; clear hPD
        have hPD9 : PD D A [(Rd, .inr (4, [.ref Tp, .int (nI ln), .int (nI (axx_2 + 1)), .int (nI (axx_2 + 1)), .int (nI ht), .int (nI ct), .ref Rv])), (Tp, .inl (g 0, 160, .inl ftp)), (Rv, .inl (g 0, 21, .inl fval))] H := ⟨hP.sub [1, 2, 0] rfl, hD.sub [1, 2, 0] (by decide) rfl⟩
        have hP9 := hPD9.1; have hD9 := hPD9.2
        subst hQ
        refine W.widen (k := 0) (n := 0) (Nat.le_of_ble_eq_true rfl) (Nat.le_of_ble_eq_true rfl) ?_
        exact W.vret hx hb hr (fun tS htS _ => ⟨⟨_, rfl, ⟨(axx_2 + 1), (nI (axx_2 + 1)), fval, rfl, (show (axx_2 + 1) ≤ ln by omega), h2, (absurd hq_22 hq_11), (absurd hq_22 hq_11)⟩, by rw [htS]; exact hP9, hD9⟩, hS.F htS⟩) hS.2.2 dX4_readNumber_76
    · skip
      have hq_23 : pD ftp ln (axx_2 + 1) := b01_1.mp cb_10
      refine lv_iload_n hx hb dX4_readNumber_22 rfl (lv_at hl 1 rfl) ?_
      refine lv_bipush (v := 10) hx hb dX4_readNumber_23 (by decide) ?_
      refine lv_imul hx hb dX4_readNumber_25 ?_
      refine lv_aload_n hx hb dX4_readNumber_26 rfl (lv_at hl 2 rfl) ?_
      refine va_get (D := D) (ci := 4) (v := .ref Tp) (C := RX4) (T := TX4) (N := 7) hx hb hts iX4 hown hK hP 1 rfl rfl 0 (by decide) f9 (fun _ h9 => h9) rfl dX4_readNumber_27 ?_
      refine lv_aload_n hx hb dX4_readNumber_30 rfl (lv_at hl 2 rfl) ?_
      refine va_get (D := D) (ci := 4) (v := .int (nI (axx_2 + 1))) (C := RX4) (T := TX4) (N := 7) hx hb hts iX4 hown hK hP 1 rfl rfl 2 (by decide) f28 (fun _ h9 => h9) rfl dX4_readNumber_31 ?_
      refine va_iald hx hb hK hP 2 0 rfl rfl (vp_in_nI (show axx_2 + 1 < 160 by omega) (by decide)) dX4_readNumber_34 ?_
      refine lv_eqi (y := (ftp (axx_2 + 1))) (congrArg ftp (nI_clamp (show axx_2 + 1 < 2 ^ 31 by omega))) ?_
      refine lv_iadd hx hb dX4_readNumber_35 ?_
      refine lv_bipush (v := 48) hx hb dX4_readNumber_36 (by decide) ?_
      refine lv_isub hx hb dX4_readNumber_38 ?_
      refine lv_istore_n (lv' := [(3, .int (((((0 + (ftp (axx_2))) - 48) * 10) + (ftp (axx_2 + 1))) - 48)), (4, .int 1), (0, .ref Rd), (1, .int 0), (2, .int 1)]) hx hb dX4_readNumber_39 rfl hl (by decide) rfl (fun ls hl => ?_)
      refine lv_iinc (v := 2) (lv' := [(4, .int 2), (3, .int (((((0 + (ftp (axx_2))) - 48) * 10) + (ftp (axx_2 + 1))) - 48)), (0, .ref Rd), (1, .int 0), (2, .int 1)]) hx hb dX4_readNumber_40 hl (k := 1) rfl (by decide) (by decide) rfl (fun ls hl => ?_)
      refine lv_aload_n hx hb dX4_readNumber_43 rfl (lv_at hl 2 rfl) ?_
      refine lv_dup hx hb dX4_readNumber_44 rfl ?_
      refine va_get (D := D) (ci := 4) (v := .int (nI (axx_2 + 1))) (C := RX4) (T := TX4) (N := 7) hx hb hts iX4 hown hK hP 1 rfl rfl 2 (by decide) f28 (fun _ h9 => h9) rfl dX4_readNumber_45 ?_
      refine lv_iconst (v := 1) hx hb dX4_readNumber_48 (by decide) ?_
      refine lv_iadd hx hb dX4_readNumber_49 ?_
      refine lv_eqi (y := (nI (axx_2 + 1 + 1))) (nI_add (axx_2 + 1) (1)) ?_
      refine va_put (D := D) (ci := 4) (v := .int (nI (axx_2 + 1 + 1))) (ty := .int) (C := RX4) (T := TX4) (N := 7) hx hb hts iX4 tyX4 tyX4_ok nmX4 hown hK hP hD hS 1 rfl rfl 2 (by decide) f28 (fun _ h9 => h9) rfl (by decide +kernel) (rfl) (rfl) (Nat.le_of_ble_eq_true rfl) dX4_readNumber_50 (fun H locs hP2 hD2 hS2 => ?_)
      clear hP hD hS
      have hPD : PD D A [(Rv, .inl (g 0, 21, .inl fval)), (Rd, .inr (4, [.ref Tp, .int (nI ln), .int (nI (axx_2 + 1 + 1)), .int (-1), .int (nI ht), .int (nI ct), .ref Rv])), (Tp, .inl (g 0, 160, .inl ftp))] H := ⟨hP2, hD2⟩
      have hS := hS2; clear hP2 hD2 hS2; have hP := hPD.1; have hD := hPD.2; clear hPD
      refine lv_goto (tgt := 9) hx hb dX4_readNumber_53 (by decide) ?_
      refine lv_iload hx hb dX4_readNumber_9 (lv_at hl 0 rfl) ?_
      refine lv_iconst (v := 2) hx hb dX4_readNumber_11 (by decide) ?_
      refine lv_icmp_ge (tgt := 56) hx hb dX4_readNumber_12 (by decide) (fun _ => ?_) (fun cb => absurd (by decide) cb)
      refine lv_iload hx hb dX4_readNumber_56 (lv_at hl 0 rfl) ?_
      refine lv_if_eq (tgt := 68) hx hb dX4_readNumber_58 (by decide) (fun cb => absurd cb (by decide)) (fun _ => ?_)
      refine lv_aload_n hx hb dX4_readNumber_61 rfl (lv_at hl 2 rfl) ?_
      refine ky_Vi (As := []) (rest := []) ⟨hx, hb, hml, hown, hts⟩ ⟨hK, hN⟩ hZ hP hD hS hA [1, 2] [0] (wc := [(Rd, .inr (4, [.ref Tp, .int (nI ln), .int (nI (axx_2 + 1 + 1)), .int (-1), .int (nI ht), .int (nI ct), .ref Rv])), (Tp, .inl (g 0, 160, .inl ftp))]) (wr := [(Rv, .inl (g 0, 21, .inl fval))]) rfl rfl rfl rfl (by decide) (r_X4_isDigitHere l D g H.size Rd Tp ln (axx_2 + 1 + 1) (-1) ht ct Rv ftp (show ln ≤ 160 by omega) (show (axx_2 + 1 + 1) ≤ ln by omega)) (cwV 0 hts gX4_readNumber_X4_isDigitHere rfl rfl rfl (by decide +kernel) ⟨(Nat.le_of_ble_eq_true rfl), (Nat.le_of_ble_eq_true rfl)⟩) 1 4 rfl rfl rfl rfl hl.1 rfl (Nat.le_of_ble_eq_true rfl) dX4_readNumber_62 ⟨(Nat.le_of_ble_eq_true rfl), (Nat.le_of_ble_eq_true rfl)⟩ (fun r_24 u H locs hw hP2 hD2 hS2 => ?_)
      clear hP hD hS
      obtain ⟨rfl, rfl⟩ := hw
      have hPD : PD D A [(Rv, .inl (g 0, 21, .inl fval)), (Rd, .inr (4, [.ref Tp, .int (nI ln), .int (nI (axx_2 + 1 + 1)), .int (-1), .int (nI ht), .int (nI ct), .ref Rv])), (Tp, .inl (g 0, 160, .inl ftp))] H := ⟨hP2, hD2⟩
      have hS := hS2; clear hP2 hD2 hS2; have hP := hPD.1; have hD := hPD.2; clear hPD
      refine W.widen (k := 0) (n := 0) (Nat.le_of_ble_eq_true rfl) (Nat.le_of_ble_eq_true rfl) ?_
      refine lv_if_eq (tgt := 77) hx hb dX4_readNumber_65 (by decide) (fun cb_25 => ?_) (fun cb_25 => ?_)
      · skip
        have hq_26 : ¬ (pD ftp ln (axx_2 + 1 + 1)) := b01_0.mp cb_25
        refine lv_iload_n hx hb dX4_readNumber_77 rfl (lv_at hl 3 rfl) ?_
        refine ky_Si (As := [.int 0]) (rest := []) ⟨hx, hb, hml, hown, hts⟩ ⟨hK, hN⟩ hZ hP hD hS hA [] [0, 1, 2] (wc := []) (wr := [(Rv, .inl (g 0, 21, .inl fval)), (Rd, .inr (4, [.ref Tp, .int (nI ln), .int (nI (axx_2 + 1 + 1)), .int (-1), .int (nI ht), .int (nI ct), .ref Rv])), (Tp, .inl (g 0, 160, .inl ftp))]) rfl rfl rfl rfl (by decide) (k_X4_kindOf_0 l D g H.size) (va_cwS 1 hts gX4_readNumber_X4_kindOf rfl rfl rfl (by decide +kernel) ⟨(Nat.le_of_ble_eq_true rfl), (Nat.le_of_ble_eq_true rfl)⟩) rfl hl.1 rfl (Nat.le_of_ble_eq_true rfl) dX4_readNumber_78 ⟨(Nat.le_of_ble_eq_true rfl), (Nat.le_of_ble_eq_true rfl)⟩ (fun r_27 u H locs hw hP2 hD2 hS2 => ?_)
        clear hP hD hS
        obtain ⟨rfl, rfl⟩ := hw
        have hPD : PD D A [(Rv, .inl (g 0, 21, .inl fval)), (Rd, .inr (4, [.ref Tp, .int (nI ln), .int (nI (axx_2 + 1 + 1)), .int (-1), .int (nI ht), .int (nI ct), .ref Rv])), (Tp, .inl (g 0, 160, .inl ftp))] H := ⟨hP2, hD2⟩
        have hS := hS2; clear hP2 hD2 hS2; have hP := hPD.1; have hD := hPD.2; clear hPD
        refine W.widen (k := 0) (n := 0) (Nat.le_of_ble_eq_true rfl) (Nat.le_of_ble_eq_true rfl) ?_
        refine lv_iconst (v := 3) hx hb dX4_readNumber_81 (by decide) ?_
        refine lv_imul hx hb dX4_readNumber_82 ?_
        refine lv_eqi (y := 0) (by decide) ?_
        refine lv_iload_n hx hb dX4_readNumber_83 rfl (lv_at hl 4 rfl) ?_
        refine lv_iadd hx hb dX4_readNumber_84 ?_
        refine lv_eqi (y := 1) (by decide) ?_
        refine lv_istore (lv' := [(5, .int 1), (4, .int 2), (3, .int (((((0 + (ftp (axx_2))) - 48) * 10) + (ftp (axx_2 + 1))) - 48)), (0, .ref Rd), (1, .int 0), (2, .int 1)]) hx hb dX4_readNumber_85 hl (by decide) rfl (fun ls hl => ?_)
        refine lv_iload_n hx hb dX4_readNumber_87 rfl (lv_at hl 2 rfl) ?_
        refine va_gets hx hb hZ.2.2.1 hS hown f84 (fun _ h9 => h9) dX4_readNumber_88 ?_
        refine lv_iload hx hb dX4_readNumber_91 (lv_at hl 0 rfl) ?_
        refine va_ti (v := .int 0) hx hb hZ.2.2.2.1 hS (by unfold vp_in; decide) rfl dX4_readNumber_93 ?_
        refine va_gets hx hb hZ.2.2.2.2.1 hS hown f87 (fun _ h9 => h9) dX4_readNumber_94 ?_
        refine lv_iload hx hb dX4_readNumber_97 (lv_at hl 0 rfl) ?_
        refine va_ti (v := .int 20) hx hb hZ.2.2.2.2.2.1 hS (by unfold vp_in; decide) rfl dX4_readNumber_99 ?_
        refine ky_SNi (As := [.int (((((0 + (ftp (axx_2))) - 48) * 10) + (ftp (axx_2 + 1))) - 48), .int 0, .int 20]) (rest := []) ⟨hx, hb, hml, hown, hts⟩ ⟨hK, hN⟩ hZ hP hD hS hA [] [0, 1, 2] (wc := []) (wr := [(Rv, .inl (g 0, 21, .inl fval)), (Rd, .inr (4, [.ref Tp, .int (nI ln), .int (nI (axx_2 + 1 + 1)), .int (-1), .int (nI ht), .int (nI ct), .ref Rv])), (Tp, .inl (g 0, 160, .inl ftp))]) rfl rfl rfl rfl (by decide) (k_X6_outside l D g H.size (((((0 + (ftp (axx_2))) - 48) * 10) + (ftp (axx_2 + 1))) - 48) 0 20) ⟨va_cnB 3 hts ggX4_readNumber_X6_outside rfl rfl rfl hN.2.2.2.2.2.1 iiX6 (by decide +kernel) ⟨(Nat.le_of_ble_eq_true rfl), (Nat.le_of_ble_eq_true rfl)⟩, stX6_outside, trivial⟩ rfl hl.1 rfl (Nat.le_of_ble_eq_true rfl) dX4_readNumber_100 ⟨(Nat.le_of_ble_eq_true rfl), (Nat.le_of_ble_eq_true rfl)⟩ (fun r_28 u H locs hw hP2 hD2 hS2 => ?_)
        clear hP hD hS
        obtain ⟨rfl, rfl⟩ := hw
        have hPD : PD D A [(Rv, .inl (g 0, 21, .inl fval)), (Rd, .inr (4, [.ref Tp, .int (nI ln), .int (nI (axx_2 + 1 + 1)), .int (-1), .int (nI ht), .int (nI ct), .ref Rv])), (Tp, .inl (g 0, 160, .inl ftp))] H := ⟨hP2, hD2⟩
        have hS := hS2; clear hP2 hD2 hS2; have hP := hPD.1; have hD := hPD.2; clear hPD
        refine W.widen (k := 0) (n := 0) (Nat.le_of_ble_eq_true rfl) (Nat.le_of_ble_eq_true rfl) ?_
        refine lv_if_eq (tgt := 117) hx hb dX4_readNumber_103 (by decide) (fun cb_29 => ?_) (fun cb_29 => ?_)
        · skip
          have hq_30 : ¬ ((((((0 + (ftp (axx_2))) - 48) * 10) + (ftp (axx_2 + 1))) - 48) < 0 ∨ 20 < (((((0 + (ftp (axx_2))) - 48) * 10) + (ftp (axx_2 + 1))) - 48)) := b01_0.mp cb_29
          have hq_31 : ¬ (((((0 + (ftp (axx_2))) - 48) * 10) + (ftp (axx_2 + 1))) - 48) < 0 := fun q => hq_30 (Or.inl q); have hq_32 : ¬ (20 < (((((0 + (ftp (axx_2))) - 48) * 10) + (ftp (axx_2 + 1))) - 48)) := fun q => hq_30 (Or.inr q)
          refine lv_aload_n hx hb dX4_readNumber_117 rfl (lv_at hl 3 rfl) ?_
          refine va_get (D := D) (ci := 4) (v := .ref Rv) (C := RX4) (T := TX4) (N := 7) hx hb hts iX4 hown hK hP 1 rfl rfl 6 (by decide) f15 (fun _ h9 => h9) rfl dX4_readNumber_118 ?_
          refine lv_iload_n hx hb dX4_readNumber_121 rfl (lv_at hl 4 rfl) ?_
          refine lv_iconst (v := 3) hx hb dX4_readNumber_122 (by decide) ?_
          refine lv_imul hx hb dX4_readNumber_123 ?_
          refine lv_eqi (y := 0) (by decide) ?_
          refine lv_iload_n hx hb dX4_readNumber_124 rfl (lv_at hl 5 rfl) ?_
          refine lv_iadd hx hb dX4_readNumber_125 ?_
          refine lv_eqi (y := 1) (by decide) ?_
          refine lv_iload_n hx hb dX4_readNumber_126 rfl (lv_at hl 2 rfl) ?_
          refine va_iast hx hb hK hP hD hS 0 0 rfl rfl (by unfold vp_in; decide) dX4_readNumber_127 (fun H locs hP2 hD2 hS2 => ?_)
          clear hP hD hS
          have hPD : PD D A [(Rv, .inl (g 0, 21, .inl (upd fval 1 (((((0 + (ftp (axx_2))) - 48) * 10) + (ftp (axx_2 + 1))) - 48)))), (Rd, .inr (4, [.ref Tp, .int (nI ln), .int (nI (axx_2 + 1 + 1)), .int (-1), .int (nI ht), .int (nI ct), .ref Rv])), (Tp, .inl (g 0, 160, .inl ftp))] H := ⟨hP2, hD2⟩
          have hS := hS2; clear hP2 hD2 hS2; have hP := hPD.1; have hD := hPD.2; clear hPD
          have hPD9 : PD D A [(Rd, .inr (4, [.ref Tp, .int (nI ln), .int (nI (axx_2 + 1 + 1)), .int (-1), .int (nI ht), .int (nI ct), .ref Rv])), (Tp, .inl (g 0, 160, .inl ftp)), (Rv, .inl (g 0, 21, .inl (upd fval 1 (((((0 + (ftp (axx_2))) - 48) * 10) + (ftp (axx_2 + 1))) - 48))))] H := ⟨hP.sub [1, 2, 0] rfl, hD.sub [1, 2, 0] (by decide) rfl⟩
          have hP9 := hPD9.1; have hD9 := hPD9.2
          subst hQ
          refine W.widen (k := 0) (n := 0) (Nat.le_of_ble_eq_true rfl) (Nat.le_of_ble_eq_true rfl) ?_
          exact W.vret hx hb hr (fun tS htS _ => ⟨⟨_, rfl, ⟨(axx_2 + 1 + 1), (-1), (upd fval 1 (((((0 + (ftp (axx_2))) - 48) * 10) + (ftp (axx_2 + 1))) - 48)), rfl, (show (axx_2 + 1 + 1) ≤ ln by omega), (vOK_rng (k := 1) (L := 0) (U := 20) h2 rfl rfl (by decide) (by decide) hq_30 (Nat.le_of_ble_eq_true rfl)), (by rw [nm_b (show axx_2 = sB ftp ln ax by omega) hq_8 (fun q => hq_26 q.2), (nm_2 (show axx_2 = sB ftp ln ax by omega) hq_8 hq_23).1, (show nmV ftp ln ax = (((((0 + (ftp (axx_2))) - 48) * 10) + (ftp (axx_2 + 1))) - 48) from ((nm_2 (show axx_2 = sB ftp ln ax by omega) hq_8 hq_23).2.trans (by rw [Int32.mul_comm]))), if_neg hq_30]), (fun _ => ⟨(nm_2 (show axx_2 = sB ftp ln ax by omega) hq_8 hq_23).1.symm, by rw [(show nmV ftp ln ax = (((((0 + (ftp (axx_2))) - 48) * 10) + (ftp (axx_2 + 1))) - 48) from ((nm_2 (show axx_2 = sB ftp ln ax by omega) hq_8 hq_23).2.trans (by rw [Int32.mul_comm])))]⟩)⟩, by rw [htS]; exact hP9, hD9⟩, hS.F htS⟩) hS.2.2 dX4_readNumber_128
        · skip
          have hq_33 : (((((0 + (ftp (axx_2))) - 48) * 10) + (ftp (axx_2 + 1))) - 48) < 0 ∨ 20 < (((((0 + (ftp (axx_2))) - 48) * 10) + (ftp (axx_2 + 1))) - 48) := b01_1.mp cb_29
          refine lv_aload_n hx hb dX4_readNumber_106 rfl (lv_at hl 3 rfl) ?_
          refine lv_aload_n hx hb dX4_readNumber_107 rfl (lv_at hl 3 rfl) ?_
          refine va_get (D := D) (ci := 4) (v := .int (nI (axx_2 + 1 + 1))) (C := RX4) (T := TX4) (N := 7) hx hb hts iX4 hown hK hP 1 rfl rfl 2 (by decide) f28 (fun _ h9 => h9) rfl dX4_readNumber_108 ?_
          refine lv_iconst (v := 1) hx hb dX4_readNumber_111 (by decide) ?_
          refine lv_isub hx hb dX4_readNumber_112 ?_
          refine lv_eqi (y := (nI ((axx_2 + 1 + 1) - 1))) (pk_sub (show 1 ≤ axx_2 + 1 + 1 by omega)) ?_
          refine va_put (D := D) (ci := 4) (v := .int (nI ((axx_2 + 1 + 1) - 1))) (ty := .int) (C := RX4) (T := TX4) (N := 7) hx hb hts iX4 tyX4 tyX4_ok nmX4 hown hK hP hD hS 1 rfl rfl 3 (by decide) f31 (fun _ h9 => h9) rfl (by decide +kernel) (rfl) (rfl) (Nat.le_of_ble_eq_true rfl) dX4_readNumber_113 (fun H locs hP2 hD2 hS2 => ?_)
          clear hP hD hS
          have hPD : PD D A [(Rv, .inl (g 0, 21, .inl fval)), (Rd, .inr (4, [.ref Tp, .int (nI ln), .int (nI (axx_2 + 1 + 1)), .int (nI ((axx_2 + 1 + 1) - 1)), .int (nI ht), .int (nI ct), .ref Rv])), (Tp, .inl (g 0, 160, .inl ftp))] H := ⟨hP2, hD2⟩
          have hS := hS2; clear hP2 hD2 hS2; have hP := hPD.1; have hD := hPD.2; clear hPD
          have hPD9 : PD D A [(Rd, .inr (4, [.ref Tp, .int (nI ln), .int (nI (axx_2 + 1 + 1)), .int (nI ((axx_2 + 1 + 1) - 1)), .int (nI ht), .int (nI ct), .ref Rv])), (Tp, .inl (g 0, 160, .inl ftp)), (Rv, .inl (g 0, 21, .inl fval))] H := ⟨hP.sub [1, 2, 0] rfl, hD.sub [1, 2, 0] (by decide) rfl⟩
          have hP9 := hPD9.1; have hD9 := hPD9.2
          subst hQ
          refine W.widen (k := 0) (n := 0) (Nat.le_of_ble_eq_true rfl) (Nat.le_of_ble_eq_true rfl) ?_
          exact W.vret hx hb hr (fun tS htS _ => ⟨⟨_, rfl, ⟨(axx_2 + 1 + 1), (nI ((axx_2 + 1 + 1) - 1)), fval, rfl, (show (axx_2 + 1 + 1) ≤ ln by omega), h2, (by rw [nm_b (show axx_2 = sB ftp ln ax by omega) hq_8 (fun q => hq_26 q.2), (nm_2 (show axx_2 = sB ftp ln ax by omega) hq_8 hq_23).1, (show nmV ftp ln ax = (((((0 + (ftp (axx_2))) - 48) * 10) + (ftp (axx_2 + 1))) - 48) from ((nm_2 (show axx_2 = sB ftp ln ax by omega) hq_8 hq_23).2.trans (by rw [Int32.mul_comm]))), if_pos hq_33]), (fun q => absurd q (m1_ne (show axx_2 + 1 + 1 - 1 < 2 ^ 31 by omega)))⟩, by rw [htS]; exact hP9, hD9⟩, hS.F htS⟩) hS.2.2 dX4_readNumber_116
      · skip
        have hq_34 : pD ftp ln (axx_2 + 1 + 1) := b01_1.mp cb_25
        refine lv_aload_n hx hb dX4_readNumber_68 rfl (lv_at hl 2 rfl) ?_
        refine lv_aload_n hx hb dX4_readNumber_69 rfl (lv_at hl 2 rfl) ?_
        refine va_get (D := D) (ci := 4) (v := .int (nI (axx_2 + 1 + 1))) (C := RX4) (T := TX4) (N := 7) hx hb hts iX4 hown hK hP 1 rfl rfl 2 (by decide) f28 (fun _ h9 => h9) rfl dX4_readNumber_70 ?_
        refine va_put (D := D) (ci := 4) (v := .int (nI (axx_2 + 1 + 1))) (ty := .int) (C := RX4) (T := TX4) (N := 7) hx hb hts iX4 tyX4 tyX4_ok nmX4 hown hK hP hD hS 1 rfl rfl 3 (by decide) f31 (fun _ h9 => h9) rfl (by decide +kernel) (rfl) (rfl) (Nat.le_of_ble_eq_true rfl) dX4_readNumber_73 (fun H locs hP2 hD2 hS2 => ?_)
        clear hP hD hS
        have hPD : PD D A [(Rv, .inl (g 0, 21, .inl fval)), (Rd, .inr (4, [.ref Tp, .int (nI ln), .int (nI (axx_2 + 1 + 1)), .int (nI (axx_2 + 1 + 1)), .int (nI ht), .int (nI ct), .ref Rv])), (Tp, .inl (g 0, 160, .inl ftp))] H := ⟨hP2, hD2⟩
        have hS := hS2; clear hP2 hD2 hS2; have hP := hPD.1; have hD := hPD.2; clear hPD
        have hPD9 : PD D A [(Rd, .inr (4, [.ref Tp, .int (nI ln), .int (nI (axx_2 + 1 + 1)), .int (nI (axx_2 + 1 + 1)), .int (nI ht), .int (nI ct), .ref Rv])), (Tp, .inl (g 0, 160, .inl ftp)), (Rv, .inl (g 0, 21, .inl fval))] H := ⟨hP.sub [1, 2, 0] rfl, hD.sub [1, 2, 0] (by decide) rfl⟩
        have hP9 := hPD9.1; have hD9 := hPD9.2
        subst hQ
        refine W.widen (k := 0) (n := 0) (Nat.le_of_ble_eq_true rfl) (Nat.le_of_ble_eq_true rfl) ?_
        exact W.vret hx hb hr (fun tS htS _ => ⟨⟨_, rfl, ⟨(axx_2 + 1 + 1), (nI (axx_2 + 1 + 1)), fval, rfl, (show (axx_2 + 1 + 1) ≤ ln by omega), h2, (nm_3 (show axx_2 = sB ftp ln ax by omega) hq_8 hq_23 hq_34).symm, (fun q => absurd q (m1_ne (show axx_2 + 1 + 1 < 2 ^ 31 by omega)))⟩, by rw [htS]; exact hP9, hD9⟩, hS.F htS⟩) hS.2.2 dX4_readNumber_76

set_option maxHeartbeats 4000000 in
set_option maxRecDepth 100000 in
theorem r_X4_readNumber_02 (l : Launch) (D : va_G) (g : Nat → ClassId) (sz : Nat) (Rd : Nat) (Tp : Nat) (ln : Nat) (ax : Nat) (ht : Nat) (ct : Nat) (Rv : Nat) (ftp : Nat → Int32) (fval : Nat → Int32) (h0 : ln ≤ 160) (h1 : ax ≤ ln) (h2 : vOK fval) : Met l yX4_readNumber wsX4_readNumber ({ frames := 1, cells := 0, slots := 0, locals := 22 }) (va_Pc [.ref Rd, .int 0, .int 2] (pre D g sz [(Rd, .inr (4, [.ref Tp, .int (nI ln), .int (nI ax), .int (-1), .int (nI ht), .int (nI ct), .ref Rv])), (Tp, .inl (g 0, 160, .inl ftp)), (Rv, .inl (g 0, 21, .inl fval))])) (va_Qv (fun (u : va_W) => ∃ (axx : Nat) (zfax : Int32) (fvalx : Nat → Int32), u = [(Rd, .inr (4, [.ref Tp, .int (nI ln), .int (nI axx), .int zfax, .int (nI ht), .int (nI ct), .ref Rv])), (Tp, .inl (g 0, 160, .inl ftp)), (Rv, .inl (g 0, 21, .inl fvalx))] ∧ (axx ≤ ln) ∧ (vOK fvalx) ∧ (zfax = nmF ftp ln ax 0 9) ∧ (zfax = -1 → axx = nmE ftp ln ax ∧ fvalx = upd fval 2 (nmV ftp ln ax))) (wd D (va_A [(Rd, .inr (4, [.ref Tp, .int (nI ln), .int (nI ax), .int (-1), .int (nI ht), .int (nI ct), .ref Rv])), (Tp, .inl (g 0, 160, .inl ftp)), (Rv, .inl (g 0, 21, .inl fval))] sz)) (va_A [(Rd, .inr (4, [.ref Tp, .int (nI ln), .int (nI ax), .int (-1), .int (nI ht), .int (nI ct), .ref Rv])), (Tp, .inl (g 0, 160, .inl ftp)), (Rv, .inl (g 0, 21, .inl fval))] sz)) 0 0 (va_A [(Rd, .inr (4, [.ref Tp, .int (nI ln), .int (nI ax), .int (-1), .int (nI ht), .int (nI ct), .ref Rv])), (Tp, .inl (g 0, 160, .inl ftp)), (Rv, .inl (g 0, 21, .inl fval))] sz) := by
  refine Met.ofW (cc := cX4_readNumber) (maxL := 6) (ret := none) (by decide) rfl ?_
  intro p e s m args below meth c s₁ B hml hv
  obtain ⟨rfl, hsz, hP, ⟨hK, hN⟩, hD0, hZ⟩ := hv
  have hx := B.exec
  have hb := B.bytes
  have hr := B.returns
  have hts := atoms_spec (ws := wsX4_readNumber) B.pre
  have hown : s.vm.findClass RX4 = some m.cls := findClass_of_methodNamed B.named
  have hlocks := B.notSynchronized
  clear B
  subst hsz
  have hD := hD0.self (sz := s.heap.size)
  clear hD0
  generalize hAe : va_A [(Rd, .inr (4, [.ref Tp, .int (nI ln), .int (nI ax), .int (-1), .int (nI ht), .int (nI ct), .ref Rv])), (Tp, .inl (g 0, 160, .inl ftp)), (Rv, .inl (g 0, 21, .inl fval))] s.heap.size = A at hD hZ ⊢
  have hA : ∀ q : Nat, s.heap.size ≤ q → A q := fun q h => by rw [← hAe]; exact Or.inr h
  have hS : va_S A s.heap s.heap [] := va_S.rf
  have f15 := hts (.fieldLink RX4 15 "HopCredits$Reading" "values" "[I") (List.mem_of_getElem? (i := 6) rfl)
  have f28 := hts (.fieldLink RX4 28 "HopCredits$Reading" "at" "I") (List.mem_of_getElem? (i := 2) rfl)
  have f31 := hts (.fieldLink RX4 31 "HopCredits$Reading" "fault" "I") (List.mem_of_getElem? (i := 3) rfl)
  have f84 := hts (.fieldLink RX4 84 "HopCredits$Reading" "LOWS" "[I") (List.mem_of_getElem? (i := 4) rfl)
  have f87 := hts (.fieldLink RX4 87 "HopCredits$Reading" "HIGHS" "[I") (List.mem_of_getElem? (i := 5) rfl)
  have f9 := hts (.fieldLink RX4 9 "HopCredits$Reading" "text" "[I") (List.mem_of_getElem? (i := 1) rfl)
  have iiX6 := hts (.initialized RX6) (List.mem_of_getElem? (i := 21) rfl)
  have stX6_outside := hts (.static yX6_outside) (List.mem_of_getElem? (i := 20) rfl)
  have iX4 : ∀ w ∈ u_ws RX4 TX4 7, w ∈ wsX4_readNumber := fun w h => List.mem_cons_of_mem _ (List.mem_append_right _ (h))
  have hl := lv_entry ([.ref Rd, .int 0, .int 2]) (n := 6) (Nat.le_of_ble_eq_true rfl)
  rw [lg_entry_eq]
  generalize (lg_sl ([.ref Rd, .int 0, .int 2]) ++ List.replicate (6 - (lg_sl ([.ref Rd, .int 0, .int 2])).length) Slot.unset).toArray = ls at hl ⊢
  have hl : lv_has ls 6 [(0, .ref Rd), (1, .int 0), (2, .int 2)] := hl
  generalize hQ : MQ below _ _ s _ _ _ = Q
  generalize hH : s.heap = H at hP ⊢
  have hS : va_S A s.heap H [] := by rw [← hH]; exact hS
  clear hH
  refine lv_aload_n hx hb dX4_readNumber_0 rfl (lv_at hl 0 rfl) ?_
  refine ky_Vv (As := []) (rest := []) ⟨hx, hb, hml, hown, hts⟩ ⟨hK, hN⟩ hZ hP hD hS hA [0, 1] [2] (wc := [(Rd, .inr (4, [.ref Tp, .int (nI ln), .int (nI ax), .int (-1), .int (nI ht), .int (nI ct), .ref Rv])), (Tp, .inl (g 0, 160, .inl ftp))]) (wr := [(Rv, .inl (g 0, 21, .inl fval))]) rfl rfl rfl rfl (by decide) (r_X4_passBlanks l D g H.size Rd Tp ln ax (-1) ht ct Rv ftp (show ln ≤ 160 by omega) (show ax ≤ ln by omega)) (cwV 0 hts gX4_readNumber_X4_passBlanks rfl rfl rfl (by decide +kernel) ⟨(Nat.le_of_ble_eq_true rfl), (Nat.le_of_ble_eq_true rfl)⟩) 0 4 rfl rfl rfl rfl hl.1 rfl (Nat.le_of_ble_eq_true rfl) dX4_readNumber_1 ⟨(Nat.le_of_ble_eq_true rfl), (Nat.le_of_ble_eq_true rfl)⟩ (fun u H locs hw hP2 hD2 hS2 => ?_)
  clear hP hD hS
  obtain ⟨axx_2, rfl, hf_3, hf_4⟩ := hw
  have hPD : PD D A [(Rv, .inl (g 0, 21, .inl fval)), (Rd, .inr (4, [.ref Tp, .int (nI ln), .int (nI axx_2), .int (-1), .int (nI ht), .int (nI ct), .ref Rv])), (Tp, .inl (g 0, 160, .inl ftp))] H := ⟨hP2, hD2⟩
  have hS := hS2; clear hP2 hD2 hS2; have hP := hPD.1; have hD := hPD.2; clear hPD
  refine W.widen (k := 0) (n := 0) (Nat.le_of_ble_eq_true rfl) (Nat.le_of_ble_eq_true rfl) ?_
  refine lv_iconst (v := 0) hx hb dX4_readNumber_4 (by decide) ?_
  refine lv_istore_n (lv' := [(3, .int 0), (0, .ref Rd), (1, .int 0), (2, .int 2)]) hx hb dX4_readNumber_5 rfl hl (by decide) rfl (fun ls hl => ?_)
  refine lv_iconst (v := 0) hx hb dX4_readNumber_6 (by decide) ?_
  refine lv_istore (lv' := [(4, .int 0), (3, .int 0), (0, .ref Rd), (1, .int 0), (2, .int 2)]) hx hb dX4_readNumber_7 hl (by decide) rfl (fun ls hl => ?_)
  refine lv_iload hx hb dX4_readNumber_9 (lv_at hl 0 rfl) ?_
  refine lv_iconst (v := 2) hx hb dX4_readNumber_11 (by decide) ?_
  refine lv_icmp_ge (tgt := 56) hx hb dX4_readNumber_12 (by decide) (fun cb => absurd cb (by decide)) (fun _ => ?_)
  refine lv_aload_n hx hb dX4_readNumber_15 rfl (lv_at hl 2 rfl) ?_
  refine ky_Vi (As := []) (rest := []) ⟨hx, hb, hml, hown, hts⟩ ⟨hK, hN⟩ hZ hP hD hS hA [1, 2] [0] (wc := [(Rd, .inr (4, [.ref Tp, .int (nI ln), .int (nI axx_2), .int (-1), .int (nI ht), .int (nI ct), .ref Rv])), (Tp, .inl (g 0, 160, .inl ftp))]) (wr := [(Rv, .inl (g 0, 21, .inl fval))]) rfl rfl rfl rfl (by decide) (r_X4_isDigitHere l D g H.size Rd Tp ln axx_2 (-1) ht ct Rv ftp (show ln ≤ 160 by omega) (show axx_2 ≤ ln by omega)) (cwV 0 hts gX4_readNumber_X4_isDigitHere rfl rfl rfl (by decide +kernel) ⟨(Nat.le_of_ble_eq_true rfl), (Nat.le_of_ble_eq_true rfl)⟩) 1 4 rfl rfl rfl rfl hl.1 rfl (Nat.le_of_ble_eq_true rfl) dX4_readNumber_16 ⟨(Nat.le_of_ble_eq_true rfl), (Nat.le_of_ble_eq_true rfl)⟩ (fun r_5 u H locs hw hP2 hD2 hS2 => ?_)
  clear hP hD hS
  obtain ⟨rfl, rfl⟩ := hw
  have hPD : PD D A [(Rv, .inl (g 0, 21, .inl fval)), (Rd, .inr (4, [.ref Tp, .int (nI ln), .int (nI axx_2), .int (-1), .int (nI ht), .int (nI ct), .ref Rv])), (Tp, .inl (g 0, 160, .inl ftp))] H := ⟨hP2, hD2⟩
  have hS := hS2; clear hP2 hD2 hS2; have hP := hPD.1; have hD := hPD.2; clear hPD
  refine W.widen (k := 0) (n := 0) (Nat.le_of_ble_eq_true rfl) (Nat.le_of_ble_eq_true rfl) ?_
  refine lv_if_eq (tgt := 56) hx hb dX4_readNumber_19 (by decide) (fun cb_6 => ?_) (fun cb_6 => ?_)
  · skip
    have hq_7 : ¬ (pD ftp ln axx_2) := b01_0.mp cb_6
    refine lv_iload hx hb dX4_readNumber_56 (lv_at hl 0 rfl) ?_
    refine lv_if_eq (tgt := 68) hx hb dX4_readNumber_58 (by decide) (fun _ => ?_) (fun cb => absurd (by decide) cb)
    refine lv_aload_n hx hb dX4_readNumber_68 rfl (lv_at hl 2 rfl) ?_
    refine lv_aload_n hx hb dX4_readNumber_69 rfl (lv_at hl 2 rfl) ?_
    refine va_get (D := D) (ci := 4) (v := .int (nI axx_2)) (C := RX4) (T := TX4) (N := 7) hx hb hts iX4 hown hK hP 1 rfl rfl 2 (by decide) f28 (fun _ h9 => h9) rfl dX4_readNumber_70 ?_
    refine va_put (D := D) (ci := 4) (v := .int (nI axx_2)) (ty := .int) (C := RX4) (T := TX4) (N := 7) hx hb hts iX4 tyX4 tyX4_ok nmX4 hown hK hP hD hS 1 rfl rfl 3 (by decide) f31 (fun _ h9 => h9) rfl (by decide +kernel) (rfl) (rfl) (Nat.le_of_ble_eq_true rfl) dX4_readNumber_73 (fun H locs hP2 hD2 hS2 => ?_)
    clear hP hD hS
    have hPD : PD D A [(Rv, .inl (g 0, 21, .inl fval)), (Rd, .inr (4, [.ref Tp, .int (nI ln), .int (nI axx_2), .int (nI axx_2), .int (nI ht), .int (nI ct), .ref Rv])), (Tp, .inl (g 0, 160, .inl ftp))] H := ⟨hP2, hD2⟩
    have hS := hS2; clear hP2 hD2 hS2; have hP := hPD.1; have hD := hPD.2; clear hPD
    have hPD9 : PD D A [(Rd, .inr (4, [.ref Tp, .int (nI ln), .int (nI axx_2), .int (nI axx_2), .int (nI ht), .int (nI ct), .ref Rv])), (Tp, .inl (g 0, 160, .inl ftp)), (Rv, .inl (g 0, 21, .inl fval))] H := ⟨hP.sub [1, 2, 0] rfl, hD.sub [1, 2, 0] (by decide) rfl⟩
    have hP9 := hPD9.1; have hD9 := hPD9.2
    subst hQ
    refine W.widen (k := 0) (n := 0) (Nat.le_of_ble_eq_true rfl) (Nat.le_of_ble_eq_true rfl) ?_
    exact W.vret hx hb hr (fun tS htS _ => ⟨⟨_, rfl, ⟨axx_2, (nI axx_2), fval, rfl, (show axx_2 ≤ ln by omega), h2, (nm_0 (show axx_2 = sB ftp ln ax by omega) hq_7).symm, (fun q => absurd q (m1_ne (show axx_2 < 2 ^ 31 by omega)))⟩, by rw [htS]; exact hP9, hD9⟩, hS.F htS⟩) hS.2.2 dX4_readNumber_76
  · skip
    have hq_8 : pD ftp ln axx_2 := b01_1.mp cb_6
    refine lv_iload_n hx hb dX4_readNumber_22 rfl (lv_at hl 1 rfl) ?_
    refine lv_bipush (v := 10) hx hb dX4_readNumber_23 (by decide) ?_
    refine lv_imul hx hb dX4_readNumber_25 ?_
    refine lv_eqi (y := 0) (by decide) ?_
    refine lv_aload_n hx hb dX4_readNumber_26 rfl (lv_at hl 2 rfl) ?_
    refine va_get (D := D) (ci := 4) (v := .ref Tp) (C := RX4) (T := TX4) (N := 7) hx hb hts iX4 hown hK hP 1 rfl rfl 0 (by decide) f9 (fun _ h9 => h9) rfl dX4_readNumber_27 ?_
    refine lv_aload_n hx hb dX4_readNumber_30 rfl (lv_at hl 2 rfl) ?_
    refine va_get (D := D) (ci := 4) (v := .int (nI axx_2)) (C := RX4) (T := TX4) (N := 7) hx hb hts iX4 hown hK hP 1 rfl rfl 2 (by decide) f28 (fun _ h9 => h9) rfl dX4_readNumber_31 ?_
    refine va_iald hx hb hK hP 2 0 rfl rfl (vp_in_nI (show axx_2 < 160 by omega) (by decide)) dX4_readNumber_34 ?_
    refine lv_eqi (y := (ftp (axx_2))) (congrArg ftp (nI_clamp (show axx_2 < 2 ^ 31 by omega))) ?_
    refine lv_iadd hx hb dX4_readNumber_35 ?_
    refine lv_bipush (v := 48) hx hb dX4_readNumber_36 (by decide) ?_
    refine lv_isub hx hb dX4_readNumber_38 ?_
    refine lv_istore_n (lv' := [(3, .int ((0 + (ftp (axx_2))) - 48)), (4, .int 0), (0, .ref Rd), (1, .int 0), (2, .int 2)]) hx hb dX4_readNumber_39 rfl hl (by decide) rfl (fun ls hl => ?_)
    refine lv_iinc (v := 1) (lv' := [(4, .int 1), (3, .int ((0 + (ftp (axx_2))) - 48)), (0, .ref Rd), (1, .int 0), (2, .int 2)]) hx hb dX4_readNumber_40 hl (k := 1) rfl (by decide) (by decide) rfl (fun ls hl => ?_)
    refine lv_aload_n hx hb dX4_readNumber_43 rfl (lv_at hl 2 rfl) ?_
    refine lv_dup hx hb dX4_readNumber_44 rfl ?_
    refine va_get (D := D) (ci := 4) (v := .int (nI axx_2)) (C := RX4) (T := TX4) (N := 7) hx hb hts iX4 hown hK hP 1 rfl rfl 2 (by decide) f28 (fun _ h9 => h9) rfl dX4_readNumber_45 ?_
    refine lv_iconst (v := 1) hx hb dX4_readNumber_48 (by decide) ?_
    refine lv_iadd hx hb dX4_readNumber_49 ?_
    refine lv_eqi (y := (nI (axx_2 + 1))) (nI_add (axx_2) (1)) ?_
    refine va_put (D := D) (ci := 4) (v := .int (nI (axx_2 + 1))) (ty := .int) (C := RX4) (T := TX4) (N := 7) hx hb hts iX4 tyX4 tyX4_ok nmX4 hown hK hP hD hS 1 rfl rfl 2 (by decide) f28 (fun _ h9 => h9) rfl (by decide +kernel) (rfl) (rfl) (Nat.le_of_ble_eq_true rfl) dX4_readNumber_50 (fun H locs hP2 hD2 hS2 => ?_)
    clear hP hD hS
    have hPD : PD D A [(Rv, .inl (g 0, 21, .inl fval)), (Rd, .inr (4, [.ref Tp, .int (nI ln), .int (nI (axx_2 + 1)), .int (-1), .int (nI ht), .int (nI ct), .ref Rv])), (Tp, .inl (g 0, 160, .inl ftp))] H := ⟨hP2, hD2⟩
    have hS := hS2; clear hP2 hD2 hS2; have hP := hPD.1; have hD := hPD.2; clear hPD
    refine lv_goto (tgt := 9) hx hb dX4_readNumber_53 (by decide) ?_
    refine lv_iload hx hb dX4_readNumber_9 (lv_at hl 0 rfl) ?_
    refine lv_iconst (v := 2) hx hb dX4_readNumber_11 (by decide) ?_
    refine lv_icmp_ge (tgt := 56) hx hb dX4_readNumber_12 (by decide) (fun cb => absurd cb (by decide)) (fun _ => ?_)
    refine lv_aload_n hx hb dX4_readNumber_15 rfl (lv_at hl 2 rfl) ?_
    refine ky_Vi (As := []) (rest := []) ⟨hx, hb, hml, hown, hts⟩ ⟨hK, hN⟩ hZ hP hD hS hA [1, 2] [0] (wc := [(Rd, .inr (4, [.ref Tp, .int (nI ln), .int (nI (axx_2 + 1)), .int (-1), .int (nI ht), .int (nI ct), .ref Rv])), (Tp, .inl (g 0, 160, .inl ftp))]) (wr := [(Rv, .inl (g 0, 21, .inl fval))]) rfl rfl rfl rfl (by decide) (r_X4_isDigitHere l D g H.size Rd Tp ln (axx_2 + 1) (-1) ht ct Rv ftp (show ln ≤ 160 by omega) (show (axx_2 + 1) ≤ ln by omega)) (cwV 0 hts gX4_readNumber_X4_isDigitHere rfl rfl rfl (by decide +kernel) ⟨(Nat.le_of_ble_eq_true rfl), (Nat.le_of_ble_eq_true rfl)⟩) 1 4 rfl rfl rfl rfl hl.1 rfl (Nat.le_of_ble_eq_true rfl) dX4_readNumber_16 ⟨(Nat.le_of_ble_eq_true rfl), (Nat.le_of_ble_eq_true rfl)⟩ (fun r_9 u H locs hw hP2 hD2 hS2 => ?_)
    clear hP hD hS
    obtain ⟨rfl, rfl⟩ := hw
    have hPD : PD D A [(Rv, .inl (g 0, 21, .inl fval)), (Rd, .inr (4, [.ref Tp, .int (nI ln), .int (nI (axx_2 + 1)), .int (-1), .int (nI ht), .int (nI ct), .ref Rv])), (Tp, .inl (g 0, 160, .inl ftp))] H := ⟨hP2, hD2⟩
    have hS := hS2; clear hP2 hD2 hS2; have hP := hPD.1; have hD := hPD.2; clear hPD
    refine W.widen (k := 0) (n := 0) (Nat.le_of_ble_eq_true rfl) (Nat.le_of_ble_eq_true rfl) ?_
    refine lv_if_eq (tgt := 56) hx hb dX4_readNumber_19 (by decide) (fun cb_10 => ?_) (fun cb_10 => ?_)
    · skip
      have hq_11 : ¬ (pD ftp ln (axx_2 + 1)) := b01_0.mp cb_10
      refine lv_iload hx hb dX4_readNumber_56 (lv_at hl 0 rfl) ?_
      refine lv_if_eq (tgt := 68) hx hb dX4_readNumber_58 (by decide) (fun cb => absurd cb (by decide)) (fun _ => ?_)
      refine lv_aload_n hx hb dX4_readNumber_61 rfl (lv_at hl 2 rfl) ?_
      refine ky_Vi (As := []) (rest := []) ⟨hx, hb, hml, hown, hts⟩ ⟨hK, hN⟩ hZ hP hD hS hA [1, 2] [0] (wc := [(Rd, .inr (4, [.ref Tp, .int (nI ln), .int (nI (axx_2 + 1)), .int (-1), .int (nI ht), .int (nI ct), .ref Rv])), (Tp, .inl (g 0, 160, .inl ftp))]) (wr := [(Rv, .inl (g 0, 21, .inl fval))]) rfl rfl rfl rfl (by decide) (r_X4_isDigitHere l D g H.size Rd Tp ln (axx_2 + 1) (-1) ht ct Rv ftp (show ln ≤ 160 by omega) (show (axx_2 + 1) ≤ ln by omega)) (cwV 0 hts gX4_readNumber_X4_isDigitHere rfl rfl rfl (by decide +kernel) ⟨(Nat.le_of_ble_eq_true rfl), (Nat.le_of_ble_eq_true rfl)⟩) 1 4 rfl rfl rfl rfl hl.1 rfl (Nat.le_of_ble_eq_true rfl) dX4_readNumber_62 ⟨(Nat.le_of_ble_eq_true rfl), (Nat.le_of_ble_eq_true rfl)⟩ (fun r_12 u H locs hw hP2 hD2 hS2 => ?_)
      clear hP hD hS
      obtain ⟨rfl, rfl⟩ := hw
      have hPD : PD D A [(Rv, .inl (g 0, 21, .inl fval)), (Rd, .inr (4, [.ref Tp, .int (nI ln), .int (nI (axx_2 + 1)), .int (-1), .int (nI ht), .int (nI ct), .ref Rv])), (Tp, .inl (g 0, 160, .inl ftp))] H := ⟨hP2, hD2⟩
      have hS := hS2; clear hP2 hD2 hS2; have hP := hPD.1; have hD := hPD.2; clear hPD
      refine W.widen (k := 0) (n := 0) (Nat.le_of_ble_eq_true rfl) (Nat.le_of_ble_eq_true rfl) ?_
      refine lv_if_eq (tgt := 77) hx hb dX4_readNumber_65 (by decide) (fun cb_13 => ?_) (fun cb_13 => ?_)
      · skip
        have hq_14 : ¬ (pD ftp ln (axx_2 + 1)) := b01_0.mp cb_13
        refine lv_iload_n hx hb dX4_readNumber_77 rfl (lv_at hl 3 rfl) ?_
        refine ky_Si (As := [.int 0]) (rest := []) ⟨hx, hb, hml, hown, hts⟩ ⟨hK, hN⟩ hZ hP hD hS hA [] [0, 1, 2] (wc := []) (wr := [(Rv, .inl (g 0, 21, .inl fval)), (Rd, .inr (4, [.ref Tp, .int (nI ln), .int (nI (axx_2 + 1)), .int (-1), .int (nI ht), .int (nI ct), .ref Rv])), (Tp, .inl (g 0, 160, .inl ftp))]) rfl rfl rfl rfl (by decide) (k_X4_kindOf_0 l D g H.size) (va_cwS 1 hts gX4_readNumber_X4_kindOf rfl rfl rfl (by decide +kernel) ⟨(Nat.le_of_ble_eq_true rfl), (Nat.le_of_ble_eq_true rfl)⟩) rfl hl.1 rfl (Nat.le_of_ble_eq_true rfl) dX4_readNumber_78 ⟨(Nat.le_of_ble_eq_true rfl), (Nat.le_of_ble_eq_true rfl)⟩ (fun r_15 u H locs hw hP2 hD2 hS2 => ?_)
        clear hP hD hS
        obtain ⟨rfl, rfl⟩ := hw
        have hPD : PD D A [(Rv, .inl (g 0, 21, .inl fval)), (Rd, .inr (4, [.ref Tp, .int (nI ln), .int (nI (axx_2 + 1)), .int (-1), .int (nI ht), .int (nI ct), .ref Rv])), (Tp, .inl (g 0, 160, .inl ftp))] H := ⟨hP2, hD2⟩
        have hS := hS2; clear hP2 hD2 hS2; have hP := hPD.1; have hD := hPD.2; clear hPD
        refine W.widen (k := 0) (n := 0) (Nat.le_of_ble_eq_true rfl) (Nat.le_of_ble_eq_true rfl) ?_
        refine lv_iconst (v := 3) hx hb dX4_readNumber_81 (by decide) ?_
        refine lv_imul hx hb dX4_readNumber_82 ?_
        refine lv_eqi (y := 0) (by decide) ?_
        refine lv_iload_n hx hb dX4_readNumber_83 rfl (lv_at hl 4 rfl) ?_
        refine lv_iadd hx hb dX4_readNumber_84 ?_
        refine lv_eqi (y := 2) (by decide) ?_
        refine lv_istore (lv' := [(5, .int 2), (4, .int 1), (3, .int ((0 + (ftp (axx_2))) - 48)), (0, .ref Rd), (1, .int 0), (2, .int 2)]) hx hb dX4_readNumber_85 hl (by decide) rfl (fun ls hl => ?_)
        refine lv_iload_n hx hb dX4_readNumber_87 rfl (lv_at hl 2 rfl) ?_
        refine va_gets hx hb hZ.2.2.1 hS hown f84 (fun _ h9 => h9) dX4_readNumber_88 ?_
        refine lv_iload hx hb dX4_readNumber_91 (lv_at hl 0 rfl) ?_
        refine va_ti (v := .int 0) hx hb hZ.2.2.2.1 hS (by unfold vp_in; decide) rfl dX4_readNumber_93 ?_
        refine va_gets hx hb hZ.2.2.2.2.1 hS hown f87 (fun _ h9 => h9) dX4_readNumber_94 ?_
        refine lv_iload hx hb dX4_readNumber_97 (lv_at hl 0 rfl) ?_
        refine va_ti (v := .int 9) hx hb hZ.2.2.2.2.2.1 hS (by unfold vp_in; decide) rfl dX4_readNumber_99 ?_
        refine ky_SNi (As := [.int ((0 + (ftp (axx_2))) - 48), .int 0, .int 9]) (rest := []) ⟨hx, hb, hml, hown, hts⟩ ⟨hK, hN⟩ hZ hP hD hS hA [] [0, 1, 2] (wc := []) (wr := [(Rv, .inl (g 0, 21, .inl fval)), (Rd, .inr (4, [.ref Tp, .int (nI ln), .int (nI (axx_2 + 1)), .int (-1), .int (nI ht), .int (nI ct), .ref Rv])), (Tp, .inl (g 0, 160, .inl ftp))]) rfl rfl rfl rfl (by decide) (k_X6_outside l D g H.size ((0 + (ftp (axx_2))) - 48) 0 9) ⟨va_cnB 3 hts ggX4_readNumber_X6_outside rfl rfl rfl hN.2.2.2.2.2.1 iiX6 (by decide +kernel) ⟨(Nat.le_of_ble_eq_true rfl), (Nat.le_of_ble_eq_true rfl)⟩, stX6_outside, trivial⟩ rfl hl.1 rfl (Nat.le_of_ble_eq_true rfl) dX4_readNumber_100 ⟨(Nat.le_of_ble_eq_true rfl), (Nat.le_of_ble_eq_true rfl)⟩ (fun r_16 u H locs hw hP2 hD2 hS2 => ?_)
        clear hP hD hS
        obtain ⟨rfl, rfl⟩ := hw
        have hPD : PD D A [(Rv, .inl (g 0, 21, .inl fval)), (Rd, .inr (4, [.ref Tp, .int (nI ln), .int (nI (axx_2 + 1)), .int (-1), .int (nI ht), .int (nI ct), .ref Rv])), (Tp, .inl (g 0, 160, .inl ftp))] H := ⟨hP2, hD2⟩
        have hS := hS2; clear hP2 hD2 hS2; have hP := hPD.1; have hD := hPD.2; clear hPD
        refine W.widen (k := 0) (n := 0) (Nat.le_of_ble_eq_true rfl) (Nat.le_of_ble_eq_true rfl) ?_
        refine lv_if_eq (tgt := 117) hx hb dX4_readNumber_103 (by decide) (fun cb_17 => ?_) (fun cb_17 => ?_)
        · skip
          have hq_18 : ¬ (((0 + (ftp (axx_2))) - 48) < 0 ∨ 9 < ((0 + (ftp (axx_2))) - 48)) := b01_0.mp cb_17
          have hq_19 : ¬ ((0 + (ftp (axx_2))) - 48) < 0 := fun q => hq_18 (Or.inl q); have hq_20 : ¬ (9 < ((0 + (ftp (axx_2))) - 48)) := fun q => hq_18 (Or.inr q)
          refine lv_aload_n hx hb dX4_readNumber_117 rfl (lv_at hl 3 rfl) ?_
          refine va_get (D := D) (ci := 4) (v := .ref Rv) (C := RX4) (T := TX4) (N := 7) hx hb hts iX4 hown hK hP 1 rfl rfl 6 (by decide) f15 (fun _ h9 => h9) rfl dX4_readNumber_118 ?_
          refine lv_iload_n hx hb dX4_readNumber_121 rfl (lv_at hl 4 rfl) ?_
          refine lv_iconst (v := 3) hx hb dX4_readNumber_122 (by decide) ?_
          refine lv_imul hx hb dX4_readNumber_123 ?_
          refine lv_eqi (y := 0) (by decide) ?_
          refine lv_iload_n hx hb dX4_readNumber_124 rfl (lv_at hl 5 rfl) ?_
          refine lv_iadd hx hb dX4_readNumber_125 ?_
          refine lv_eqi (y := 2) (by decide) ?_
          refine lv_iload_n hx hb dX4_readNumber_126 rfl (lv_at hl 2 rfl) ?_
          refine va_iast hx hb hK hP hD hS 0 0 rfl rfl (by unfold vp_in; decide) dX4_readNumber_127 (fun H locs hP2 hD2 hS2 => ?_)
          clear hP hD hS
          have hPD : PD D A [(Rv, .inl (g 0, 21, .inl (upd fval 2 ((0 + (ftp (axx_2))) - 48)))), (Rd, .inr (4, [.ref Tp, .int (nI ln), .int (nI (axx_2 + 1)), .int (-1), .int (nI ht), .int (nI ct), .ref Rv])), (Tp, .inl (g 0, 160, .inl ftp))] H := ⟨hP2, hD2⟩
          have hS := hS2; clear hP2 hD2 hS2; have hP := hPD.1; have hD := hPD.2; clear hPD
          have hPD9 : PD D A [(Rd, .inr (4, [.ref Tp, .int (nI ln), .int (nI (axx_2 + 1)), .int (-1), .int (nI ht), .int (nI ct), .ref Rv])), (Tp, .inl (g 0, 160, .inl ftp)), (Rv, .inl (g 0, 21, .inl (upd fval 2 ((0 + (ftp (axx_2))) - 48))))] H := ⟨hP.sub [1, 2, 0] rfl, hD.sub [1, 2, 0] (by decide) rfl⟩
          have hP9 := hPD9.1; have hD9 := hPD9.2
          subst hQ
          refine W.widen (k := 0) (n := 0) (Nat.le_of_ble_eq_true rfl) (Nat.le_of_ble_eq_true rfl) ?_
          exact W.vret hx hb hr (fun tS htS _ => ⟨⟨_, rfl, ⟨(axx_2 + 1), (-1), (upd fval 2 ((0 + (ftp (axx_2))) - 48)), rfl, (show (axx_2 + 1) ≤ ln by omega), (vOK_rng (k := 2) (L := 0) (U := 9) h2 rfl rfl (by decide) (by decide) hq_18 (Nat.le_of_ble_eq_true rfl)), (by rw [nm_b (show axx_2 = sB ftp ln ax by omega) hq_8 (fun q => hq_11 q.1), (nm_1 (show axx_2 = sB ftp ln ax by omega) hq_8 hq_11).1, (show nmV ftp ln ax = ((0 + (ftp (axx_2))) - 48) from (nm_1 (show axx_2 = sB ftp ln ax by omega) hq_8 hq_11).2), if_neg hq_18]), (fun _ => ⟨(nm_1 (show axx_2 = sB ftp ln ax by omega) hq_8 hq_11).1.symm, by rw [(show nmV ftp ln ax = ((0 + (ftp (axx_2))) - 48) from (nm_1 (show axx_2 = sB ftp ln ax by omega) hq_8 hq_11).2)]⟩)⟩, by rw [htS]; exact hP9, hD9⟩, hS.F htS⟩) hS.2.2 dX4_readNumber_128
        · skip
          have hq_21 : ((0 + (ftp (axx_2))) - 48) < 0 ∨ 9 < ((0 + (ftp (axx_2))) - 48) := b01_1.mp cb_17
          refine lv_aload_n hx hb dX4_readNumber_106 rfl (lv_at hl 3 rfl) ?_
          refine lv_aload_n hx hb dX4_readNumber_107 rfl (lv_at hl 3 rfl) ?_
          refine va_get (D := D) (ci := 4) (v := .int (nI (axx_2 + 1))) (C := RX4) (T := TX4) (N := 7) hx hb hts iX4 hown hK hP 1 rfl rfl 2 (by decide) f28 (fun _ h9 => h9) rfl dX4_readNumber_108 ?_
          refine lv_iconst (v := 1) hx hb dX4_readNumber_111 (by decide) ?_
          refine lv_isub hx hb dX4_readNumber_112 ?_
          refine lv_eqi (y := (nI ((axx_2 + 1) - 1))) (pk_sub (show 1 ≤ axx_2 + 1 by omega)) ?_
          refine va_put (D := D) (ci := 4) (v := .int (nI ((axx_2 + 1) - 1))) (ty := .int) (C := RX4) (T := TX4) (N := 7) hx hb hts iX4 tyX4 tyX4_ok nmX4 hown hK hP hD hS 1 rfl rfl 3 (by decide) f31 (fun _ h9 => h9) rfl (by decide +kernel) (rfl) (rfl) (Nat.le_of_ble_eq_true rfl) dX4_readNumber_113 (fun H locs hP2 hD2 hS2 => ?_)
          clear hP hD hS
          have hPD : PD D A [(Rv, .inl (g 0, 21, .inl fval)), (Rd, .inr (4, [.ref Tp, .int (nI ln), .int (nI (axx_2 + 1)), .int (nI ((axx_2 + 1) - 1)), .int (nI ht), .int (nI ct), .ref Rv])), (Tp, .inl (g 0, 160, .inl ftp))] H := ⟨hP2, hD2⟩
          have hS := hS2; clear hP2 hD2 hS2; have hP := hPD.1; have hD := hPD.2; clear hPD
          have hPD9 : PD D A [(Rd, .inr (4, [.ref Tp, .int (nI ln), .int (nI (axx_2 + 1)), .int (nI ((axx_2 + 1) - 1)), .int (nI ht), .int (nI ct), .ref Rv])), (Tp, .inl (g 0, 160, .inl ftp)), (Rv, .inl (g 0, 21, .inl fval))] H := ⟨hP.sub [1, 2, 0] rfl, hD.sub [1, 2, 0] (by decide) rfl⟩
          have hP9 := hPD9.1; have hD9 := hPD9.2
          subst hQ
          refine W.widen (k := 0) (n := 0) (Nat.le_of_ble_eq_true rfl) (Nat.le_of_ble_eq_true rfl) ?_
          exact W.vret hx hb hr (fun tS htS _ => ⟨⟨_, rfl, ⟨(axx_2 + 1), (nI ((axx_2 + 1) - 1)), fval, rfl, (show (axx_2 + 1) ≤ ln by omega), h2, (by rw [nm_b (show axx_2 = sB ftp ln ax by omega) hq_8 (fun q => hq_11 q.1), (nm_1 (show axx_2 = sB ftp ln ax by omega) hq_8 hq_11).1, (show nmV ftp ln ax = ((0 + (ftp (axx_2))) - 48) from (nm_1 (show axx_2 = sB ftp ln ax by omega) hq_8 hq_11).2), if_pos hq_21]), (fun q => absurd q (m1_ne (show axx_2 + 1 - 1 < 2 ^ 31 by omega)))⟩, by rw [htS]; exact hP9, hD9⟩, hS.F htS⟩) hS.2.2 dX4_readNumber_116
      · skip
        have hq_22 : pD ftp ln (axx_2 + 1) := b01_1.mp cb_13
        refine lv_aload_n hx hb dX4_readNumber_68 rfl (lv_at hl 2 rfl) ?_
        refine lv_aload_n hx hb dX4_readNumber_69 rfl (lv_at hl 2 rfl) ?_
        refine va_get (D := D) (ci := 4) (v := .int (nI (axx_2 + 1))) (C := RX4) (T := TX4) (N := 7) hx hb hts iX4 hown hK hP 1 rfl rfl 2 (by decide) f28 (fun _ h9 => h9) rfl dX4_readNumber_70 ?_
        refine va_put (D := D) (ci := 4) (v := .int (nI (axx_2 + 1))) (ty := .int) (C := RX4) (T := TX4) (N := 7) hx hb hts iX4 tyX4 tyX4_ok nmX4 hown hK hP hD hS 1 rfl rfl 3 (by decide) f31 (fun _ h9 => h9) rfl (by decide +kernel) (rfl) (rfl) (Nat.le_of_ble_eq_true rfl) dX4_readNumber_73 (fun H locs hP2 hD2 hS2 => ?_)
        clear hP hD hS
        have hPD : PD D A [(Rv, .inl (g 0, 21, .inl fval)), (Rd, .inr (4, [.ref Tp, .int (nI ln), .int (nI (axx_2 + 1)), .int (nI (axx_2 + 1)), .int (nI ht), .int (nI ct), .ref Rv])), (Tp, .inl (g 0, 160, .inl ftp))] H := ⟨hP2, hD2⟩
        have hS := hS2; clear hP2 hD2 hS2; have hP := hPD.1; have hD := hPD.2; clear hPD
        have hPD9 : PD D A [(Rd, .inr (4, [.ref Tp, .int (nI ln), .int (nI (axx_2 + 1)), .int (nI (axx_2 + 1)), .int (nI ht), .int (nI ct), .ref Rv])), (Tp, .inl (g 0, 160, .inl ftp)), (Rv, .inl (g 0, 21, .inl fval))] H := ⟨hP.sub [1, 2, 0] rfl, hD.sub [1, 2, 0] (by decide) rfl⟩
        have hP9 := hPD9.1; have hD9 := hPD9.2
        subst hQ
        refine W.widen (k := 0) (n := 0) (Nat.le_of_ble_eq_true rfl) (Nat.le_of_ble_eq_true rfl) ?_
        exact W.vret hx hb hr (fun tS htS _ => ⟨⟨_, rfl, ⟨(axx_2 + 1), (nI (axx_2 + 1)), fval, rfl, (show (axx_2 + 1) ≤ ln by omega), h2, (absurd hq_22 hq_11), (absurd hq_22 hq_11)⟩, by rw [htS]; exact hP9, hD9⟩, hS.F htS⟩) hS.2.2 dX4_readNumber_76
    · skip
      have hq_23 : pD ftp ln (axx_2 + 1) := b01_1.mp cb_10
      refine lv_iload_n hx hb dX4_readNumber_22 rfl (lv_at hl 1 rfl) ?_
      refine lv_bipush (v := 10) hx hb dX4_readNumber_23 (by decide) ?_
      refine lv_imul hx hb dX4_readNumber_25 ?_
      refine lv_aload_n hx hb dX4_readNumber_26 rfl (lv_at hl 2 rfl) ?_
      refine va_get (D := D) (ci := 4) (v := .ref Tp) (C := RX4) (T := TX4) (N := 7) hx hb hts iX4 hown hK hP 1 rfl rfl 0 (by decide) f9 (fun _ h9 => h9) rfl dX4_readNumber_27 ?_
      refine lv_aload_n hx hb dX4_readNumber_30 rfl (lv_at hl 2 rfl) ?_
      refine va_get (D := D) (ci := 4) (v := .int (nI (axx_2 + 1))) (C := RX4) (T := TX4) (N := 7) hx hb hts iX4 hown hK hP 1 rfl rfl 2 (by decide) f28 (fun _ h9 => h9) rfl dX4_readNumber_31 ?_
      refine va_iald hx hb hK hP 2 0 rfl rfl (vp_in_nI (show axx_2 + 1 < 160 by omega) (by decide)) dX4_readNumber_34 ?_
      refine lv_eqi (y := (ftp (axx_2 + 1))) (congrArg ftp (nI_clamp (show axx_2 + 1 < 2 ^ 31 by omega))) ?_
      refine lv_iadd hx hb dX4_readNumber_35 ?_
      refine lv_bipush (v := 48) hx hb dX4_readNumber_36 (by decide) ?_
      refine lv_isub hx hb dX4_readNumber_38 ?_
      refine lv_istore_n (lv' := [(3, .int (((((0 + (ftp (axx_2))) - 48) * 10) + (ftp (axx_2 + 1))) - 48)), (4, .int 1), (0, .ref Rd), (1, .int 0), (2, .int 2)]) hx hb dX4_readNumber_39 rfl hl (by decide) rfl (fun ls hl => ?_)
      refine lv_iinc (v := 2) (lv' := [(4, .int 2), (3, .int (((((0 + (ftp (axx_2))) - 48) * 10) + (ftp (axx_2 + 1))) - 48)), (0, .ref Rd), (1, .int 0), (2, .int 2)]) hx hb dX4_readNumber_40 hl (k := 1) rfl (by decide) (by decide) rfl (fun ls hl => ?_)
      refine lv_aload_n hx hb dX4_readNumber_43 rfl (lv_at hl 2 rfl) ?_
      refine lv_dup hx hb dX4_readNumber_44 rfl ?_
      refine va_get (D := D) (ci := 4) (v := .int (nI (axx_2 + 1))) (C := RX4) (T := TX4) (N := 7) hx hb hts iX4 hown hK hP 1 rfl rfl 2 (by decide) f28 (fun _ h9 => h9) rfl dX4_readNumber_45 ?_
      refine lv_iconst (v := 1) hx hb dX4_readNumber_48 (by decide) ?_
      refine lv_iadd hx hb dX4_readNumber_49 ?_
      refine lv_eqi (y := (nI (axx_2 + 1 + 1))) (nI_add (axx_2 + 1) (1)) ?_
      refine va_put (D := D) (ci := 4) (v := .int (nI (axx_2 + 1 + 1))) (ty := .int) (C := RX4) (T := TX4) (N := 7) hx hb hts iX4 tyX4 tyX4_ok nmX4 hown hK hP hD hS 1 rfl rfl 2 (by decide) f28 (fun _ h9 => h9) rfl (by decide +kernel) (rfl) (rfl) (Nat.le_of_ble_eq_true rfl) dX4_readNumber_50 (fun H locs hP2 hD2 hS2 => ?_)
      clear hP hD hS
      have hPD : PD D A [(Rv, .inl (g 0, 21, .inl fval)), (Rd, .inr (4, [.ref Tp, .int (nI ln), .int (nI (axx_2 + 1 + 1)), .int (-1), .int (nI ht), .int (nI ct), .ref Rv])), (Tp, .inl (g 0, 160, .inl ftp))] H := ⟨hP2, hD2⟩
      have hS := hS2; clear hP2 hD2 hS2; have hP := hPD.1; have hD := hPD.2; clear hPD
      refine lv_goto (tgt := 9) hx hb dX4_readNumber_53 (by decide) ?_
      refine lv_iload hx hb dX4_readNumber_9 (lv_at hl 0 rfl) ?_
      refine lv_iconst (v := 2) hx hb dX4_readNumber_11 (by decide) ?_
      refine lv_icmp_ge (tgt := 56) hx hb dX4_readNumber_12 (by decide) (fun _ => ?_) (fun cb => absurd (by decide) cb)
      refine lv_iload hx hb dX4_readNumber_56 (lv_at hl 0 rfl) ?_
      refine lv_if_eq (tgt := 68) hx hb dX4_readNumber_58 (by decide) (fun cb => absurd cb (by decide)) (fun _ => ?_)
      refine lv_aload_n hx hb dX4_readNumber_61 rfl (lv_at hl 2 rfl) ?_
      refine ky_Vi (As := []) (rest := []) ⟨hx, hb, hml, hown, hts⟩ ⟨hK, hN⟩ hZ hP hD hS hA [1, 2] [0] (wc := [(Rd, .inr (4, [.ref Tp, .int (nI ln), .int (nI (axx_2 + 1 + 1)), .int (-1), .int (nI ht), .int (nI ct), .ref Rv])), (Tp, .inl (g 0, 160, .inl ftp))]) (wr := [(Rv, .inl (g 0, 21, .inl fval))]) rfl rfl rfl rfl (by decide) (r_X4_isDigitHere l D g H.size Rd Tp ln (axx_2 + 1 + 1) (-1) ht ct Rv ftp (show ln ≤ 160 by omega) (show (axx_2 + 1 + 1) ≤ ln by omega)) (cwV 0 hts gX4_readNumber_X4_isDigitHere rfl rfl rfl (by decide +kernel) ⟨(Nat.le_of_ble_eq_true rfl), (Nat.le_of_ble_eq_true rfl)⟩) 1 4 rfl rfl rfl rfl hl.1 rfl (Nat.le_of_ble_eq_true rfl) dX4_readNumber_62 ⟨(Nat.le_of_ble_eq_true rfl), (Nat.le_of_ble_eq_true rfl)⟩ (fun r_24 u H locs hw hP2 hD2 hS2 => ?_)
      clear hP hD hS
      obtain ⟨rfl, rfl⟩ := hw
      have hPD : PD D A [(Rv, .inl (g 0, 21, .inl fval)), (Rd, .inr (4, [.ref Tp, .int (nI ln), .int (nI (axx_2 + 1 + 1)), .int (-1), .int (nI ht), .int (nI ct), .ref Rv])), (Tp, .inl (g 0, 160, .inl ftp))] H := ⟨hP2, hD2⟩
      have hS := hS2; clear hP2 hD2 hS2; have hP := hPD.1; have hD := hPD.2; clear hPD
      refine W.widen (k := 0) (n := 0) (Nat.le_of_ble_eq_true rfl) (Nat.le_of_ble_eq_true rfl) ?_
      refine lv_if_eq (tgt := 77) hx hb dX4_readNumber_65 (by decide) (fun cb_25 => ?_) (fun cb_25 => ?_)
      · skip
        have hq_26 : ¬ (pD ftp ln (axx_2 + 1 + 1)) := b01_0.mp cb_25
        refine lv_iload_n hx hb dX4_readNumber_77 rfl (lv_at hl 3 rfl) ?_
        refine ky_Si (As := [.int 0]) (rest := []) ⟨hx, hb, hml, hown, hts⟩ ⟨hK, hN⟩ hZ hP hD hS hA [] [0, 1, 2] (wc := []) (wr := [(Rv, .inl (g 0, 21, .inl fval)), (Rd, .inr (4, [.ref Tp, .int (nI ln), .int (nI (axx_2 + 1 + 1)), .int (-1), .int (nI ht), .int (nI ct), .ref Rv])), (Tp, .inl (g 0, 160, .inl ftp))]) rfl rfl rfl rfl (by decide) (k_X4_kindOf_0 l D g H.size) (va_cwS 1 hts gX4_readNumber_X4_kindOf rfl rfl rfl (by decide +kernel) ⟨(Nat.le_of_ble_eq_true rfl), (Nat.le_of_ble_eq_true rfl)⟩) rfl hl.1 rfl (Nat.le_of_ble_eq_true rfl) dX4_readNumber_78 ⟨(Nat.le_of_ble_eq_true rfl), (Nat.le_of_ble_eq_true rfl)⟩ (fun r_27 u H locs hw hP2 hD2 hS2 => ?_)
        clear hP hD hS
        obtain ⟨rfl, rfl⟩ := hw
        have hPD : PD D A [(Rv, .inl (g 0, 21, .inl fval)), (Rd, .inr (4, [.ref Tp, .int (nI ln), .int (nI (axx_2 + 1 + 1)), .int (-1), .int (nI ht), .int (nI ct), .ref Rv])), (Tp, .inl (g 0, 160, .inl ftp))] H := ⟨hP2, hD2⟩
        have hS := hS2; clear hP2 hD2 hS2; have hP := hPD.1; have hD := hPD.2; clear hPD
        refine W.widen (k := 0) (n := 0) (Nat.le_of_ble_eq_true rfl) (Nat.le_of_ble_eq_true rfl) ?_
        refine lv_iconst (v := 3) hx hb dX4_readNumber_81 (by decide) ?_
        refine lv_imul hx hb dX4_readNumber_82 ?_
        refine lv_eqi (y := 0) (by decide) ?_
        refine lv_iload_n hx hb dX4_readNumber_83 rfl (lv_at hl 4 rfl) ?_
        refine lv_iadd hx hb dX4_readNumber_84 ?_
        refine lv_eqi (y := 2) (by decide) ?_
        refine lv_istore (lv' := [(5, .int 2), (4, .int 2), (3, .int (((((0 + (ftp (axx_2))) - 48) * 10) + (ftp (axx_2 + 1))) - 48)), (0, .ref Rd), (1, .int 0), (2, .int 2)]) hx hb dX4_readNumber_85 hl (by decide) rfl (fun ls hl => ?_)
        refine lv_iload_n hx hb dX4_readNumber_87 rfl (lv_at hl 2 rfl) ?_
        refine va_gets hx hb hZ.2.2.1 hS hown f84 (fun _ h9 => h9) dX4_readNumber_88 ?_
        refine lv_iload hx hb dX4_readNumber_91 (lv_at hl 0 rfl) ?_
        refine va_ti (v := .int 0) hx hb hZ.2.2.2.1 hS (by unfold vp_in; decide) rfl dX4_readNumber_93 ?_
        refine va_gets hx hb hZ.2.2.2.2.1 hS hown f87 (fun _ h9 => h9) dX4_readNumber_94 ?_
        refine lv_iload hx hb dX4_readNumber_97 (lv_at hl 0 rfl) ?_
        refine va_ti (v := .int 9) hx hb hZ.2.2.2.2.2.1 hS (by unfold vp_in; decide) rfl dX4_readNumber_99 ?_
        refine ky_SNi (As := [.int (((((0 + (ftp (axx_2))) - 48) * 10) + (ftp (axx_2 + 1))) - 48), .int 0, .int 9]) (rest := []) ⟨hx, hb, hml, hown, hts⟩ ⟨hK, hN⟩ hZ hP hD hS hA [] [0, 1, 2] (wc := []) (wr := [(Rv, .inl (g 0, 21, .inl fval)), (Rd, .inr (4, [.ref Tp, .int (nI ln), .int (nI (axx_2 + 1 + 1)), .int (-1), .int (nI ht), .int (nI ct), .ref Rv])), (Tp, .inl (g 0, 160, .inl ftp))]) rfl rfl rfl rfl (by decide) (k_X6_outside l D g H.size (((((0 + (ftp (axx_2))) - 48) * 10) + (ftp (axx_2 + 1))) - 48) 0 9) ⟨va_cnB 3 hts ggX4_readNumber_X6_outside rfl rfl rfl hN.2.2.2.2.2.1 iiX6 (by decide +kernel) ⟨(Nat.le_of_ble_eq_true rfl), (Nat.le_of_ble_eq_true rfl)⟩, stX6_outside, trivial⟩ rfl hl.1 rfl (Nat.le_of_ble_eq_true rfl) dX4_readNumber_100 ⟨(Nat.le_of_ble_eq_true rfl), (Nat.le_of_ble_eq_true rfl)⟩ (fun r_28 u H locs hw hP2 hD2 hS2 => ?_)
        clear hP hD hS
        obtain ⟨rfl, rfl⟩ := hw
        have hPD : PD D A [(Rv, .inl (g 0, 21, .inl fval)), (Rd, .inr (4, [.ref Tp, .int (nI ln), .int (nI (axx_2 + 1 + 1)), .int (-1), .int (nI ht), .int (nI ct), .ref Rv])), (Tp, .inl (g 0, 160, .inl ftp))] H := ⟨hP2, hD2⟩
        have hS := hS2; clear hP2 hD2 hS2; have hP := hPD.1; have hD := hPD.2; clear hPD
        refine W.widen (k := 0) (n := 0) (Nat.le_of_ble_eq_true rfl) (Nat.le_of_ble_eq_true rfl) ?_
        refine lv_if_eq (tgt := 117) hx hb dX4_readNumber_103 (by decide) (fun cb_29 => ?_) (fun cb_29 => ?_)
        · skip
          have hq_30 : ¬ ((((((0 + (ftp (axx_2))) - 48) * 10) + (ftp (axx_2 + 1))) - 48) < 0 ∨ 9 < (((((0 + (ftp (axx_2))) - 48) * 10) + (ftp (axx_2 + 1))) - 48)) := b01_0.mp cb_29
          have hq_31 : ¬ (((((0 + (ftp (axx_2))) - 48) * 10) + (ftp (axx_2 + 1))) - 48) < 0 := fun q => hq_30 (Or.inl q); have hq_32 : ¬ (9 < (((((0 + (ftp (axx_2))) - 48) * 10) + (ftp (axx_2 + 1))) - 48)) := fun q => hq_30 (Or.inr q)
          refine lv_aload_n hx hb dX4_readNumber_117 rfl (lv_at hl 3 rfl) ?_
          refine va_get (D := D) (ci := 4) (v := .ref Rv) (C := RX4) (T := TX4) (N := 7) hx hb hts iX4 hown hK hP 1 rfl rfl 6 (by decide) f15 (fun _ h9 => h9) rfl dX4_readNumber_118 ?_
          refine lv_iload_n hx hb dX4_readNumber_121 rfl (lv_at hl 4 rfl) ?_
          refine lv_iconst (v := 3) hx hb dX4_readNumber_122 (by decide) ?_
          refine lv_imul hx hb dX4_readNumber_123 ?_
          refine lv_eqi (y := 0) (by decide) ?_
          refine lv_iload_n hx hb dX4_readNumber_124 rfl (lv_at hl 5 rfl) ?_
          refine lv_iadd hx hb dX4_readNumber_125 ?_
          refine lv_eqi (y := 2) (by decide) ?_
          refine lv_iload_n hx hb dX4_readNumber_126 rfl (lv_at hl 2 rfl) ?_
          refine va_iast hx hb hK hP hD hS 0 0 rfl rfl (by unfold vp_in; decide) dX4_readNumber_127 (fun H locs hP2 hD2 hS2 => ?_)
          clear hP hD hS
          have hPD : PD D A [(Rv, .inl (g 0, 21, .inl (upd fval 2 (((((0 + (ftp (axx_2))) - 48) * 10) + (ftp (axx_2 + 1))) - 48)))), (Rd, .inr (4, [.ref Tp, .int (nI ln), .int (nI (axx_2 + 1 + 1)), .int (-1), .int (nI ht), .int (nI ct), .ref Rv])), (Tp, .inl (g 0, 160, .inl ftp))] H := ⟨hP2, hD2⟩
          have hS := hS2; clear hP2 hD2 hS2; have hP := hPD.1; have hD := hPD.2; clear hPD
          have hPD9 : PD D A [(Rd, .inr (4, [.ref Tp, .int (nI ln), .int (nI (axx_2 + 1 + 1)), .int (-1), .int (nI ht), .int (nI ct), .ref Rv])), (Tp, .inl (g 0, 160, .inl ftp)), (Rv, .inl (g 0, 21, .inl (upd fval 2 (((((0 + (ftp (axx_2))) - 48) * 10) + (ftp (axx_2 + 1))) - 48))))] H := ⟨hP.sub [1, 2, 0] rfl, hD.sub [1, 2, 0] (by decide) rfl⟩
          have hP9 := hPD9.1; have hD9 := hPD9.2
          subst hQ
          refine W.widen (k := 0) (n := 0) (Nat.le_of_ble_eq_true rfl) (Nat.le_of_ble_eq_true rfl) ?_
          exact W.vret hx hb hr (fun tS htS _ => ⟨⟨_, rfl, ⟨(axx_2 + 1 + 1), (-1), (upd fval 2 (((((0 + (ftp (axx_2))) - 48) * 10) + (ftp (axx_2 + 1))) - 48)), rfl, (show (axx_2 + 1 + 1) ≤ ln by omega), (vOK_rng (k := 2) (L := 0) (U := 9) h2 rfl rfl (by decide) (by decide) hq_30 (Nat.le_of_ble_eq_true rfl)), (by rw [nm_b (show axx_2 = sB ftp ln ax by omega) hq_8 (fun q => hq_26 q.2), (nm_2 (show axx_2 = sB ftp ln ax by omega) hq_8 hq_23).1, (show nmV ftp ln ax = (((((0 + (ftp (axx_2))) - 48) * 10) + (ftp (axx_2 + 1))) - 48) from ((nm_2 (show axx_2 = sB ftp ln ax by omega) hq_8 hq_23).2.trans (by rw [Int32.mul_comm]))), if_neg hq_30]), (fun _ => ⟨(nm_2 (show axx_2 = sB ftp ln ax by omega) hq_8 hq_23).1.symm, by rw [(show nmV ftp ln ax = (((((0 + (ftp (axx_2))) - 48) * 10) + (ftp (axx_2 + 1))) - 48) from ((nm_2 (show axx_2 = sB ftp ln ax by omega) hq_8 hq_23).2.trans (by rw [Int32.mul_comm])))]⟩)⟩, by rw [htS]; exact hP9, hD9⟩, hS.F htS⟩) hS.2.2 dX4_readNumber_128
        · skip
          have hq_33 : (((((0 + (ftp (axx_2))) - 48) * 10) + (ftp (axx_2 + 1))) - 48) < 0 ∨ 9 < (((((0 + (ftp (axx_2))) - 48) * 10) + (ftp (axx_2 + 1))) - 48) := b01_1.mp cb_29
          refine lv_aload_n hx hb dX4_readNumber_106 rfl (lv_at hl 3 rfl) ?_
          refine lv_aload_n hx hb dX4_readNumber_107 rfl (lv_at hl 3 rfl) ?_
          refine va_get (D := D) (ci := 4) (v := .int (nI (axx_2 + 1 + 1))) (C := RX4) (T := TX4) (N := 7) hx hb hts iX4 hown hK hP 1 rfl rfl 2 (by decide) f28 (fun _ h9 => h9) rfl dX4_readNumber_108 ?_
          refine lv_iconst (v := 1) hx hb dX4_readNumber_111 (by decide) ?_
          refine lv_isub hx hb dX4_readNumber_112 ?_
          refine lv_eqi (y := (nI ((axx_2 + 1 + 1) - 1))) (pk_sub (show 1 ≤ axx_2 + 1 + 1 by omega)) ?_
          refine va_put (D := D) (ci := 4) (v := .int (nI ((axx_2 + 1 + 1) - 1))) (ty := .int) (C := RX4) (T := TX4) (N := 7) hx hb hts iX4 tyX4 tyX4_ok nmX4 hown hK hP hD hS 1 rfl rfl 3 (by decide) f31 (fun _ h9 => h9) rfl (by decide +kernel) (rfl) (rfl) (Nat.le_of_ble_eq_true rfl) dX4_readNumber_113 (fun H locs hP2 hD2 hS2 => ?_)
          clear hP hD hS
          have hPD : PD D A [(Rv, .inl (g 0, 21, .inl fval)), (Rd, .inr (4, [.ref Tp, .int (nI ln), .int (nI (axx_2 + 1 + 1)), .int (nI ((axx_2 + 1 + 1) - 1)), .int (nI ht), .int (nI ct), .ref Rv])), (Tp, .inl (g 0, 160, .inl ftp))] H := ⟨hP2, hD2⟩
          have hS := hS2; clear hP2 hD2 hS2; have hP := hPD.1; have hD := hPD.2; clear hPD
          have hPD9 : PD D A [(Rd, .inr (4, [.ref Tp, .int (nI ln), .int (nI (axx_2 + 1 + 1)), .int (nI ((axx_2 + 1 + 1) - 1)), .int (nI ht), .int (nI ct), .ref Rv])), (Tp, .inl (g 0, 160, .inl ftp)), (Rv, .inl (g 0, 21, .inl fval))] H := ⟨hP.sub [1, 2, 0] rfl, hD.sub [1, 2, 0] (by decide) rfl⟩
          have hP9 := hPD9.1; have hD9 := hPD9.2
          subst hQ
          refine W.widen (k := 0) (n := 0) (Nat.le_of_ble_eq_true rfl) (Nat.le_of_ble_eq_true rfl) ?_
          exact W.vret hx hb hr (fun tS htS _ => ⟨⟨_, rfl, ⟨(axx_2 + 1 + 1), (nI ((axx_2 + 1 + 1) - 1)), fval, rfl, (show (axx_2 + 1 + 1) ≤ ln by omega), h2, (by rw [nm_b (show axx_2 = sB ftp ln ax by omega) hq_8 (fun q => hq_26 q.2), (nm_2 (show axx_2 = sB ftp ln ax by omega) hq_8 hq_23).1, (show nmV ftp ln ax = (((((0 + (ftp (axx_2))) - 48) * 10) + (ftp (axx_2 + 1))) - 48) from ((nm_2 (show axx_2 = sB ftp ln ax by omega) hq_8 hq_23).2.trans (by rw [Int32.mul_comm]))), if_pos hq_33]), (fun q => absurd q (m1_ne (show axx_2 + 1 + 1 - 1 < 2 ^ 31 by omega)))⟩, by rw [htS]; exact hP9, hD9⟩, hS.F htS⟩) hS.2.2 dX4_readNumber_116
      · skip
        have hq_34 : pD ftp ln (axx_2 + 1 + 1) := b01_1.mp cb_25
        refine lv_aload_n hx hb dX4_readNumber_68 rfl (lv_at hl 2 rfl) ?_
        refine lv_aload_n hx hb dX4_readNumber_69 rfl (lv_at hl 2 rfl) ?_
        refine va_get (D := D) (ci := 4) (v := .int (nI (axx_2 + 1 + 1))) (C := RX4) (T := TX4) (N := 7) hx hb hts iX4 hown hK hP 1 rfl rfl 2 (by decide) f28 (fun _ h9 => h9) rfl dX4_readNumber_70 ?_
        refine va_put (D := D) (ci := 4) (v := .int (nI (axx_2 + 1 + 1))) (ty := .int) (C := RX4) (T := TX4) (N := 7) hx hb hts iX4 tyX4 tyX4_ok nmX4 hown hK hP hD hS 1 rfl rfl 3 (by decide) f31 (fun _ h9 => h9) rfl (by decide +kernel) (rfl) (rfl) (Nat.le_of_ble_eq_true rfl) dX4_readNumber_73 (fun H locs hP2 hD2 hS2 => ?_)
        clear hP hD hS
        have hPD : PD D A [(Rv, .inl (g 0, 21, .inl fval)), (Rd, .inr (4, [.ref Tp, .int (nI ln), .int (nI (axx_2 + 1 + 1)), .int (nI (axx_2 + 1 + 1)), .int (nI ht), .int (nI ct), .ref Rv])), (Tp, .inl (g 0, 160, .inl ftp))] H := ⟨hP2, hD2⟩
        have hS := hS2; clear hP2 hD2 hS2; have hP := hPD.1; have hD := hPD.2; clear hPD
        have hPD9 : PD D A [(Rd, .inr (4, [.ref Tp, .int (nI ln), .int (nI (axx_2 + 1 + 1)), .int (nI (axx_2 + 1 + 1)), .int (nI ht), .int (nI ct), .ref Rv])), (Tp, .inl (g 0, 160, .inl ftp)), (Rv, .inl (g 0, 21, .inl fval))] H := ⟨hP.sub [1, 2, 0] rfl, hD.sub [1, 2, 0] (by decide) rfl⟩
        have hP9 := hPD9.1; have hD9 := hPD9.2
        subst hQ
        refine W.widen (k := 0) (n := 0) (Nat.le_of_ble_eq_true rfl) (Nat.le_of_ble_eq_true rfl) ?_
        exact W.vret hx hb hr (fun tS htS _ => ⟨⟨_, rfl, ⟨(axx_2 + 1 + 1), (nI (axx_2 + 1 + 1)), fval, rfl, (show (axx_2 + 1 + 1) ≤ ln by omega), h2, (nm_3 (show axx_2 = sB ftp ln ax by omega) hq_8 hq_23 hq_34).symm, (fun q => absurd q (m1_ne (show axx_2 + 1 + 1 < 2 ^ 31 by omega)))⟩, by rw [htS]; exact hP9, hD9⟩, hS.F htS⟩) hS.2.2 dX4_readNumber_76
