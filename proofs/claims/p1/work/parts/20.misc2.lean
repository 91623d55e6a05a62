set_option maxHeartbeats 4000000 in
set_option maxRecDepth 100000 in
theorem c_X4_kindOf (l : Launch) (D : va_G) (g : Nat → ClassId) (sz : Nat) (p0 : Int32) : Met l yX4_kindOf wsX4_kindOf ({ frames := 0, cells := 0, slots := 0, locals := 0 }) (va_Pc [.int p0] (pre D g sz [])) (va_Qi (fun (r : Int32) (u : va_W) => u = [] ∧ r = (if p0 = 0 then 0 else (if p0 ≤ 3 then 1 else 2))) (wd D (va_A [] sz)) (va_A [] sz)) 0 0 (va_A [] sz) := by
  refine Met.ofW (cc := cX4_kindOf) (maxL := 1) (ret := (some .int)) (by decide) rfl ?_
  intro p e s m args below meth c s₁ B hml hv
  obtain ⟨rfl, hsz, hP, ⟨hK, hN⟩, hD0, hZ⟩ := hv
  have hx := B.exec
  have hb := B.bytes
  have hr := B.returns
  have hts := atoms_spec (ws := wsX4_kindOf) B.pre
  have hown : s.vm.findClass RX4 = some m.cls := findClass_of_methodNamed B.named
  have hlocks := B.notSynchronized
  clear B
  subst hsz
  have hD := hD0.self (sz := s.heap.size)
  clear hD0
  generalize hAe : va_A [] s.heap.size = A at hD hZ ⊢
  have hA : ∀ q : Nat, s.heap.size ≤ q → A q := fun q h => by rw [← hAe]; exact Or.inr h
  have hS : va_S A s.heap s.heap [] := va_S.rf
  have hl := lv_entry ([.int p0]) (n := 1) (Nat.le_of_ble_eq_true rfl)
  rw [lg_entry_eq]
  generalize (lg_sl ([.int p0]) ++ List.replicate (1 - (lg_sl ([.int p0])).length) Slot.unset).toArray = ls at hl ⊢
  have hl : lv_has ls 1 [(0, .int p0)] := hl
  generalize hQ : MQ below _ _ s _ _ _ = Q
  generalize hH : s.heap = H at hP ⊢
  have hS : va_S A s.heap H [] := by rw [← hH]; exact hS
  clear hH
  refine lv_iload_n hx hb dX4_kindOf_0 rfl (lv_at hl 0 rfl) ?_
  refine lv_if_ne (tgt := 6) hx hb dX4_kindOf_1 (by decide) (fun cb_1 => ?_) (fun cb_1 => ?_)
  · skip
    refine lv_iload_n hx hb dX4_kindOf_6 rfl (lv_at hl 0 rfl) ?_
    refine lv_iconst (v := 3) hx hb dX4_kindOf_7 (by decide) ?_
    refine lv_icmp_gt (tgt := 15) hx hb dX4_kindOf_8 (by decide) (fun cb_2 => ?_) (fun cb_2 => ?_)
    · skip
      refine lv_iconst (v := 2) hx hb dX4_kindOf_15 (by decide) ?_
      have hP9 := hP.sub (ws' := []) [] rfl
      have hD9 := hD.sub (ws' := []) [] (by decide) rfl
      subst hQ
      refine W.widen (k := 0) (n := 0) (Nat.le_of_ble_eq_true rfl) (Nat.le_of_ble_eq_true rfl) ?_
      exact W.iret (v := 2) hx hb hr (fun tS htS _ => ⟨⟨_, _, rfl, ⟨rfl, ((if_neg cb_1).trans (if_neg (Int32.not_le.mpr cb_2))).symm⟩, by rw [htS]; exact hP9, hD9⟩, hS.F htS⟩) hS.2.2 dX4_kindOf_16
    · skip
      refine lv_iconst (v := 1) hx hb dX4_kindOf_11 (by decide) ?_
      refine lv_goto (tgt := 16) hx hb dX4_kindOf_12 (by decide) ?_
      have hP9 := hP.sub (ws' := []) [] rfl
      have hD9 := hD.sub (ws' := []) [] (by decide) rfl
      subst hQ
      refine W.widen (k := 0) (n := 0) (Nat.le_of_ble_eq_true rfl) (Nat.le_of_ble_eq_true rfl) ?_
      exact W.iret (v := 1) hx hb hr (fun tS htS _ => ⟨⟨_, _, rfl, ⟨rfl, ((if_neg cb_1).trans (if_pos (Int32.not_lt.mp cb_2))).symm⟩, by rw [htS]; exact hP9, hD9⟩, hS.F htS⟩) hS.2.2 dX4_kindOf_16
  · skip
    refine lv_iconst (v := 0) hx hb dX4_kindOf_4 (by decide) ?_
    have hP9 := hP.sub (ws' := []) [] rfl
    have hD9 := hD.sub (ws' := []) [] (by decide) rfl
    subst hQ
    refine W.widen (k := 0) (n := 0) (Nat.le_of_ble_eq_true rfl) (Nat.le_of_ble_eq_true rfl) ?_
    exact W.iret (v := 0) hx hb hr (fun tS htS _ => ⟨⟨_, _, rfl, ⟨rfl, (if_pos cb_1).symm⟩, by rw [htS]; exact hP9, hD9⟩, hS.F htS⟩) hS.2.2 dX4_kindOf_5
set_option maxHeartbeats 4000000 in
set_option maxRecDepth 100000 in
theorem c_X4_setUsual (l : Launch) (D : va_G) (g : Nat → ClassId) (sz : Nat) (xd : Nat) (dt : Nat) (r1 : Int32) (r2 : Int32) (r3 : Int32) (r4 : Int32) (r5 : Int32) (d2 : Nat) (fv : Nat → Int32) : Met l yX4_setUsual wsX4_setUsual ({ frames := 1, cells := 0, slots := 0, locals := 20 }) (va_Pc [.ref xd] (pre D g sz [(xd, .inr (4, [.ref dt, .int r1, .int r2, .int r3, .int r4, .int r5, .ref d2])), (d2, .inl (g 0, 21, .inl fv))])) (va_Qv (fun (u : va_W) => ∃ (fv2 : Nat → Int32), u = [(xd, .inr (4, [.ref dt, .int r1, .int r2, .int r3, .int r4, .int r5, .ref d2])), (d2, .inl (g 0, 21, .inl fv2))]) (wd D (va_A [(xd, .inr (4, [.ref dt, .int r1, .int r2, .int r3, .int r4, .int r5, .ref d2])), (d2, .inl (g 0, 21, .inl fv))] sz)) (va_A [(xd, .inr (4, [.ref dt, .int r1, .int r2, .int r3, .int r4, .int r5, .ref d2])), (d2, .inl (g 0, 21, .inl fv))] sz)) 0 0 (va_A [(xd, .inr (4, [.ref dt, .int r1, .int r2, .int r3, .int r4, .int r5, .ref d2])), (d2, .inl (g 0, 21, .inl fv))] sz) := by
  refine Met.ofW (cc := cX4_setUsual) (maxL := 3) (ret := none) (by decide) rfl ?_
  intro p e s m args below meth c s₁ B hml hv
  obtain ⟨rfl, hsz, hP, ⟨hK, hN⟩, hD0, hZ⟩ := hv
  have hx := B.exec
  have hb := B.bytes
  have hr := B.returns
  have hts := atoms_spec (ws := wsX4_setUsual) B.pre
  have hown : s.vm.findClass RX4 = some m.cls := findClass_of_methodNamed B.named
  have hlocks := B.notSynchronized
  clear B
  subst hsz
  have hD := hD0.self (sz := s.heap.size)
  clear hD0
  generalize hAe : va_A [(xd, .inr (4, [.ref dt, .int r1, .int r2, .int r3, .int r4, .int r5, .ref d2])), (d2, .inl (g 0, 21, .inl fv))] s.heap.size = A at hD hZ ⊢
  have hA : ∀ q : Nat, s.heap.size ≤ q → A q := fun q h => by rw [← hAe]; exact Or.inr h
  have hS : va_S A s.heap s.heap [] := va_S.rf
  have f15 := hts (.fieldLink RX4 15 "HopCredits$Reading" "values" "[I") (by decide +kernel)
  have f47 := hts (.fieldLink RX4 47 "HopCredits$Reading" "USUAL" "[I") (by decide +kernel)
  have iX4 : ∀ w ∈ u_ws RX4 TX4 7, w ∈ wsX4_setUsual := by decide +kernel
  have hl := lv_entry ([.ref xd]) (n := 3) (Nat.le_of_ble_eq_true rfl)
  rw [lg_entry_eq]
  generalize (lg_sl ([.ref xd]) ++ List.replicate (3 - (lg_sl ([.ref xd])).length) Slot.unset).toArray = ls at hl ⊢
  have hl : lv_has ls 3 [(0, .ref xd)] := hl
  generalize hQ : MQ below _ _ s _ _ _ = Q
  generalize hH : s.heap = H at hP ⊢
  have hS : va_S A s.heap H [] := by rw [← hH]; exact hS
  clear hH
  refine lv_iconst (v := 0) hx hb dX4_setUsual_0 (by decide) ?_
  refine lv_istore_n (lv' := [(1, .int 0), (0, .ref xd)]) hx hb dX4_setUsual_1 rfl hl (by decide) rfl (fun ls hl => ?_)
  refine lv_iload_n hx hb dX4_setUsual_2 rfl (lv_at hl 0 rfl) ?_
  refine lv_bipush (v := 7) hx hb dX4_setUsual_3 (by decide) ?_
  refine lv_icmp_ge (tgt := 49) hx hb dX4_setUsual_5 (by decide) (fun cb => absurd cb (by decide)) (fun _ => ?_)
  refine lv_iconst (v := 0) hx hb dX4_setUsual_8 (by decide) ?_
  refine lv_istore_n (lv' := [(2, .int 0), (1, .int 0), (0, .ref xd)]) hx hb dX4_setUsual_9 rfl hl (by decide) rfl (fun ls hl => ?_)
  refine lv_iload_n hx hb dX4_setUsual_10 rfl (lv_at hl 0 rfl) ?_
  refine lv_iconst (v := 3) hx hb dX4_setUsual_11 (by decide) ?_
  refine lv_icmp_ge (tgt := 43) hx hb dX4_setUsual_12 (by decide) (fun cb => absurd cb (by decide)) (fun _ => ?_)
  refine lv_aload_n hx hb dX4_setUsual_15 rfl (lv_at hl 2 rfl) ?_
  refine va_get (D := D) (ci := 4) (v := .ref d2) (C := RX4) (T := TX4) (N := 7) hx hb hts iX4 hown hK hP 0 rfl rfl 6 (by decide) f15 (fun _ h9 => h9) rfl dX4_setUsual_16 ?_
  refine lv_iload_n hx hb dX4_setUsual_19 rfl (lv_at hl 1 rfl) ?_
  refine lv_iconst (v := 3) hx hb dX4_setUsual_20 (by decide) ?_
  refine lv_imul hx hb dX4_setUsual_21 ?_
  refine lv_eqi (y := 0) (by decide) ?_
  refine lv_iload_n hx hb dX4_setUsual_22 rfl (lv_at hl 0 rfl) ?_
  refine lv_iadd hx hb dX4_setUsual_23 ?_
  refine lv_eqi (y := 0) (by decide) ?_
  refine va_gets hx hb hZ.1 hS hown f47 (fun _ h9 => h9) dX4_setUsual_24 ?_
  refine lv_iload_n hx hb dX4_setUsual_27 rfl (lv_at hl 1 rfl) ?_
  refine ky_Si (As := [.int 0]) (rest := [.ref (g 10), .int 0, .ref d2]) ⟨hx, hb, hml, hown, hts⟩ ⟨hK, hN⟩ hZ hP hD hS hA [] [0, 1] (wc := []) (wr := [(xd, .inr (4, [.ref dt, .int r1, .int r2, .int r3, .int r4, .int r5, .ref d2])), (d2, .inl (g 0, 21, .inl fv))]) rfl rfl rfl rfl (by decide) (c_X4_kindOf l D g H.size 0) (va_cwS 1 hts gX4_setUsual_X4_kindOf rfl rfl rfl (by decide +kernel) ⟨(Nat.le_of_ble_eq_true rfl), (Nat.le_of_ble_eq_true rfl)⟩) rfl hl.1 rfl (Nat.le_of_ble_eq_true rfl) dX4_setUsual_28 ⟨(Nat.le_of_ble_eq_true rfl), (Nat.le_of_ble_eq_true rfl)⟩ (fun r_1 u H locs hw hP hD hS => ?_)
  obtain ⟨rfl, rfl⟩ := hw
  have hP : va_P D vwCl [(xd, .inr (4, [.ref dt, .int r1, .int r2, .int r3, .int r4, .int r5, .ref d2])), (d2, .inl (g 0, 21, .inl fv))] H := hP
  have hD : va_D A [(xd, .inr (4, [.ref dt, .int r1, .int r2, .int r3, .int r4, .int r5, .ref d2])), (d2, .inl (g 0, 21, .inl fv))] := hD
  refine W.widen (k := 0) (n := 0) (Nat.le_of_ble_eq_true rfl) (Nat.le_of_ble_eq_true rfl) ?_
  refine lv_eqi (y := 0) (by decide) ?_
  refine lv_iconst (v := 3) hx hb dX4_setUsual_31 (by decide) ?_
  refine lv_imul hx hb dX4_setUsual_32 ?_
  refine lv_eqi (y := 0) (by decide) ?_
  refine lv_iload_n hx hb dX4_setUsual_33 rfl (lv_at hl 0 rfl) ?_
  refine lv_iadd hx hb dX4_setUsual_34 ?_
  refine lv_eqi (y := 0) (by decide) ?_
  refine va_ti (v := .int 1) hx hb hZ.2.1 hS (by unfold vp_in; decide) rfl dX4_setUsual_35 ?_
  refine va_iast hx hb hK hP hD hS 1 0 rfl rfl (by unfold vp_in; decide) dX4_setUsual_36 (fun H locs hP hD hS => ?_)
  have hP : va_P D vwCl [(xd, .inr (4, [.ref dt, .int r1, .int r2, .int r3, .int r4, .int r5, .ref d2])), (d2, .inl (g 0, 21, .inl (upd fv 0 1)))] H := hP
  have hD : va_D A [(xd, .inr (4, [.ref dt, .int r1, .int r2, .int r3, .int r4, .int r5, .ref d2])), (d2, .inl (g 0, 21, .inl (upd fv 0 1)))] := hD
  refine lv_iinc (v := 1) (lv' := [(2, .int 1), (1, .int 0), (0, .ref xd)]) hx hb dX4_setUsual_37 hl (k := 0) rfl (by decide) (by decide) rfl (fun ls hl => ?_)
  refine lv_goto (tgt := 10) hx hb dX4_setUsual_40 (by decide) ?_
  refine lv_iload_n hx hb dX4_setUsual_10 rfl (lv_at hl 0 rfl) ?_
  refine lv_iconst (v := 3) hx hb dX4_setUsual_11 (by decide) ?_
  refine lv_icmp_ge (tgt := 43) hx hb dX4_setUsual_12 (by decide) (fun cb => absurd cb (by decide)) (fun _ => ?_)
  refine lv_aload_n hx hb dX4_setUsual_15 rfl (lv_at hl 2 rfl) ?_
  refine va_get (D := D) (ci := 4) (v := .ref d2) (C := RX4) (T := TX4) (N := 7) hx hb hts iX4 hown hK hP 0 rfl rfl 6 (by decide) f15 (fun _ h9 => h9) rfl dX4_setUsual_16 ?_
  refine lv_iload_n hx hb dX4_setUsual_19 rfl (lv_at hl 1 rfl) ?_
  refine lv_iconst (v := 3) hx hb dX4_setUsual_20 (by decide) ?_
  refine lv_imul hx hb dX4_setUsual_21 ?_
  refine lv_eqi (y := 0) (by decide) ?_
  refine lv_iload_n hx hb dX4_setUsual_22 rfl (lv_at hl 0 rfl) ?_
  refine lv_iadd hx hb dX4_setUsual_23 ?_
  refine lv_eqi (y := 1) (by decide) ?_
  refine va_gets hx hb hZ.1 hS hown f47 (fun _ h9 => h9) dX4_setUsual_24 ?_
  refine lv_iload_n hx hb dX4_setUsual_27 rfl (lv_at hl 1 rfl) ?_
  refine ky_Si (As := [.int 0]) (rest := [.ref (g 10), .int 1, .ref d2]) ⟨hx, hb, hml, hown, hts⟩ ⟨hK, hN⟩ hZ hP hD hS hA [] [0, 1] (wc := []) (wr := [(xd, .inr (4, [.ref dt, .int r1, .int r2, .int r3, .int r4, .int r5, .ref d2])), (d2, .inl (g 0, 21, .inl (upd fv 0 1)))]) rfl rfl rfl rfl (by decide) (c_X4_kindOf l D g H.size 0) (va_cwS 1 hts gX4_setUsual_X4_kindOf rfl rfl rfl (by decide +kernel) ⟨(Nat.le_of_ble_eq_true rfl), (Nat.le_of_ble_eq_true rfl)⟩) rfl hl.1 rfl (Nat.le_of_ble_eq_true rfl) dX4_setUsual_28 ⟨(Nat.le_of_ble_eq_true rfl), (Nat.le_of_ble_eq_true rfl)⟩ (fun r_2 u H locs hw hP hD hS => ?_)
  obtain ⟨rfl, rfl⟩ := hw
  have hP : va_P D vwCl [(xd, .inr (4, [.ref dt, .int r1, .int r2, .int r3, .int r4, .int r5, .ref d2])), (d2, .inl (g 0, 21, .inl (upd fv 0 1)))] H := hP
  have hD : va_D A [(xd, .inr (4, [.ref dt, .int r1, .int r2, .int r3, .int r4, .int r5, .ref d2])), (d2, .inl (g 0, 21, .inl (upd fv 0 1)))] := hD
  refine W.widen (k := 0) (n := 0) (Nat.le_of_ble_eq_true rfl) (Nat.le_of_ble_eq_true rfl) ?_
  refine lv_eqi (y := 0) (by decide) ?_
  refine lv_iconst (v := 3) hx hb dX4_setUsual_31 (by decide) ?_
  refine lv_imul hx hb dX4_setUsual_32 ?_
  refine lv_eqi (y := 0) (by decide) ?_
  refine lv_iload_n hx hb dX4_setUsual_33 rfl (lv_at hl 0 rfl) ?_
  refine lv_iadd hx hb dX4_setUsual_34 ?_
  refine lv_eqi (y := 1) (by decide) ?_
  refine va_ti (v := .int 0) hx hb hZ.2.1 hS (by unfold vp_in; decide) rfl dX4_setUsual_35 ?_
  refine va_iast hx hb hK hP hD hS 1 0 rfl rfl (by unfold vp_in; decide) dX4_setUsual_36 (fun H locs hP hD hS => ?_)
  have hP : va_P D vwCl [(xd, .inr (4, [.ref dt, .int r1, .int r2, .int r3, .int r4, .int r5, .ref d2])), (d2, .inl (g 0, 21, .inl (upd (upd fv 0 1) 1 0)))] H := hP
  have hD : va_D A [(xd, .inr (4, [.ref dt, .int r1, .int r2, .int r3, .int r4, .int r5, .ref d2])), (d2, .inl (g 0, 21, .inl (upd (upd fv 0 1) 1 0)))] := hD
  refine lv_iinc (v := 2) (lv' := [(2, .int 2), (1, .int 0), (0, .ref xd)]) hx hb dX4_setUsual_37 hl (k := 0) rfl (by decide) (by decide) rfl (fun ls hl => ?_)
  refine lv_goto (tgt := 10) hx hb dX4_setUsual_40 (by decide) ?_
  refine lv_iload_n hx hb dX4_setUsual_10 rfl (lv_at hl 0 rfl) ?_
  refine lv_iconst (v := 3) hx hb dX4_setUsual_11 (by decide) ?_
  refine lv_icmp_ge (tgt := 43) hx hb dX4_setUsual_12 (by decide) (fun cb => absurd cb (by decide)) (fun _ => ?_)
  refine lv_aload_n hx hb dX4_setUsual_15 rfl (lv_at hl 2 rfl) ?_
  refine va_get (D := D) (ci := 4) (v := .ref d2) (C := RX4) (T := TX4) (N := 7) hx hb hts iX4 hown hK hP 0 rfl rfl 6 (by decide) f15 (fun _ h9 => h9) rfl dX4_setUsual_16 ?_
  refine lv_iload_n hx hb dX4_setUsual_19 rfl (lv_at hl 1 rfl) ?_
  refine lv_iconst (v := 3) hx hb dX4_setUsual_20 (by decide) ?_
  refine lv_imul hx hb dX4_setUsual_21 ?_
  refine lv_eqi (y := 0) (by decide) ?_
  refine lv_iload_n hx hb dX4_setUsual_22 rfl (lv_at hl 0 rfl) ?_
  refine lv_iadd hx hb dX4_setUsual_23 ?_
  refine lv_eqi (y := 2) (by decide) ?_
  refine va_gets hx hb hZ.1 hS hown f47 (fun _ h9 => h9) dX4_setUsual_24 ?_
  refine lv_iload_n hx hb dX4_setUsual_27 rfl (lv_at hl 1 rfl) ?_
  refine ky_Si (As := [.int 0]) (rest := [.ref (g 10), .int 2, .ref d2]) ⟨hx, hb, hml, hown, hts⟩ ⟨hK, hN⟩ hZ hP hD hS hA [] [0, 1] (wc := []) (wr := [(xd, .inr (4, [.ref dt, .int r1, .int r2, .int r3, .int r4, .int r5, .ref d2])), (d2, .inl (g 0, 21, .inl (upd (upd fv 0 1) 1 0)))]) rfl rfl rfl rfl (by decide) (c_X4_kindOf l D g H.size 0) (va_cwS 1 hts gX4_setUsual_X4_kindOf rfl rfl rfl (by decide +kernel) ⟨(Nat.le_of_ble_eq_true rfl), (Nat.le_of_ble_eq_true rfl)⟩) rfl hl.1 rfl (Nat.le_of_ble_eq_true rfl) dX4_setUsual_28 ⟨(Nat.le_of_ble_eq_true rfl), (Nat.le_of_ble_eq_true rfl)⟩ (fun r_3 u H locs hw hP hD hS => ?_)
  obtain ⟨rfl, rfl⟩ := hw
  have hP : va_P D vwCl [(xd, .inr (4, [.ref dt, .int r1, .int r2, .int r3, .int r4, .int r5, .ref d2])), (d2, .inl (g 0, 21, .inl (upd (upd fv 0 1) 1 0)))] H := hP
  have hD : va_D A [(xd, .inr (4, [.ref dt, .int r1, .int r2, .int r3, .int r4, .int r5, .ref d2])), (d2, .inl (g 0, 21, .inl (upd (upd fv 0 1) 1 0)))] := hD
  refine W.widen (k := 0) (n := 0) (Nat.le_of_ble_eq_true rfl) (Nat.le_of_ble_eq_true rfl) ?_
  refine lv_eqi (y := 0) (by decide) ?_
  refine lv_iconst (v := 3) hx hb dX4_setUsual_31 (by decide) ?_
  refine lv_imul hx hb dX4_setUsual_32 ?_
  refine lv_eqi (y := 0) (by decide) ?_
  refine lv_iload_n hx hb dX4_setUsual_33 rfl (lv_at hl 0 rfl) ?_
  refine lv_iadd hx hb dX4_setUsual_34 ?_
  refine lv_eqi (y := 2) (by decide) ?_
  refine va_ti (v := .int 0) hx hb hZ.2.1 hS (by unfold vp_in; decide) rfl dX4_setUsual_35 ?_
  refine va_iast hx hb hK hP hD hS 1 0 rfl rfl (by unfold vp_in; decide) dX4_setUsual_36 (fun H locs hP hD hS => ?_)
  have hP : va_P D vwCl [(xd, .inr (4, [.ref dt, .int r1, .int r2, .int r3, .int r4, .int r5, .ref d2])), (d2, .inl (g 0, 21, .inl (upd (upd (upd fv 0 1) 1 0) 2 0)))] H := hP
  have hD : va_D A [(xd, .inr (4, [.ref dt, .int r1, .int r2, .int r3, .int r4, .int r5, .ref d2])), (d2, .inl (g 0, 21, .inl (upd (upd (upd fv 0 1) 1 0) 2 0)))] := hD
  refine lv_iinc (v := 3) (lv' := [(2, .int 3), (1, .int 0), (0, .ref xd)]) hx hb dX4_setUsual_37 hl (k := 0) rfl (by decide) (by decide) rfl (fun ls hl => ?_)
  refine lv_goto (tgt := 10) hx hb dX4_setUsual_40 (by decide) ?_
  refine lv_iload_n hx hb dX4_setUsual_10 rfl (lv_at hl 0 rfl) ?_
  refine lv_iconst (v := 3) hx hb dX4_setUsual_11 (by decide) ?_
  refine lv_icmp_ge (tgt := 43) hx hb dX4_setUsual_12 (by decide) (fun _ => ?_) (fun cb => absurd (by decide) cb)
  refine lv_iinc (v := 1) (lv' := [(1, .int 1), (2, .int 3), (0, .ref xd)]) hx hb dX4_setUsual_43 hl (k := 1) rfl (by decide) (by decide) rfl (fun ls hl => ?_)
  refine lv_goto (tgt := 2) hx hb dX4_setUsual_46 (by decide) ?_
  refine lv_iload_n hx hb dX4_setUsual_2 rfl (lv_at hl 0 rfl) ?_
  refine lv_bipush (v := 7) hx hb dX4_setUsual_3 (by decide) ?_
  refine lv_icmp_ge (tgt := 49) hx hb dX4_setUsual_5 (by decide) (fun cb => absurd cb (by decide)) (fun _ => ?_)
  refine lv_iconst (v := 0) hx hb dX4_setUsual_8 (by decide) ?_
  refine lv_istore_n (lv' := [(2, .int 0), (1, .int 1), (0, .ref xd)]) hx hb dX4_setUsual_9 rfl hl (by decide) rfl (fun ls hl => ?_)
  refine lv_iload_n hx hb dX4_setUsual_10 rfl (lv_at hl 0 rfl) ?_
  refine lv_iconst (v := 3) hx hb dX4_setUsual_11 (by decide) ?_
  refine lv_icmp_ge (tgt := 43) hx hb dX4_setUsual_12 (by decide) (fun cb => absurd cb (by decide)) (fun _ => ?_)
  refine lv_aload_n hx hb dX4_setUsual_15 rfl (lv_at hl 2 rfl) ?_
  refine va_get (D := D) (ci := 4) (v := .ref d2) (C := RX4) (T := TX4) (N := 7) hx hb hts iX4 hown hK hP 0 rfl rfl 6 (by decide) f15 (fun _ h9 => h9) rfl dX4_setUsual_16 ?_
  refine lv_iload_n hx hb dX4_setUsual_19 rfl (lv_at hl 1 rfl) ?_
  refine lv_iconst (v := 3) hx hb dX4_setUsual_20 (by decide) ?_
  refine lv_imul hx hb dX4_setUsual_21 ?_
  refine lv_eqi (y := 3) (by decide) ?_
  refine lv_iload_n hx hb dX4_setUsual_22 rfl (lv_at hl 0 rfl) ?_
  refine lv_iadd hx hb dX4_setUsual_23 ?_
  refine lv_eqi (y := 3) (by decide) ?_
  refine va_gets hx hb hZ.1 hS hown f47 (fun _ h9 => h9) dX4_setUsual_24 ?_
  refine lv_iload_n hx hb dX4_setUsual_27 rfl (lv_at hl 1 rfl) ?_
  refine ky_Si (As := [.int 1]) (rest := [.ref (g 10), .int 3, .ref d2]) ⟨hx, hb, hml, hown, hts⟩ ⟨hK, hN⟩ hZ hP hD hS hA [] [0, 1] (wc := []) (wr := [(xd, .inr (4, [.ref dt, .int r1, .int r2, .int r3, .int r4, .int r5, .ref d2])), (d2, .inl (g 0, 21, .inl (upd (upd (upd fv 0 1) 1 0) 2 0)))]) rfl rfl rfl rfl (by decide) (c_X4_kindOf l D g H.size 1) (va_cwS 1 hts gX4_setUsual_X4_kindOf rfl rfl rfl (by decide +kernel) ⟨(Nat.le_of_ble_eq_true rfl), (Nat.le_of_ble_eq_true rfl)⟩) rfl hl.1 rfl (Nat.le_of_ble_eq_true rfl) dX4_setUsual_28 ⟨(Nat.le_of_ble_eq_true rfl), (Nat.le_of_ble_eq_true rfl)⟩ (fun r_4 u H locs hw hP hD hS => ?_)
  obtain ⟨rfl, rfl⟩ := hw
  have hP : va_P D vwCl [(xd, .inr (4, [.ref dt, .int r1, .int r2, .int r3, .int r4, .int r5, .ref d2])), (d2, .inl (g 0, 21, .inl (upd (upd (upd fv 0 1) 1 0) 2 0)))] H := hP
  have hD : va_D A [(xd, .inr (4, [.ref dt, .int r1, .int r2, .int r3, .int r4, .int r5, .ref d2])), (d2, .inl (g 0, 21, .inl (upd (upd (upd fv 0 1) 1 0) 2 0)))] := hD
  refine W.widen (k := 0) (n := 0) (Nat.le_of_ble_eq_true rfl) (Nat.le_of_ble_eq_true rfl) ?_
  refine lv_eqi (y := 1) (by decide) ?_
  refine lv_iconst (v := 3) hx hb dX4_setUsual_31 (by decide) ?_
  refine lv_imul hx hb dX4_setUsual_32 ?_
  refine lv_eqi (y := 3) (by decide) ?_
  refine lv_iload_n hx hb dX4_setUsual_33 rfl (lv_at hl 0 rfl) ?_
  refine lv_iadd hx hb dX4_setUsual_34 ?_
  refine lv_eqi (y := 3) (by decide) ?_
  refine va_ti (v := .int 1) hx hb hZ.2.1 hS (by unfold vp_in; decide) rfl dX4_setUsual_35 ?_
  refine va_iast hx hb hK hP hD hS 1 0 rfl rfl (by unfold vp_in; decide) dX4_setUsual_36 (fun H locs hP hD hS => ?_)
  have hP : va_P D vwCl [(xd, .inr (4, [.ref dt, .int r1, .int r2, .int r3, .int r4, .int r5, .ref d2])), (d2, .inl (g 0, 21, .inl (upd (upd (upd (upd fv 0 1) 1 0) 2 0) 3 1)))] H := hP
  have hD : va_D A [(xd, .inr (4, [.ref dt, .int r1, .int r2, .int r3, .int r4, .int r5, .ref d2])), (d2, .inl (g 0, 21, .inl (upd (upd (upd (upd fv 0 1) 1 0) 2 0) 3 1)))] := hD
  refine lv_iinc (v := 1) (lv' := [(2, .int 1), (1, .int 1), (0, .ref xd)]) hx hb dX4_setUsual_37 hl (k := 0) rfl (by decide) (by decide) rfl (fun ls hl => ?_)
  refine lv_goto (tgt := 10) hx hb dX4_setUsual_40 (by decide) ?_
  refine lv_iload_n hx hb dX4_setUsual_10 rfl (lv_at hl 0 rfl) ?_
  refine lv_iconst (v := 3) hx hb dX4_setUsual_11 (by decide) ?_
  refine lv_icmp_ge (tgt := 43) hx hb dX4_setUsual_12 (by decide) (fun cb => absurd cb (by decide)) (fun _ => ?_)
  refine lv_aload_n hx hb dX4_setUsual_15 rfl (lv_at hl 2 rfl) ?_
  refine va_get (D := D) (ci := 4) (v := .ref d2) (C := RX4) (T := TX4) (N := 7) hx hb hts iX4 hown hK hP 0 rfl rfl 6 (by decide) f15 (fun _ h9 => h9) rfl dX4_setUsual_16 ?_
  refine lv_iload_n hx hb dX4_setUsual_19 rfl (lv_at hl 1 rfl) ?_
  refine lv_iconst (v := 3) hx hb dX4_setUsual_20 (by decide) ?_
  refine lv_imul hx hb dX4_setUsual_21 ?_
  refine lv_eqi (y := 3) (by decide) ?_
  refine lv_iload_n hx hb dX4_setUsual_22 rfl (lv_at hl 0 rfl) ?_
  refine lv_iadd hx hb dX4_setUsual_23 ?_
  refine lv_eqi (y := 4) (by decide) ?_
  refine va_gets hx hb hZ.1 hS hown f47 (fun _ h9 => h9) dX4_setUsual_24 ?_
  refine lv_iload_n hx hb dX4_setUsual_27 rfl (lv_at hl 1 rfl) ?_
  refine ky_Si (As := [.int 1]) (rest := [.ref (g 10), .int 4, .ref d2]) ⟨hx, hb, hml, hown, hts⟩ ⟨hK, hN⟩ hZ hP hD hS hA [] [0, 1] (wc := []) (wr := [(xd, .inr (4, [.ref dt, .int r1, .int r2, .int r3, .int r4, .int r5, .ref d2])), (d2, .inl (g 0, 21, .inl (upd (upd (upd (upd fv 0 1) 1 0) 2 0) 3 1)))]) rfl rfl rfl rfl (by decide) (c_X4_kindOf l D g H.size 1) (va_cwS 1 hts gX4_setUsual_X4_kindOf rfl rfl rfl (by decide +kernel) ⟨(Nat.le_of_ble_eq_true rfl), (Nat.le_of_ble_eq_true rfl)⟩) rfl hl.1 rfl (Nat.le_of_ble_eq_true rfl) dX4_setUsual_28 ⟨(Nat.le_of_ble_eq_true rfl), (Nat.le_of_ble_eq_true rfl)⟩ (fun r_5 u H locs hw hP hD hS => ?_)
  obtain ⟨rfl, rfl⟩ := hw
  have hP : va_P D vwCl [(xd, .inr (4, [.ref dt, .int r1, .int r2, .int r3, .int r4, .int r5, .ref d2])), (d2, .inl (g 0, 21, .inl (upd (upd (upd (upd fv 0 1) 1 0) 2 0) 3 1)))] H := hP
  have hD : va_D A [(xd, .inr (4, [.ref dt, .int r1, .int r2, .int r3, .int r4, .int r5, .ref d2])), (d2, .inl (g 0, 21, .inl (upd (upd (upd (upd fv 0 1) 1 0) 2 0) 3 1)))] := hD
  refine W.widen (k := 0) (n := 0) (Nat.le_of_ble_eq_true rfl) (Nat.le_of_ble_eq_true rfl) ?_
  refine lv_eqi (y := 1) (by decide) ?_
  refine lv_iconst (v := 3) hx hb dX4_setUsual_31 (by decide) ?_
  refine lv_imul hx hb dX4_setUsual_32 ?_
  refine lv_eqi (y := 3) (by decide) ?_
  refine lv_iload_n hx hb dX4_setUsual_33 rfl (lv_at hl 0 rfl) ?_
  refine lv_iadd hx hb dX4_setUsual_34 ?_
  refine lv_eqi (y := 4) (by decide) ?_
  refine va_ti (v := .int 12) hx hb hZ.2.1 hS (by unfold vp_in; decide) rfl dX4_setUsual_35 ?_
  refine va_iast hx hb hK hP hD hS 1 0 rfl rfl (by unfold vp_in; decide) dX4_setUsual_36 (fun H locs hP hD hS => ?_)
  have hP : va_P D vwCl [(xd, .inr (4, [.ref dt, .int r1, .int r2, .int r3, .int r4, .int r5, .ref d2])), (d2, .inl (g 0, 21, .inl (upd (upd (upd (upd (upd fv 0 1) 1 0) 2 0) 3 1) 4 12)))] H := hP
  have hD : va_D A [(xd, .inr (4, [.ref dt, .int r1, .int r2, .int r3, .int r4, .int r5, .ref d2])), (d2, .inl (g 0, 21, .inl (upd (upd (upd (upd (upd fv 0 1) 1 0) 2 0) 3 1) 4 12)))] := hD
  refine lv_iinc (v := 2) (lv' := [(2, .int 2), (1, .int 1), (0, .ref xd)]) hx hb dX4_setUsual_37 hl (k := 0) rfl (by decide) (by decide) rfl (fun ls hl => ?_)
  refine lv_goto (tgt := 10) hx hb dX4_setUsual_40 (by decide) ?_
  refine lv_iload_n hx hb dX4_setUsual_10 rfl (lv_at hl 0 rfl) ?_
  refine lv_iconst (v := 3) hx hb dX4_setUsual_11 (by decide) ?_
  refine lv_icmp_ge (tgt := 43) hx hb dX4_setUsual_12 (by decide) (fun cb => absurd cb (by decide)) (fun _ => ?_)
  refine lv_aload_n hx hb dX4_setUsual_15 rfl (lv_at hl 2 rfl) ?_
  refine va_get (D := D) (ci := 4) (v := .ref d2) (C := RX4) (T := TX4) (N := 7) hx hb hts iX4 hown hK hP 0 rfl rfl 6 (by decide) f15 (fun _ h9 => h9) rfl dX4_setUsual_16 ?_
  refine lv_iload_n hx hb dX4_setUsual_19 rfl (lv_at hl 1 rfl) ?_
  refine lv_iconst (v := 3) hx hb dX4_setUsual_20 (by decide) ?_
  refine lv_imul hx hb dX4_setUsual_21 ?_
  refine lv_eqi (y := 3) (by decide) ?_
  refine lv_iload_n hx hb dX4_setUsual_22 rfl (lv_at hl 0 rfl) ?_
  refine lv_iadd hx hb dX4_setUsual_23 ?_
  refine lv_eqi (y := 5) (by decide) ?_
  refine va_gets hx hb hZ.1 hS hown f47 (fun _ h9 => h9) dX4_setUsual_24 ?_
  refine lv_iload_n hx hb dX4_setUsual_27 rfl (lv_at hl 1 rfl) ?_
  refine ky_Si (As := [.int 1]) (rest := [.ref (g 10), .int 5, .ref d2]) ⟨hx, hb, hml, hown, hts⟩ ⟨hK, hN⟩ hZ hP hD hS hA [] [0, 1] (wc := []) (wr := [(xd, .inr (4, [.ref dt, .int r1, .int r2, .int r3, .int r4, .int r5, .ref d2])), (d2, .inl (g 0, 21, .inl (upd (upd (upd (upd (upd fv 0 1) 1 0) 2 0) 3 1) 4 12)))]) rfl rfl rfl rfl (by decide) (c_X4_kindOf l D g H.size 1) (va_cwS 1 hts gX4_setUsual_X4_kindOf rfl rfl rfl (by decide +kernel) ⟨(Nat.le_of_ble_eq_true rfl), (Nat.le_of_ble_eq_true rfl)⟩) rfl hl.1 rfl (Nat.le_of_ble_eq_true rfl) dX4_setUsual_28 ⟨(Nat.le_of_ble_eq_true rfl), (Nat.le_of_ble_eq_true rfl)⟩ (fun r_6 u H locs hw hP hD hS => ?_)
  obtain ⟨rfl, rfl⟩ := hw
  have hP : va_P D vwCl [(xd, .inr (4, [.ref dt, .int r1, .int r2, .int r3, .int r4, .int r5, .ref d2])), (d2, .inl (g 0, 21, .inl (upd (upd (upd (upd (upd fv 0 1) 1 0) 2 0) 3 1) 4 12)))] H := hP
  have hD : va_D A [(xd, .inr (4, [.ref dt, .int r1, .int r2, .int r3, .int r4, .int r5, .ref d2])), (d2, .inl (g 0, 21, .inl (upd (upd (upd (upd (upd fv 0 1) 1 0) 2 0) 3 1) 4 12)))] := hD
  refine W.widen (k := 0) (n := 0) (Nat.le_of_ble_eq_true rfl) (Nat.le_of_ble_eq_true rfl) ?_
  refine lv_eqi (y := 1) (by decide) ?_
  refine lv_iconst (v := 3) hx hb dX4_setUsual_31 (by decide) ?_
  refine lv_imul hx hb dX4_setUsual_32 ?_
  refine lv_eqi (y := 3) (by decide) ?_
  refine lv_iload_n hx hb dX4_setUsual_33 rfl (lv_at hl 0 rfl) ?_
  refine lv_iadd hx hb dX4_setUsual_34 ?_
  refine lv_eqi (y := 5) (by decide) ?_
  refine va_ti (v := .int 1) hx hb hZ.2.1 hS (by unfold vp_in; decide) rfl dX4_setUsual_35 ?_
  refine va_iast hx hb hK hP hD hS 1 0 rfl rfl (by unfold vp_in; decide) dX4_setUsual_36 (fun H locs hP hD hS => ?_)
  have hP : va_P D vwCl [(xd, .inr (4, [.ref dt, .int r1, .int r2, .int r3, .int r4, .int r5, .ref d2])), (d2, .inl (g 0, 21, .inl (upd (upd (upd (upd (upd (upd fv 0 1) 1 0) 2 0) 3 1) 4 12) 5 1)))] H := hP
  have hD : va_D A [(xd, .inr (4, [.ref dt, .int r1, .int r2, .int r3, .int r4, .int r5, .ref d2])), (d2, .inl (g 0, 21, .inl (upd (upd (upd (upd (upd (upd fv 0 1) 1 0) 2 0) 3 1) 4 12) 5 1)))] := hD
  refine lv_iinc (v := 3) (lv' := [(2, .int 3), (1, .int 1), (0, .ref xd)]) hx hb dX4_setUsual_37 hl (k := 0) rfl (by decide) (by decide) rfl (fun ls hl => ?_)
  refine lv_goto (tgt := 10) hx hb dX4_setUsual_40 (by decide) ?_
  refine lv_iload_n hx hb dX4_setUsual_10 rfl (lv_at hl 0 rfl) ?_
  refine lv_iconst (v := 3) hx hb dX4_setUsual_11 (by decide) ?_
  refine lv_icmp_ge (tgt := 43) hx hb dX4_setUsual_12 (by decide) (fun _ => ?_) (fun cb => absurd (by decide) cb)
  refine lv_iinc (v := 2) (lv' := [(1, .int 2), (2, .int 3), (0, .ref xd)]) hx hb dX4_setUsual_43 hl (k := 1) rfl (by decide) (by decide) rfl (fun ls hl => ?_)
  refine lv_goto (tgt := 2) hx hb dX4_setUsual_46 (by decide) ?_
  refine lv_iload_n hx hb dX4_setUsual_2 rfl (lv_at hl 0 rfl) ?_
  refine lv_bipush (v := 7) hx hb dX4_setUsual_3 (by decide) ?_
  refine lv_icmp_ge (tgt := 49) hx hb dX4_setUsual_5 (by decide) (fun cb => absurd cb (by decide)) (fun _ => ?_)
  refine lv_iconst (v := 0) hx hb dX4_setUsual_8 (by decide) ?_
  refine lv_istore_n (lv' := [(2, .int 0), (1, .int 2), (0, .ref xd)]) hx hb dX4_setUsual_9 rfl hl (by decide) rfl (fun ls hl => ?_)
  refine lv_iload_n hx hb dX4_setUsual_10 rfl (lv_at hl 0 rfl) ?_
  refine lv_iconst (v := 3) hx hb dX4_setUsual_11 (by decide) ?_
  refine lv_icmp_ge (tgt := 43) hx hb dX4_setUsual_12 (by decide) (fun cb => absurd cb (by decide)) (fun _ => ?_)
  refine lv_aload_n hx hb dX4_setUsual_15 rfl (lv_at hl 2 rfl) ?_
  refine va_get (D := D) (ci := 4) (v := .ref d2) (C := RX4) (T := TX4) (N := 7) hx hb hts iX4 hown hK hP 0 rfl rfl 6 (by decide) f15 (fun _ h9 => h9) rfl dX4_setUsual_16 ?_
  refine lv_iload_n hx hb dX4_setUsual_19 rfl (lv_at hl 1 rfl) ?_
  refine lv_iconst (v := 3) hx hb dX4_setUsual_20 (by decide) ?_
  refine lv_imul hx hb dX4_setUsual_21 ?_
  refine lv_eqi (y := 6) (by decide) ?_
  refine lv_iload_n hx hb dX4_setUsual_22 rfl (lv_at hl 0 rfl) ?_
  refine lv_iadd hx hb dX4_setUsual_23 ?_
  refine lv_eqi (y := 6) (by decide) ?_
  refine va_gets hx hb hZ.1 hS hown f47 (fun _ h9 => h9) dX4_setUsual_24 ?_
  refine lv_iload_n hx hb dX4_setUsual_27 rfl (lv_at hl 1 rfl) ?_
  refine ky_Si (As := [.int 2]) (rest := [.ref (g 10), .int 6, .ref d2]) ⟨hx, hb, hml, hown, hts⟩ ⟨hK, hN⟩ hZ hP hD hS hA [] [0, 1] (wc := []) (wr := [(xd, .inr (4, [.ref dt, .int r1, .int r2, .int r3, .int r4, .int r5, .ref d2])), (d2, .inl (g 0, 21, .inl (upd (upd (upd (upd (upd (upd fv 0 1) 1 0) 2 0) 3 1) 4 12) 5 1)))]) rfl rfl rfl rfl (by decide) (c_X4_kindOf l D g H.size 2) (va_cwS 1 hts gX4_setUsual_X4_kindOf rfl rfl rfl (by decide +kernel) ⟨(Nat.le_of_ble_eq_true rfl), (Nat.le_of_ble_eq_true rfl)⟩) rfl hl.1 rfl (Nat.le_of_ble_eq_true rfl) dX4_setUsual_28 ⟨(Nat.le_of_ble_eq_true rfl), (Nat.le_of_ble_eq_true rfl)⟩ (fun r_7 u H locs hw hP hD hS => ?_)
  obtain ⟨rfl, rfl⟩ := hw
  have hP : va_P D vwCl [(xd, .inr (4, [.ref dt, .int r1, .int r2, .int r3, .int r4, .int r5, .ref d2])), (d2, .inl (g 0, 21, .inl (upd (upd (upd (upd (upd (upd fv 0 1) 1 0) 2 0) 3 1) 4 12) 5 1)))] H := hP
  have hD : va_D A [(xd, .inr (4, [.ref dt, .int r1, .int r2, .int r3, .int r4, .int r5, .ref d2])), (d2, .inl (g 0, 21, .inl (upd (upd (upd (upd (upd (upd fv 0 1) 1 0) 2 0) 3 1) 4 12) 5 1)))] := hD
  refine W.widen (k := 0) (n := 0) (Nat.le_of_ble_eq_true rfl) (Nat.le_of_ble_eq_true rfl) ?_
  refine lv_eqi (y := 1) (by decide) ?_
  refine lv_iconst (v := 3) hx hb dX4_setUsual_31 (by decide) ?_
  refine lv_imul hx hb dX4_setUsual_32 ?_
  refine lv_eqi (y := 3) (by decide) ?_
  refine lv_iload_n hx hb dX4_setUsual_33 rfl (lv_at hl 0 rfl) ?_
  refine lv_iadd hx hb dX4_setUsual_34 ?_
  refine lv_eqi (y := 3) (by decide) ?_
  refine va_ti (v := .int 1) hx hb hZ.2.1 hS (by unfold vp_in; decide) rfl dX4_setUsual_35 ?_
  refine va_iast hx hb hK hP hD hS 1 0 rfl rfl (by unfold vp_in; decide) dX4_setUsual_36 (fun H locs hP hD hS => ?_)
  have hP : va_P D vwCl [(xd, .inr (4, [.ref dt, .int r1, .int r2, .int r3, .int r4, .int r5, .ref d2])), (d2, .inl (g 0, 21, .inl (upd (upd (upd (upd (upd (upd (upd fv 0 1) 1 0) 2 0) 3 1) 4 12) 5 1) 6 1)))] H := hP
  have hD : va_D A [(xd, .inr (4, [.ref dt, .int r1, .int r2, .int r3, .int r4, .int r5, .ref d2])), (d2, .inl (g 0, 21, .inl (upd (upd (upd (upd (upd (upd (upd fv 0 1) 1 0) 2 0) 3 1) 4 12) 5 1) 6 1)))] := hD
  refine lv_iinc (v := 1) (lv' := [(2, .int 1), (1, .int 2), (0, .ref xd)]) hx hb dX4_setUsual_37 hl (k := 0) rfl (by decide) (by decide) rfl (fun ls hl => ?_)
  refine lv_goto (tgt := 10) hx hb dX4_setUsual_40 (by decide) ?_
  refine lv_iload_n hx hb dX4_setUsual_10 rfl (lv_at hl 0 rfl) ?_
  refine lv_iconst (v := 3) hx hb dX4_setUsual_11 (by decide) ?_
  refine lv_icmp_ge (tgt := 43) hx hb dX4_setUsual_12 (by decide) (fun cb => absurd cb (by decide)) (fun _ => ?_)
  refine lv_aload_n hx hb dX4_setUsual_15 rfl (lv_at hl 2 rfl) ?_
  refine va_get (D := D) (ci := 4) (v := .ref d2) (C := RX4) (T := TX4) (N := 7) hx hb hts iX4 hown hK hP 0 rfl rfl 6 (by decide) f15 (fun _ h9 => h9) rfl dX4_setUsual_16 ?_
  refine lv_iload_n hx hb dX4_setUsual_19 rfl (lv_at hl 1 rfl) ?_
  refine lv_iconst (v := 3) hx hb dX4_setUsual_20 (by decide) ?_
  refine lv_imul hx hb dX4_setUsual_21 ?_
  refine lv_eqi (y := 6) (by decide) ?_
  refine lv_iload_n hx hb dX4_setUsual_22 rfl (lv_at hl 0 rfl) ?_
  refine lv_iadd hx hb dX4_setUsual_23 ?_
  refine lv_eqi (y := 7) (by decide) ?_
  refine va_gets hx hb hZ.1 hS hown f47 (fun _ h9 => h9) dX4_setUsual_24 ?_
  refine lv_iload_n hx hb dX4_setUsual_27 rfl (lv_at hl 1 rfl) ?_
  refine ky_Si (As := [.int 2]) (rest := [.ref (g 10), .int 7, .ref d2]) ⟨hx, hb, hml, hown, hts⟩ ⟨hK, hN⟩ hZ hP hD hS hA [] [0, 1] (wc := []) (wr := [(xd, .inr (4, [.ref dt, .int r1, .int r2, .int r3, .int r4, .int r5, .ref d2])), (d2, .inl (g 0, 21, .inl (upd (upd (upd (upd (upd (upd (upd fv 0 1) 1 0) 2 0) 3 1) 4 12) 5 1) 6 1)))]) rfl rfl rfl rfl (by decide) (c_X4_kindOf l D g H.size 2) (va_cwS 1 hts gX4_setUsual_X4_kindOf rfl rfl rfl (by decide +kernel) ⟨(Nat.le_of_ble_eq_true rfl), (Nat.le_of_ble_eq_true rfl)⟩) rfl hl.1 rfl (Nat.le_of_ble_eq_true rfl) dX4_setUsual_28 ⟨(Nat.le_of_ble_eq_true rfl), (Nat.le_of_ble_eq_true rfl)⟩ (fun r_8 u H locs hw hP hD hS => ?_)
  obtain ⟨rfl, rfl⟩ := hw
  have hP : va_P D vwCl [(xd, .inr (4, [.ref dt, .int r1, .int r2, .int r3, .int r4, .int r5, .ref d2])), (d2, .inl (g 0, 21, .inl (upd (upd (upd (upd (upd (upd (upd fv 0 1) 1 0) 2 0) 3 1) 4 12) 5 1) 6 1)))] H := hP
  have hD : va_D A [(xd, .inr (4, [.ref dt, .int r1, .int r2, .int r3, .int r4, .int r5, .ref d2])), (d2, .inl (g 0, 21, .inl (upd (upd (upd (upd (upd (upd (upd fv 0 1) 1 0) 2 0) 3 1) 4 12) 5 1) 6 1)))] := hD
  refine W.widen (k := 0) (n := 0) (Nat.le_of_ble_eq_true rfl) (Nat.le_of_ble_eq_true rfl) ?_
  refine lv_eqi (y := 1) (by decide) ?_
  refine lv_iconst (v := 3) hx hb dX4_setUsual_31 (by decide) ?_
  refine lv_imul hx hb dX4_setUsual_32 ?_
  refine lv_eqi (y := 3) (by decide) ?_
  refine lv_iload_n hx hb dX4_setUsual_33 rfl (lv_at hl 0 rfl) ?_
  refine lv_iadd hx hb dX4_setUsual_34 ?_
  refine lv_eqi (y := 4) (by decide) ?_
  refine va_ti (v := .int 12) hx hb hZ.2.1 hS (by unfold vp_in; decide) rfl dX4_setUsual_35 ?_
  refine va_iast hx hb hK hP hD hS 1 0 rfl rfl (by unfold vp_in; decide) dX4_setUsual_36 (fun H locs hP hD hS => ?_)
  have hP : va_P D vwCl [(xd, .inr (4, [.ref dt, .int r1, .int r2, .int r3, .int r4, .int r5, .ref d2])), (d2, .inl (g 0, 21, .inl (upd (upd (upd (upd (upd (upd (upd (upd fv 0 1) 1 0) 2 0) 3 1) 4 12) 5 1) 6 1) 7 12)))] H := hP
  have hD : va_D A [(xd, .inr (4, [.ref dt, .int r1, .int r2, .int r3, .int r4, .int r5, .ref d2])), (d2, .inl (g 0, 21, .inl (upd (upd (upd (upd (upd (upd (upd (upd fv 0 1) 1 0) 2 0) 3 1) 4 12) 5 1) 6 1) 7 12)))] := hD
  refine lv_iinc (v := 2) (lv' := [(2, .int 2), (1, .int 2), (0, .ref xd)]) hx hb dX4_setUsual_37 hl (k := 0) rfl (by decide) (by decide) rfl (fun ls hl => ?_)
  refine lv_goto (tgt := 10) hx hb dX4_setUsual_40 (by decide) ?_
  refine lv_iload_n hx hb dX4_setUsual_10 rfl (lv_at hl 0 rfl) ?_
  refine lv_iconst (v := 3) hx hb dX4_setUsual_11 (by decide) ?_
  refine lv_icmp_ge (tgt := 43) hx hb dX4_setUsual_12 (by decide) (fun cb => absurd cb (by decide)) (fun _ => ?_)
  refine lv_aload_n hx hb dX4_setUsual_15 rfl (lv_at hl 2 rfl) ?_
  refine va_get (D := D) (ci := 4) (v := .ref d2) (C := RX4) (T := TX4) (N := 7) hx hb hts iX4 hown hK hP 0 rfl rfl 6 (by decide) f15 (fun _ h9 => h9) rfl dX4_setUsual_16 ?_
  refine lv_iload_n hx hb dX4_setUsual_19 rfl (lv_at hl 1 rfl) ?_
  refine lv_iconst (v := 3) hx hb dX4_setUsual_20 (by decide) ?_
  refine lv_imul hx hb dX4_setUsual_21 ?_
  refine lv_eqi (y := 6) (by decide) ?_
  refine lv_iload_n hx hb dX4_setUsual_22 rfl (lv_at hl 0 rfl) ?_
  refine lv_iadd hx hb dX4_setUsual_23 ?_
  refine lv_eqi (y := 8) (by decide) ?_
  refine va_gets hx hb hZ.1 hS hown f47 (fun _ h9 => h9) dX4_setUsual_24 ?_
  refine lv_iload_n hx hb dX4_setUsual_27 rfl (lv_at hl 1 rfl) ?_
  refine ky_Si (As := [.int 2]) (rest := [.ref (g 10), .int 8, .ref d2]) ⟨hx, hb, hml, hown, hts⟩ ⟨hK, hN⟩ hZ hP hD hS hA [] [0, 1] (wc := []) (wr := [(xd, .inr (4, [.ref dt, .int r1, .int r2, .int r3, .int r4, .int r5, .ref d2])), (d2, .inl (g 0, 21, .inl (upd (upd (upd (upd (upd (upd (upd (upd fv 0 1) 1 0) 2 0) 3 1) 4 12) 5 1) 6 1) 7 12)))]) rfl rfl rfl rfl (by decide) (c_X4_kindOf l D g H.size 2) (va_cwS 1 hts gX4_setUsual_X4_kindOf rfl rfl rfl (by decide +kernel) ⟨(Nat.le_of_ble_eq_true rfl), (Nat.le_of_ble_eq_true rfl)⟩) rfl hl.1 rfl (Nat.le_of_ble_eq_true rfl) dX4_setUsual_28 ⟨(Nat.le_of_ble_eq_true rfl), (Nat.le_of_ble_eq_true rfl)⟩ (fun r_9 u H locs hw hP hD hS => ?_)
  obtain ⟨rfl, rfl⟩ := hw
  have hP : va_P D vwCl [(xd, .inr (4, [.ref dt, .int r1, .int r2, .int r3, .int r4, .int r5, .ref d2])), (d2, .inl (g 0, 21, .inl (upd (upd (upd (upd (upd (upd (upd (upd fv 0 1) 1 0) 2 0) 3 1) 4 12) 5 1) 6 1) 7 12)))] H := hP
  have hD : va_D A [(xd, .inr (4, [.ref dt, .int r1, .int r2, .int r3, .int r4, .int r5, .ref d2])), (d2, .inl (g 0, 21, .inl (upd (upd (upd (upd (upd (upd (upd (upd fv 0 1) 1 0) 2 0) 3 1) 4 12) 5 1) 6 1) 7 12)))] := hD
  refine W.widen (k := 0) (n := 0) (Nat.le_of_ble_eq_true rfl) (Nat.le_of_ble_eq_true rfl) ?_
  refine lv_eqi (y := 1) (by decide) ?_
  refine lv_iconst (v := 3) hx hb dX4_setUsual_31 (by decide) ?_
  refine lv_imul hx hb dX4_setUsual_32 ?_
  refine lv_eqi (y := 3) (by decide) ?_
  refine lv_iload_n hx hb dX4_setUsual_33 rfl (lv_at hl 0 rfl) ?_
  refine lv_iadd hx hb dX4_setUsual_34 ?_
  refine lv_eqi (y := 5) (by decide) ?_
  refine va_ti (v := .int 1) hx hb hZ.2.1 hS (by unfold vp_in; decide) rfl dX4_setUsual_35 ?_
  refine va_iast hx hb hK hP hD hS 1 0 rfl rfl (by unfold vp_in; decide) dX4_setUsual_36 (fun H locs hP hD hS => ?_)
  have hP : va_P D vwCl [(xd, .inr (4, [.ref dt, .int r1, .int r2, .int r3, .int r4, .int r5, .ref d2])), (d2, .inl (g 0, 21, .inl (upd (upd (upd (upd (upd (upd (upd (upd (upd fv 0 1) 1 0) 2 0) 3 1) 4 12) 5 1) 6 1) 7 12) 8 1)))] H := hP
  have hD : va_D A [(xd, .inr (4, [.ref dt, .int r1, .int r2, .int r3, .int r4, .int r5, .ref d2])), (d2, .inl (g 0, 21, .inl (upd (upd (upd (upd (upd (upd (upd (upd (upd fv 0 1) 1 0) 2 0) 3 1) 4 12) 5 1) 6 1) 7 12) 8 1)))] := hD
  refine lv_iinc (v := 3) (lv' := [(2, .int 3), (1, .int 2), (0, .ref xd)]) hx hb dX4_setUsual_37 hl (k := 0) rfl (by decide) (by decide) rfl (fun ls hl => ?_)
  refine lv_goto (tgt := 10) hx hb dX4_setUsual_40 (by decide) ?_
  refine lv_iload_n hx hb dX4_setUsual_10 rfl (lv_at hl 0 rfl) ?_
  refine lv_iconst (v := 3) hx hb dX4_setUsual_11 (by decide) ?_
  refine lv_icmp_ge (tgt := 43) hx hb dX4_setUsual_12 (by decide) (fun _ => ?_) (fun cb => absurd (by decide) cb)
  refine lv_iinc (v := 3) (lv' := [(1, .int 3), (2, .int 3), (0, .ref xd)]) hx hb dX4_setUsual_43 hl (k := 1) rfl (by decide) (by decide) rfl (fun ls hl => ?_)
  refine lv_goto (tgt := 2) hx hb dX4_setUsual_46 (by decide) ?_
  refine lv_iload_n hx hb dX4_setUsual_2 rfl (lv_at hl 0 rfl) ?_
  refine lv_bipush (v := 7) hx hb dX4_setUsual_3 (by decide) ?_
  refine lv_icmp_ge (tgt := 49) hx hb dX4_setUsual_5 (by decide) (fun cb => absurd cb (by decide)) (fun _ => ?_)
  refine lv_iconst (v := 0) hx hb dX4_setUsual_8 (by decide) ?_
  refine lv_istore_n (lv' := [(2, .int 0), (1, .int 3), (0, .ref xd)]) hx hb dX4_setUsual_9 rfl hl (by decide) rfl (fun ls hl => ?_)
  refine lv_iload_n hx hb dX4_setUsual_10 rfl (lv_at hl 0 rfl) ?_
  refine lv_iconst (v := 3) hx hb dX4_setUsual_11 (by decide) ?_
  refine lv_icmp_ge (tgt := 43) hx hb dX4_setUsual_12 (by decide) (fun cb => absurd cb (by decide)) (fun _ => ?_)
  refine lv_aload_n hx hb dX4_setUsual_15 rfl (lv_at hl 2 rfl) ?_
  refine va_get (D := D) (ci := 4) (v := .ref d2) (C := RX4) (T := TX4) (N := 7) hx hb hts iX4 hown hK hP 0 rfl rfl 6 (by decide) f15 (fun _ h9 => h9) rfl dX4_setUsual_16 ?_
  refine lv_iload_n hx hb dX4_setUsual_19 rfl (lv_at hl 1 rfl) ?_
  refine lv_iconst (v := 3) hx hb dX4_setUsual_20 (by decide) ?_
  refine lv_imul hx hb dX4_setUsual_21 ?_
  refine lv_eqi (y := 9) (by decide) ?_
  refine lv_iload_n hx hb dX4_setUsual_22 rfl (lv_at hl 0 rfl) ?_
  refine lv_iadd hx hb dX4_setUsual_23 ?_
  refine lv_eqi (y := 9) (by decide) ?_
  refine va_gets hx hb hZ.1 hS hown f47 (fun _ h9 => h9) dX4_setUsual_24 ?_
  refine lv_iload_n hx hb dX4_setUsual_27 rfl (lv_at hl 1 rfl) ?_
  refine ky_Si (As := [.int 3]) (rest := [.ref (g 10), .int 9, .ref d2]) ⟨hx, hb, hml, hown, hts⟩ ⟨hK, hN⟩ hZ hP hD hS hA [] [0, 1] (wc := []) (wr := [(xd, .inr (4, [.ref dt, .int r1, .int r2, .int r3, .int r4, .int r5, .ref d2])), (d2, .inl (g 0, 21, .inl (upd (upd (upd (upd (upd (upd (upd (upd (upd fv 0 1) 1 0) 2 0) 3 1) 4 12) 5 1) 6 1) 7 12) 8 1)))]) rfl rfl rfl rfl (by decide) (c_X4_kindOf l D g H.size 3) (va_cwS 1 hts gX4_setUsual_X4_kindOf rfl rfl rfl (by decide +kernel) ⟨(Nat.le_of_ble_eq_true rfl), (Nat.le_of_ble_eq_true rfl)⟩) rfl hl.1 rfl (Nat.le_of_ble_eq_true rfl) dX4_setUsual_28 ⟨(Nat.le_of_ble_eq_true rfl), (Nat.le_of_ble_eq_true rfl)⟩ (fun r_10 u H locs hw hP hD hS => ?_)
  obtain ⟨rfl, rfl⟩ := hw
  have hP : va_P D vwCl [(xd, .inr (4, [.ref dt, .int r1, .int r2, .int r3, .int r4, .int r5, .ref d2])), (d2, .inl (g 0, 21, .inl (upd (upd (upd (upd (upd (upd (upd (upd (upd fv 0 1) 1 0) 2 0) 3 1) 4 12) 5 1) 6 1) 7 12) 8 1)))] H := hP
  have hD : va_D A [(xd, .inr (4, [.ref dt, .int r1, .int r2, .int r3, .int r4, .int r5, .ref d2])), (d2, .inl (g 0, 21, .inl (upd (upd (upd (upd (upd (upd (upd (upd (upd fv 0 1) 1 0) 2 0) 3 1) 4 12) 5 1) 6 1) 7 12) 8 1)))] := hD
  refine W.widen (k := 0) (n := 0) (Nat.le_of_ble_eq_true rfl) (Nat.le_of_ble_eq_true rfl) ?_
  refine lv_eqi (y := 1) (by decide) ?_
  refine lv_iconst (v := 3) hx hb dX4_setUsual_31 (by decide) ?_
  refine lv_imul hx hb dX4_setUsual_32 ?_
  refine lv_eqi (y := 3) (by decide) ?_
  refine lv_iload_n hx hb dX4_setUsual_33 rfl (lv_at hl 0 rfl) ?_
  refine lv_iadd hx hb dX4_setUsual_34 ?_
  refine lv_eqi (y := 3) (by decide) ?_
  refine va_ti (v := .int 1) hx hb hZ.2.1 hS (by unfold vp_in; decide) rfl dX4_setUsual_35 ?_
  refine va_iast hx hb hK hP hD hS 1 0 rfl rfl (by unfold vp_in; decide) dX4_setUsual_36 (fun H locs hP hD hS => ?_)
  have hP : va_P D vwCl [(xd, .inr (4, [.ref dt, .int r1, .int r2, .int r3, .int r4, .int r5, .ref d2])), (d2, .inl (g 0, 21, .inl (upd (upd (upd (upd (upd (upd (upd (upd (upd (upd fv 0 1) 1 0) 2 0) 3 1) 4 12) 5 1) 6 1) 7 12) 8 1) 9 1)))] H := hP
  have hD : va_D A [(xd, .inr (4, [.ref dt, .int r1, .int r2, .int r3, .int r4, .int r5, .ref d2])), (d2, .inl (g 0, 21, .inl (upd (upd (upd (upd (upd (upd (upd (upd (upd (upd fv 0 1) 1 0) 2 0) 3 1) 4 12) 5 1) 6 1) 7 12) 8 1) 9 1)))] := hD
  refine lv_iinc (v := 1) (lv' := [(2, .int 1), (1, .int 3), (0, .ref xd)]) hx hb dX4_setUsual_37 hl (k := 0) rfl (by decide) (by decide) rfl (fun ls hl => ?_)
  refine lv_goto (tgt := 10) hx hb dX4_setUsual_40 (by decide) ?_
  refine lv_iload_n hx hb dX4_setUsual_10 rfl (lv_at hl 0 rfl) ?_
  refine lv_iconst (v := 3) hx hb dX4_setUsual_11 (by decide) ?_
  refine lv_icmp_ge (tgt := 43) hx hb dX4_setUsual_12 (by decide) (fun cb => absurd cb (by decide)) (fun _ => ?_)
  refine lv_aload_n hx hb dX4_setUsual_15 rfl (lv_at hl 2 rfl) ?_
  refine va_get (D := D) (ci := 4) (v := .ref d2) (C := RX4) (T := TX4) (N := 7) hx hb hts iX4 hown hK hP 0 rfl rfl 6 (by decide) f15 (fun _ h9 => h9) rfl dX4_setUsual_16 ?_
  refine lv_iload_n hx hb dX4_setUsual_19 rfl (lv_at hl 1 rfl) ?_
  refine lv_iconst (v := 3) hx hb dX4_setUsual_20 (by decide) ?_
  refine lv_imul hx hb dX4_setUsual_21 ?_
  refine lv_eqi (y := 9) (by decide) ?_
  refine lv_iload_n hx hb dX4_setUsual_22 rfl (lv_at hl 0 rfl) ?_
  refine lv_iadd hx hb dX4_setUsual_23 ?_
  refine lv_eqi (y := 10) (by decide) ?_
  refine va_gets hx hb hZ.1 hS hown f47 (fun _ h9 => h9) dX4_setUsual_24 ?_
  refine lv_iload_n hx hb dX4_setUsual_27 rfl (lv_at hl 1 rfl) ?_
  refine ky_Si (As := [.int 3]) (rest := [.ref (g 10), .int 10, .ref d2]) ⟨hx, hb, hml, hown, hts⟩ ⟨hK, hN⟩ hZ hP hD hS hA [] [0, 1] (wc := []) (wr := [(xd, .inr (4, [.ref dt, .int r1, .int r2, .int r3, .int r4, .int r5, .ref d2])), (d2, .inl (g 0, 21, .inl (upd (upd (upd (upd (upd (upd (upd (upd (upd (upd fv 0 1) 1 0) 2 0) 3 1) 4 12) 5 1) 6 1) 7 12) 8 1) 9 1)))]) rfl rfl rfl rfl (by decide) (c_X4_kindOf l D g H.size 3) (va_cwS 1 hts gX4_setUsual_X4_kindOf rfl rfl rfl (by decide +kernel) ⟨(Nat.le_of_ble_eq_true rfl), (Nat.le_of_ble_eq_true rfl)⟩) rfl hl.1 rfl (Nat.le_of_ble_eq_true rfl) dX4_setUsual_28 ⟨(Nat.le_of_ble_eq_true rfl), (Nat.le_of_ble_eq_true rfl)⟩ (fun r_11 u H locs hw hP hD hS => ?_)
  obtain ⟨rfl, rfl⟩ := hw
  have hP : va_P D vwCl [(xd, .inr (4, [.ref dt, .int r1, .int r2, .int r3, .int r4, .int r5, .ref d2])), (d2, .inl (g 0, 21, .inl (upd (upd (upd (upd (upd (upd (upd (upd (upd (upd fv 0 1) 1 0) 2 0) 3 1) 4 12) 5 1) 6 1) 7 12) 8 1) 9 1)))] H := hP
  have hD : va_D A [(xd, .inr (4, [.ref dt, .int r1, .int r2, .int r3, .int r4, .int r5, .ref d2])), (d2, .inl (g 0, 21, .inl (upd (upd (upd (upd (upd (upd (upd (upd (upd (upd fv 0 1) 1 0) 2 0) 3 1) 4 12) 5 1) 6 1) 7 12) 8 1) 9 1)))] := hD
  refine W.widen (k := 0) (n := 0) (Nat.le_of_ble_eq_true rfl) (Nat.le_of_ble_eq_true rfl) ?_
  refine lv_eqi (y := 1) (by decide) ?_
  refine lv_iconst (v := 3) hx hb dX4_setUsual_31 (by decide) ?_
  refine lv_imul hx hb dX4_setUsual_32 ?_
  refine lv_eqi (y := 3) (by decide) ?_
  refine lv_iload_n hx hb dX4_setUsual_33 rfl (lv_at hl 0 rfl) ?_
  refine lv_iadd hx hb dX4_setUsual_34 ?_
  refine lv_eqi (y := 4) (by decide) ?_
  refine va_ti (v := .int 12) hx hb hZ.2.1 hS (by unfold vp_in; decide) rfl dX4_setUsual_35 ?_
  refine va_iast hx hb hK hP hD hS 1 0 rfl rfl (by unfold vp_in; decide) dX4_setUsual_36 (fun H locs hP hD hS => ?_)
  have hP : va_P D vwCl [(xd, .inr (4, [.ref dt, .int r1, .int r2, .int r3, .int r4, .int r5, .ref d2])), (d2, .inl (g 0, 21, .inl (upd (upd (upd (upd (upd (upd (upd (upd (upd (upd (upd fv 0 1) 1 0) 2 0) 3 1) 4 12) 5 1) 6 1) 7 12) 8 1) 9 1) 10 12)))] H := hP
  have hD : va_D A [(xd, .inr (4, [.ref dt, .int r1, .int r2, .int r3, .int r4, .int r5, .ref d2])), (d2, .inl (g 0, 21, .inl (upd (upd (upd (upd (upd (upd (upd (upd (upd (upd (upd fv 0 1) 1 0) 2 0) 3 1) 4 12) 5 1) 6 1) 7 12) 8 1) 9 1) 10 12)))] := hD
  refine lv_iinc (v := 2) (lv' := [(2, .int 2), (1, .int 3), (0, .ref xd)]) hx hb dX4_setUsual_37 hl (k := 0) rfl (by decide) (by decide) rfl (fun ls hl => ?_)
  refine lv_goto (tgt := 10) hx hb dX4_setUsual_40 (by decide) ?_
  refine lv_iload_n hx hb dX4_setUsual_10 rfl (lv_at hl 0 rfl) ?_
  refine lv_iconst (v := 3) hx hb dX4_setUsual_11 (by decide) ?_
  refine lv_icmp_ge (tgt := 43) hx hb dX4_setUsual_12 (by decide) (fun cb => absurd cb (by decide)) (fun _ => ?_)
  refine lv_aload_n hx hb dX4_setUsual_15 rfl (lv_at hl 2 rfl) ?_
  refine va_get (D := D) (ci := 4) (v := .ref d2) (C := RX4) (T := TX4) (N := 7) hx hb hts iX4 hown hK hP 0 rfl rfl 6 (by decide) f15 (fun _ h9 => h9) rfl dX4_setUsual_16 ?_
  refine lv_iload_n hx hb dX4_setUsual_19 rfl (lv_at hl 1 rfl) ?_
  refine lv_iconst (v := 3) hx hb dX4_setUsual_20 (by decide) ?_
  refine lv_imul hx hb dX4_setUsual_21 ?_
  refine lv_eqi (y := 9) (by decide) ?_
  refine lv_iload_n hx hb dX4_setUsual_22 rfl (lv_at hl 0 rfl) ?_
  refine lv_iadd hx hb dX4_setUsual_23 ?_
  refine lv_eqi (y := 11) (by decide) ?_
  refine va_gets hx hb hZ.1 hS hown f47 (fun _ h9 => h9) dX4_setUsual_24 ?_
  refine lv_iload_n hx hb dX4_setUsual_27 rfl (lv_at hl 1 rfl) ?_
  refine ky_Si (As := [.int 3]) (rest := [.ref (g 10), .int 11, .ref d2]) ⟨hx, hb, hml, hown, hts⟩ ⟨hK, hN⟩ hZ hP hD hS hA [] [0, 1] (wc := []) (wr := [(xd, .inr (4, [.ref dt, .int r1, .int r2, .int r3, .int r4, .int r5, .ref d2])), (d2, .inl (g 0, 21, .inl (upd (upd (upd (upd (upd (upd (upd (upd (upd (upd (upd fv 0 1) 1 0) 2 0) 3 1) 4 12) 5 1) 6 1) 7 12) 8 1) 9 1) 10 12)))]) rfl rfl rfl rfl (by decide) (c_X4_kindOf l D g H.size 3) (va_cwS 1 hts gX4_setUsual_X4_kindOf rfl rfl rfl (by decide +kernel) ⟨(Nat.le_of_ble_eq_true rfl), (Nat.le_of_ble_eq_true rfl)⟩) rfl hl.1 rfl (Nat.le_of_ble_eq_true rfl) dX4_setUsual_28 ⟨(Nat.le_of_ble_eq_true rfl), (Nat.le_of_ble_eq_true rfl)⟩ (fun r_12 u H locs hw hP hD hS => ?_)
  obtain ⟨rfl, rfl⟩ := hw
  have hP : va_P D vwCl [(xd, .inr (4, [.ref dt, .int r1, .int r2, .int r3, .int r4, .int r5, .ref d2])), (d2, .inl (g 0, 21, .inl (upd (upd (upd (upd (upd (upd (upd (upd (upd (upd (upd fv 0 1) 1 0) 2 0) 3 1) 4 12) 5 1) 6 1) 7 12) 8 1) 9 1) 10 12)))] H := hP
  have hD : va_D A [(xd, .inr (4, [.ref dt, .int r1, .int r2, .int r3, .int r4, .int r5, .ref d2])), (d2, .inl (g 0, 21, .inl (upd (upd (upd (upd (upd (upd (upd (upd (upd (upd (upd fv 0 1) 1 0) 2 0) 3 1) 4 12) 5 1) 6 1) 7 12) 8 1) 9 1) 10 12)))] := hD
  refine W.widen (k := 0) (n := 0) (Nat.le_of_ble_eq_true rfl) (Nat.le_of_ble_eq_true rfl) ?_
  refine lv_eqi (y := 1) (by decide) ?_
  refine lv_iconst (v := 3) hx hb dX4_setUsual_31 (by decide) ?_
  refine lv_imul hx hb dX4_setUsual_32 ?_
  refine lv_eqi (y := 3) (by decide) ?_
  refine lv_iload_n hx hb dX4_setUsual_33 rfl (lv_at hl 0 rfl) ?_
  refine lv_iadd hx hb dX4_setUsual_34 ?_
  refine lv_eqi (y := 5) (by decide) ?_
  refine va_ti (v := .int 1) hx hb hZ.2.1 hS (by unfold vp_in; decide) rfl dX4_setUsual_35 ?_
  refine va_iast hx hb hK hP hD hS 1 0 rfl rfl (by unfold vp_in; decide) dX4_setUsual_36 (fun H locs hP hD hS => ?_)
  have hP : va_P D vwCl [(xd, .inr (4, [.ref dt, .int r1, .int r2, .int r3, .int r4, .int r5, .ref d2])), (d2, .inl (g 0, 21, .inl (upd (upd (upd (upd (upd (upd (upd (upd (upd (upd (upd (upd fv 0 1) 1 0) 2 0) 3 1) 4 12) 5 1) 6 1) 7 12) 8 1) 9 1) 10 12) 11 1)))] H := hP
  have hD : va_D A [(xd, .inr (4, [.ref dt, .int r1, .int r2, .int r3, .int r4, .int r5, .ref d2])), (d2, .inl (g 0, 21, .inl (upd (upd (upd (upd (upd (upd (upd (upd (upd (upd (upd (upd fv 0 1) 1 0) 2 0) 3 1) 4 12) 5 1) 6 1) 7 12) 8 1) 9 1) 10 12) 11 1)))] := hD
  refine lv_iinc (v := 3) (lv' := [(2, .int 3), (1, .int 3), (0, .ref xd)]) hx hb dX4_setUsual_37 hl (k := 0) rfl (by decide) (by decide) rfl (fun ls hl => ?_)
  refine lv_goto (tgt := 10) hx hb dX4_setUsual_40 (by decide) ?_
  refine lv_iload_n hx hb dX4_setUsual_10 rfl (lv_at hl 0 rfl) ?_
  refine lv_iconst (v := 3) hx hb dX4_setUsual_11 (by decide) ?_
  refine lv_icmp_ge (tgt := 43) hx hb dX4_setUsual_12 (by decide) (fun _ => ?_) (fun cb => absurd (by decide) cb)
  refine lv_iinc (v := 4) (lv' := [(1, .int 4), (2, .int 3), (0, .ref xd)]) hx hb dX4_setUsual_43 hl (k := 1) rfl (by decide) (by decide) rfl (fun ls hl => ?_)
  refine lv_goto (tgt := 2) hx hb dX4_setUsual_46 (by decide) ?_
  refine lv_iload_n hx hb dX4_setUsual_2 rfl (lv_at hl 0 rfl) ?_
  refine lv_bipush (v := 7) hx hb dX4_setUsual_3 (by decide) ?_
  refine lv_icmp_ge (tgt := 49) hx hb dX4_setUsual_5 (by decide) (fun cb => absurd cb (by decide)) (fun _ => ?_)
  refine lv_iconst (v := 0) hx hb dX4_setUsual_8 (by decide) ?_
  refine lv_istore_n (lv' := [(2, .int 0), (1, .int 4), (0, .ref xd)]) hx hb dX4_setUsual_9 rfl hl (by decide) rfl (fun ls hl => ?_)
  refine lv_iload_n hx hb dX4_setUsual_10 rfl (lv_at hl 0 rfl) ?_
  refine lv_iconst (v := 3) hx hb dX4_setUsual_11 (by decide) ?_
  refine lv_icmp_ge (tgt := 43) hx hb dX4_setUsual_12 (by decide) (fun cb => absurd cb (by decide)) (fun _ => ?_)
  refine lv_aload_n hx hb dX4_setUsual_15 rfl (lv_at hl 2 rfl) ?_
  refine va_get (D := D) (ci := 4) (v := .ref d2) (C := RX4) (T := TX4) (N := 7) hx hb hts iX4 hown hK hP 0 rfl rfl 6 (by decide) f15 (fun _ h9 => h9) rfl dX4_setUsual_16 ?_
  refine lv_iload_n hx hb dX4_setUsual_19 rfl (lv_at hl 1 rfl) ?_
  refine lv_iconst (v := 3) hx hb dX4_setUsual_20 (by decide) ?_
  refine lv_imul hx hb dX4_setUsual_21 ?_
  refine lv_eqi (y := 12) (by decide) ?_
  refine lv_iload_n hx hb dX4_setUsual_22 rfl (lv_at hl 0 rfl) ?_
  refine lv_iadd hx hb dX4_setUsual_23 ?_
  refine lv_eqi (y := 12) (by decide) ?_
  refine va_gets hx hb hZ.1 hS hown f47 (fun _ h9 => h9) dX4_setUsual_24 ?_
  refine lv_iload_n hx hb dX4_setUsual_27 rfl (lv_at hl 1 rfl) ?_
  refine ky_Si (As := [.int 4]) (rest := [.ref (g 10), .int 12, .ref d2]) ⟨hx, hb, hml, hown, hts⟩ ⟨hK, hN⟩ hZ hP hD hS hA [] [0, 1] (wc := []) (wr := [(xd, .inr (4, [.ref dt, .int r1, .int r2, .int r3, .int r4, .int r5, .ref d2])), (d2, .inl (g 0, 21, .inl (upd (upd (upd (upd (upd (upd (upd (upd (upd (upd (upd (upd fv 0 1) 1 0) 2 0) 3 1) 4 12) 5 1) 6 1) 7 12) 8 1) 9 1) 10 12) 11 1)))]) rfl rfl rfl rfl (by decide) (c_X4_kindOf l D g H.size 4) (va_cwS 1 hts gX4_setUsual_X4_kindOf rfl rfl rfl (by decide +kernel) ⟨(Nat.le_of_ble_eq_true rfl), (Nat.le_of_ble_eq_true rfl)⟩) rfl hl.1 rfl (Nat.le_of_ble_eq_true rfl) dX4_setUsual_28 ⟨(Nat.le_of_ble_eq_true rfl), (Nat.le_of_ble_eq_true rfl)⟩ (fun r_13 u H locs hw hP hD hS => ?_)
  obtain ⟨rfl, rfl⟩ := hw
  have hP : va_P D vwCl [(xd, .inr (4, [.ref dt, .int r1, .int r2, .int r3, .int r4, .int r5, .ref d2])), (d2, .inl (g 0, 21, .inl (upd (upd (upd (upd (upd (upd (upd (upd (upd (upd (upd (upd fv 0 1) 1 0) 2 0) 3 1) 4 12) 5 1) 6 1) 7 12) 8 1) 9 1) 10 12) 11 1)))] H := hP
  have hD : va_D A [(xd, .inr (4, [.ref dt, .int r1, .int r2, .int r3, .int r4, .int r5, .ref d2])), (d2, .inl (g 0, 21, .inl (upd (upd (upd (upd (upd (upd (upd (upd (upd (upd (upd (upd fv 0 1) 1 0) 2 0) 3 1) 4 12) 5 1) 6 1) 7 12) 8 1) 9 1) 10 12) 11 1)))] := hD
  refine W.widen (k := 0) (n := 0) (Nat.le_of_ble_eq_true rfl) (Nat.le_of_ble_eq_true rfl) ?_
  refine lv_eqi (y := 2) (by decide) ?_
  refine lv_iconst (v := 3) hx hb dX4_setUsual_31 (by decide) ?_
  refine lv_imul hx hb dX4_setUsual_32 ?_
  refine lv_eqi (y := 6) (by decide) ?_
  refine lv_iload_n hx hb dX4_setUsual_33 rfl (lv_at hl 0 rfl) ?_
  refine lv_iadd hx hb dX4_setUsual_34 ?_
  refine lv_eqi (y := 6) (by decide) ?_
  refine va_ti (v := .int 1) hx hb hZ.2.1 hS (by unfold vp_in; decide) rfl dX4_setUsual_35 ?_
  refine va_iast hx hb hK hP hD hS 1 0 rfl rfl (by unfold vp_in; decide) dX4_setUsual_36 (fun H locs hP hD hS => ?_)
  have hP : va_P D vwCl [(xd, .inr (4, [.ref dt, .int r1, .int r2, .int r3, .int r4, .int r5, .ref d2])), (d2, .inl (g 0, 21, .inl (upd (upd (upd (upd (upd (upd (upd (upd (upd (upd (upd (upd (upd fv 0 1) 1 0) 2 0) 3 1) 4 12) 5 1) 6 1) 7 12) 8 1) 9 1) 10 12) 11 1) 12 1)))] H := hP
  have hD : va_D A [(xd, .inr (4, [.ref dt, .int r1, .int r2, .int r3, .int r4, .int r5, .ref d2])), (d2, .inl (g 0, 21, .inl (upd (upd (upd (upd (upd (upd (upd (upd (upd (upd (upd (upd (upd fv 0 1) 1 0) 2 0) 3 1) 4 12) 5 1) 6 1) 7 12) 8 1) 9 1) 10 12) 11 1) 12 1)))] := hD
  refine lv_iinc (v := 1) (lv' := [(2, .int 1), (1, .int 4), (0, .ref xd)]) hx hb dX4_setUsual_37 hl (k := 0) rfl (by decide) (by decide) rfl (fun ls hl => ?_)
  refine lv_goto (tgt := 10) hx hb dX4_setUsual_40 (by decide) ?_
  refine lv_iload_n hx hb dX4_setUsual_10 rfl (lv_at hl 0 rfl) ?_
  refine lv_iconst (v := 3) hx hb dX4_setUsual_11 (by decide) ?_
  refine lv_icmp_ge (tgt := 43) hx hb dX4_setUsual_12 (by decide) (fun cb => absurd cb (by decide)) (fun _ => ?_)
  refine lv_aload_n hx hb dX4_setUsual_15 rfl (lv_at hl 2 rfl) ?_
  refine va_get (D := D) (ci := 4) (v := .ref d2) (C := RX4) (T := TX4) (N := 7) hx hb hts iX4 hown hK hP 0 rfl rfl 6 (by decide) f15 (fun _ h9 => h9) rfl dX4_setUsual_16 ?_
  refine lv_iload_n hx hb dX4_setUsual_19 rfl (lv_at hl 1 rfl) ?_
  refine lv_iconst (v := 3) hx hb dX4_setUsual_20 (by decide) ?_
  refine lv_imul hx hb dX4_setUsual_21 ?_
  refine lv_eqi (y := 12) (by decide) ?_
  refine lv_iload_n hx hb dX4_setUsual_22 rfl (lv_at hl 0 rfl) ?_
  refine lv_iadd hx hb dX4_setUsual_23 ?_
  refine lv_eqi (y := 13) (by decide) ?_
  refine va_gets hx hb hZ.1 hS hown f47 (fun _ h9 => h9) dX4_setUsual_24 ?_
  refine lv_iload_n hx hb dX4_setUsual_27 rfl (lv_at hl 1 rfl) ?_
  refine ky_Si (As := [.int 4]) (rest := [.ref (g 10), .int 13, .ref d2]) ⟨hx, hb, hml, hown, hts⟩ ⟨hK, hN⟩ hZ hP hD hS hA [] [0, 1] (wc := []) (wr := [(xd, .inr (4, [.ref dt, .int r1, .int r2, .int r3, .int r4, .int r5, .ref d2])), (d2, .inl (g 0, 21, .inl (upd (upd (upd (upd (upd (upd (upd (upd (upd (upd (upd (upd (upd fv 0 1) 1 0) 2 0) 3 1) 4 12) 5 1) 6 1) 7 12) 8 1) 9 1) 10 12) 11 1) 12 1)))]) rfl rfl rfl rfl (by decide) (c_X4_kindOf l D g H.size 4) (va_cwS 1 hts gX4_setUsual_X4_kindOf rfl rfl rfl (by decide +kernel) ⟨(Nat.le_of_ble_eq_true rfl), (Nat.le_of_ble_eq_true rfl)⟩) rfl hl.1 rfl (Nat.le_of_ble_eq_true rfl) dX4_setUsual_28 ⟨(Nat.le_of_ble_eq_true rfl), (Nat.le_of_ble_eq_true rfl)⟩ (fun r_14 u H locs hw hP hD hS => ?_)
  obtain ⟨rfl, rfl⟩ := hw
  have hP : va_P D vwCl [(xd, .inr (4, [.ref dt, .int r1, .int r2, .int r3, .int r4, .int r5, .ref d2])), (d2, .inl (g 0, 21, .inl (upd (upd (upd (upd (upd (upd (upd (upd (upd (upd (upd (upd (upd fv 0 1) 1 0) 2 0) 3 1) 4 12) 5 1) 6 1) 7 12) 8 1) 9 1) 10 12) 11 1) 12 1)))] H := hP
  have hD : va_D A [(xd, .inr (4, [.ref dt, .int r1, .int r2, .int r3, .int r4, .int r5, .ref d2])), (d2, .inl (g 0, 21, .inl (upd (upd (upd (upd (upd (upd (upd (upd (upd (upd (upd (upd (upd fv 0 1) 1 0) 2 0) 3 1) 4 12) 5 1) 6 1) 7 12) 8 1) 9 1) 10 12) 11 1) 12 1)))] := hD
  refine W.widen (k := 0) (n := 0) (Nat.le_of_ble_eq_true rfl) (Nat.le_of_ble_eq_true rfl) ?_
  refine lv_eqi (y := 2) (by decide) ?_
  refine lv_iconst (v := 3) hx hb dX4_setUsual_31 (by decide) ?_
  refine lv_imul hx hb dX4_setUsual_32 ?_
  refine lv_eqi (y := 6) (by decide) ?_
  refine lv_iload_n hx hb dX4_setUsual_33 rfl (lv_at hl 0 rfl) ?_
  refine lv_iadd hx hb dX4_setUsual_34 ?_
  refine lv_eqi (y := 7) (by decide) ?_
  refine va_ti (v := .int 0) hx hb hZ.2.1 hS (by unfold vp_in; decide) rfl dX4_setUsual_35 ?_
  refine va_iast hx hb hK hP hD hS 1 0 rfl rfl (by unfold vp_in; decide) dX4_setUsual_36 (fun H locs hP hD hS => ?_)
  have hP : va_P D vwCl [(xd, .inr (4, [.ref dt, .int r1, .int r2, .int r3, .int r4, .int r5, .ref d2])), (d2, .inl (g 0, 21, .inl (upd (upd (upd (upd (upd (upd (upd (upd (upd (upd (upd (upd (upd (upd fv 0 1) 1 0) 2 0) 3 1) 4 12) 5 1) 6 1) 7 12) 8 1) 9 1) 10 12) 11 1) 12 1) 13 0)))] H := hP
  have hD : va_D A [(xd, .inr (4, [.ref dt, .int r1, .int r2, .int r3, .int r4, .int r5, .ref d2])), (d2, .inl (g 0, 21, .inl (upd (upd (upd (upd (upd (upd (upd (upd (upd (upd (upd (upd (upd (upd fv 0 1) 1 0) 2 0) 3 1) 4 12) 5 1) 6 1) 7 12) 8 1) 9 1) 10 12) 11 1) 12 1) 13 0)))] := hD
  refine lv_iinc (v := 2) (lv' := [(2, .int 2), (1, .int 4), (0, .ref xd)]) hx hb dX4_setUsual_37 hl (k := 0) rfl (by decide) (by decide) rfl (fun ls hl => ?_)
  refine lv_goto (tgt := 10) hx hb dX4_setUsual_40 (by decide) ?_
  refine lv_iload_n hx hb dX4_setUsual_10 rfl (lv_at hl 0 rfl) ?_
  refine lv_iconst (v := 3) hx hb dX4_setUsual_11 (by decide) ?_
  refine lv_icmp_ge (tgt := 43) hx hb dX4_setUsual_12 (by decide) (fun cb => absurd cb (by decide)) (fun _ => ?_)
  refine lv_aload_n hx hb dX4_setUsual_15 rfl (lv_at hl 2 rfl) ?_
  refine va_get (D := D) (ci := 4) (v := .ref d2) (C := RX4) (T := TX4) (N := 7) hx hb hts iX4 hown hK hP 0 rfl rfl 6 (by decide) f15 (fun _ h9 => h9) rfl dX4_setUsual_16 ?_
  refine lv_iload_n hx hb dX4_setUsual_19 rfl (lv_at hl 1 rfl) ?_
  refine lv_iconst (v := 3) hx hb dX4_setUsual_20 (by decide) ?_
  refine lv_imul hx hb dX4_setUsual_21 ?_
  refine lv_eqi (y := 12) (by decide) ?_
  refine lv_iload_n hx hb dX4_setUsual_22 rfl (lv_at hl 0 rfl) ?_
  refine lv_iadd hx hb dX4_setUsual_23 ?_
  refine lv_eqi (y := 14) (by decide) ?_
  refine va_gets hx hb hZ.1 hS hown f47 (fun _ h9 => h9) dX4_setUsual_24 ?_
  refine lv_iload_n hx hb dX4_setUsual_27 rfl (lv_at hl 1 rfl) ?_
  refine ky_Si (As := [.int 4]) (rest := [.ref (g 10), .int 14, .ref d2]) ⟨hx, hb, hml, hown, hts⟩ ⟨hK, hN⟩ hZ hP hD hS hA [] [0, 1] (wc := []) (wr := [(xd, .inr (4, [.ref dt, .int r1, .int r2, .int r3, .int r4, .int r5, .ref d2])), (d2, .inl (g 0, 21, .inl (upd (upd (upd (upd (upd (upd (upd (upd (upd (upd (upd (upd (upd (upd fv 0 1) 1 0) 2 0) 3 1) 4 12) 5 1) 6 1) 7 12) 8 1) 9 1) 10 12) 11 1) 12 1) 13 0)))]) rfl rfl rfl rfl (by decide) (c_X4_kindOf l D g H.size 4) (va_cwS 1 hts gX4_setUsual_X4_kindOf rfl rfl rfl (by decide +kernel) ⟨(Nat.le_of_ble_eq_true rfl), (Nat.le_of_ble_eq_true rfl)⟩) rfl hl.1 rfl (Nat.le_of_ble_eq_true rfl) dX4_setUsual_28 ⟨(Nat.le_of_ble_eq_true rfl), (Nat.le_of_ble_eq_true rfl)⟩ (fun r_15 u H locs hw hP hD hS => ?_)
  obtain ⟨rfl, rfl⟩ := hw
  have hP : va_P D vwCl [(xd, .inr (4, [.ref dt, .int r1, .int r2, .int r3, .int r4, .int r5, .ref d2])), (d2, .inl (g 0, 21, .inl (upd (upd (upd (upd (upd (upd (upd (upd (upd (upd (upd (upd (upd (upd fv 0 1) 1 0) 2 0) 3 1) 4 12) 5 1) 6 1) 7 12) 8 1) 9 1) 10 12) 11 1) 12 1) 13 0)))] H := hP
  have hD : va_D A [(xd, .inr (4, [.ref dt, .int r1, .int r2, .int r3, .int r4, .int r5, .ref d2])), (d2, .inl (g 0, 21, .inl (upd (upd (upd (upd (upd (upd (upd (upd (upd (upd (upd (upd (upd (upd fv 0 1) 1 0) 2 0) 3 1) 4 12) 5 1) 6 1) 7 12) 8 1) 9 1) 10 12) 11 1) 12 1) 13 0)))] := hD
  refine W.widen (k := 0) (n := 0) (Nat.le_of_ble_eq_true rfl) (Nat.le_of_ble_eq_true rfl) ?_
  refine lv_eqi (y := 2) (by decide) ?_
  refine lv_iconst (v := 3) hx hb dX4_setUsual_31 (by decide) ?_
  refine lv_imul hx hb dX4_setUsual_32 ?_
  refine lv_eqi (y := 6) (by decide) ?_
  refine lv_iload_n hx hb dX4_setUsual_33 rfl (lv_at hl 0 rfl) ?_
  refine lv_iadd hx hb dX4_setUsual_34 ?_
  refine lv_eqi (y := 8) (by decide) ?_
  refine va_ti (v := .int 1) hx hb hZ.2.1 hS (by unfold vp_in; decide) rfl dX4_setUsual_35 ?_
  refine va_iast hx hb hK hP hD hS 1 0 rfl rfl (by unfold vp_in; decide) dX4_setUsual_36 (fun H locs hP hD hS => ?_)
  have hP : va_P D vwCl [(xd, .inr (4, [.ref dt, .int r1, .int r2, .int r3, .int r4, .int r5, .ref d2])), (d2, .inl (g 0, 21, .inl (upd (upd (upd (upd (upd (upd (upd (upd (upd (upd (upd (upd (upd (upd (upd fv 0 1) 1 0) 2 0) 3 1) 4 12) 5 1) 6 1) 7 12) 8 1) 9 1) 10 12) 11 1) 12 1) 13 0) 14 1)))] H := hP
  have hD : va_D A [(xd, .inr (4, [.ref dt, .int r1, .int r2, .int r3, .int r4, .int r5, .ref d2])), (d2, .inl (g 0, 21, .inl (upd (upd (upd (upd (upd (upd (upd (upd (upd (upd (upd (upd (upd (upd (upd fv 0 1) 1 0) 2 0) 3 1) 4 12) 5 1) 6 1) 7 12) 8 1) 9 1) 10 12) 11 1) 12 1) 13 0) 14 1)))] := hD
  refine lv_iinc (v := 3) (lv' := [(2, .int 3), (1, .int 4), (0, .ref xd)]) hx hb dX4_setUsual_37 hl (k := 0) rfl (by decide) (by decide) rfl (fun ls hl => ?_)
  refine lv_goto (tgt := 10) hx hb dX4_setUsual_40 (by decide) ?_
  refine lv_iload_n hx hb dX4_setUsual_10 rfl (lv_at hl 0 rfl) ?_
  refine lv_iconst (v := 3) hx hb dX4_setUsual_11 (by decide) ?_
  refine lv_icmp_ge (tgt := 43) hx hb dX4_setUsual_12 (by decide) (fun _ => ?_) (fun cb => absurd (by decide) cb)
  refine lv_iinc (v := 5) (lv' := [(1, .int 5), (2, .int 3), (0, .ref xd)]) hx hb dX4_setUsual_43 hl (k := 1) rfl (by decide) (by decide) rfl (fun ls hl => ?_)
  refine lv_goto (tgt := 2) hx hb dX4_setUsual_46 (by decide) ?_
  refine lv_iload_n hx hb dX4_setUsual_2 rfl (lv_at hl 0 rfl) ?_
  refine lv_bipush (v := 7) hx hb dX4_setUsual_3 (by decide) ?_
  refine lv_icmp_ge (tgt := 49) hx hb dX4_setUsual_5 (by decide) (fun cb => absurd cb (by decide)) (fun _ => ?_)
  refine lv_iconst (v := 0) hx hb dX4_setUsual_8 (by decide) ?_
  refine lv_istore_n (lv' := [(2, .int 0), (1, .int 5), (0, .ref xd)]) hx hb dX4_setUsual_9 rfl hl (by decide) rfl (fun ls hl => ?_)
  refine lv_iload_n hx hb dX4_setUsual_10 rfl (lv_at hl 0 rfl) ?_
  refine lv_iconst (v := 3) hx hb dX4_setUsual_11 (by decide) ?_
  refine lv_icmp_ge (tgt := 43) hx hb dX4_setUsual_12 (by decide) (fun cb => absurd cb (by decide)) (fun _ => ?_)
  refine lv_aload_n hx hb dX4_setUsual_15 rfl (lv_at hl 2 rfl) ?_
  refine va_get (D := D) (ci := 4) (v := .ref d2) (C := RX4) (T := TX4) (N := 7) hx hb hts iX4 hown hK hP 0 rfl rfl 6 (by decide) f15 (fun _ h9 => h9) rfl dX4_setUsual_16 ?_
  refine lv_iload_n hx hb dX4_setUsual_19 rfl (lv_at hl 1 rfl) ?_
  refine lv_iconst (v := 3) hx hb dX4_setUsual_20 (by decide) ?_
  refine lv_imul hx hb dX4_setUsual_21 ?_
  refine lv_eqi (y := 15) (by decide) ?_
  refine lv_iload_n hx hb dX4_setUsual_22 rfl (lv_at hl 0 rfl) ?_
  refine lv_iadd hx hb dX4_setUsual_23 ?_
  refine lv_eqi (y := 15) (by decide) ?_
  refine va_gets hx hb hZ.1 hS hown f47 (fun _ h9 => h9) dX4_setUsual_24 ?_
  refine lv_iload_n hx hb dX4_setUsual_27 rfl (lv_at hl 1 rfl) ?_
  refine ky_Si (As := [.int 5]) (rest := [.ref (g 10), .int 15, .ref d2]) ⟨hx, hb, hml, hown, hts⟩ ⟨hK, hN⟩ hZ hP hD hS hA [] [0, 1] (wc := []) (wr := [(xd, .inr (4, [.ref dt, .int r1, .int r2, .int r3, .int r4, .int r5, .ref d2])), (d2, .inl (g 0, 21, .inl (upd (upd (upd (upd (upd (upd (upd (upd (upd (upd (upd (upd (upd (upd (upd fv 0 1) 1 0) 2 0) 3 1) 4 12) 5 1) 6 1) 7 12) 8 1) 9 1) 10 12) 11 1) 12 1) 13 0) 14 1)))]) rfl rfl rfl rfl (by decide) (c_X4_kindOf l D g H.size 5) (va_cwS 1 hts gX4_setUsual_X4_kindOf rfl rfl rfl (by decide +kernel) ⟨(Nat.le_of_ble_eq_true rfl), (Nat.le_of_ble_eq_true rfl)⟩) rfl hl.1 rfl (Nat.le_of_ble_eq_true rfl) dX4_setUsual_28 ⟨(Nat.le_of_ble_eq_true rfl), (Nat.le_of_ble_eq_true rfl)⟩ (fun r_16 u H locs hw hP hD hS => ?_)
  obtain ⟨rfl, rfl⟩ := hw
  have hP : va_P D vwCl [(xd, .inr (4, [.ref dt, .int r1, .int r2, .int r3, .int r4, .int r5, .ref d2])), (d2, .inl (g 0, 21, .inl (upd (upd (upd (upd (upd (upd (upd (upd (upd (upd (upd (upd (upd (upd (upd fv 0 1) 1 0) 2 0) 3 1) 4 12) 5 1) 6 1) 7 12) 8 1) 9 1) 10 12) 11 1) 12 1) 13 0) 14 1)))] H := hP
  have hD : va_D A [(xd, .inr (4, [.ref dt, .int r1, .int r2, .int r3, .int r4, .int r5, .ref d2])), (d2, .inl (g 0, 21, .inl (upd (upd (upd (upd (upd (upd (upd (upd (upd (upd (upd (upd (upd (upd (upd fv 0 1) 1 0) 2 0) 3 1) 4 12) 5 1) 6 1) 7 12) 8 1) 9 1) 10 12) 11 1) 12 1) 13 0) 14 1)))] := hD
  refine W.widen (k := 0) (n := 0) (Nat.le_of_ble_eq_true rfl) (Nat.le_of_ble_eq_true rfl) ?_
  refine lv_eqi (y := 2) (by decide) ?_
  refine lv_iconst (v := 3) hx hb dX4_setUsual_31 (by decide) ?_
  refine lv_imul hx hb dX4_setUsual_32 ?_
  refine lv_eqi (y := 6) (by decide) ?_
  refine lv_iload_n hx hb dX4_setUsual_33 rfl (lv_at hl 0 rfl) ?_
  refine lv_iadd hx hb dX4_setUsual_34 ?_
  refine lv_eqi (y := 6) (by decide) ?_
  refine va_ti (v := .int 1) hx hb hZ.2.1 hS (by unfold vp_in; decide) rfl dX4_setUsual_35 ?_
  refine va_iast hx hb hK hP hD hS 1 0 rfl rfl (by unfold vp_in; decide) dX4_setUsual_36 (fun H locs hP hD hS => ?_)
  have hP : va_P D vwCl [(xd, .inr (4, [.ref dt, .int r1, .int r2, .int r3, .int r4, .int r5, .ref d2])), (d2, .inl (g 0, 21, .inl (upd (upd (upd (upd (upd (upd (upd (upd (upd (upd (upd (upd (upd (upd (upd (upd fv 0 1) 1 0) 2 0) 3 1) 4 12) 5 1) 6 1) 7 12) 8 1) 9 1) 10 12) 11 1) 12 1) 13 0) 14 1) 15 1)))] H := hP
  have hD : va_D A [(xd, .inr (4, [.ref dt, .int r1, .int r2, .int r3, .int r4, .int r5, .ref d2])), (d2, .inl (g 0, 21, .inl (upd (upd (upd (upd (upd (upd (upd (upd (upd (upd (upd (upd (upd (upd (upd (upd fv 0 1) 1 0) 2 0) 3 1) 4 12) 5 1) 6 1) 7 12) 8 1) 9 1) 10 12) 11 1) 12 1) 13 0) 14 1) 15 1)))] := hD
  refine lv_iinc (v := 1) (lv' := [(2, .int 1), (1, .int 5), (0, .ref xd)]) hx hb dX4_setUsual_37 hl (k := 0) rfl (by decide) (by decide) rfl (fun ls hl => ?_)
  refine lv_goto (tgt := 10) hx hb dX4_setUsual_40 (by decide) ?_
  refine lv_iload_n hx hb dX4_setUsual_10 rfl (lv_at hl 0 rfl) ?_
  refine lv_iconst (v := 3) hx hb dX4_setUsual_11 (by decide) ?_
  refine lv_icmp_ge (tgt := 43) hx hb dX4_setUsual_12 (by decide) (fun cb => absurd cb (by decide)) (fun _ => ?_)
  refine lv_aload_n hx hb dX4_setUsual_15 rfl (lv_at hl 2 rfl) ?_
  refine va_get (D := D) (ci := 4) (v := .ref d2) (C := RX4) (T := TX4) (N := 7) hx hb hts iX4 hown hK hP 0 rfl rfl 6 (by decide) f15 (fun _ h9 => h9) rfl dX4_setUsual_16 ?_
  refine lv_iload_n hx hb dX4_setUsual_19 rfl (lv_at hl 1 rfl) ?_
  refine lv_iconst (v := 3) hx hb dX4_setUsual_20 (by decide) ?_
  refine lv_imul hx hb dX4_setUsual_21 ?_
  refine lv_eqi (y := 15) (by decide) ?_
  refine lv_iload_n hx hb dX4_setUsual_22 rfl (lv_at hl 0 rfl) ?_
  refine lv_iadd hx hb dX4_setUsual_23 ?_
  refine lv_eqi (y := 16) (by decide) ?_
  refine va_gets hx hb hZ.1 hS hown f47 (fun _ h9 => h9) dX4_setUsual_24 ?_
  refine lv_iload_n hx hb dX4_setUsual_27 rfl (lv_at hl 1 rfl) ?_
  refine ky_Si (As := [.int 5]) (rest := [.ref (g 10), .int 16, .ref d2]) ⟨hx, hb, hml, hown, hts⟩ ⟨hK, hN⟩ hZ hP hD hS hA [] [0, 1] (wc := []) (wr := [(xd, .inr (4, [.ref dt, .int r1, .int r2, .int r3, .int r4, .int r5, .ref d2])), (d2, .inl (g 0, 21, .inl (upd (upd (upd (upd (upd (upd (upd (upd (upd (upd (upd (upd (upd (upd (upd (upd fv 0 1) 1 0) 2 0) 3 1) 4 12) 5 1) 6 1) 7 12) 8 1) 9 1) 10 12) 11 1) 12 1) 13 0) 14 1) 15 1)))]) rfl rfl rfl rfl (by decide) (c_X4_kindOf l D g H.size 5) (va_cwS 1 hts gX4_setUsual_X4_kindOf rfl rfl rfl (by decide +kernel) ⟨(Nat.le_of_ble_eq_true rfl), (Nat.le_of_ble_eq_true rfl)⟩) rfl hl.1 rfl (Nat.le_of_ble_eq_true rfl) dX4_setUsual_28 ⟨(Nat.le_of_ble_eq_true rfl), (Nat.le_of_ble_eq_true rfl)⟩ (fun r_17 u H locs hw hP hD hS => ?_)
  obtain ⟨rfl, rfl⟩ := hw
  have hP : va_P D vwCl [(xd, .inr (4, [.ref dt, .int r1, .int r2, .int r3, .int r4, .int r5, .ref d2])), (d2, .inl (g 0, 21, .inl (upd (upd (upd (upd (upd (upd (upd (upd (upd (upd (upd (upd (upd (upd (upd (upd fv 0 1) 1 0) 2 0) 3 1) 4 12) 5 1) 6 1) 7 12) 8 1) 9 1) 10 12) 11 1) 12 1) 13 0) 14 1) 15 1)))] H := hP
  have hD : va_D A [(xd, .inr (4, [.ref dt, .int r1, .int r2, .int r3, .int r4, .int r5, .ref d2])), (d2, .inl (g 0, 21, .inl (upd (upd (upd (upd (upd (upd (upd (upd (upd (upd (upd (upd (upd (upd (upd (upd fv 0 1) 1 0) 2 0) 3 1) 4 12) 5 1) 6 1) 7 12) 8 1) 9 1) 10 12) 11 1) 12 1) 13 0) 14 1) 15 1)))] := hD
  refine W.widen (k := 0) (n := 0) (Nat.le_of_ble_eq_true rfl) (Nat.le_of_ble_eq_true rfl) ?_
  refine lv_eqi (y := 2) (by decide) ?_
  refine lv_iconst (v := 3) hx hb dX4_setUsual_31 (by decide) ?_
  refine lv_imul hx hb dX4_setUsual_32 ?_
  refine lv_eqi (y := 6) (by decide) ?_
  refine lv_iload_n hx hb dX4_setUsual_33 rfl (lv_at hl 0 rfl) ?_
  refine lv_iadd hx hb dX4_setUsual_34 ?_
  refine lv_eqi (y := 7) (by decide) ?_
  refine va_ti (v := .int 0) hx hb hZ.2.1 hS (by unfold vp_in; decide) rfl dX4_setUsual_35 ?_
  refine va_iast hx hb hK hP hD hS 1 0 rfl rfl (by unfold vp_in; decide) dX4_setUsual_36 (fun H locs hP hD hS => ?_)
  have hP : va_P D vwCl [(xd, .inr (4, [.ref dt, .int r1, .int r2, .int r3, .int r4, .int r5, .ref d2])), (d2, .inl (g 0, 21, .inl (upd (upd (upd (upd (upd (upd (upd (upd (upd (upd (upd (upd (upd (upd (upd (upd (upd fv 0 1) 1 0) 2 0) 3 1) 4 12) 5 1) 6 1) 7 12) 8 1) 9 1) 10 12) 11 1) 12 1) 13 0) 14 1) 15 1) 16 0)))] H := hP
  have hD : va_D A [(xd, .inr (4, [.ref dt, .int r1, .int r2, .int r3, .int r4, .int r5, .ref d2])), (d2, .inl (g 0, 21, .inl (upd (upd (upd (upd (upd (upd (upd (upd (upd (upd (upd (upd (upd (upd (upd (upd (upd fv 0 1) 1 0) 2 0) 3 1) 4 12) 5 1) 6 1) 7 12) 8 1) 9 1) 10 12) 11 1) 12 1) 13 0) 14 1) 15 1) 16 0)))] := hD
  refine lv_iinc (v := 2) (lv' := [(2, .int 2), (1, .int 5), (0, .ref xd)]) hx hb dX4_setUsual_37 hl (k := 0) rfl (by decide) (by decide) rfl (fun ls hl => ?_)
  refine lv_goto (tgt := 10) hx hb dX4_setUsual_40 (by decide) ?_
  refine lv_iload_n hx hb dX4_setUsual_10 rfl (lv_at hl 0 rfl) ?_
  refine lv_iconst (v := 3) hx hb dX4_setUsual_11 (by decide) ?_
  refine lv_icmp_ge (tgt := 43) hx hb dX4_setUsual_12 (by decide) (fun cb => absurd cb (by decide)) (fun _ => ?_)
  refine lv_aload_n hx hb dX4_setUsual_15 rfl (lv_at hl 2 rfl) ?_
  refine va_get (D := D) (ci := 4) (v := .ref d2) (C := RX4) (T := TX4) (N := 7) hx hb hts iX4 hown hK hP 0 rfl rfl 6 (by decide) f15 (fun _ h9 => h9) rfl dX4_setUsual_16 ?_
  refine lv_iload_n hx hb dX4_setUsual_19 rfl (lv_at hl 1 rfl) ?_
  refine lv_iconst (v := 3) hx hb dX4_setUsual_20 (by decide) ?_
  refine lv_imul hx hb dX4_setUsual_21 ?_
  refine lv_eqi (y := 15) (by decide) ?_
  refine lv_iload_n hx hb dX4_setUsual_22 rfl (lv_at hl 0 rfl) ?_
  refine lv_iadd hx hb dX4_setUsual_23 ?_
  refine lv_eqi (y := 17) (by decide) ?_
  refine va_gets hx hb hZ.1 hS hown f47 (fun _ h9 => h9) dX4_setUsual_24 ?_
  refine lv_iload_n hx hb dX4_setUsual_27 rfl (lv_at hl 1 rfl) ?_
  refine ky_Si (As := [.int 5]) (rest := [.ref (g 10), .int 17, .ref d2]) ⟨hx, hb, hml, hown, hts⟩ ⟨hK, hN⟩ hZ hP hD hS hA [] [0, 1] (wc := []) (wr := [(xd, .inr (4, [.ref dt, .int r1, .int r2, .int r3, .int r4, .int r5, .ref d2])), (d2, .inl (g 0, 21, .inl (upd (upd (upd (upd (upd (upd (upd (upd (upd (upd (upd (upd (upd (upd (upd (upd (upd fv 0 1) 1 0) 2 0) 3 1) 4 12) 5 1) 6 1) 7 12) 8 1) 9 1) 10 12) 11 1) 12 1) 13 0) 14 1) 15 1) 16 0)))]) rfl rfl rfl rfl (by decide) (c_X4_kindOf l D g H.size 5) (va_cwS 1 hts gX4_setUsual_X4_kindOf rfl rfl rfl (by decide +kernel) ⟨(Nat.le_of_ble_eq_true rfl), (Nat.le_of_ble_eq_true rfl)⟩) rfl hl.1 rfl (Nat.le_of_ble_eq_true rfl) dX4_setUsual_28 ⟨(Nat.le_of_ble_eq_true rfl), (Nat.le_of_ble_eq_true rfl)⟩ (fun r_18 u H locs hw hP hD hS => ?_)
  obtain ⟨rfl, rfl⟩ := hw
  have hP : va_P D vwCl [(xd, .inr (4, [.ref dt, .int r1, .int r2, .int r3, .int r4, .int r5, .ref d2])), (d2, .inl (g 0, 21, .inl (upd (upd (upd (upd (upd (upd (upd (upd (upd (upd (upd (upd (upd (upd (upd (upd (upd fv 0 1) 1 0) 2 0) 3 1) 4 12) 5 1) 6 1) 7 12) 8 1) 9 1) 10 12) 11 1) 12 1) 13 0) 14 1) 15 1) 16 0)))] H := hP
  have hD : va_D A [(xd, .inr (4, [.ref dt, .int r1, .int r2, .int r3, .int r4, .int r5, .ref d2])), (d2, .inl (g 0, 21, .inl (upd (upd (upd (upd (upd (upd (upd (upd (upd (upd (upd (upd (upd (upd (upd (upd (upd fv 0 1) 1 0) 2 0) 3 1) 4 12) 5 1) 6 1) 7 12) 8 1) 9 1) 10 12) 11 1) 12 1) 13 0) 14 1) 15 1) 16 0)))] := hD
  refine W.widen (k := 0) (n := 0) (Nat.le_of_ble_eq_true rfl) (Nat.le_of_ble_eq_true rfl) ?_
  refine lv_eqi (y := 2) (by decide) ?_
  refine lv_iconst (v := 3) hx hb dX4_setUsual_31 (by decide) ?_
  refine lv_imul hx hb dX4_setUsual_32 ?_
  refine lv_eqi (y := 6) (by decide) ?_
  refine lv_iload_n hx hb dX4_setUsual_33 rfl (lv_at hl 0 rfl) ?_
  refine lv_iadd hx hb dX4_setUsual_34 ?_
  refine lv_eqi (y := 8) (by decide) ?_
  refine va_ti (v := .int 1) hx hb hZ.2.1 hS (by unfold vp_in; decide) rfl dX4_setUsual_35 ?_
  refine va_iast hx hb hK hP hD hS 1 0 rfl rfl (by unfold vp_in; decide) dX4_setUsual_36 (fun H locs hP hD hS => ?_)
  have hP : va_P D vwCl [(xd, .inr (4, [.ref dt, .int r1, .int r2, .int r3, .int r4, .int r5, .ref d2])), (d2, .inl (g 0, 21, .inl (upd (upd (upd (upd (upd (upd (upd (upd (upd (upd (upd (upd (upd (upd (upd (upd (upd (upd fv 0 1) 1 0) 2 0) 3 1) 4 12) 5 1) 6 1) 7 12) 8 1) 9 1) 10 12) 11 1) 12 1) 13 0) 14 1) 15 1) 16 0) 17 1)))] H := hP
  have hD : va_D A [(xd, .inr (4, [.ref dt, .int r1, .int r2, .int r3, .int r4, .int r5, .ref d2])), (d2, .inl (g 0, 21, .inl (upd (upd (upd (upd (upd (upd (upd (upd (upd (upd (upd (upd (upd (upd (upd (upd (upd (upd fv 0 1) 1 0) 2 0) 3 1) 4 12) 5 1) 6 1) 7 12) 8 1) 9 1) 10 12) 11 1) 12 1) 13 0) 14 1) 15 1) 16 0) 17 1)))] := hD
  refine lv_iinc (v := 3) (lv' := [(2, .int 3), (1, .int 5), (0, .ref xd)]) hx hb dX4_setUsual_37 hl (k := 0) rfl (by decide) (by decide) rfl (fun ls hl => ?_)
  refine lv_goto (tgt := 10) hx hb dX4_setUsual_40 (by decide) ?_
  refine lv_iload_n hx hb dX4_setUsual_10 rfl (lv_at hl 0 rfl) ?_
  refine lv_iconst (v := 3) hx hb dX4_setUsual_11 (by decide) ?_
  refine lv_icmp_ge (tgt := 43) hx hb dX4_setUsual_12 (by decide) (fun _ => ?_) (fun cb => absurd (by decide) cb)
  refine lv_iinc (v := 6) (lv' := [(1, .int 6), (2, .int 3), (0, .ref xd)]) hx hb dX4_setUsual_43 hl (k := 1) rfl (by decide) (by decide) rfl (fun ls hl => ?_)
  refine lv_goto (tgt := 2) hx hb dX4_setUsual_46 (by decide) ?_
  refine lv_iload_n hx hb dX4_setUsual_2 rfl (lv_at hl 0 rfl) ?_
  refine lv_bipush (v := 7) hx hb dX4_setUsual_3 (by decide) ?_
  refine lv_icmp_ge (tgt := 49) hx hb dX4_setUsual_5 (by decide) (fun cb => absurd cb (by decide)) (fun _ => ?_)
  refine lv_iconst (v := 0) hx hb dX4_setUsual_8 (by decide) ?_
  refine lv_istore_n (lv' := [(2, .int 0), (1, .int 6), (0, .ref xd)]) hx hb dX4_setUsual_9 rfl hl (by decide) rfl (fun ls hl => ?_)
  refine lv_iload_n hx hb dX4_setUsual_10 rfl (lv_at hl 0 rfl) ?_
  refine lv_iconst (v := 3) hx hb dX4_setUsual_11 (by decide) ?_
  refine lv_icmp_ge (tgt := 43) hx hb dX4_setUsual_12 (by decide) (fun cb => absurd cb (by decide)) (fun _ => ?_)
  refine lv_aload_n hx hb dX4_setUsual_15 rfl (lv_at hl 2 rfl) ?_
  refine va_get (D := D) (ci := 4) (v := .ref d2) (C := RX4) (T := TX4) (N := 7) hx hb hts iX4 hown hK hP 0 rfl rfl 6 (by decide) f15 (fun _ h9 => h9) rfl dX4_setUsual_16 ?_
  refine lv_iload_n hx hb dX4_setUsual_19 rfl (lv_at hl 1 rfl) ?_
  refine lv_iconst (v := 3) hx hb dX4_setUsual_20 (by decide) ?_
  refine lv_imul hx hb dX4_setUsual_21 ?_
  refine lv_eqi (y := 18) (by decide) ?_
  refine lv_iload_n hx hb dX4_setUsual_22 rfl (lv_at hl 0 rfl) ?_
  refine lv_iadd hx hb dX4_setUsual_23 ?_
  refine lv_eqi (y := 18) (by decide) ?_
  refine va_gets hx hb hZ.1 hS hown f47 (fun _ h9 => h9) dX4_setUsual_24 ?_
  refine lv_iload_n hx hb dX4_setUsual_27 rfl (lv_at hl 1 rfl) ?_
  refine ky_Si (As := [.int 6]) (rest := [.ref (g 10), .int 18, .ref d2]) ⟨hx, hb, hml, hown, hts⟩ ⟨hK, hN⟩ hZ hP hD hS hA [] [0, 1] (wc := []) (wr := [(xd, .inr (4, [.ref dt, .int r1, .int r2, .int r3, .int r4, .int r5, .ref d2])), (d2, .inl (g 0, 21, .inl (upd (upd (upd (upd (upd (upd (upd (upd (upd (upd (upd (upd (upd (upd (upd (upd (upd (upd fv 0 1) 1 0) 2 0) 3 1) 4 12) 5 1) 6 1) 7 12) 8 1) 9 1) 10 12) 11 1) 12 1) 13 0) 14 1) 15 1) 16 0) 17 1)))]) rfl rfl rfl rfl (by decide) (c_X4_kindOf l D g H.size 6) (va_cwS 1 hts gX4_setUsual_X4_kindOf rfl rfl rfl (by decide +kernel) ⟨(Nat.le_of_ble_eq_true rfl), (Nat.le_of_ble_eq_true rfl)⟩) rfl hl.1 rfl (Nat.le_of_ble_eq_true rfl) dX4_setUsual_28 ⟨(Nat.le_of_ble_eq_true rfl), (Nat.le_of_ble_eq_true rfl)⟩ (fun r_19 u H locs hw hP hD hS => ?_)
  obtain ⟨rfl, rfl⟩ := hw
  have hP : va_P D vwCl [(xd, .inr (4, [.ref dt, .int r1, .int r2, .int r3, .int r4, .int r5, .ref d2])), (d2, .inl (g 0, 21, .inl (upd (upd (upd (upd (upd (upd (upd (upd (upd (upd (upd (upd (upd (upd (upd (upd (upd (upd fv 0 1) 1 0) 2 0) 3 1) 4 12) 5 1) 6 1) 7 12) 8 1) 9 1) 10 12) 11 1) 12 1) 13 0) 14 1) 15 1) 16 0) 17 1)))] H := hP
  have hD : va_D A [(xd, .inr (4, [.ref dt, .int r1, .int r2, .int r3, .int r4, .int r5, .ref d2])), (d2, .inl (g 0, 21, .inl (upd (upd (upd (upd (upd (upd (upd (upd (upd (upd (upd (upd (upd (upd (upd (upd (upd (upd fv 0 1) 1 0) 2 0) 3 1) 4 12) 5 1) 6 1) 7 12) 8 1) 9 1) 10 12) 11 1) 12 1) 13 0) 14 1) 15 1) 16 0) 17 1)))] := hD
  refine W.widen (k := 0) (n := 0) (Nat.le_of_ble_eq_true rfl) (Nat.le_of_ble_eq_true rfl) ?_
  refine lv_eqi (y := 2) (by decide) ?_
  refine lv_iconst (v := 3) hx hb dX4_setUsual_31 (by decide) ?_
  refine lv_imul hx hb dX4_setUsual_32 ?_
  refine lv_eqi (y := 6) (by decide) ?_
  refine lv_iload_n hx hb dX4_setUsual_33 rfl (lv_at hl 0 rfl) ?_
  refine lv_iadd hx hb dX4_setUsual_34 ?_
  refine lv_eqi (y := 6) (by decide) ?_
  refine va_ti (v := .int 1) hx hb hZ.2.1 hS (by unfold vp_in; decide) rfl dX4_setUsual_35 ?_
  refine va_iast hx hb hK hP hD hS 1 0 rfl rfl (by unfold vp_in; decide) dX4_setUsual_36 (fun H locs hP hD hS => ?_)
  have hP : va_P D vwCl [(xd, .inr (4, [.ref dt, .int r1, .int r2, .int r3, .int r4, .int r5, .ref d2])), (d2, .inl (g 0, 21, .inl (upd (upd (upd (upd (upd (upd (upd (upd (upd (upd (upd (upd (upd (upd (upd (upd (upd (upd (upd fv 0 1) 1 0) 2 0) 3 1) 4 12) 5 1) 6 1) 7 12) 8 1) 9 1) 10 12) 11 1) 12 1) 13 0) 14 1) 15 1) 16 0) 17 1) 18 1)))] H := hP
  have hD : va_D A [(xd, .inr (4, [.ref dt, .int r1, .int r2, .int r3, .int r4, .int r5, .ref d2])), (d2, .inl (g 0, 21, .inl (upd (upd (upd (upd (upd (upd (upd (upd (upd (upd (upd (upd (upd (upd (upd (upd (upd (upd (upd fv 0 1) 1 0) 2 0) 3 1) 4 12) 5 1) 6 1) 7 12) 8 1) 9 1) 10 12) 11 1) 12 1) 13 0) 14 1) 15 1) 16 0) 17 1) 18 1)))] := hD
  refine lv_iinc (v := 1) (lv' := [(2, .int 1), (1, .int 6), (0, .ref xd)]) hx hb dX4_setUsual_37 hl (k := 0) rfl (by decide) (by decide) rfl (fun ls hl => ?_)
  refine lv_goto (tgt := 10) hx hb dX4_setUsual_40 (by decide) ?_
  refine lv_iload_n hx hb dX4_setUsual_10 rfl (lv_at hl 0 rfl) ?_
  refine lv_iconst (v := 3) hx hb dX4_setUsual_11 (by decide) ?_
  refine lv_icmp_ge (tgt := 43) hx hb dX4_setUsual_12 (by decide) (fun cb => absurd cb (by decide)) (fun _ => ?_)
  refine lv_aload_n hx hb dX4_setUsual_15 rfl (lv_at hl 2 rfl) ?_
  refine va_get (D := D) (ci := 4) (v := .ref d2) (C := RX4) (T := TX4) (N := 7) hx hb hts iX4 hown hK hP 0 rfl rfl 6 (by decide) f15 (fun _ h9 => h9) rfl dX4_setUsual_16 ?_
  refine lv_iload_n hx hb dX4_setUsual_19 rfl (lv_at hl 1 rfl) ?_
  refine lv_iconst (v := 3) hx hb dX4_setUsual_20 (by decide) ?_
  refine lv_imul hx hb dX4_setUsual_21 ?_
  refine lv_eqi (y := 18) (by decide) ?_
  refine lv_iload_n hx hb dX4_setUsual_22 rfl (lv_at hl 0 rfl) ?_
  refine lv_iadd hx hb dX4_setUsual_23 ?_
  refine lv_eqi (y := 19) (by decide) ?_
  refine va_gets hx hb hZ.1 hS hown f47 (fun _ h9 => h9) dX4_setUsual_24 ?_
  refine lv_iload_n hx hb dX4_setUsual_27 rfl (lv_at hl 1 rfl) ?_
  refine ky_Si (As := [.int 6]) (rest := [.ref (g 10), .int 19, .ref d2]) ⟨hx, hb, hml, hown, hts⟩ ⟨hK, hN⟩ hZ hP hD hS hA [] [0, 1] (wc := []) (wr := [(xd, .inr (4, [.ref dt, .int r1, .int r2, .int r3, .int r4, .int r5, .ref d2])), (d2, .inl (g 0, 21, .inl (upd (upd (upd (upd (upd (upd (upd (upd (upd (upd (upd (upd (upd (upd (upd (upd (upd (upd (upd fv 0 1) 1 0) 2 0) 3 1) 4 12) 5 1) 6 1) 7 12) 8 1) 9 1) 10 12) 11 1) 12 1) 13 0) 14 1) 15 1) 16 0) 17 1) 18 1)))]) rfl rfl rfl rfl (by decide) (c_X4_kindOf l D g H.size 6) (va_cwS 1 hts gX4_setUsual_X4_kindOf rfl rfl rfl (by decide +kernel) ⟨(Nat.le_of_ble_eq_true rfl), (Nat.le_of_ble_eq_true rfl)⟩) rfl hl.1 rfl (Nat.le_of_ble_eq_true rfl) dX4_setUsual_28 ⟨(Nat.le_of_ble_eq_true rfl), (Nat.le_of_ble_eq_true rfl)⟩ (fun r_20 u H locs hw hP hD hS => ?_)
  obtain ⟨rfl, rfl⟩ := hw
  have hP : va_P D vwCl [(xd, .inr (4, [.ref dt, .int r1, .int r2, .int r3, .int r4, .int r5, .ref d2])), (d2, .inl (g 0, 21, .inl (upd (upd (upd (upd (upd (upd (upd (upd (upd (upd (upd (upd (upd (upd (upd (upd (upd (upd (upd fv 0 1) 1 0) 2 0) 3 1) 4 12) 5 1) 6 1) 7 12) 8 1) 9 1) 10 12) 11 1) 12 1) 13 0) 14 1) 15 1) 16 0) 17 1) 18 1)))] H := hP
  have hD : va_D A [(xd, .inr (4, [.ref dt, .int r1, .int r2, .int r3, .int r4, .int r5, .ref d2])), (d2, .inl (g 0, 21, .inl (upd (upd (upd (upd (upd (upd (upd (upd (upd (upd (upd (upd (upd (upd (upd (upd (upd (upd (upd fv 0 1) 1 0) 2 0) 3 1) 4 12) 5 1) 6 1) 7 12) 8 1) 9 1) 10 12) 11 1) 12 1) 13 0) 14 1) 15 1) 16 0) 17 1) 18 1)))] := hD
  refine W.widen (k := 0) (n := 0) (Nat.le_of_ble_eq_true rfl) (Nat.le_of_ble_eq_true rfl) ?_
  refine lv_eqi (y := 2) (by decide) ?_
  refine lv_iconst (v := 3) hx hb dX4_setUsual_31 (by decide) ?_
  refine lv_imul hx hb dX4_setUsual_32 ?_
  refine lv_eqi (y := 6) (by decide) ?_
  refine lv_iload_n hx hb dX4_setUsual_33 rfl (lv_at hl 0 rfl) ?_
  refine lv_iadd hx hb dX4_setUsual_34 ?_
  refine lv_eqi (y := 7) (by decide) ?_
  refine va_ti (v := .int 0) hx hb hZ.2.1 hS (by unfold vp_in; decide) rfl dX4_setUsual_35 ?_
  refine va_iast hx hb hK hP hD hS 1 0 rfl rfl (by unfold vp_in; decide) dX4_setUsual_36 (fun H locs hP hD hS => ?_)
  have hP : va_P D vwCl [(xd, .inr (4, [.ref dt, .int r1, .int r2, .int r3, .int r4, .int r5, .ref d2])), (d2, .inl (g 0, 21, .inl (upd (upd (upd (upd (upd (upd (upd (upd (upd (upd (upd (upd (upd (upd (upd (upd (upd (upd (upd (upd fv 0 1) 1 0) 2 0) 3 1) 4 12) 5 1) 6 1) 7 12) 8 1) 9 1) 10 12) 11 1) 12 1) 13 0) 14 1) 15 1) 16 0) 17 1) 18 1) 19 0)))] H := hP
  have hD : va_D A [(xd, .inr (4, [.ref dt, .int r1, .int r2, .int r3, .int r4, .int r5, .ref d2])), (d2, .inl (g 0, 21, .inl (upd (upd (upd (upd (upd (upd (upd (upd (upd (upd (upd (upd (upd (upd (upd (upd (upd (upd (upd (upd fv 0 1) 1 0) 2 0) 3 1) 4 12) 5 1) 6 1) 7 12) 8 1) 9 1) 10 12) 11 1) 12 1) 13 0) 14 1) 15 1) 16 0) 17 1) 18 1) 19 0)))] := hD
  refine lv_iinc (v := 2) (lv' := [(2, .int 2), (1, .int 6), (0, .ref xd)]) hx hb dX4_setUsual_37 hl (k := 0) rfl (by decide) (by decide) rfl (fun ls hl => ?_)
  refine lv_goto (tgt := 10) hx hb dX4_setUsual_40 (by decide) ?_
  refine lv_iload_n hx hb dX4_setUsual_10 rfl (lv_at hl 0 rfl) ?_
  refine lv_iconst (v := 3) hx hb dX4_setUsual_11 (by decide) ?_
  refine lv_icmp_ge (tgt := 43) hx hb dX4_setUsual_12 (by decide) (fun cb => absurd cb (by decide)) (fun _ => ?_)
  refine lv_aload_n hx hb dX4_setUsual_15 rfl (lv_at hl 2 rfl) ?_
  refine va_get (D := D) (ci := 4) (v := .ref d2) (C := RX4) (T := TX4) (N := 7) hx hb hts iX4 hown hK hP 0 rfl rfl 6 (by decide) f15 (fun _ h9 => h9) rfl dX4_setUsual_16 ?_
  refine lv_iload_n hx hb dX4_setUsual_19 rfl (lv_at hl 1 rfl) ?_
  refine lv_iconst (v := 3) hx hb dX4_setUsual_20 (by decide) ?_
  refine lv_imul hx hb dX4_setUsual_21 ?_
  refine lv_eqi (y := 18) (by decide) ?_
  refine lv_iload_n hx hb dX4_setUsual_22 rfl (lv_at hl 0 rfl) ?_
  refine lv_iadd hx hb dX4_setUsual_23 ?_
  refine lv_eqi (y := 20) (by decide) ?_
  refine va_gets hx hb hZ.1 hS hown f47 (fun _ h9 => h9) dX4_setUsual_24 ?_
  refine lv_iload_n hx hb dX4_setUsual_27 rfl (lv_at hl 1 rfl) ?_
  refine ky_Si (As := [.int 6]) (rest := [.ref (g 10), .int 20, .ref d2]) ⟨hx, hb, hml, hown, hts⟩ ⟨hK, hN⟩ hZ hP hD hS hA [] [0, 1] (wc := []) (wr := [(xd, .inr (4, [.ref dt, .int r1, .int r2, .int r3, .int r4, .int r5, .ref d2])), (d2, .inl (g 0, 21, .inl (upd (upd (upd (upd (upd (upd (upd (upd (upd (upd (upd (upd (upd (upd (upd (upd (upd (upd (upd (upd fv 0 1) 1 0) 2 0) 3 1) 4 12) 5 1) 6 1) 7 12) 8 1) 9 1) 10 12) 11 1) 12 1) 13 0) 14 1) 15 1) 16 0) 17 1) 18 1) 19 0)))]) rfl rfl rfl rfl (by decide) (c_X4_kindOf l D g H.size 6) (va_cwS 1 hts gX4_setUsual_X4_kindOf rfl rfl rfl (by decide +kernel) ⟨(Nat.le_of_ble_eq_true rfl), (Nat.le_of_ble_eq_true rfl)⟩) rfl hl.1 rfl (Nat.le_of_ble_eq_true rfl) dX4_setUsual_28 ⟨(Nat.le_of_ble_eq_true rfl), (Nat.le_of_ble_eq_true rfl)⟩ (fun r_21 u H locs hw hP hD hS => ?_)
  obtain ⟨rfl, rfl⟩ := hw
  have hP : va_P D vwCl [(xd, .inr (4, [.ref dt, .int r1, .int r2, .int r3, .int r4, .int r5, .ref d2])), (d2, .inl (g 0, 21, .inl (upd (upd (upd (upd (upd (upd (upd (upd (upd (upd (upd (upd (upd (upd (upd (upd (upd (upd (upd (upd fv 0 1) 1 0) 2 0) 3 1) 4 12) 5 1) 6 1) 7 12) 8 1) 9 1) 10 12) 11 1) 12 1) 13 0) 14 1) 15 1) 16 0) 17 1) 18 1) 19 0)))] H := hP
  have hD : va_D A [(xd, .inr (4, [.ref dt, .int r1, .int r2, .int r3, .int r4, .int r5, .ref d2])), (d2, .inl (g 0, 21, .inl (upd (upd (upd (upd (upd (upd (upd (upd (upd (upd (upd (upd (upd (upd (upd (upd (upd (upd (upd (upd fv 0 1) 1 0) 2 0) 3 1) 4 12) 5 1) 6 1) 7 12) 8 1) 9 1) 10 12) 11 1) 12 1) 13 0) 14 1) 15 1) 16 0) 17 1) 18 1) 19 0)))] := hD
  refine W.widen (k := 0) (n := 0) (Nat.le_of_ble_eq_true rfl) (Nat.le_of_ble_eq_true rfl) ?_
  refine lv_eqi (y := 2) (by decide) ?_
  refine lv_iconst (v := 3) hx hb dX4_setUsual_31 (by decide) ?_
  refine lv_imul hx hb dX4_setUsual_32 ?_
  refine lv_eqi (y := 6) (by decide) ?_
  refine lv_iload_n hx hb dX4_setUsual_33 rfl (lv_at hl 0 rfl) ?_
  refine lv_iadd hx hb dX4_setUsual_34 ?_
  refine lv_eqi (y := 8) (by decide) ?_
  refine va_ti (v := .int 1) hx hb hZ.2.1 hS (by unfold vp_in; decide) rfl dX4_setUsual_35 ?_
  refine va_iast hx hb hK hP hD hS 1 0 rfl rfl (by unfold vp_in; decide) dX4_setUsual_36 (fun H locs hP hD hS => ?_)
  have hP : va_P D vwCl [(xd, .inr (4, [.ref dt, .int r1, .int r2, .int r3, .int r4, .int r5, .ref d2])), (d2, .inl (g 0, 21, .inl (upd (upd (upd (upd (upd (upd (upd (upd (upd (upd (upd (upd (upd (upd (upd (upd (upd (upd (upd (upd (upd fv 0 1) 1 0) 2 0) 3 1) 4 12) 5 1) 6 1) 7 12) 8 1) 9 1) 10 12) 11 1) 12 1) 13 0) 14 1) 15 1) 16 0) 17 1) 18 1) 19 0) 20 1)))] H := hP
  have hD : va_D A [(xd, .inr (4, [.ref dt, .int r1, .int r2, .int r3, .int r4, .int r5, .ref d2])), (d2, .inl (g 0, 21, .inl (upd (upd (upd (upd (upd (upd (upd (upd (upd (upd (upd (upd (upd (upd (upd (upd (upd (upd (upd (upd (upd fv 0 1) 1 0) 2 0) 3 1) 4 12) 5 1) 6 1) 7 12) 8 1) 9 1) 10 12) 11 1) 12 1) 13 0) 14 1) 15 1) 16 0) 17 1) 18 1) 19 0) 20 1)))] := hD
  refine lv_iinc (v := 3) (lv' := [(2, .int 3), (1, .int 6), (0, .ref xd)]) hx hb dX4_setUsual_37 hl (k := 0) rfl (by decide) (by decide) rfl (fun ls hl => ?_)
  refine lv_goto (tgt := 10) hx hb dX4_setUsual_40 (by decide) ?_
  refine lv_iload_n hx hb dX4_setUsual_10 rfl (lv_at hl 0 rfl) ?_
  refine lv_iconst (v := 3) hx hb dX4_setUsual_11 (by decide) ?_
  refine lv_icmp_ge (tgt := 43) hx hb dX4_setUsual_12 (by decide) (fun _ => ?_) (fun cb => absurd (by decide) cb)
  refine lv_iinc (v := 7) (lv' := [(1, .int 7), (2, .int 3), (0, .ref xd)]) hx hb dX4_setUsual_43 hl (k := 1) rfl (by decide) (by decide) rfl (fun ls hl => ?_)
  refine lv_goto (tgt := 2) hx hb dX4_setUsual_46 (by decide) ?_
  refine lv_iload_n hx hb dX4_setUsual_2 rfl (lv_at hl 0 rfl) ?_
  refine lv_bipush (v := 7) hx hb dX4_setUsual_3 (by decide) ?_
  refine lv_icmp_ge (tgt := 49) hx hb dX4_setUsual_5 (by decide) (fun _ => ?_) (fun cb => absurd (by decide) cb)
  have hP9 := hP.sub (ws' := [(xd, .inr (4, [.ref dt, .int r1, .int r2, .int r3, .int r4, .int r5, .ref d2])), (d2, .inl (g 0, 21, .inl (upd (upd (upd (upd (upd (upd (upd (upd (upd (upd (upd (upd (upd (upd (upd (upd (upd (upd (upd (upd (upd fv 0 1) 1 0) 2 0) 3 1) 4 12) 5 1) 6 1) 7 12) 8 1) 9 1) 10 12) 11 1) 12 1) 13 0) 14 1) 15 1) 16 0) 17 1) 18 1) 19 0) 20 1)))]) [0, 1] rfl
  have hD9 := hD.sub (ws' := [(xd, .inr (4, [.ref dt, .int r1, .int r2, .int r3, .int r4, .int r5, .ref d2])), (d2, .inl (g 0, 21, .inl (upd (upd (upd (upd (upd (upd (upd (upd (upd (upd (upd (upd (upd (upd (upd (upd (upd (upd (upd (upd (upd fv 0 1) 1 0) 2 0) 3 1) 4 12) 5 1) 6 1) 7 12) 8 1) 9 1) 10 12) 11 1) 12 1) 13 0) 14 1) 15 1) 16 0) 17 1) 18 1) 19 0) 20 1)))]) [0, 1] (by decide) rfl
  subst hQ
  refine W.widen (k := 0) (n := 0) (Nat.le_of_ble_eq_true rfl) (Nat.le_of_ble_eq_true rfl) ?_
  exact W.vret hx hb hr (fun tS htS _ => ⟨⟨_, rfl, ⟨(upd (upd (upd (upd (upd (upd (upd (upd (upd (upd (upd (upd (upd (upd (upd (upd (upd (upd (upd (upd (upd fv 0 1) 1 0) 2 0) 3 1) 4 12) 5 1) 6 1) 7 12) 8 1) 9 1) 10 12) 11 1) 12 1) 13 0) 14 1) 15 1) 16 0) 17 1) 18 1) 19 0) 20 1), rfl⟩, by rw [htS]; exact hP9, hD9⟩, hS.F htS⟩) hS.2.2 dX4_setUsual_49
set_option maxHeartbeats 4000000 in
set_option maxRecDepth 100000 in
theorem c_X4_passBlanks (l : Launch) (D : va_G) (g : Nat → ClassId) (sz : Nat) (xd : Nat) (dt : Nat) (r3 : Int32) (r4 : Int32) (r5 : Int32) (d2 : Nat) : Met l yX4_passBlanks wsX4_passBlanks ({ frames := 0, cells := 0, slots := 0, locals := 0 }) (va_Pc [.ref xd] (pre D g sz [(xd, .inr (4, [.ref dt, .int 0, .int 0, .int r3, .int r4, .int r5, .ref d2]))])) (va_Qv (fun (u : va_W) => u = [(xd, .inr (4, [.ref dt, .int 0, .int 0, .int r3, .int r4, .int r5, .ref d2]))]) (wd D (va_A [(xd, .inr (4, [.ref dt, .int 0, .int 0, .int r3, .int r4, .int r5, .ref d2]))] sz)) (va_A [(xd, .inr (4, [.ref dt, .int 0, .int 0, .int r3, .int r4, .int r5, .ref d2]))] sz)) 0 0 (va_A [(xd, .inr (4, [.ref dt, .int 0, .int 0, .int r3, .int r4, .int r5, .ref d2]))] sz) := by
  refine Met.ofW (cc := cX4_passBlanks) (maxL := 1) (ret := none) (by decide) rfl ?_
  intro p e s m args below meth c s₁ B hml hv
  obtain ⟨rfl, hsz, hP, ⟨hK, hN⟩, hD0, hZ⟩ := hv
  have hx := B.exec
  have hb := B.bytes
  have hr := B.returns
  have hts := atoms_spec (ws := wsX4_passBlanks) B.pre
  have hown : s.vm.findClass RX4 = some m.cls := findClass_of_methodNamed B.named
  have hlocks := B.notSynchronized
  clear B
  subst hsz
  have hD := hD0.self (sz := s.heap.size)
  clear hD0
  generalize hAe : va_A [(xd, .inr (4, [.ref dt, .int 0, .int 0, .int r3, .int r4, .int r5, .ref d2]))] s.heap.size = A at hD hZ ⊢
  have hA : ∀ q : Nat, s.heap.size ≤ q → A q := fun q h => by rw [← hAe]; exact Or.inr h
  have hS : va_S A s.heap s.heap [] := va_S.rf
  have f24 := hts (.fieldLink RX4 24 "HopCredits$Reading" "length" "I") (by decide +kernel)
  have f28 := hts (.fieldLink RX4 28 "HopCredits$Reading" "at" "I") (by decide +kernel)
  have iX4 : ∀ w ∈ u_ws RX4 TX4 7, w ∈ wsX4_passBlanks := by decide +kernel
  have hl := lv_entry ([.ref xd]) (n := 1) (Nat.le_of_ble_eq_true rfl)
  rw [lg_entry_eq]
  generalize (lg_sl ([.ref xd]) ++ List.replicate (1 - (lg_sl ([.ref xd])).length) Slot.unset).toArray = ls at hl ⊢
  have hl : lv_has ls 1 [(0, .ref xd)] := hl
  generalize hQ : MQ below _ _ s _ _ _ = Q
  generalize hH : s.heap = H at hP ⊢
  have hS : va_S A s.heap H [] := by rw [← hH]; exact hS
  clear hH
  refine lv_aload_n hx hb dX4_passBlanks_0 rfl (lv_at hl 0 rfl) ?_
  refine va_get (D := D) (ci := 4) (v := .int 0) (C := RX4) (T := TX4) (N := 7) hx hb hts iX4 hown hK hP 0 rfl rfl 2 (by decide) f28 (fun _ h9 => h9) rfl dX4_passBlanks_1 ?_
  refine lv_aload_n hx hb dX4_passBlanks_4 rfl (lv_at hl 0 rfl) ?_
  refine va_get (D := D) (ci := 4) (v := .int 0) (C := RX4) (T := TX4) (N := 7) hx hb hts iX4 hown hK hP 0 rfl rfl 1 (by decide) f24 (fun _ h9 => h9) rfl dX4_passBlanks_5 ?_
  refine lv_icmp_ge (tgt := 38) hx hb dX4_passBlanks_8 (by decide) (fun _ => ?_) (fun cb => absurd (by decide) cb)
  have hP9 := hP.sub (ws' := [(xd, .inr (4, [.ref dt, .int 0, .int 0, .int r3, .int r4, .int r5, .ref d2]))]) [0] rfl
  have hD9 := hD.sub (ws' := [(xd, .inr (4, [.ref dt, .int 0, .int 0, .int r3, .int r4, .int r5, .ref d2]))]) [0] (by decide) rfl
  subst hQ
  refine W.widen (k := 0) (n := 0) (Nat.le_of_ble_eq_true rfl) (Nat.le_of_ble_eq_true rfl) ?_
  exact W.vret hx hb hr (fun tS htS _ => ⟨⟨_, rfl, rfl, by rw [htS]; exact hP9, hD9⟩, hS.F htS⟩) hS.2.2 dX4_passBlanks_38
set_option maxHeartbeats 4000000 in
set_option maxRecDepth 100000 in
theorem c_X4_readHead (l : Launch) (D : va_G) (g : Nat → ClassId) (sz : Nat) (xd : Nat) (dt : Nat) (r3 : Int32) (r4 : Int32) (r5 : Int32) (d2 : Nat) (p0 : Int32) : Met l yX4_readHead wsX4_readHead ({ frames := 1, cells := 0, slots := 0, locals := 20 }) (va_Pc [.ref xd, .int p0] (pre D g sz [(xd, .inr (4, [.ref dt, .int 0, .int 0, .int r3, .int r4, .int r5, .ref d2]))])) (va_Qi (fun (r : Int32) (u : va_W) => u = [(xd, .inr (4, [.ref dt, .int 0, .int 0, .int 0, .int r4, .int r5, .ref d2]))] ∧ r = (-1)) (wd D (va_A [(xd, .inr (4, [.ref dt, .int 0, .int 0, .int r3, .int r4, .int r5, .ref d2]))] sz)) (va_A [(xd, .inr (4, [.ref dt, .int 0, .int 0, .int r3, .int r4, .int r5, .ref d2]))] sz)) 0 0 (va_A [(xd, .inr (4, [.ref dt, .int 0, .int 0, .int r3, .int r4, .int r5, .ref d2]))] sz) := by
  refine Met.ofW (cc := cX4_readHead) (maxL := 3) (ret := (some .int)) (by decide) rfl ?_
  intro p e s m args below meth c s₁ B hml hv
  obtain ⟨rfl, hsz, hP, ⟨hK, hN⟩, hD0, hZ⟩ := hv
  have hx := B.exec
  have hb := B.bytes
  have hr := B.returns
  have hts := atoms_spec (ws := wsX4_readHead) B.pre
  have hown : s.vm.findClass RX4 = some m.cls := findClass_of_methodNamed B.named
  have hlocks := B.notSynchronized
  clear B
  subst hsz
  have hD := hD0.self (sz := s.heap.size)
  clear hD0
  generalize hAe : va_A [(xd, .inr (4, [.ref dt, .int 0, .int 0, .int r3, .int r4, .int r5, .ref d2]))] s.heap.size = A at hD hZ ⊢
  have hA : ∀ q : Nat, s.heap.size ≤ q → A q := fun q h => by rw [← hAe]; exact Or.inr h
  have hS : va_S A s.heap s.heap [] := va_S.rf
  have f24 := hts (.fieldLink RX4 24 "HopCredits$Reading" "length" "I") (by decide +kernel)
  have f28 := hts (.fieldLink RX4 28 "HopCredits$Reading" "at" "I") (by decide +kernel)
  have f31 := hts (.fieldLink RX4 31 "HopCredits$Reading" "fault" "I") (by decide +kernel)
  have iX4 : ∀ w ∈ u_ws RX4 TX4 7, w ∈ wsX4_readHead := by decide +kernel
  have hl := lv_entry ([.ref xd, .int p0]) (n := 3) (Nat.le_of_ble_eq_true rfl)
  rw [lg_entry_eq]
  generalize (lg_sl ([.ref xd, .int p0]) ++ List.replicate (3 - (lg_sl ([.ref xd, .int p0])).length) Slot.unset).toArray = ls at hl ⊢
  have hl : lv_has ls 3 [(0, .ref xd), (1, .int p0)] := hl
  generalize hQ : MQ below _ _ s _ _ _ = Q
  generalize hH : s.heap = H at hP ⊢
  have hS : va_S A s.heap H [] := by rw [← hH]; exact hS
  clear hH
  refine lv_aload_n hx hb dX4_readHead_0 rfl (lv_at hl 0 rfl) ?_
  refine ky_Vv (As := []) (rest := []) ⟨hx, hb, hml, hown, hts⟩ ⟨hK, hN⟩ hZ hP hD hS hA [0] [] (wc := [(xd, .inr (4, [.ref dt, .int 0, .int 0, .int r3, .int r4, .int r5, .ref d2]))]) (wr := []) rfl rfl rfl rfl (by decide) (c_X4_passBlanks l D g H.size xd dt r3 r4 r5 d2) (cwV 0 hts gX4_readHead_X4_passBlanks rfl rfl rfl (by decide +kernel) ⟨(Nat.le_of_ble_eq_true rfl), (Nat.le_of_ble_eq_true rfl)⟩) 0 4 rfl rfl rfl rfl hl.1 rfl (Nat.le_of_ble_eq_true rfl) dX4_readHead_1 ⟨(Nat.le_of_ble_eq_true rfl), (Nat.le_of_ble_eq_true rfl)⟩ (fun u H locs hw hP hD hS => ?_)
  obtain rfl := hw
  have hP : va_P D vwCl [(xd, .inr (4, [.ref dt, .int 0, .int 0, .int r3, .int r4, .int r5, .ref d2]))] H := hP
  have hD : va_D A [(xd, .inr (4, [.ref dt, .int 0, .int 0, .int r3, .int r4, .int r5, .ref d2]))] := hD
  refine W.widen (k := 0) (n := 0) (Nat.le_of_ble_eq_true rfl) (Nat.le_of_ble_eq_true rfl) ?_
  refine lv_iconst (v := (-1)) hx hb dX4_readHead_4 (by decide) ?_
  refine lv_istore_n (lv' := [(2, .int (-1)), (0, .ref xd), (1, .int p0)]) hx hb dX4_readHead_5 rfl hl (by decide) rfl (fun ls hl => ?_)
  refine lv_aload_n hx hb dX4_readHead_6 rfl (lv_at hl 1 rfl) ?_
  refine va_get (D := D) (ci := 4) (v := .int 0) (C := RX4) (T := TX4) (N := 7) hx hb hts iX4 hown hK hP 0 rfl rfl 2 (by decide) f28 (fun _ h9 => h9) rfl dX4_readHead_7 ?_
  refine lv_aload_n hx hb dX4_readHead_10 rfl (lv_at hl 1 rfl) ?_
  refine va_get (D := D) (ci := 4) (v := .int 0) (C := RX4) (T := TX4) (N := 7) hx hb hts iX4 hown hK hP 0 rfl rfl 1 (by decide) f24 (fun _ h9 => h9) rfl dX4_readHead_11 ?_
  refine lv_icmp_ge (tgt := 32) hx hb dX4_readHead_14 (by decide) (fun _ => ?_) (fun cb => absurd (by decide) cb)
  refine lv_iload_n hx hb dX4_readHead_32 rfl (lv_at hl 0 rfl) ?_
  refine lv_iconst (v := (-1)) hx hb dX4_readHead_33 (by decide) ?_
  refine lv_icmp_ne (tgt := 47) hx hb dX4_readHead_34 (by decide) (fun cb => absurd (by decide) cb) (fun _ => ?_)
  refine lv_aload_n hx hb dX4_readHead_37 rfl (lv_at hl 1 rfl) ?_
  refine lv_aload_n hx hb dX4_readHead_38 rfl (lv_at hl 1 rfl) ?_
  refine va_get (D := D) (ci := 4) (v := .int 0) (C := RX4) (T := TX4) (N := 7) hx hb hts iX4 hown hK hP 0 rfl rfl 2 (by decide) f28 (fun _ h9 => h9) rfl dX4_readHead_39 ?_
  refine va_put (D := D) (ci := 4) (v := .int 0) (ty := .int) (C := RX4) (T := TX4) (N := 7) hx hb hts iX4 tyX4 tyX4_ok nmX4 hown hK hP hD hS 0 rfl rfl 3 (by decide) f31 (fun _ h9 => h9) rfl (by decide +kernel) (rfl) (rfl) (Nat.le_of_ble_eq_true rfl) dX4_readHead_42 (fun H locs hP hD hS => ?_)
  have hP : va_P D vwCl [(xd, .inr (4, [.ref dt, .int 0, .int 0, .int 0, .int r4, .int r5, .ref d2]))] H := hP
  have hD : va_D A [(xd, .inr (4, [.ref dt, .int 0, .int 0, .int 0, .int r4, .int r5, .ref d2]))] := hD
  refine lv_iconst (v := (-1)) hx hb dX4_readHead_45 (by decide) ?_
  have hP9 := hP.sub (ws' := [(xd, .inr (4, [.ref dt, .int 0, .int 0, .int 0, .int r4, .int r5, .ref d2]))]) [0] rfl
  have hD9 := hD.sub (ws' := [(xd, .inr (4, [.ref dt, .int 0, .int 0, .int 0, .int r4, .int r5, .ref d2]))]) [0] (by decide) rfl
  subst hQ
  refine W.widen (k := 0) (n := 0) (Nat.le_of_ble_eq_true rfl) (Nat.le_of_ble_eq_true rfl) ?_
  exact W.iret (v := (-1)) hx hb hr (fun tS htS _ => ⟨⟨_, _, rfl, ⟨rfl, rfl⟩, by rw [htS]; exact hP9, hD9⟩, hS.F htS⟩) hS.2.2 dX4_readHead_46
set_option maxHeartbeats 4000000 in
set_option maxRecDepth 100000 in
theorem c_X4_readClause (l : Launch) (D : va_G) (g : Nat → ClassId) (sz : Nat) (xd : Nat) (dt : Nat) (r3 : Int32) (r4 : Int32) (r5 : Int32) (d2 : Nat) (p0 : Int32) : Met l yX4_readClause wsX4_readClause ({ frames := 2, cells := 0, slots := 0, locals := 42 }) (va_Pc [.ref xd, .int p0] (pre D g sz [(xd, .inr (4, [.ref dt, .int 0, .int 0, .int r3, .int r4, .int r5, .ref d2]))])) (va_Qv (fun (u : va_W) => u = [(xd, .inr (4, [.ref dt, .int 0, .int 0, .int 0, .int r4, .int r5, .ref d2]))]) (wd D (va_A [(xd, .inr (4, [.ref dt, .int 0, .int 0, .int r3, .int r4, .int r5, .ref d2]))] sz)) (va_A [(xd, .inr (4, [.ref dt, .int 0, .int 0, .int r3, .int r4, .int r5, .ref d2]))] sz)) 0 0 (va_A [(xd, .inr (4, [.ref dt, .int 0, .int 0, .int r3, .int r4, .int r5, .ref d2]))] sz) := by
  refine Met.ofW (cc := cX4_readClause) (maxL := 6) (ret := none) (by decide) rfl ?_
  intro p e s m args below meth c s₁ B hml hv
  obtain ⟨rfl, hsz, hP, ⟨hK, hN⟩, hD0, hZ⟩ := hv
  have hx := B.exec
  have hb := B.bytes
  have hr := B.returns
  have hts := atoms_spec (ws := wsX4_readClause) B.pre
  have hown : s.vm.findClass RX4 = some m.cls := findClass_of_methodNamed B.named
  have hlocks := B.notSynchronized
  clear B
  subst hsz
  have hD := hD0.self (sz := s.heap.size)
  clear hD0
  generalize hAe : va_A [(xd, .inr (4, [.ref dt, .int 0, .int 0, .int r3, .int r4, .int r5, .ref d2]))] s.heap.size = A at hD hZ ⊢
  have hA : ∀ q : Nat, s.heap.size ≤ q → A q := fun q h => by rw [← hAe]; exact Or.inr h
  have hS : va_S A s.heap s.heap [] := va_S.rf
  have hl := lv_entry ([.ref xd, .int p0]) (n := 6) (Nat.le_of_ble_eq_true rfl)
  rw [lg_entry_eq]
  generalize (lg_sl ([.ref xd, .int p0]) ++ List.replicate (6 - (lg_sl ([.ref xd, .int p0])).length) Slot.unset).toArray = ls at hl ⊢
  have hl : lv_has ls 6 [(0, .ref xd), (1, .int p0)] := hl
  generalize hQ : MQ below _ _ s _ _ _ = Q
  generalize hH : s.heap = H at hP ⊢
  have hS : va_S A s.heap H [] := by rw [← hH]; exact hS
  clear hH
  refine lv_aload_n hx hb dX4_readClause_0 rfl (lv_at hl 0 rfl) ?_
  refine lv_iload_n hx hb dX4_readClause_1 rfl (lv_at hl 1 rfl) ?_
  refine ky_Vi (As := [.int p0]) (rest := []) ⟨hx, hb, hml, hown, hts⟩ ⟨hK, hN⟩ hZ hP hD hS hA [0] [] (wc := [(xd, .inr (4, [.ref dt, .int 0, .int 0, .int r3, .int r4, .int r5, .ref d2]))]) (wr := []) rfl rfl rfl rfl (by decide) (c_X4_readHead l D g H.size xd dt r3 r4 r5 d2 p0) (cwV 1 hts gX4_readClause_X4_readHead rfl rfl rfl (by decide +kernel) ⟨(Nat.le_of_ble_eq_true rfl), (Nat.le_of_ble_eq_true rfl)⟩) 0 4 rfl rfl rfl rfl hl.1 rfl (Nat.le_of_ble_eq_true rfl) dX4_readClause_2 ⟨(Nat.le_of_ble_eq_true rfl), (Nat.le_of_ble_eq_true rfl)⟩ (fun r_1 u H locs hw hP hD hS => ?_)
  obtain ⟨rfl, rfl⟩ := hw
  have hP : va_P D vwCl [(xd, .inr (4, [.ref dt, .int 0, .int 0, .int 0, .int r4, .int r5, .ref d2]))] H := hP
  have hD : va_D A [(xd, .inr (4, [.ref dt, .int 0, .int 0, .int 0, .int r4, .int r5, .ref d2]))] := hD
  refine W.widen (k := 0) (n := 0) (Nat.le_of_ble_eq_true rfl) (Nat.le_of_ble_eq_true rfl) ?_
  refine lv_istore_n (lv' := [(2, .int (-1)), (0, .ref xd), (1, .int p0)]) hx hb dX4_readClause_5 rfl hl (by decide) rfl (fun ls hl => ?_)
  refine lv_iload_n hx hb dX4_readClause_6 rfl (lv_at hl 0 rfl) ?_
  refine lv_iconst (v := (-1)) hx hb dX4_readClause_7 (by decide) ?_
  refine lv_icmp_ne (tgt := 12) hx hb dX4_readClause_8 (by decide) (fun cb => absurd (by decide) cb) (fun _ => ?_)
  have hP9 := hP.sub (ws' := [(xd, .inr (4, [.ref dt, .int 0, .int 0, .int 0, .int r4, .int r5, .ref d2]))]) [0] rfl
  have hD9 := hD.sub (ws' := [(xd, .inr (4, [.ref dt, .int 0, .int 0, .int 0, .int r4, .int r5, .ref d2]))]) [0] (by decide) rfl
  subst hQ
  refine W.widen (k := 0) (n := 0) (Nat.le_of_ble_eq_true rfl) (Nat.le_of_ble_eq_true rfl) ?_
  exact W.vret hx hb hr (fun tS htS _ => ⟨⟨_, rfl, rfl, by rw [htS]; exact hP9, hD9⟩, hS.F htS⟩) hS.2.2 dX4_readClause_11
set_option maxHeartbeats 4000000 in
set_option maxRecDepth 100000 in
/-- an empty text is at fault at 0 -/
theorem c_X4_faultOf (l : Launch) (D : va_G) (g : Nat → ClassId) (sz : Nat) (xd : Nat) (dt : Nat) (r1 : Int32) (r2 : Int32) (r3 : Int32) (r4 : Int32) (r5 : Int32) (d2 : Nat) (fv : Nat → Int32) (xt : Nat) (ft : Nat → Int32) : Met l yX4_faultOf wsX4_faultOf ({ frames := 3, cells := 0, slots := 0, locals := 67 }) (va_Pc [.ref xd, .ref xt, .int 0] (pre D g sz [(xd, .inr (4, [.ref dt, .int r1, .int r2, .int r3, .int r4, .int r5, .ref d2])), (d2, .inl (g 0, 21, .inl fv)), (xt, .inl (g 0, 160, .inl ft))])) (va_Qi (fun (r : Int32) (u : va_W) => ∃ (fv2 : Nat → Int32), u = [(xd, .inr (4, [.ref xt, .int 0, .int 1, .int 0, .int 0, .int 0, .ref d2])), (d2, .inl (g 0, 21, .inl fv2)), (xt, .inl (g 0, 160, .inl ft))] ∧ r = 0) (wd D (va_A [(xd, .inr (4, [.ref dt, .int r1, .int r2, .int r3, .int r4, .int r5, .ref d2])), (d2, .inl (g 0, 21, .inl fv)), (xt, .inl (g 0, 160, .inl ft))] sz)) (va_A [(xd, .inr (4, [.ref dt, .int r1, .int r2, .int r3, .int r4, .int r5, .ref d2])), (d2, .inl (g 0, 21, .inl fv)), (xt, .inl (g 0, 160, .inl ft))] sz)) 0 0 (va_A [(xd, .inr (4, [.ref dt, .int r1, .int r2, .int r3, .int r4, .int r5, .ref d2])), (d2, .inl (g 0, 21, .inl fv)), (xt, .inl (g 0, 160, .inl ft))] sz) := by
  refine Met.ofW (cc := cX4_faultOf) (maxL := 5) (ret := (some .int)) (by decide) rfl ?_
  intro p e s m args below meth c s₁ B hml hv
  obtain ⟨rfl, hsz, hP, ⟨hK, hN⟩, hD0, hZ⟩ := hv
  have hx := B.exec
  have hb := B.bytes
  have hr := B.returns
  have hts := atoms_spec (ws := wsX4_faultOf) B.pre
  have hown : s.vm.findClass RX4 = some m.cls := findClass_of_methodNamed B.named
  have hlocks := B.notSynchronized
  clear B
  subst hsz
  have hD := hD0.self (sz := s.heap.size)
  clear hD0
  generalize hAe : va_A [(xd, .inr (4, [.ref dt, .int r1, .int r2, .int r3, .int r4, .int r5, .ref d2])), (d2, .inl (g 0, 21, .inl fv)), (xt, .inl (g 0, 160, .inl ft))] s.heap.size = A at hD hZ ⊢
  have hA : ∀ q : Nat, s.heap.size ≤ q → A q := fun q h => by rw [← hAe]; exact Or.inr h
  have hS : va_S A s.heap s.heap [] := va_S.rf
  have f24 := hts (.fieldLink RX4 24 "HopCredits$Reading" "length" "I") (by decide +kernel)
  have f28 := hts (.fieldLink RX4 28 "HopCredits$Reading" "at" "I") (by decide +kernel)
  have f31 := hts (.fieldLink RX4 31 "HopCredits$Reading" "fault" "I") (by decide +kernel)
  have f34 := hts (.fieldLink RX4 34 "HopCredits$Reading" "hopsTold" "I") (by decide +kernel)
  have f37 := hts (.fieldLink RX4 37 "HopCredits$Reading" "circuitsTold" "I") (by decide +kernel)
  have f9 := hts (.fieldLink RX4 9 "HopCredits$Reading" "text" "[I") (by decide +kernel)
  have mcmin := hts (.code Lib.Math.min.name Lib.Math.min.code 2 (some .int)) (by decide +kernel)
  have mi := hts (.initialized "java/lang/Math") (by decide +kernel)
  have mmmin := hts (.methodLink RX4 18 Lib.Math.min.name) (by decide +kernel)
  have mtmin := hts (.static Lib.Math.min.name) (by decide +kernel)
  have iX4 : ∀ w ∈ u_ws RX4 TX4 7, w ∈ wsX4_faultOf := by decide +kernel
  have hl := lv_entry ([.ref xd, .ref xt, .int 0]) (n := 5) (Nat.le_of_ble_eq_true rfl)
  rw [lg_entry_eq]
  generalize (lg_sl ([.ref xd, .ref xt, .int 0]) ++ List.replicate (5 - (lg_sl ([.ref xd, .ref xt, .int 0])).length) Slot.unset).toArray = ls at hl ⊢
  have hl : lv_has ls 5 [(0, .ref xd), (1, .ref xt), (2, .int 0)] := hl
  generalize hQ : MQ below _ _ s _ _ _ = Q
  generalize hH : s.heap = H at hP ⊢
  have hS : va_S A s.heap H [] := by rw [← hH]; exact hS
  clear hH
  refine lv_aload_n hx hb dX4_faultOf_0 rfl (lv_at hl 0 rfl) ?_
  refine lv_aload_n hx hb dX4_faultOf_1 rfl (lv_at hl 1 rfl) ?_
  refine va_put (D := D) (ci := 4) (v := .ref xt) (ty := (.array .int)) (C := RX4) (T := TX4) (N := 7) hx hb hts iX4 tyX4 tyX4_ok nmX4 hown hK hP hD hS 0 rfl rfl 0 (by decide) f9 (fun _ h9 => h9) rfl (by decide +kernel) (rfl) (rfl) (Nat.le_of_ble_eq_true rfl) dX4_faultOf_2 (fun H locs hP hD hS => ?_)
  have hP : va_P D vwCl [(xd, .inr (4, [.ref xt, .int r1, .int r2, .int r3, .int r4, .int r5, .ref d2])), (d2, .inl (g 0, 21, .inl fv)), (xt, .inl (g 0, 160, .inl ft))] H := hP
  have hD : va_D A [(xd, .inr (4, [.ref xt, .int r1, .int r2, .int r3, .int r4, .int r5, .ref d2])), (d2, .inl (g 0, 21, .inl fv)), (xt, .inl (g 0, 160, .inl ft))] := hD
  refine lv_aload_n hx hb dX4_faultOf_5 rfl (lv_at hl 0 rfl) ?_
  refine lv_iload_n hx hb dX4_faultOf_6 rfl (lv_at hl 2 rfl) ?_
  refine lv_aload_n hx hb dX4_faultOf_7 rfl (lv_at hl 1 rfl) ?_
  refine va_alen (v := 160) hx hb hK hP 2 0 rfl rfl rfl dX4_faultOf_8 ?_
  refine va_mmin hx hb (hml.trans hl.1.symm) hown mmmin mtmin mi mcmin (Nat.le_of_ble_eq_true rfl) (Nat.le_of_ble_eq_true rfl) (Nat.le_of_ble_eq_true rfl) (Nat.le_of_ble_eq_true rfl) dX4_faultOf_9 ?_
  refine lv_eqi (y := 0) (by decide) ?_
  refine va_put (D := D) (ci := 4) (v := .int 0) (ty := .int) (C := RX4) (T := TX4) (N := 7) hx hb hts iX4 tyX4 tyX4_ok nmX4 hown hK hP hD hS 0 rfl rfl 1 (by decide) f24 (fun _ h9 => h9) rfl (by decide +kernel) (rfl) (rfl) (Nat.le_of_ble_eq_true rfl) dX4_faultOf_12 (fun H locs hP hD hS => ?_)
  have hP : va_P D vwCl [(xd, .inr (4, [.ref xt, .int 0, .int r2, .int r3, .int r4, .int r5, .ref d2])), (d2, .inl (g 0, 21, .inl fv)), (xt, .inl (g 0, 160, .inl ft))] H := hP
  have hD : va_D A [(xd, .inr (4, [.ref xt, .int 0, .int r2, .int r3, .int r4, .int r5, .ref d2])), (d2, .inl (g 0, 21, .inl fv)), (xt, .inl (g 0, 160, .inl ft))] := hD
  refine lv_aload_n hx hb dX4_faultOf_15 rfl (lv_at hl 0 rfl) ?_
  refine lv_iconst (v := 0) hx hb dX4_faultOf_16 (by decide) ?_
  refine va_put (D := D) (ci := 4) (v := .int 0) (ty := .int) (C := RX4) (T := TX4) (N := 7) hx hb hts iX4 tyX4 tyX4_ok nmX4 hown hK hP hD hS 0 rfl rfl 2 (by decide) f28 (fun _ h9 => h9) rfl (by decide +kernel) (rfl) (rfl) (Nat.le_of_ble_eq_true rfl) dX4_faultOf_17 (fun H locs hP hD hS => ?_)
  have hP : va_P D vwCl [(xd, .inr (4, [.ref xt, .int 0, .int 0, .int r3, .int r4, .int r5, .ref d2])), (d2, .inl (g 0, 21, .inl fv)), (xt, .inl (g 0, 160, .inl ft))] H := hP
  have hD : va_D A [(xd, .inr (4, [.ref xt, .int 0, .int 0, .int r3, .int r4, .int r5, .ref d2])), (d2, .inl (g 0, 21, .inl fv)), (xt, .inl (g 0, 160, .inl ft))] := hD
  refine lv_aload_n hx hb dX4_faultOf_20 rfl (lv_at hl 0 rfl) ?_
  refine lv_iconst (v := (-1)) hx hb dX4_faultOf_21 (by decide) ?_
  refine va_put (D := D) (ci := 4) (v := .int (-1)) (ty := .int) (C := RX4) (T := TX4) (N := 7) hx hb hts iX4 tyX4 tyX4_ok nmX4 hown hK hP hD hS 0 rfl rfl 3 (by decide) f31 (fun _ h9 => h9) rfl (by decide +kernel) (rfl) (rfl) (Nat.le_of_ble_eq_true rfl) dX4_faultOf_22 (fun H locs hP hD hS => ?_)
  have hP : va_P D vwCl [(xd, .inr (4, [.ref xt, .int 0, .int 0, .int (-1), .int r4, .int r5, .ref d2])), (d2, .inl (g 0, 21, .inl fv)), (xt, .inl (g 0, 160, .inl ft))] H := hP
  have hD : va_D A [(xd, .inr (4, [.ref xt, .int 0, .int 0, .int (-1), .int r4, .int r5, .ref d2])), (d2, .inl (g 0, 21, .inl fv)), (xt, .inl (g 0, 160, .inl ft))] := hD
  refine lv_aload_n hx hb dX4_faultOf_25 rfl (lv_at hl 0 rfl) ?_
  refine lv_iconst (v := 0) hx hb dX4_faultOf_26 (by decide) ?_
  refine va_put (D := D) (ci := 4) (v := .int 0) (ty := .int) (C := RX4) (T := TX4) (N := 7) hx hb hts iX4 tyX4 tyX4_ok nmX4 hown hK hP hD hS 0 rfl rfl 4 (by decide) f34 (fun _ h9 => h9) rfl (by decide +kernel) (rfl) (rfl) (Nat.le_of_ble_eq_true rfl) dX4_faultOf_27 (fun H locs hP hD hS => ?_)
  have hP : va_P D vwCl [(xd, .inr (4, [.ref xt, .int 0, .int 0, .int (-1), .int 0, .int r5, .ref d2])), (d2, .inl (g 0, 21, .inl fv)), (xt, .inl (g 0, 160, .inl ft))] H := hP
  have hD : va_D A [(xd, .inr (4, [.ref xt, .int 0, .int 0, .int (-1), .int 0, .int r5, .ref d2])), (d2, .inl (g 0, 21, .inl fv)), (xt, .inl (g 0, 160, .inl ft))] := hD
  refine lv_aload_n hx hb dX4_faultOf_30 rfl (lv_at hl 0 rfl) ?_
  refine lv_iconst (v := 0) hx hb dX4_faultOf_31 (by decide) ?_
  refine va_put (D := D) (ci := 4) (v := .int 0) (ty := .int) (C := RX4) (T := TX4) (N := 7) hx hb hts iX4 tyX4 tyX4_ok nmX4 hown hK hP hD hS 0 rfl rfl 5 (by decide) f37 (fun _ h9 => h9) rfl (by decide +kernel) (rfl) (rfl) (Nat.le_of_ble_eq_true rfl) dX4_faultOf_32 (fun H locs hP hD hS => ?_)
  have hP : va_P D vwCl [(xd, .inr (4, [.ref xt, .int 0, .int 0, .int (-1), .int 0, .int 0, .ref d2])), (d2, .inl (g 0, 21, .inl fv)), (xt, .inl (g 0, 160, .inl ft))] H := hP
  have hD : va_D A [(xd, .inr (4, [.ref xt, .int 0, .int 0, .int (-1), .int 0, .int 0, .ref d2])), (d2, .inl (g 0, 21, .inl fv)), (xt, .inl (g 0, 160, .inl ft))] := hD
  refine lv_aload_n hx hb dX4_faultOf_35 rfl (lv_at hl 0 rfl) ?_
  refine ky_Vv (As := []) (rest := []) ⟨hx, hb, hml, hown, hts⟩ ⟨hK, hN⟩ hZ hP hD hS hA [0, 1] [2] (wc := [(xd, .inr (4, [.ref xt, .int 0, .int 0, .int (-1), .int 0, .int 0, .ref d2])), (d2, .inl (g 0, 21, .inl fv))]) (wr := [(xt, .inl (g 0, 160, .inl ft))]) rfl rfl rfl rfl (by decide) (c_X4_setUsual l D g H.size xd xt 0 0 (-1) 0 0 d2 fv) (cwV 0 hts gX4_faultOf_X4_setUsual rfl rfl rfl (by decide +kernel) ⟨(Nat.le_of_ble_eq_true rfl), (Nat.le_of_ble_eq_true rfl)⟩) 0 4 rfl rfl rfl rfl hl.1 rfl (Nat.le_of_ble_eq_true rfl) dX4_faultOf_36 ⟨(Nat.le_of_ble_eq_true rfl), (Nat.le_of_ble_eq_true rfl)⟩ (fun u H locs hw hP hD hS => ?_)
  obtain ⟨fv2_1, rfl⟩ := hw
  have hP : va_P D vwCl [(xt, .inl (g 0, 160, .inl ft)), (xd, .inr (4, [.ref xt, .int 0, .int 0, .int (-1), .int 0, .int 0, .ref d2])), (d2, .inl (g 0, 21, .inl fv2_1))] H := hP
  have hD : va_D A [(xt, .inl (g 0, 160, .inl ft)), (xd, .inr (4, [.ref xt, .int 0, .int 0, .int (-1), .int 0, .int 0, .ref d2])), (d2, .inl (g 0, 21, .inl fv2_1))] := hD
  refine W.widen (k := 0) (n := 0) (Nat.le_of_ble_eq_true rfl) (Nat.le_of_ble_eq_true rfl) ?_
  refine lv_iconst (v := 1) hx hb dX4_faultOf_39 (by decide) ?_
  refine lv_istore_n (lv' := [(3, .int 1), (0, .ref xd), (1, .ref xt), (2, .int 0)]) hx hb dX4_faultOf_40 rfl hl (by decide) rfl (fun ls hl => ?_)
  refine lv_iconst (v := 0) hx hb dX4_faultOf_41 (by decide) ?_
  refine lv_istore (lv' := [(4, .int 0), (3, .int 1), (0, .ref xd), (1, .ref xt), (2, .int 0)]) hx hb dX4_faultOf_42 hl (by decide) rfl (fun ls hl => ?_)
  refine lv_iload_n hx hb dX4_faultOf_44 rfl (lv_at hl 1 rfl) ?_
  refine lv_if_eq (tgt := 112) hx hb dX4_faultOf_45 (by decide) (fun cb => absurd cb (by decide)) (fun _ => ?_)
  refine lv_iload hx hb dX4_faultOf_48 (lv_at hl 0 rfl) ?_
  refine lv_aload_n hx hb dX4_faultOf_50 rfl (lv_at hl 2 rfl) ?_
  refine va_get (D := D) (ci := 4) (v := .int 0) (C := RX4) (T := TX4) (N := 7) hx hb hts iX4 hown hK hP 1 rfl rfl 1 (by decide) f24 (fun _ h9 => h9) rfl dX4_faultOf_51 ?_
  refine lv_icmp_gt (tgt := 112) hx hb dX4_faultOf_54 (by decide) (fun cb => absurd cb (by decide)) (fun _ => ?_)
  refine lv_aload_n hx hb dX4_faultOf_57 rfl (lv_at hl 2 rfl) ?_
  refine lv_iload hx hb dX4_faultOf_58 (lv_at hl 0 rfl) ?_
  refine lv_if_ne (tgt := 67) hx hb dX4_faultOf_60 (by decide) (fun cb => absurd (by decide) cb) (fun _ => ?_)
  refine lv_iconst (v := 1) hx hb dX4_faultOf_63 (by decide) ?_
  refine lv_goto (tgt := 68) hx hb dX4_faultOf_64 (by decide) ?_
  refine ky_Vv (As := [.int 1]) (rest := []) ⟨hx, hb, hml, hown, hts⟩ ⟨hK, hN⟩ hZ hP hD hS hA [1] [0, 2] (wc := [(xd, .inr (4, [.ref xt, .int 0, .int 0, .int (-1), .int 0, .int 0, .ref d2]))]) (wr := [(xt, .inl (g 0, 160, .inl ft)), (d2, .inl (g 0, 21, .inl fv2_1))]) rfl rfl rfl rfl (by decide) (c_X4_readClause l D g H.size xd xt (-1) 0 0 d2 1) (cwV 1 hts gX4_faultOf_X4_readClause rfl rfl rfl (by decide +kernel) ⟨(Nat.le_of_ble_eq_true rfl), (Nat.le_of_ble_eq_true rfl)⟩) 1 4 rfl rfl rfl rfl hl.1 rfl (Nat.le_of_ble_eq_true rfl) dX4_faultOf_68 ⟨(Nat.le_of_ble_eq_true rfl), (Nat.le_of_ble_eq_true rfl)⟩ (fun u H locs hw hP hD hS => ?_)
  obtain rfl := hw
  have hP : va_P D vwCl [(xt, .inl (g 0, 160, .inl ft)), (d2, .inl (g 0, 21, .inl fv2_1)), (xd, .inr (4, [.ref xt, .int 0, .int 0, .int 0, .int 0, .int 0, .ref d2]))] H := hP
  have hD : va_D A [(xt, .inl (g 0, 160, .inl ft)), (d2, .inl (g 0, 21, .inl fv2_1)), (xd, .inr (4, [.ref xt, .int 0, .int 0, .int 0, .int 0, .int 0, .ref d2]))] := hD
  refine W.widen (k := 0) (n := 0) (Nat.le_of_ble_eq_true rfl) (Nat.le_of_ble_eq_true rfl) ?_
  refine lv_aload_n hx hb dX4_faultOf_71 rfl (lv_at hl 2 rfl) ?_
  refine va_get (D := D) (ci := 4) (v := .int 0) (C := RX4) (T := TX4) (N := 7) hx hb hts iX4 hown hK hP 2 rfl rfl 3 (by decide) f31 (fun _ h9 => h9) rfl dX4_faultOf_72 ?_
  refine lv_iconst (v := (-1)) hx hb dX4_faultOf_75 (by decide) ?_
  refine lv_icmp_ne (tgt := 94) hx hb dX4_faultOf_76 (by decide) (fun _ => ?_) (fun cb => absurd cb (by decide))
  refine lv_iconst (v := 0) hx hb dX4_faultOf_94 (by decide) ?_
  refine lv_istore_n (lv' := [(3, .int 0), (4, .int 0), (0, .ref xd), (1, .ref xt), (2, .int 0)]) hx hb dX4_faultOf_95 rfl hl (by decide) rfl (fun ls hl => ?_)
  refine lv_aload_n hx hb dX4_faultOf_96 rfl (lv_at hl 2 rfl) ?_
  refine lv_dup hx hb dX4_faultOf_97 rfl ?_
  refine va_get (D := D) (ci := 4) (v := .int 0) (C := RX4) (T := TX4) (N := 7) hx hb hts iX4 hown hK hP 2 rfl rfl 2 (by decide) f28 (fun _ h9 => h9) rfl dX4_faultOf_98 ?_
  refine lv_iconst (v := 1) hx hb dX4_faultOf_101 (by decide) ?_
  refine lv_iadd hx hb dX4_faultOf_102 ?_
  refine lv_eqi (y := 1) (by decide) ?_
  refine va_put (D := D) (ci := 4) (v := .int 1) (ty := .int) (C := RX4) (T := TX4) (N := 7) hx hb hts iX4 tyX4 tyX4_ok nmX4 hown hK hP hD hS 2 rfl rfl 2 (by decide) f28 (fun _ h9 => h9) rfl (by decide +kernel) (rfl) (rfl) (Nat.le_of_ble_eq_true rfl) dX4_faultOf_103 (fun H locs hP hD hS => ?_)
  have hP : va_P D vwCl [(xt, .inl (g 0, 160, .inl ft)), (d2, .inl (g 0, 21, .inl fv2_1)), (xd, .inr (4, [.ref xt, .int 0, .int 1, .int 0, .int 0, .int 0, .ref d2]))] H := hP
  have hD : va_D A [(xt, .inl (g 0, 160, .inl ft)), (d2, .inl (g 0, 21, .inl fv2_1)), (xd, .inr (4, [.ref xt, .int 0, .int 1, .int 0, .int 0, .int 0, .ref d2]))] := hD
  refine lv_iinc (v := 1) (lv' := [(4, .int 1), (3, .int 0), (0, .ref xd), (1, .ref xt), (2, .int 0)]) hx hb dX4_faultOf_106 hl (k := 1) rfl (by decide) (by decide) rfl (fun ls hl => ?_)
  refine lv_goto (tgt := 44) hx hb dX4_faultOf_109 (by decide) ?_
  refine lv_iload_n hx hb dX4_faultOf_44 rfl (lv_at hl 1 rfl) ?_
  refine lv_if_eq (tgt := 112) hx hb dX4_faultOf_45 (by decide) (fun _ => ?_) (fun cb => absurd (by decide) cb)
  refine lv_aload_n hx hb dX4_faultOf_112 rfl (lv_at hl 2 rfl) ?_
  refine va_get (D := D) (ci := 4) (v := .int 0) (C := RX4) (T := TX4) (N := 7) hx hb hts iX4 hown hK hP 2 rfl rfl 3 (by decide) f31 (fun _ h9 => h9) rfl dX4_faultOf_113 ?_
  have hP9 := hP.sub (ws' := [(xd, .inr (4, [.ref xt, .int 0, .int 1, .int 0, .int 0, .int 0, .ref d2])), (d2, .inl (g 0, 21, .inl fv2_1)), (xt, .inl (g 0, 160, .inl ft))]) [2, 1, 0] rfl
  have hD9 := hD.sub (ws' := [(xd, .inr (4, [.ref xt, .int 0, .int 1, .int 0, .int 0, .int 0, .ref d2])), (d2, .inl (g 0, 21, .inl fv2_1)), (xt, .inl (g 0, 160, .inl ft))]) [2, 1, 0] (by decide) rfl
  subst hQ
  refine W.widen (k := 0) (n := 0) (Nat.le_of_ble_eq_true rfl) (Nat.le_of_ble_eq_true rfl) ?_
  exact W.iret (v := 0) hx hb hr (fun tS htS _ => ⟨⟨_, _, rfl, ⟨fv2_1, rfl, rfl⟩, by rw [htS]; exact hP9, hD9⟩, hS.F htS⟩) hS.2.2 dX4_faultOf_116
set_option maxHeartbeats 4000000 in
set_option maxRecDepth 100000 in
theorem c_X6_fault (l : Launch) (D : va_G) (g : Nat → ClassId) (sz : Nat) (x : Nat) (xt : Nat) (xr : Nat) (xd : Nat) (xn : Nat) (xa : Nat) (xs : Nat) (xy : Nat) (dt : Nat) (r1 : Int32) (r2 : Int32) (r3 : Int32) (r4 : Int32) (r5 : Int32) (d2 : Nat) (fv : Nat → Int32) (ft : Nat → Int32) : Met l yX6_fault wsX6_fault ({ frames := 4, cells := 0, slots := 0, locals := 91 }) (va_Pc [.ref x] (pre D g sz [(x, .inr (6, [.ref xt, .int 0, .ref xr, .ref xd, .ref xn, .ref xa, .ref xs, .ref xy, .int 0])), (xd, .inr (4, [.ref dt, .int r1, .int r2, .int r3, .int r4, .int r5, .ref d2])), (d2, .inl (g 0, 21, .inl fv)), (xt, .inl (g 0, 160, .inl ft))])) (va_Qi (fun (r : Int32) (u : va_W) => ∃ (fv2 : Nat → Int32), u = [(x, .inr (6, [.ref xt, .int 0, .ref xr, .ref xd, .ref xn, .ref xa, .ref xs, .ref xy, .int 0])), (xd, .inr (4, [.ref xt, .int 0, .int 1, .int 0, .int 0, .int 0, .ref d2])), (d2, .inl (g 0, 21, .inl fv2)), (xt, .inl (g 0, 160, .inl ft))] ∧ r = 0) (wd D (va_A [(x, .inr (6, [.ref xt, .int 0, .ref xr, .ref xd, .ref xn, .ref xa, .ref xs, .ref xy, .int 0])), (xd, .inr (4, [.ref dt, .int r1, .int r2, .int r3, .int r4, .int r5, .ref d2])), (d2, .inl (g 0, 21, .inl fv)), (xt, .inl (g 0, 160, .inl ft))] sz)) (va_A [(x, .inr (6, [.ref xt, .int 0, .ref xr, .ref xd, .ref xn, .ref xa, .ref xs, .ref xy, .int 0])), (xd, .inr (4, [.ref dt, .int r1, .int r2, .int r3, .int r4, .int r5, .ref d2])), (d2, .inl (g 0, 21, .inl fv)), (xt, .inl (g 0, 160, .inl ft))] sz)) 0 0 (va_A [(x, .inr (6, [.ref xt, .int 0, .ref xr, .ref xd, .ref xn, .ref xa, .ref xs, .ref xy, .int 0])), (xd, .inr (4, [.ref dt, .int r1, .int r2, .int r3, .int r4, .int r5, .ref d2])), (d2, .inl (g 0, 21, .inl fv)), (xt, .inl (g 0, 160, .inl ft))] sz) := by
  refine Met.ofW (cc := cX6_fault) (maxL := 1) (ret := (some .int)) (by decide) rfl ?_
  intro p e s m args below meth c s₁ B hml hv
  obtain ⟨rfl, hsz, hP, ⟨hK, hN⟩, hD0, hZ⟩ := hv
  have hx := B.exec
  have hb := B.bytes
  have hr := B.returns
  have hts := atoms_spec (ws := wsX6_fault) B.pre
  have hown : s.vm.findClass RX6 = some m.cls := findClass_of_methodNamed B.named
  have hlocks := B.notSynchronized
  clear B
  subst hsz
  have hD := hD0.self (sz := s.heap.size)
  clear hD0
  generalize hAe : va_A [(x, .inr (6, [.ref xt, .int 0, .ref xr, .ref xd, .ref xn, .ref xa, .ref xs, .ref xy, .int 0])), (xd, .inr (4, [.ref dt, .int r1, .int r2, .int r3, .int r4, .int r5, .ref d2])), (d2, .inl (g 0, 21, .inl fv)), (xt, .inl (g 0, 160, .inl ft))] s.heap.size = A at hD hZ ⊢
  have hA : ∀ q : Nat, s.heap.size ≤ q → A q := fun q h => by rw [← hAe]; exact Or.inr h
  have hS : va_S A s.heap s.heap [] := va_S.rf
  have f19 := hts (.fieldLink RX6 19 "HopCredits" "reading" "LHopCredits$Reading;") (by decide +kernel)
  have f47 := hts (.fieldLink RX6 47 "HopCredits" "tapeLength" "I") (by decide +kernel)
  have f9 := hts (.fieldLink RX6 9 "HopCredits" "tape" "[I") (by decide +kernel)
  have iX6 : ∀ w ∈ u_ws RX6 TX6 9, w ∈ wsX6_fault := by decide +kernel
  have hl := lv_entry ([.ref x]) (n := 1) (Nat.le_of_ble_eq_true rfl)
  rw [lg_entry_eq]
  generalize (lg_sl ([.ref x]) ++ List.replicate (1 - (lg_sl ([.ref x])).length) Slot.unset).toArray = ls at hl ⊢
  have hl : lv_has ls 1 [(0, .ref x)] := hl
  generalize hQ : MQ below _ _ s _ _ _ = Q
  generalize hH : s.heap = H at hP ⊢
  have hS : va_S A s.heap H [] := by rw [← hH]; exact hS
  clear hH
  refine lv_aload_n hx hb dX6_fault_0 rfl (lv_at hl 0 rfl) ?_
  refine va_get (D := D) (ci := 6) (v := .ref xd) (C := RX6) (T := TX6) (N := 9) hx hb hts iX6 hown hK hP 0 rfl rfl 3 (by decide) f19 (fun _ h9 => h9) rfl dX6_fault_1 ?_
  refine lv_aload_n hx hb dX6_fault_4 rfl (lv_at hl 0 rfl) ?_
  refine va_get (D := D) (ci := 6) (v := .ref xt) (C := RX6) (T := TX6) (N := 9) hx hb hts iX6 hown hK hP 0 rfl rfl 0 (by decide) f9 (fun _ h9 => h9) rfl dX6_fault_5 ?_
  refine lv_aload_n hx hb dX6_fault_8 rfl (lv_at hl 0 rfl) ?_
  refine va_get (D := D) (ci := 6) (v := .int 0) (C := RX6) (T := TX6) (N := 9) hx hb hts iX6 hown hK hP 0 rfl rfl 1 (by decide) f47 (fun _ h9 => h9) rfl dX6_fault_9 ?_
  refine ky_Vi (As := [.ref xt, .int 0]) (rest := []) ⟨hx, hb, hml, hown, hts⟩ ⟨hK, hN⟩ hZ hP hD hS hA [1, 2, 3] [0] (wc := [(xd, .inr (4, [.ref dt, .int r1, .int r2, .int r3, .int r4, .int r5, .ref d2])), (d2, .inl (g 0, 21, .inl fv)), (xt, .inl (g 0, 160, .inl ft))]) (wr := [(x, .inr (6, [.ref xt, .int 0, .ref xr, .ref xd, .ref xn, .ref xa, .ref xs, .ref xy, .int 0]))]) rfl rfl rfl rfl (by decide) (c_X4_faultOf l D g H.size xd dt r1 r2 r3 r4 r5 d2 fv xt ft) (cwV 2 hts gX6_fault_X4_faultOf rfl rfl rfl (by decide +kernel) ⟨(Nat.le_of_ble_eq_true rfl), (Nat.le_of_ble_eq_true rfl)⟩) 1 4 rfl rfl rfl rfl hl.1 rfl (Nat.le_of_ble_eq_true rfl) dX6_fault_12 ⟨(Nat.le_of_ble_eq_true rfl), (Nat.le_of_ble_eq_true rfl)⟩ (fun r_2 u H locs hw hP hD hS => ?_)
  obtain ⟨fv2_1, rfl, rfl⟩ := hw
  have hP : va_P D vwCl [(x, .inr (6, [.ref xt, .int 0, .ref xr, .ref xd, .ref xn, .ref xa, .ref xs, .ref xy, .int 0])), (xd, .inr (4, [.ref xt, .int 0, .int 1, .int 0, .int 0, .int 0, .ref d2])), (d2, .inl (g 0, 21, .inl fv2_1)), (xt, .inl (g 0, 160, .inl ft))] H := hP
  have hD : va_D A [(x, .inr (6, [.ref xt, .int 0, .ref xr, .ref xd, .ref xn, .ref xa, .ref xs, .ref xy, .int 0])), (xd, .inr (4, [.ref xt, .int 0, .int 1, .int 0, .int 0, .int 0, .ref d2])), (d2, .inl (g 0, 21, .inl fv2_1)), (xt, .inl (g 0, 160, .inl ft))] := hD
  refine W.widen (k := 0) (n := 0) (Nat.le_of_ble_eq_true rfl) (Nat.le_of_ble_eq_true rfl) ?_
  have hP9 := hP.sub (ws' := [(x, .inr (6, [.ref xt, .int 0, .ref xr, .ref xd, .ref xn, .ref xa, .ref xs, .ref xy, .int 0])), (xd, .inr (4, [.ref xt, .int 0, .int 1, .int 0, .int 0, .int 0, .ref d2])), (d2, .inl (g 0, 21, .inl fv2_1)), (xt, .inl (g 0, 160, .inl ft))]) [0, 1, 2, 3] rfl
  have hD9 := hD.sub (ws' := [(x, .inr (6, [.ref xt, .int 0, .ref xr, .ref xd, .ref xn, .ref xa, .ref xs, .ref xy, .int 0])), (xd, .inr (4, [.ref xt, .int 0, .int 1, .int 0, .int 0, .int 0, .ref d2])), (d2, .inl (g 0, 21, .inl fv2_1)), (xt, .inl (g 0, 160, .inl ft))]) [0, 1, 2, 3] (by decide) rfl
  subst hQ
  refine W.widen (k := 0) (n := 0) (Nat.le_of_ble_eq_true rfl) (Nat.le_of_ble_eq_true rfl) ?_
  exact W.iret (v := 0) hx hb hr (fun tS htS _ => ⟨⟨_, _, rfl, ⟨fv2_1, rfl, rfl⟩, by rw [htS]; exact hP9, hD9⟩, hS.F htS⟩) hS.2.2 dX6_fault_15
set_option maxHeartbeats 4000000 in
set_option maxRecDepth 100000 in
theorem c_X6_net (l : Launch) (D : va_G) (g : Nat → ClassId) (sz : Nat) (x : Nat) (xt : Nat) (xr : Nat) (xd : Nat) (xn : Nat) (xa : Nat) (xs : Nat) (xy : Nat) (dt : Nat) (r1 : Int32) (r2 : Int32) (r3 : Int32) (r4 : Int32) (r5 : Int32) (d2 : Nat) (fv : Nat → Int32) (ft : Nat → Int32) : Met l yX6_net wsX6_net ({ frames := 4, cells := 0, slots := 0, locals := 91 }) (va_Pc [.ref x] (pre D g sz [(x, .inr (6, [.ref xt, .int 0, .ref xr, .ref xd, .ref xn, .ref xa, .ref xs, .ref xy, .int 0])), (xd, .inr (4, [.ref dt, .int r1, .int r2, .int r3, .int r4, .int r5, .ref d2])), (d2, .inl (g 0, 21, .inl fv)), (xt, .inl (g 0, 160, .inl ft))])) (va_Qi (fun (r : Int32) (u : va_W) => ∃ (fv2 : Nat → Int32), u = [(x, .inr (6, [.ref xt, .int 0, .ref xr, .ref xd, .ref xn, .ref xa, .ref xs, .ref xy, .int 0])), (xd, .inr (4, [.ref xt, .int 0, .int 1, .int 0, .int 0, .int 0, .ref d2])), (d2, .inl (g 0, 21, .inl fv2)), (xt, .inl (g 0, 160, .inl ft))] ∧ r = (-1)) (wd D (va_A [(x, .inr (6, [.ref xt, .int 0, .ref xr, .ref xd, .ref xn, .ref xa, .ref xs, .ref xy, .int 0])), (xd, .inr (4, [.ref dt, .int r1, .int r2, .int r3, .int r4, .int r5, .ref d2])), (d2, .inl (g 0, 21, .inl fv)), (xt, .inl (g 0, 160, .inl ft))] sz)) (va_A [(x, .inr (6, [.ref xt, .int 0, .ref xr, .ref xd, .ref xn, .ref xa, .ref xs, .ref xy, .int 0])), (xd, .inr (4, [.ref dt, .int r1, .int r2, .int r3, .int r4, .int r5, .ref d2])), (d2, .inl (g 0, 21, .inl fv)), (xt, .inl (g 0, 160, .inl ft))] sz)) 0 0 (va_A [(x, .inr (6, [.ref xt, .int 0, .ref xr, .ref xd, .ref xn, .ref xa, .ref xs, .ref xy, .int 0])), (xd, .inr (4, [.ref dt, .int r1, .int r2, .int r3, .int r4, .int r5, .ref d2])), (d2, .inl (g 0, 21, .inl fv)), (xt, .inl (g 0, 160, .inl ft))] sz) := by
  refine Met.ofW (cc := cX6_net) (maxL := 2) (ret := (some .int)) (by decide) rfl ?_
  intro p e s m args below meth c s₁ B hml hv
  obtain ⟨rfl, hsz, hP, ⟨hK, hN⟩, hD0, hZ⟩ := hv
  have hx := B.exec
  have hb := B.bytes
  have hr := B.returns
  have hts := atoms_spec (ws := wsX6_net) B.pre
  have hown : s.vm.findClass RX6 = some m.cls := findClass_of_methodNamed B.named
  have hlocks := B.notSynchronized
  clear B
  subst hsz
  have hD := hD0.self (sz := s.heap.size)
  clear hD0
  generalize hAe : va_A [(x, .inr (6, [.ref xt, .int 0, .ref xr, .ref xd, .ref xn, .ref xa, .ref xs, .ref xy, .int 0])), (xd, .inr (4, [.ref dt, .int r1, .int r2, .int r3, .int r4, .int r5, .ref d2])), (d2, .inl (g 0, 21, .inl fv)), (xt, .inl (g 0, 160, .inl ft))] s.heap.size = A at hD hZ ⊢
  have hA : ∀ q : Nat, s.heap.size ≤ q → A q := fun q h => by rw [← hAe]; exact Or.inr h
  have hS : va_S A s.heap s.heap [] := va_S.rf
  have f19 := hts (.fieldLink RX6 19 "HopCredits" "reading" "LHopCredits$Reading;") (by decide +kernel)
  have f47 := hts (.fieldLink RX6 47 "HopCredits" "tapeLength" "I") (by decide +kernel)
  have f9 := hts (.fieldLink RX6 9 "HopCredits" "tape" "[I") (by decide +kernel)
  have iX6 : ∀ w ∈ u_ws RX6 TX6 9, w ∈ wsX6_net := by decide +kernel
  have hl := lv_entry ([.ref x]) (n := 2) (Nat.le_of_ble_eq_true rfl)
  rw [lg_entry_eq]
  generalize (lg_sl ([.ref x]) ++ List.replicate (2 - (lg_sl ([.ref x])).length) Slot.unset).toArray = ls at hl ⊢
  have hl : lv_has ls 2 [(0, .ref x)] := hl
  generalize hQ : MQ below _ _ s _ _ _ = Q
  generalize hH : s.heap = H at hP ⊢
  have hS : va_S A s.heap H [] := by rw [← hH]; exact hS
  clear hH
  refine lv_aload_n hx hb dX6_net_0 rfl (lv_at hl 0 rfl) ?_
  refine va_get (D := D) (ci := 6) (v := .ref xd) (C := RX6) (T := TX6) (N := 9) hx hb hts iX6 hown hK hP 0 rfl rfl 3 (by decide) f19 (fun _ h9 => h9) rfl dX6_net_1 ?_
  refine lv_aload_n hx hb dX6_net_4 rfl (lv_at hl 0 rfl) ?_
  refine va_get (D := D) (ci := 6) (v := .ref xt) (C := RX6) (T := TX6) (N := 9) hx hb hts iX6 hown hK hP 0 rfl rfl 0 (by decide) f9 (fun _ h9 => h9) rfl dX6_net_5 ?_
  refine lv_aload_n hx hb dX6_net_8 rfl (lv_at hl 0 rfl) ?_
  refine va_get (D := D) (ci := 6) (v := .int 0) (C := RX6) (T := TX6) (N := 9) hx hb hts iX6 hown hK hP 0 rfl rfl 1 (by decide) f47 (fun _ h9 => h9) rfl dX6_net_9 ?_
  refine ky_Vi (As := [.ref xt, .int 0]) (rest := []) ⟨hx, hb, hml, hown, hts⟩ ⟨hK, hN⟩ hZ hP hD hS hA [1, 2, 3] [0] (wc := [(xd, .inr (4, [.ref dt, .int r1, .int r2, .int r3, .int r4, .int r5, .ref d2])), (d2, .inl (g 0, 21, .inl fv)), (xt, .inl (g 0, 160, .inl ft))]) (wr := [(x, .inr (6, [.ref xt, .int 0, .ref xr, .ref xd, .ref xn, .ref xa, .ref xs, .ref xy, .int 0]))]) rfl rfl rfl rfl (by decide) (c_X4_faultOf l D g H.size xd dt r1 r2 r3 r4 r5 d2 fv xt ft) (cwV 2 hts gX6_net_X4_faultOf rfl rfl rfl (by decide +kernel) ⟨(Nat.le_of_ble_eq_true rfl), (Nat.le_of_ble_eq_true rfl)⟩) 1 4 rfl rfl rfl rfl hl.1 rfl (Nat.le_of_ble_eq_true rfl) dX6_net_12 ⟨(Nat.le_of_ble_eq_true rfl), (Nat.le_of_ble_eq_true rfl)⟩ (fun r_2 u H locs hw hP hD hS => ?_)
  obtain ⟨fv2_1, rfl, rfl⟩ := hw
  have hP : va_P D vwCl [(x, .inr (6, [.ref xt, .int 0, .ref xr, .ref xd, .ref xn, .ref xa, .ref xs, .ref xy, .int 0])), (xd, .inr (4, [.ref xt, .int 0, .int 1, .int 0, .int 0, .int 0, .ref d2])), (d2, .inl (g 0, 21, .inl fv2_1)), (xt, .inl (g 0, 160, .inl ft))] H := hP
  have hD : va_D A [(x, .inr (6, [.ref xt, .int 0, .ref xr, .ref xd, .ref xn, .ref xa, .ref xs, .ref xy, .int 0])), (xd, .inr (4, [.ref xt, .int 0, .int 1, .int 0, .int 0, .int 0, .ref d2])), (d2, .inl (g 0, 21, .inl fv2_1)), (xt, .inl (g 0, 160, .inl ft))] := hD
  refine W.widen (k := 0) (n := 0) (Nat.le_of_ble_eq_true rfl) (Nat.le_of_ble_eq_true rfl) ?_
  refine lv_iconst (v := (-1)) hx hb dX6_net_15 (by decide) ?_
  refine lv_icmp_eq (tgt := 21) hx hb dX6_net_16 (by decide) (fun cb => absurd cb (by decide)) (fun _ => ?_)
  refine lv_iconst (v := (-1)) hx hb dX6_net_19 (by decide) ?_
  have hP9 := hP.sub (ws' := [(x, .inr (6, [.ref xt, .int 0, .ref xr, .ref xd, .ref xn, .ref xa, .ref xs, .ref xy, .int 0])), (xd, .inr (4, [.ref xt, .int 0, .int 1, .int 0, .int 0, .int 0, .ref d2])), (d2, .inl (g 0, 21, .inl fv2_1)), (xt, .inl (g 0, 160, .inl ft))]) [0, 1, 2, 3] rfl
  have hD9 := hD.sub (ws' := [(x, .inr (6, [.ref xt, .int 0, .ref xr, .ref xd, .ref xn, .ref xa, .ref xs, .ref xy, .int 0])), (xd, .inr (4, [.ref xt, .int 0, .int 1, .int 0, .int 0, .int 0, .ref d2])), (d2, .inl (g 0, 21, .inl fv2_1)), (xt, .inl (g 0, 160, .inl ft))]) [0, 1, 2, 3] (by decide) rfl
  subst hQ
  refine W.widen (k := 0) (n := 0) (Nat.le_of_ble_eq_true rfl) (Nat.le_of_ble_eq_true rfl) ?_
  exact W.iret (v := (-1)) hx hb hr (fun tS htS _ => ⟨⟨_, _, rfl, ⟨fv2_1, rfl, rfl⟩, by rw [htS]; exact hP9, hD9⟩, hS.F htS⟩) hS.2.2 dX6_net_20
set_option maxHeartbeats 4000000 in
set_option maxRecDepth 100000 in
theorem c_X7_here (l : Launch) (D : va_G) (g : Nat → ClassId) (sz : Nat) (m_ : Nat) (th : Int32) (mt : Nat) (wr : Int32) (mrr : Nat) (mrh : Nat) (mrc : Nat) (rh : Int32) (rc : Int32) (mn : Nat) (mf : Nat) (mr : Nat) (mh : Nat) (ma : Nat) (mas : Nat) (msn : Nat) (mac : Nat) (mat : Nat) : Met l yX7_here wsX7_here ({ frames := 0, cells := 0, slots := 0, locals := 0 }) (va_Pc [.ref m_] (pre D g sz [(m_, .inr (7, [.int th, .ref mt, .int 0, .int 0, .int wr, .ref mrr, .ref mrh, .ref mrc, .int rh, .int rc, .ref mn, .ref mf, .ref mr, .ref mh, .int 0, .int 0, .ref ma, .ref mas, .ref msn, .ref mac, .ref mat]))])) (va_Qi (fun (r : Int32) (u : va_W) => u = [(m_, .inr (7, [.int th, .ref mt, .int 0, .int 0, .int wr, .ref mrr, .ref mrh, .ref mrc, .int rh, .int rc, .ref mn, .ref mf, .ref mr, .ref mh, .int 0, .int 0, .ref ma, .ref mas, .ref msn, .ref mac, .ref mat]))] ∧ r = (-1)) (wd D (va_A [(m_, .inr (7, [.int th, .ref mt, .int 0, .int 0, .int wr, .ref mrr, .ref mrh, .ref mrc, .int rh, .int rc, .ref mn, .ref mf, .ref mr, .ref mh, .int 0, .int 0, .ref ma, .ref mas, .ref msn, .ref mac, .ref mat]))] sz)) (va_A [(m_, .inr (7, [.int th, .ref mt, .int 0, .int 0, .int wr, .ref mrr, .ref mrh, .ref mrc, .int rh, .int rc, .ref mn, .ref mf, .ref mr, .ref mh, .int 0, .int 0, .ref ma, .ref mas, .ref msn, .ref mac, .ref mat]))] sz)) 0 0 (va_A [(m_, .inr (7, [.int th, .ref mt, .int 0, .int 0, .int wr, .ref mrr, .ref mrh, .ref mrc, .int rh, .int rc, .ref mn, .ref mf, .ref mr, .ref mh, .int 0, .int 0, .ref ma, .ref mas, .ref msn, .ref mac, .ref mat]))] sz) := by
  refine Met.ofW (cc := cX7_here) (maxL := 1) (ret := (some .int)) (by decide) rfl ?_
  intro p e s m args below meth c s₁ B hml hv
  obtain ⟨rfl, hsz, hP, ⟨hK, hN⟩, hD0, hZ⟩ := hv
  have hx := B.exec
  have hb := B.bytes
  have hr := B.returns
  have hts := atoms_spec (ws := wsX7_here) B.pre
  have hown : s.vm.findClass RX7 = some m.cls := findClass_of_methodNamed B.named
  have hlocks := B.notSynchronized
  clear B
  subst hsz
  have hD := hD0.self (sz := s.heap.size)
  clear hD0
  generalize hAe : va_A [(m_, .inr (7, [.int th, .ref mt, .int 0, .int 0, .int wr, .ref mrr, .ref mrh, .ref mrc, .int rh, .int rc, .ref mn, .ref mf, .ref mr, .ref mh, .int 0, .int 0, .ref ma, .ref mas, .ref msn, .ref mac, .ref mat]))] s.heap.size = A at hD hZ ⊢
  have hA : ∀ q : Nat, s.heap.size ≤ q → A q := fun q h => by rw [← hAe]; exact Or.inr h
  have hS : va_S A s.heap s.heap [] := va_S.rf
  have f57 := hts (.fieldLink RX7 57 "HopCreditsModel" "taped" "I") (by decide +kernel)
  have f64 := hts (.fieldLink RX7 64 "HopCreditsModel" "at" "I") (by decide +kernel)
  have iX7 : ∀ w ∈ u_ws RX7 TX7 21, w ∈ wsX7_here := by decide +kernel
  have hl := lv_entry ([.ref m_]) (n := 1) (Nat.le_of_ble_eq_true rfl)
  rw [lg_entry_eq]
  generalize (lg_sl ([.ref m_]) ++ List.replicate (1 - (lg_sl ([.ref m_])).length) Slot.unset).toArray = ls at hl ⊢
  have hl : lv_has ls 1 [(0, .ref m_)] := hl
  generalize hQ : MQ below _ _ s _ _ _ = Q
  generalize hH : s.heap = H at hP ⊢
  have hS : va_S A s.heap H [] := by rw [← hH]; exact hS
  clear hH
  refine lv_aload_n hx hb dX7_here_0 rfl (lv_at hl 0 rfl) ?_
  refine va_get (D := D) (ci := 7) (v := .int 0) (C := RX7) (T := TX7) (N := 21) hx hb hts iX7 hown hK hP 0 rfl rfl 3 (by decide) f64 (fun _ h9 => h9) rfl dX7_here_1 ?_
  refine lv_aload_n hx hb dX7_here_4 rfl (lv_at hl 0 rfl) ?_
  refine va_get (D := D) (ci := 7) (v := .int 0) (C := RX7) (T := TX7) (N := 21) hx hb hts iX7 hown hK hP 0 rfl rfl 2 (by decide) f57 (fun _ h9 => h9) rfl dX7_here_5 ?_
  refine lv_icmp_ge (tgt := 23) hx hb dX7_here_8 (by decide) (fun _ => ?_) (fun cb => absurd (by decide) cb)
  refine lv_iconst (v := (-1)) hx hb dX7_here_23 (by decide) ?_
  have hP9 := hP.sub (ws' := [(m_, .inr (7, [.int th, .ref mt, .int 0, .int 0, .int wr, .ref mrr, .ref mrh, .ref mrc, .int rh, .int rc, .ref mn, .ref mf, .ref mr, .ref mh, .int 0, .int 0, .ref ma, .ref mas, .ref msn, .ref mac, .ref mat]))]) [0] rfl
  have hD9 := hD.sub (ws' := [(m_, .inr (7, [.int th, .ref mt, .int 0, .int 0, .int wr, .ref mrr, .ref mrh, .ref mrc, .int rh, .int rc, .ref mn, .ref mf, .ref mr, .ref mh, .int 0, .int 0, .ref ma, .ref mas, .ref msn, .ref mac, .ref mat]))]) [0] (by decide) rfl
  subst hQ
  refine W.widen (k := 0) (n := 0) (Nat.le_of_ble_eq_true rfl) (Nat.le_of_ble_eq_true rfl) ?_
  exact W.iret (v := (-1)) hx hb hr (fun tS htS _ => ⟨⟨_, _, rfl, ⟨rfl, rfl⟩, by rw [htS]; exact hP9, hD9⟩, hS.F htS⟩) hS.2.2 dX7_here_24
set_option maxHeartbeats 4000000 in
set_option maxRecDepth 100000 in
theorem c_X7_ahead (l : Launch) (D : va_G) (g : Nat → ClassId) (sz : Nat) (m_ : Nat) (th : Int32) (mt : Nat) (wr : Int32) (mrr : Nat) (mrh : Nat) (mrc : Nat) (rh : Int32) (rc : Int32) (mn : Nat) (mf : Nat) (mr : Nat) (mh : Nat) (ma : Nat) (mas : Nat) (msn : Nat) (mac : Nat) (mat : Nat) : Met l yX7_ahead wsX7_ahead ({ frames := 1, cells := 0, slots := 0, locals := 20 }) (va_Pc [.ref m_] (pre D g sz [(m_, .inr (7, [.int th, .ref mt, .int 0, .int 0, .int wr, .ref mrr, .ref mrh, .ref mrc, .int rh, .int rc, .ref mn, .ref mf, .ref mr, .ref mh, .int 0, .int 0, .ref ma, .ref mas, .ref msn, .ref mac, .ref mat]))])) (va_Qi (fun (r : Int32) (u : va_W) => u = [(m_, .inr (7, [.int th, .ref mt, .int 0, .int 0, .int wr, .ref mrr, .ref mrh, .ref mrc, .int rh, .int rc, .ref mn, .ref mf, .ref mr, .ref mh, .int 0, .int 0, .ref ma, .ref mas, .ref msn, .ref mac, .ref mat]))] ∧ r = (-1)) (wd D (va_A [(m_, .inr (7, [.int th, .ref mt, .int 0, .int 0, .int wr, .ref mrr, .ref mrh, .ref mrc, .int rh, .int rc, .ref mn, .ref mf, .ref mr, .ref mh, .int 0, .int 0, .ref ma, .ref mas, .ref msn, .ref mac, .ref mat]))] sz)) (va_A [(m_, .inr (7, [.int th, .ref mt, .int 0, .int 0, .int wr, .ref mrr, .ref mrh, .ref mrc, .int rh, .int rc, .ref mn, .ref mf, .ref mr, .ref mh, .int 0, .int 0, .ref ma, .ref mas, .ref msn, .ref mac, .ref mat]))] sz)) 0 0 (va_A [(m_, .inr (7, [.int th, .ref mt, .int 0, .int 0, .int wr, .ref mrr, .ref mrh, .ref mrc, .int rh, .int rc, .ref mn, .ref mf, .ref mr, .ref mh, .int 0, .int 0, .ref ma, .ref mas, .ref msn, .ref mac, .ref mat]))] sz) := by
  refine Met.ofW (cc := cX7_ahead) (maxL := 1) (ret := (some .int)) (by decide) rfl ?_
  intro p e s m args below meth c s₁ B hml hv
  obtain ⟨rfl, hsz, hP, ⟨hK, hN⟩, hD0, hZ⟩ := hv
  have hx := B.exec
  have hb := B.bytes
  have hr := B.returns
  have hts := atoms_spec (ws := wsX7_ahead) B.pre
  have hown : s.vm.findClass RX7 = some m.cls := findClass_of_methodNamed B.named
  have hlocks := B.notSynchronized
  clear B
  subst hsz
  have hD := hD0.self (sz := s.heap.size)
  clear hD0
  generalize hAe : va_A [(m_, .inr (7, [.int th, .ref mt, .int 0, .int 0, .int wr, .ref mrr, .ref mrh, .ref mrc, .int rh, .int rc, .ref mn, .ref mf, .ref mr, .ref mh, .int 0, .int 0, .ref ma, .ref mas, .ref msn, .ref mac, .ref mat]))] s.heap.size = A at hD hZ ⊢
  have hA : ∀ q : Nat, s.heap.size ≤ q → A q := fun q h => by rw [← hAe]; exact Or.inr h
  have hS : va_S A s.heap s.heap [] := va_S.rf
  have hl := lv_entry ([.ref m_]) (n := 1) (Nat.le_of_ble_eq_true rfl)
  rw [lg_entry_eq]
  generalize (lg_sl ([.ref m_]) ++ List.replicate (1 - (lg_sl ([.ref m_])).length) Slot.unset).toArray = ls at hl ⊢
  have hl : lv_has ls 1 [(0, .ref m_)] := hl
  generalize hQ : MQ below _ _ s _ _ _ = Q
  generalize hH : s.heap = H at hP ⊢
  have hS : va_S A s.heap H [] := by rw [← hH]; exact hS
  clear hH
  refine lv_aload_n hx hb dX7_ahead_0 rfl (lv_at hl 0 rfl) ?_
  refine ky_Vi (As := []) (rest := []) ⟨hx, hb, hml, hown, hts⟩ ⟨hK, hN⟩ hZ hP hD hS hA [0] [] (wc := [(m_, .inr (7, [.int th, .ref mt, .int 0, .int 0, .int wr, .ref mrr, .ref mrh, .ref mrc, .int rh, .int rc, .ref mn, .ref mf, .ref mr, .ref mh, .int 0, .int 0, .ref ma, .ref mas, .ref msn, .ref mac, .ref mat]))]) (wr := []) rfl rfl rfl rfl (by decide) (c_X7_here l D g H.size m_ th mt wr mrr mrh mrc rh rc mn mf mr mh ma mas msn mac mat) (cwV 0 hts gX7_ahead_X7_here rfl rfl rfl (by decide +kernel) ⟨(Nat.le_of_ble_eq_true rfl), (Nat.le_of_ble_eq_true rfl)⟩) 0 7 rfl rfl rfl rfl hl.1 rfl (Nat.le_of_ble_eq_true rfl) dX7_ahead_1 ⟨(Nat.le_of_ble_eq_true rfl), (Nat.le_of_ble_eq_true rfl)⟩ (fun r_1 u H locs hw hP hD hS => ?_)
  obtain ⟨rfl, rfl⟩ := hw
  have hP : va_P D vwCl [(m_, .inr (7, [.int th, .ref mt, .int 0, .int 0, .int wr, .ref mrr, .ref mrh, .ref mrc, .int rh, .int rc, .ref mn, .ref mf, .ref mr, .ref mh, .int 0, .int 0, .ref ma, .ref mas, .ref msn, .ref mac, .ref mat]))] H := hP
  have hD : va_D A [(m_, .inr (7, [.int th, .ref mt, .int 0, .int 0, .int wr, .ref mrr, .ref mrh, .ref mrc, .int rh, .int rc, .ref mn, .ref mf, .ref mr, .ref mh, .int 0, .int 0, .ref ma, .ref mas, .ref msn, .ref mac, .ref mat]))] := hD
  refine W.widen (k := 0) (n := 0) (Nat.le_of_ble_eq_true rfl) (Nat.le_of_ble_eq_true rfl) ?_
  refine lv_bipush (v := 32) hx hb dX7_ahead_4 (by decide) ?_
  refine lv_icmp_ne (tgt := 22) hx hb dX7_ahead_6 (by decide) (fun _ => ?_) (fun cb => absurd cb (by decide))
  refine lv_aload_n hx hb dX7_ahead_22 rfl (lv_at hl 0 rfl) ?_
  refine ky_Vi (As := []) (rest := []) ⟨hx, hb, hml, hown, hts⟩ ⟨hK, hN⟩ hZ hP hD hS hA [0] [] (wc := [(m_, .inr (7, [.int th, .ref mt, .int 0, .int 0, .int wr, .ref mrr, .ref mrh, .ref mrc, .int rh, .int rc, .ref mn, .ref mf, .ref mr, .ref mh, .int 0, .int 0, .ref ma, .ref mas, .ref msn, .ref mac, .ref mat]))]) (wr := []) rfl rfl rfl rfl (by decide) (c_X7_here l D g H.size m_ th mt wr mrr mrh mrc rh rc mn mf mr mh ma mas msn mac mat) (cwV 0 hts gX7_ahead_X7_here rfl rfl rfl (by decide +kernel) ⟨(Nat.le_of_ble_eq_true rfl), (Nat.le_of_ble_eq_true rfl)⟩) 0 7 rfl rfl rfl rfl hl.1 rfl (Nat.le_of_ble_eq_true rfl) dX7_ahead_23 ⟨(Nat.le_of_ble_eq_true rfl), (Nat.le_of_ble_eq_true rfl)⟩ (fun r_2 u H locs hw hP hD hS => ?_)
  obtain ⟨rfl, rfl⟩ := hw
  have hP : va_P D vwCl [(m_, .inr (7, [.int th, .ref mt, .int 0, .int 0, .int wr, .ref mrr, .ref mrh, .ref mrc, .int rh, .int rc, .ref mn, .ref mf, .ref mr, .ref mh, .int 0, .int 0, .ref ma, .ref mas, .ref msn, .ref mac, .ref mat]))] H := hP
  have hD : va_D A [(m_, .inr (7, [.int th, .ref mt, .int 0, .int 0, .int wr, .ref mrr, .ref mrh, .ref mrc, .int rh, .int rc, .ref mn, .ref mf, .ref mr, .ref mh, .int 0, .int 0, .ref ma, .ref mas, .ref msn, .ref mac, .ref mat]))] := hD
  refine W.widen (k := 0) (n := 0) (Nat.le_of_ble_eq_true rfl) (Nat.le_of_ble_eq_true rfl) ?_
  have hP9 := hP.sub (ws' := [(m_, .inr (7, [.int th, .ref mt, .int 0, .int 0, .int wr, .ref mrr, .ref mrh, .ref mrc, .int rh, .int rc, .ref mn, .ref mf, .ref mr, .ref mh, .int 0, .int 0, .ref ma, .ref mas, .ref msn, .ref mac, .ref mat]))]) [0] rfl
  have hD9 := hD.sub (ws' := [(m_, .inr (7, [.int th, .ref mt, .int 0, .int 0, .int wr, .ref mrr, .ref mrh, .ref mrc, .int rh, .int rc, .ref mn, .ref mf, .ref mr, .ref mh, .int 0, .int 0, .ref ma, .ref mas, .ref msn, .ref mac, .ref mat]))]) [0] (by decide) rfl
  subst hQ
  refine W.widen (k := 0) (n := 0) (Nat.le_of_ble_eq_true rfl) (Nat.le_of_ble_eq_true rfl) ?_
  exact W.iret (v := (-1)) hx hb hr (fun tS htS _ => ⟨⟨_, _, rfl, ⟨rfl, rfl⟩, by rw [htS]; exact hP9, hD9⟩, hS.F htS⟩) hS.2.2 dX7_ahead_26
set_option maxHeartbeats 4000000 in
set_option maxRecDepth 100000 in
theorem c_X7_bad (l : Launch) (D : va_G) (g : Nat → ClassId) (sz : Nat) (m_ : Nat) (th : Int32) (mt : Nat) (mrr : Nat) (mrh : Nat) (mrc : Nat) (rh : Int32) (rc : Int32) (mn : Nat) (mf : Nat) (mr : Nat) (mh : Nat) (ma : Nat) (mas : Nat) (msn : Nat) (mac : Nat) (mat : Nat) : Met l yX7_bad wsX7_bad ({ frames := 0, cells := 0, slots := 0, locals := 0 }) (va_Pc [.ref m_] (pre D g sz [(m_, .inr (7, [.int th, .ref mt, .int 0, .int 0, .int (-1), .ref mrr, .ref mrh, .ref mrc, .int rh, .int rc, .ref mn, .ref mf, .ref mr, .ref mh, .int 0, .int 0, .ref ma, .ref mas, .ref msn, .ref mac, .ref mat]))])) (va_Qv (fun (u : va_W) => u = [(m_, .inr (7, [.int th, .ref mt, .int 0, .int 0, .int 0, .ref mrr, .ref mrh, .ref mrc, .int rh, .int rc, .ref mn, .ref mf, .ref mr, .ref mh, .int 0, .int 0, .ref ma, .ref mas, .ref msn, .ref mac, .ref mat]))]) (wd D (va_A [(m_, .inr (7, [.int th, .ref mt, .int 0, .int 0, .int (-1), .ref mrr, .ref mrh, .ref mrc, .int rh, .int rc, .ref mn, .ref mf, .ref mr, .ref mh, .int 0, .int 0, .ref ma, .ref mas, .ref msn, .ref mac, .ref mat]))] sz)) (va_A [(m_, .inr (7, [.int th, .ref mt, .int 0, .int 0, .int (-1), .ref mrr, .ref mrh, .ref mrc, .int rh, .int rc, .ref mn, .ref mf, .ref mr, .ref mh, .int 0, .int 0, .ref ma, .ref mas, .ref msn, .ref mac, .ref mat]))] sz)) 0 0 (va_A [(m_, .inr (7, [.int th, .ref mt, .int 0, .int 0, .int (-1), .ref mrr, .ref mrh, .ref mrc, .int rh, .int rc, .ref mn, .ref mf, .ref mr, .ref mh, .int 0, .int 0, .ref ma, .ref mas, .ref msn, .ref mac, .ref mat]))] sz) := by
  refine Met.ofW (cc := cX7_bad) (maxL := 1) (ret := none) (by decide) rfl ?_
  intro p e s m args below meth c s₁ B hml hv
  obtain ⟨rfl, hsz, hP, ⟨hK, hN⟩, hD0, hZ⟩ := hv
  have hx := B.exec
  have hb := B.bytes
  have hr := B.returns
  have hts := atoms_spec (ws := wsX7_bad) B.pre
  have hown : s.vm.findClass RX7 = some m.cls := findClass_of_methodNamed B.named
  have hlocks := B.notSynchronized
  clear B
  subst hsz
  have hD := hD0.self (sz := s.heap.size)
  clear hD0
  generalize hAe : va_A [(m_, .inr (7, [.int th, .ref mt, .int 0, .int 0, .int (-1), .ref mrr, .ref mrh, .ref mrc, .int rh, .int rc, .ref mn, .ref mf, .ref mr, .ref mh, .int 0, .int 0, .ref ma, .ref mas, .ref msn, .ref mac, .ref mat]))] s.heap.size = A at hD hZ ⊢
  have hA : ∀ q : Nat, s.heap.size ≤ q → A q := fun q h => by rw [← hAe]; exact Or.inr h
  have hS : va_S A s.heap s.heap [] := va_S.rf
  have f64 := hts (.fieldLink RX7 64 "HopCreditsModel" "at" "I") (by decide +kernel)
  have f71 := hts (.fieldLink RX7 71 "HopCreditsModel" "wrong" "I") (by decide +kernel)
  have iX7 : ∀ w ∈ u_ws RX7 TX7 21, w ∈ wsX7_bad := by decide +kernel
  have hl := lv_entry ([.ref m_]) (n := 1) (Nat.le_of_ble_eq_true rfl)
  rw [lg_entry_eq]
  generalize (lg_sl ([.ref m_]) ++ List.replicate (1 - (lg_sl ([.ref m_])).length) Slot.unset).toArray = ls at hl ⊢
  have hl : lv_has ls 1 [(0, .ref m_)] := hl
  generalize hQ : MQ below _ _ s _ _ _ = Q
  generalize hH : s.heap = H at hP ⊢
  have hS : va_S A s.heap H [] := by rw [← hH]; exact hS
  clear hH
  refine lv_aload_n hx hb dX7_bad_0 rfl (lv_at hl 0 rfl) ?_
  refine lv_aload_n hx hb dX7_bad_1 rfl (lv_at hl 0 rfl) ?_
  refine va_get (D := D) (ci := 7) (v := .int (-1)) (C := RX7) (T := TX7) (N := 21) hx hb hts iX7 hown hK hP 0 rfl rfl 4 (by decide) f71 (fun _ h9 => h9) rfl dX7_bad_2 ?_
  refine lv_iconst (v := (-1)) hx hb dX7_bad_5 (by decide) ?_
  refine lv_icmp_ne (tgt := 16) hx hb dX7_bad_6 (by decide) (fun cb => absurd (by decide) cb) (fun _ => ?_)
  refine lv_aload_n hx hb dX7_bad_9 rfl (lv_at hl 0 rfl) ?_
  refine va_get (D := D) (ci := 7) (v := .int 0) (C := RX7) (T := TX7) (N := 21) hx hb hts iX7 hown hK hP 0 rfl rfl 3 (by decide) f64 (fun _ h9 => h9) rfl dX7_bad_10 ?_
  refine lv_goto (tgt := 20) hx hb dX7_bad_13 (by decide) ?_
  refine va_put (D := D) (ci := 7) (v := .int 0) (ty := .int) (C := RX7) (T := TX7) (N := 21) hx hb hts iX7 tyX7 tyX7_ok nmX7 hown hK hP hD hS 0 rfl rfl 4 (by decide) f71 (fun _ h9 => h9) rfl (by decide +kernel) (rfl) (rfl) (Nat.le_of_ble_eq_true rfl) dX7_bad_20 (fun H locs hP hD hS => ?_)
  have hP : va_P D vwCl [(m_, .inr (7, [.int th, .ref mt, .int 0, .int 0, .int 0, .ref mrr, .ref mrh, .ref mrc, .int rh, .int rc, .ref mn, .ref mf, .ref mr, .ref mh, .int 0, .int 0, .ref ma, .ref mas, .ref msn, .ref mac, .ref mat]))] H := hP
  have hD : va_D A [(m_, .inr (7, [.int th, .ref mt, .int 0, .int 0, .int 0, .ref mrr, .ref mrh, .ref mrc, .int rh, .int rc, .ref mn, .ref mf, .ref mr, .ref mh, .int 0, .int 0, .ref ma, .ref mas, .ref msn, .ref mac, .ref mat]))] := hD
  have hP9 := hP.sub (ws' := [(m_, .inr (7, [.int th, .ref mt, .int 0, .int 0, .int 0, .ref mrr, .ref mrh, .ref mrc, .int rh, .int rc, .ref mn, .ref mf, .ref mr, .ref mh, .int 0, .int 0, .ref ma, .ref mas, .ref msn, .ref mac, .ref mat]))]) [0] rfl
  have hD9 := hD.sub (ws' := [(m_, .inr (7, [.int th, .ref mt, .int 0, .int 0, .int 0, .ref mrr, .ref mrh, .ref mrc, .int rh, .int rc, .ref mn, .ref mf, .ref mr, .ref mh, .int 0, .int 0, .ref ma, .ref mas, .ref msn, .ref mac, .ref mat]))]) [0] (by decide) rfl
  subst hQ
  refine W.widen (k := 0) (n := 0) (Nat.le_of_ble_eq_true rfl) (Nat.le_of_ble_eq_true rfl) ?_
  exact W.vret hx hb hr (fun tS htS _ => ⟨⟨_, rfl, rfl, by rw [htS]; exact hP9, hD9⟩, hS.F htS⟩) hS.2.2 dX7_bad_23
set_option maxHeartbeats 4000000 in
set_option maxRecDepth 100000 in
theorem c_X7_clause (l : Launch) (D : va_G) (g : Nat → ClassId) (sz : Nat) (m_ : Nat) (th : Int32) (mt : Nat) (mrr : Nat) (mrh : Nat) (mrc : Nat) (rh : Int32) (rc : Int32) (mn : Nat) (mf : Nat) (mr : Nat) (mh : Nat) (ma : Nat) (mas : Nat) (msn : Nat) (mac : Nat) (mat : Nat) (p0 : Int32) : Met l yX7_clause wsX7_clause ({ frames := 2, cells := 0, slots := 0, locals := 40 }) (va_Pc [.ref m_, .int p0] (pre D g sz [(m_, .inr (7, [.int th, .ref mt, .int 0, .int 0, .int (-1), .ref mrr, .ref mrh, .ref mrc, .int rh, .int rc, .ref mn, .ref mf, .ref mr, .ref mh, .int 0, .int 0, .ref ma, .ref mas, .ref msn, .ref mac, .ref mat]))])) (va_Qv (fun (u : va_W) => u = [(m_, .inr (7, [.int th, .ref mt, .int 0, .int 0, .int 0, .ref mrr, .ref mrh, .ref mrc, .int rh, .int rc, .ref mn, .ref mf, .ref mr, .ref mh, .int 0, .int 0, .ref ma, .ref mas, .ref msn, .ref mac, .ref mat]))]) (wd D (va_A [(m_, .inr (7, [.int th, .ref mt, .int 0, .int 0, .int (-1), .ref mrr, .ref mrh, .ref mrc, .int rh, .int rc, .ref mn, .ref mf, .ref mr, .ref mh, .int 0, .int 0, .ref ma, .ref mas, .ref msn, .ref mac, .ref mat]))] sz)) (va_A [(m_, .inr (7, [.int th, .ref mt, .int 0, .int 0, .int (-1), .ref mrr, .ref mrh, .ref mrc, .int rh, .int rc, .ref mn, .ref mf, .ref mr, .ref mh, .int 0, .int 0, .ref ma, .ref mas, .ref msn, .ref mac, .ref mat]))] sz)) 0 0 (va_A [(m_, .inr (7, [.int th, .ref mt, .int 0, .int 0, .int (-1), .ref mrr, .ref mrh, .ref mrc, .int rh, .int rc, .ref mn, .ref mf, .ref mr, .ref mh, .int 0, .int 0, .ref ma, .ref mas, .ref msn, .ref mac, .ref mat]))] sz) := by
  refine Met.ofW (cc := cX7_clause) (maxL := 3) (ret := none) (by decide) rfl ?_
  intro p e s m args below meth c s₁ B hml hv
  obtain ⟨rfl, hsz, hP, ⟨hK, hN⟩, hD0, hZ⟩ := hv
  have hx := B.exec
  have hb := B.bytes
  have hr := B.returns
  have hts := atoms_spec (ws := wsX7_clause) B.pre
  have hown : s.vm.findClass RX7 = some m.cls := findClass_of_methodNamed B.named
  have hlocks := B.notSynchronized
  clear B
  subst hsz
  have hD := hD0.self (sz := s.heap.size)
  clear hD0
  generalize hAe : va_A [(m_, .inr (7, [.int th, .ref mt, .int 0, .int 0, .int (-1), .ref mrr, .ref mrh, .ref mrc, .int rh, .int rc, .ref mn, .ref mf, .ref mr, .ref mh, .int 0, .int 0, .ref ma, .ref mas, .ref msn, .ref mac, .ref mat]))] s.heap.size = A at hD hZ ⊢
  have hA : ∀ q : Nat, s.heap.size ≤ q → A q := fun q h => by rw [← hAe]; exact Or.inr h
  have hS : va_S A s.heap s.heap [] := va_S.rf
  have hl := lv_entry ([.ref m_, .int p0]) (n := 3) (Nat.le_of_ble_eq_true rfl)
  rw [lg_entry_eq]
  generalize (lg_sl ([.ref m_, .int p0]) ++ List.replicate (3 - (lg_sl ([.ref m_, .int p0])).length) Slot.unset).toArray = ls at hl ⊢
  have hl : lv_has ls 3 [(0, .ref m_), (1, .int p0)] := hl
  generalize hQ : MQ below _ _ s _ _ _ = Q
  generalize hH : s.heap = H at hP ⊢
  have hS : va_S A s.heap H [] := by rw [← hH]; exact hS
  clear hH
  refine lv_aload_n hx hb dX7_clause_0 rfl (lv_at hl 0 rfl) ?_
  refine ky_Vi (As := []) (rest := []) ⟨hx, hb, hml, hown, hts⟩ ⟨hK, hN⟩ hZ hP hD hS hA [0] [] (wc := [(m_, .inr (7, [.int th, .ref mt, .int 0, .int 0, .int (-1), .ref mrr, .ref mrh, .ref mrc, .int rh, .int rc, .ref mn, .ref mf, .ref mr, .ref mh, .int 0, .int 0, .ref ma, .ref mas, .ref msn, .ref mac, .ref mat]))]) (wr := []) rfl rfl rfl rfl (by decide) (c_X7_ahead l D g H.size m_ th mt (-1) mrr mrh mrc rh rc mn mf mr mh ma mas msn mac mat) (cwV 0 hts gX7_clause_X7_ahead rfl rfl rfl (by decide +kernel) ⟨(Nat.le_of_ble_eq_true rfl), (Nat.le_of_ble_eq_true rfl)⟩) 0 7 rfl rfl rfl rfl hl.1 rfl (Nat.le_of_ble_eq_true rfl) dX7_clause_1 ⟨(Nat.le_of_ble_eq_true rfl), (Nat.le_of_ble_eq_true rfl)⟩ (fun r_1 u H locs hw hP hD hS => ?_)
  obtain ⟨rfl, rfl⟩ := hw
  have hP : va_P D vwCl [(m_, .inr (7, [.int th, .ref mt, .int 0, .int 0, .int (-1), .ref mrr, .ref mrh, .ref mrc, .int rh, .int rc, .ref mn, .ref mf, .ref mr, .ref mh, .int 0, .int 0, .ref ma, .ref mas, .ref msn, .ref mac, .ref mat]))] H := hP
  have hD : va_D A [(m_, .inr (7, [.int th, .ref mt, .int 0, .int 0, .int (-1), .ref mrr, .ref mrh, .ref mrc, .int rh, .int rc, .ref mn, .ref mf, .ref mr, .ref mh, .int 0, .int 0, .ref ma, .ref mas, .ref msn, .ref mac, .ref mat]))] := hD
  refine W.widen (k := 0) (n := 0) (Nat.le_of_ble_eq_true rfl) (Nat.le_of_ble_eq_true rfl) ?_
  refine lv_istore_n (lv' := [(2, .int (-1)), (0, .ref m_), (1, .int p0)]) hx hb dX7_clause_4 rfl hl (by decide) rfl (fun ls hl => ?_)
  refine lv_iload_n hx hb dX7_clause_5 rfl (lv_at hl 0 rfl) ?_
  refine lv_bipush (v := 110) hx hb dX7_clause_6 (by decide) ?_
  refine lv_icmp_ne (tgt := 38) hx hb dX7_clause_8 (by decide) (fun _ => ?_) (fun cb => absurd cb (by decide))
  refine lv_iload_n hx hb dX7_clause_38 rfl (lv_at hl 0 rfl) ?_
  refine lv_bipush (v := 104) hx hb dX7_clause_39 (by decide) ?_
  refine lv_icmp_ne (tgt := 90) hx hb dX7_clause_41 (by decide) (fun _ => ?_) (fun cb => absurd cb (by decide))
  refine lv_iload_n hx hb dX7_clause_90 rfl (lv_at hl 0 rfl) ?_
  refine lv_bipush (v := 99) hx hb dX7_clause_91 (by decide) ?_
  refine lv_icmp_ne (tgt := 142) hx hb dX7_clause_93 (by decide) (fun _ => ?_) (fun cb => absurd cb (by decide))
  refine lv_aload_n hx hb dX7_clause_142 rfl (lv_at hl 1 rfl) ?_
  refine ky_Vv (As := []) (rest := []) ⟨hx, hb, hml, hown, hts⟩ ⟨hK, hN⟩ hZ hP hD hS hA [0] [] (wc := [(m_, .inr (7, [.int th, .ref mt, .int 0, .int 0, .int (-1), .ref mrr, .ref mrh, .ref mrc, .int rh, .int rc, .ref mn, .ref mf, .ref mr, .ref mh, .int 0, .int 0, .ref ma, .ref mas, .ref msn, .ref mac, .ref mat]))]) (wr := []) rfl rfl rfl rfl (by decide) (c_X7_bad l D g H.size m_ th mt mrr mrh mrc rh rc mn mf mr mh ma mas msn mac mat) (cwV 0 hts gX7_clause_X7_bad rfl rfl rfl (by decide +kernel) ⟨(Nat.le_of_ble_eq_true rfl), (Nat.le_of_ble_eq_true rfl)⟩) 0 7 rfl rfl rfl rfl hl.1 rfl (Nat.le_of_ble_eq_true rfl) dX7_clause_143 ⟨(Nat.le_of_ble_eq_true rfl), (Nat.le_of_ble_eq_true rfl)⟩ (fun u H locs hw hP hD hS => ?_)
  obtain rfl := hw
  have hP : va_P D vwCl [(m_, .inr (7, [.int th, .ref mt, .int 0, .int 0, .int 0, .ref mrr, .ref mrh, .ref mrc, .int rh, .int rc, .ref mn, .ref mf, .ref mr, .ref mh, .int 0, .int 0, .ref ma, .ref mas, .ref msn, .ref mac, .ref mat]))] H := hP
  have hD : va_D A [(m_, .inr (7, [.int th, .ref mt, .int 0, .int 0, .int 0, .ref mrr, .ref mrh, .ref mrc, .int rh, .int rc, .ref mn, .ref mf, .ref mr, .ref mh, .int 0, .int 0, .ref ma, .ref mas, .ref msn, .ref mac, .ref mat]))] := hD
  refine W.widen (k := 0) (n := 0) (Nat.le_of_ble_eq_true rfl) (Nat.le_of_ble_eq_true rfl) ?_
  have hP9 := hP.sub (ws' := [(m_, .inr (7, [.int th, .ref mt, .int 0, .int 0, .int 0, .ref mrr, .ref mrh, .ref mrc, .int rh, .int rc, .ref mn, .ref mf, .ref mr, .ref mh, .int 0, .int 0, .ref ma, .ref mas, .ref msn, .ref mac, .ref mat]))]) [0] rfl
  have hD9 := hD.sub (ws' := [(m_, .inr (7, [.int th, .ref mt, .int 0, .int 0, .int 0, .ref mrr, .ref mrh, .ref mrc, .int rh, .int rc, .ref mn, .ref mf, .ref mr, .ref mh, .int 0, .int 0, .ref ma, .ref mas, .ref msn, .ref mac, .ref mat]))]) [0] (by decide) rfl
  subst hQ
  refine W.widen (k := 0) (n := 0) (Nat.le_of_ble_eq_true rfl) (Nat.le_of_ble_eq_true rfl) ?_
  exact W.vret hx hb hr (fun tS htS _ => ⟨⟨_, rfl, rfl, by rw [htS]; exact hP9, hD9⟩, hS.F htS⟩) hS.2.2 dX7_clause_146
set_option maxHeartbeats 4000000 in
set_option maxRecDepth 100000 in
theorem c_X7_usual (l : Launch) (D : va_G) (g : Nat → ClassId) (sz : Nat) (p0 : Int32) (p1 : Int32) : Met l yX7_usual wsX7_usual ({ frames := 0, cells := 0, slots := 0, locals := 0 }) (va_Pc [.int p0, .int p1] (pre D g sz [])) (va_Qi (fun (r : Int32) (u : va_W) => u = [] ∧ r = (if p0 = 0 then (if p1 = 0 then 1 else 0) else (if p0 = 1 then (if p1 = 1 then 12 else 1) else (if p1 = 1 then 0 else 1)))) (wd D (va_A [] sz)) (va_A [] sz)) 0 0 (va_A [] sz) := by
  refine Met.ofW (cc := cX7_usual) (maxL := 2) (ret := (some .int)) (by decide) rfl ?_
  intro p e s m args below meth c s₁ B hml hv
  obtain ⟨rfl, hsz, hP, ⟨hK, hN⟩, hD0, hZ⟩ := hv
  have hx := B.exec
  have hb := B.bytes
  have hr := B.returns
  have hts := atoms_spec (ws := wsX7_usual) B.pre
  have hown : s.vm.findClass RX7 = some m.cls := findClass_of_methodNamed B.named
  have hlocks := B.notSynchronized
  clear B
  subst hsz
  have hD := hD0.self (sz := s.heap.size)
  clear hD0
  generalize hAe : va_A [] s.heap.size = A at hD hZ ⊢
  have hA : ∀ q : Nat, s.heap.size ≤ q → A q := fun q h => by rw [← hAe]; exact Or.inr h
  have hS : va_S A s.heap s.heap [] := va_S.rf
  have hl := lv_entry ([.int p0, .int p1]) (n := 2) (Nat.le_of_ble_eq_true rfl)
  rw [lg_entry_eq]
  generalize (lg_sl ([.int p0, .int p1]) ++ List.replicate (2 - (lg_sl ([.int p0, .int p1])).length) Slot.unset).toArray = ls at hl ⊢
  have hl : lv_has ls 2 [(0, .int p0), (1, .int p1)] := hl
  generalize hQ : MQ below _ _ s _ _ _ = Q
  generalize hH : s.heap = H at hP ⊢
  have hS : va_S A s.heap H [] := by rw [← hH]; exact hS
  clear hH
  refine lv_iload_n hx hb dX7_usual_0 rfl (lv_at hl 0 rfl) ?_
  refine lv_if_ne (tgt := 14) hx hb dX7_usual_1 (by decide) (fun cb_1 => ?_) (fun cb_1 => ?_)
  · skip
    refine lv_iload_n hx hb dX7_usual_14 rfl (lv_at hl 0 rfl) ?_
    refine lv_iconst (v := 1) hx hb dX7_usual_15 (by decide) ?_
    refine lv_icmp_ne (tgt := 31) hx hb dX7_usual_16 (by decide) (fun cb_2 => ?_) (fun cb_2 => ?_)
    · skip
      refine lv_iload_n hx hb dX7_usual_31 rfl (lv_at hl 1 rfl) ?_
      refine lv_iconst (v := 1) hx hb dX7_usual_32 (by decide) ?_
      refine lv_icmp_ne (tgt := 40) hx hb dX7_usual_33 (by decide) (fun cb_3 => ?_) (fun cb_3 => ?_)
      · skip
        refine lv_iconst (v := 1) hx hb dX7_usual_40 (by decide) ?_
        have hP9 := hP.sub (ws' := []) [] rfl
        have hD9 := hD.sub (ws' := []) [] (by decide) rfl
        subst hQ
        refine W.widen (k := 0) (n := 0) (Nat.le_of_ble_eq_true rfl) (Nat.le_of_ble_eq_true rfl) ?_
        exact W.iret (v := 1) hx hb hr (fun tS htS _ => ⟨⟨_, _, rfl, ⟨rfl, (((if_neg cb_1).trans (if_neg cb_2)).trans (if_neg cb_3)).symm⟩, by rw [htS]; exact hP9, hD9⟩, hS.F htS⟩) hS.2.2 dX7_usual_41
      · skip
        refine lv_iconst (v := 0) hx hb dX7_usual_36 (by decide) ?_
        refine lv_goto (tgt := 41) hx hb dX7_usual_37 (by decide) ?_
        have hP9 := hP.sub (ws' := []) [] rfl
        have hD9 := hD.sub (ws' := []) [] (by decide) rfl
        subst hQ
        refine W.widen (k := 0) (n := 0) (Nat.le_of_ble_eq_true rfl) (Nat.le_of_ble_eq_true rfl) ?_
        exact W.iret (v := 0) hx hb hr (fun tS htS _ => ⟨⟨_, _, rfl, ⟨rfl, (((if_neg cb_1).trans (if_neg cb_2)).trans (if_pos cb_3)).symm⟩, by rw [htS]; exact hP9, hD9⟩, hS.F htS⟩) hS.2.2 dX7_usual_41
    · skip
      refine lv_iload_n hx hb dX7_usual_19 rfl (lv_at hl 1 rfl) ?_
      refine lv_iconst (v := 1) hx hb dX7_usual_20 (by decide) ?_
      refine lv_icmp_ne (tgt := 29) hx hb dX7_usual_21 (by decide) (fun cb_4 => ?_) (fun cb_4 => ?_)
      · skip
        refine lv_iconst (v := 1) hx hb dX7_usual_29 (by decide) ?_
        have hP9 := hP.sub (ws' := []) [] rfl
        have hD9 := hD.sub (ws' := []) [] (by decide) rfl
        subst hQ
        refine W.widen (k := 0) (n := 0) (Nat.le_of_ble_eq_true rfl) (Nat.le_of_ble_eq_true rfl) ?_
        exact W.iret (v := 1) hx hb hr (fun tS htS _ => ⟨⟨_, _, rfl, ⟨rfl, (((if_neg cb_1).trans (if_pos cb_2)).trans (if_neg cb_4)).symm⟩, by rw [htS]; exact hP9, hD9⟩, hS.F htS⟩) hS.2.2 dX7_usual_30
      · skip
        refine lv_bipush (v := 12) hx hb dX7_usual_24 (by decide) ?_
        refine lv_goto (tgt := 30) hx hb dX7_usual_26 (by decide) ?_
        have hP9 := hP.sub (ws' := []) [] rfl
        have hD9 := hD.sub (ws' := []) [] (by decide) rfl
        subst hQ
        refine W.widen (k := 0) (n := 0) (Nat.le_of_ble_eq_true rfl) (Nat.le_of_ble_eq_true rfl) ?_
        exact W.iret (v := 12) hx hb hr (fun tS htS _ => ⟨⟨_, _, rfl, ⟨rfl, (((if_neg cb_1).trans (if_pos cb_2)).trans (if_pos cb_4)).symm⟩, by rw [htS]; exact hP9, hD9⟩, hS.F htS⟩) hS.2.2 dX7_usual_30
  · skip
    refine lv_iload_n hx hb dX7_usual_4 rfl (lv_at hl 1 rfl) ?_
    refine lv_if_ne (tgt := 12) hx hb dX7_usual_5 (by decide) (fun cb_5 => ?_) (fun cb_5 => ?_)
    · skip
      refine lv_iconst (v := 0) hx hb dX7_usual_12 (by decide) ?_
      have hP9 := hP.sub (ws' := []) [] rfl
      have hD9 := hD.sub (ws' := []) [] (by decide) rfl
      subst hQ
      refine W.widen (k := 0) (n := 0) (Nat.le_of_ble_eq_true rfl) (Nat.le_of_ble_eq_true rfl) ?_
      exact W.iret (v := 0) hx hb hr (fun tS htS _ => ⟨⟨_, _, rfl, ⟨rfl, ((if_pos cb_1).trans (if_neg cb_5)).symm⟩, by rw [htS]; exact hP9, hD9⟩, hS.F htS⟩) hS.2.2 dX7_usual_13
    · skip
      refine lv_iconst (v := 1) hx hb dX7_usual_8 (by decide) ?_
      refine lv_goto (tgt := 13) hx hb dX7_usual_9 (by decide) ?_
      have hP9 := hP.sub (ws' := []) [] rfl
      have hD9 := hD.sub (ws' := []) [] (by decide) rfl
      subst hQ
      refine W.widen (k := 0) (n := 0) (Nat.le_of_ble_eq_true rfl) (Nat.le_of_ble_eq_true rfl) ?_
      exact W.iret (v := 1) hx hb hr (fun tS htS _ => ⟨⟨_, _, rfl, ⟨rfl, ((if_pos cb_1).trans (if_pos cb_5)).symm⟩, by rw [htS]; exact hP9, hD9⟩, hS.F htS⟩) hS.2.2 dX7_usual_13
set_option maxHeartbeats 4000000 in
set_option maxRecDepth 100000 in
theorem c_X7_laysUsual (l : Launch) (D : va_G) (g : Nat → ClassId) (sz : Nat) (m_ : Nat) (mrr : Nat) (fr : Nat → Int32) : Met l yX7_laysUsual wsX7_laysUsual ({ frames := 1, cells := 0, slots := 0, locals := 21 }) (va_Pc [.ref m_, .int 0, .ref mrr, .int 0] (pre D g sz [(mrr, .inl (g 0, 3, .inl fr))])) (va_Qv (fun (u : va_W) => u = [(mrr, .inl (g 0, 3, .inl (upd (upd (upd fr 0 1) 1 0) 2 0)))]) (wd D (va_A [(mrr, .inl (g 0, 3, .inl fr))] sz)) (va_A [(mrr, .inl (g 0, 3, .inl fr))] sz)) 0 0 (va_A [(mrr, .inl (g 0, 3, .inl fr))] sz) := by
  refine Met.ofW (cc := cX7_laysUsual) (maxL := 5) (ret := none) (by decide) rfl ?_
  intro p e s m args below meth c s₁ B hml hv
  obtain ⟨rfl, hsz, hP, ⟨hK, hN⟩, hD0, hZ⟩ := hv
  have hx := B.exec
  have hb := B.bytes
  have hr := B.returns
  have hts := atoms_spec (ws := wsX7_laysUsual) B.pre
  have hown : s.vm.findClass RX7 = some m.cls := findClass_of_methodNamed B.named
  have hlocks := B.notSynchronized
  clear B
  subst hsz
  have hD := hD0.self (sz := s.heap.size)
  clear hD0
  generalize hAe : va_A [(mrr, .inl (g 0, 3, .inl fr))] s.heap.size = A at hD hZ ⊢
  have hA : ∀ q : Nat, s.heap.size ≤ q → A q := fun q h => by rw [← hAe]; exact Or.inr h
  have hS : va_S A s.heap s.heap [] := va_S.rf
  have hl := lv_entry ([.ref m_, .int 0, .ref mrr, .int 0]) (n := 5) (Nat.le_of_ble_eq_true rfl)
  rw [lg_entry_eq]
  generalize (lg_sl ([.ref m_, .int 0, .ref mrr, .int 0]) ++ List.replicate (5 - (lg_sl ([.ref m_, .int 0, .ref mrr, .int 0])).length) Slot.unset).toArray = ls at hl ⊢
  have hl : lv_has ls 5 [(0, .ref m_), (1, .int 0), (2, .ref mrr), (3, .int 0)] := hl
  generalize hQ : MQ below _ _ s _ _ _ = Q
  generalize hH : s.heap = H at hP ⊢
  have hS : va_S A s.heap H [] := by rw [← hH]; exact hS
  clear hH
  refine lv_iconst (v := 0) hx hb dX7_laysUsual_0 (by decide) ?_
  refine lv_istore (lv' := [(4, .int 0), (0, .ref m_), (1, .int 0), (2, .ref mrr), (3, .int 0)]) hx hb dX7_laysUsual_1 hl (by decide) rfl (fun ls hl => ?_)
  refine lv_iload hx hb dX7_laysUsual_3 (lv_at hl 0 rfl) ?_
  refine lv_iconst (v := 3) hx hb dX7_laysUsual_5 (by decide) ?_
  refine lv_icmp_ge (tgt := 27) hx hb dX7_laysUsual_6 (by decide) (fun cb => absurd cb (by decide)) (fun _ => ?_)
  refine lv_aload_n hx hb dX7_laysUsual_9 rfl (lv_at hl 3 rfl) ?_
  refine lv_iload_n hx hb dX7_laysUsual_10 rfl (lv_at hl 4 rfl) ?_
  refine lv_iload hx hb dX7_laysUsual_11 (lv_at hl 0 rfl) ?_
  refine lv_iadd hx hb dX7_laysUsual_13 ?_
  refine lv_eqi (y := 0) (by decide) ?_
  refine lv_iload_n hx hb dX7_laysUsual_14 rfl (lv_at hl 2 rfl) ?_
  refine lv_iload hx hb dX7_laysUsual_15 (lv_at hl 0 rfl) ?_
  refine ky_Si (As := [.int 0, .int 0]) (rest := [.int 0, .ref mrr]) ⟨hx, hb, hml, hown, hts⟩ ⟨hK, hN⟩ hZ hP hD hS hA [] [0] (wc := []) (wr := [(mrr, .inl (g 0, 3, .inl fr))]) rfl rfl rfl rfl (by decide) (c_X7_usual l D g H.size 0 0) (va_cwS 2 hts gX7_laysUsual_X7_usual rfl rfl rfl (by decide +kernel) ⟨(Nat.le_of_ble_eq_true rfl), (Nat.le_of_ble_eq_true rfl)⟩) rfl hl.1 rfl (Nat.le_of_ble_eq_true rfl) dX7_laysUsual_17 ⟨(Nat.le_of_ble_eq_true rfl), (Nat.le_of_ble_eq_true rfl)⟩ (fun r_1 u H locs hw hP hD hS => ?_)
  obtain ⟨rfl, rfl⟩ := hw
  have hP : va_P D vwCl [(mrr, .inl (g 0, 3, .inl fr))] H := hP
  have hD : va_D A [(mrr, .inl (g 0, 3, .inl fr))] := hD
  refine W.widen (k := 0) (n := 0) (Nat.le_of_ble_eq_true rfl) (Nat.le_of_ble_eq_true rfl) ?_
  refine lv_eqi (y := 1) (by decide) ?_
  refine va_iast hx hb hK hP hD hS 0 0 rfl rfl (by unfold vp_in; decide) dX7_laysUsual_20 (fun H locs hP hD hS => ?_)
  have hP : va_P D vwCl [(mrr, .inl (g 0, 3, .inl (upd fr 0 1)))] H := hP
  have hD : va_D A [(mrr, .inl (g 0, 3, .inl (upd fr 0 1)))] := hD
  refine lv_iinc (v := 1) (lv' := [(4, .int 1), (0, .ref m_), (1, .int 0), (2, .ref mrr), (3, .int 0)]) hx hb dX7_laysUsual_21 hl (k := 0) rfl (by decide) (by decide) rfl (fun ls hl => ?_)
  refine lv_goto (tgt := 3) hx hb dX7_laysUsual_24 (by decide) ?_
  refine lv_iload hx hb dX7_laysUsual_3 (lv_at hl 0 rfl) ?_
  refine lv_iconst (v := 3) hx hb dX7_laysUsual_5 (by decide) ?_
  refine lv_icmp_ge (tgt := 27) hx hb dX7_laysUsual_6 (by decide) (fun cb => absurd cb (by decide)) (fun _ => ?_)
  refine lv_aload_n hx hb dX7_laysUsual_9 rfl (lv_at hl 3 rfl) ?_
  refine lv_iload_n hx hb dX7_laysUsual_10 rfl (lv_at hl 4 rfl) ?_
  refine lv_iload hx hb dX7_laysUsual_11 (lv_at hl 0 rfl) ?_
  refine lv_iadd hx hb dX7_laysUsual_13 ?_
  refine lv_eqi (y := 1) (by decide) ?_
  refine lv_iload_n hx hb dX7_laysUsual_14 rfl (lv_at hl 2 rfl) ?_
  refine lv_iload hx hb dX7_laysUsual_15 (lv_at hl 0 rfl) ?_
  refine ky_Si (As := [.int 0, .int 1]) (rest := [.int 1, .ref mrr]) ⟨hx, hb, hml, hown, hts⟩ ⟨hK, hN⟩ hZ hP hD hS hA [] [0] (wc := []) (wr := [(mrr, .inl (g 0, 3, .inl (upd fr 0 1)))]) rfl rfl rfl rfl (by decide) (c_X7_usual l D g H.size 0 1) (va_cwS 2 hts gX7_laysUsual_X7_usual rfl rfl rfl (by decide +kernel) ⟨(Nat.le_of_ble_eq_true rfl), (Nat.le_of_ble_eq_true rfl)⟩) rfl hl.1 rfl (Nat.le_of_ble_eq_true rfl) dX7_laysUsual_17 ⟨(Nat.le_of_ble_eq_true rfl), (Nat.le_of_ble_eq_true rfl)⟩ (fun r_2 u H locs hw hP hD hS => ?_)
  obtain ⟨rfl, rfl⟩ := hw
  have hP : va_P D vwCl [(mrr, .inl (g 0, 3, .inl (upd fr 0 1)))] H := hP
  have hD : va_D A [(mrr, .inl (g 0, 3, .inl (upd fr 0 1)))] := hD
  refine W.widen (k := 0) (n := 0) (Nat.le_of_ble_eq_true rfl) (Nat.le_of_ble_eq_true rfl) ?_
  refine lv_eqi (y := 0) (by decide) ?_
  refine va_iast hx hb hK hP hD hS 0 0 rfl rfl (by unfold vp_in; decide) dX7_laysUsual_20 (fun H locs hP hD hS => ?_)
  have hP : va_P D vwCl [(mrr, .inl (g 0, 3, .inl (upd (upd fr 0 1) 1 0)))] H := hP
  have hD : va_D A [(mrr, .inl (g 0, 3, .inl (upd (upd fr 0 1) 1 0)))] := hD
  refine lv_iinc (v := 2) (lv' := [(4, .int 2), (0, .ref m_), (1, .int 0), (2, .ref mrr), (3, .int 0)]) hx hb dX7_laysUsual_21 hl (k := 0) rfl (by decide) (by decide) rfl (fun ls hl => ?_)
  refine lv_goto (tgt := 3) hx hb dX7_laysUsual_24 (by decide) ?_
  refine lv_iload hx hb dX7_laysUsual_3 (lv_at hl 0 rfl) ?_
  refine lv_iconst (v := 3) hx hb dX7_laysUsual_5 (by decide) ?_
  refine lv_icmp_ge (tgt := 27) hx hb dX7_laysUsual_6 (by decide) (fun cb => absurd cb (by decide)) (fun _ => ?_)
  refine lv_aload_n hx hb dX7_laysUsual_9 rfl (lv_at hl 3 rfl) ?_
  refine lv_iload_n hx hb dX7_laysUsual_10 rfl (lv_at hl 4 rfl) ?_
  refine lv_iload hx hb dX7_laysUsual_11 (lv_at hl 0 rfl) ?_
  refine lv_iadd hx hb dX7_laysUsual_13 ?_
  refine lv_eqi (y := 2) (by decide) ?_
  refine lv_iload_n hx hb dX7_laysUsual_14 rfl (lv_at hl 2 rfl) ?_
  refine lv_iload hx hb dX7_laysUsual_15 (lv_at hl 0 rfl) ?_
  refine ky_Si (As := [.int 0, .int 2]) (rest := [.int 2, .ref mrr]) ⟨hx, hb, hml, hown, hts⟩ ⟨hK, hN⟩ hZ hP hD hS hA [] [0] (wc := []) (wr := [(mrr, .inl (g 0, 3, .inl (upd (upd fr 0 1) 1 0)))]) rfl rfl rfl rfl (by decide) (c_X7_usual l D g H.size 0 2) (va_cwS 2 hts gX7_laysUsual_X7_usual rfl rfl rfl (by decide +kernel) ⟨(Nat.le_of_ble_eq_true rfl), (Nat.le_of_ble_eq_true rfl)⟩) rfl hl.1 rfl (Nat.le_of_ble_eq_true rfl) dX7_laysUsual_17 ⟨(Nat.le_of_ble_eq_true rfl), (Nat.le_of_ble_eq_true rfl)⟩ (fun r_3 u H locs hw hP hD hS => ?_)
  obtain ⟨rfl, rfl⟩ := hw
  have hP : va_P D vwCl [(mrr, .inl (g 0, 3, .inl (upd (upd fr 0 1) 1 0)))] H := hP
  have hD : va_D A [(mrr, .inl (g 0, 3, .inl (upd (upd fr 0 1) 1 0)))] := hD
  refine W.widen (k := 0) (n := 0) (Nat.le_of_ble_eq_true rfl) (Nat.le_of_ble_eq_true rfl) ?_
  refine lv_eqi (y := 0) (by decide) ?_
  refine va_iast hx hb hK hP hD hS 0 0 rfl rfl (by unfold vp_in; decide) dX7_laysUsual_20 (fun H locs hP hD hS => ?_)
  have hP : va_P D vwCl [(mrr, .inl (g 0, 3, .inl (upd (upd (upd fr 0 1) 1 0) 2 0)))] H := hP
  have hD : va_D A [(mrr, .inl (g 0, 3, .inl (upd (upd (upd fr 0 1) 1 0) 2 0)))] := hD
  refine lv_iinc (v := 3) (lv' := [(4, .int 3), (0, .ref m_), (1, .int 0), (2, .ref mrr), (3, .int 0)]) hx hb dX7_laysUsual_21 hl (k := 0) rfl (by decide) (by decide) rfl (fun ls hl => ?_)
  refine lv_goto (tgt := 3) hx hb dX7_laysUsual_24 (by decide) ?_
  refine lv_iload hx hb dX7_laysUsual_3 (lv_at hl 0 rfl) ?_
  refine lv_iconst (v := 3) hx hb dX7_laysUsual_5 (by decide) ?_
  refine lv_icmp_ge (tgt := 27) hx hb dX7_laysUsual_6 (by decide) (fun _ => ?_) (fun cb => absurd (by decide) cb)
  have hP9 := hP.sub (ws' := [(mrr, .inl (g 0, 3, .inl (upd (upd (upd fr 0 1) 1 0) 2 0)))]) [0] rfl
  have hD9 := hD.sub (ws' := [(mrr, .inl (g 0, 3, .inl (upd (upd (upd fr 0 1) 1 0) 2 0)))]) [0] (by decide) rfl
  subst hQ
  refine W.widen (k := 0) (n := 0) (Nat.le_of_ble_eq_true rfl) (Nat.le_of_ble_eq_true rfl) ?_
  exact W.vret hx hb hr (fun tS htS _ => ⟨⟨_, rfl, rfl, by rw [htS]; exact hP9, hD9⟩, hS.F htS⟩) hS.2.2 dX7_laysUsual_27
set_option maxHeartbeats 4000000 in
set_option maxRecDepth 100000 in
theorem c_X7_readNet (l : Launch) (D : va_G) (g : Nat → ClassId) (sz : Nat) (m_ : Nat) (th : Int32) (mt : Nat) (pa_ : Int32) (wr : Int32) (mrr : Nat) (mrh : Nat) (mrc : Nat) (rh : Int32) (rc : Int32) (mn : Nat) (mf : Nat) (mr : Nat) (mh : Nat) (ma : Nat) (mas : Nat) (msn : Nat) (mac : Nat) (mat : Nat) (fr : Nat → Int32) : Met l yX7_readNet wsX7_readNet ({ frames := 3, cells := 0, slots := 0, locals := 62 }) (va_Pc [.ref m_] (pre D g sz [(m_, .inr (7, [.int th, .ref mt, .int 0, .int pa_, .int wr, .ref mrr, .ref mrh, .ref mrc, .int rh, .int rc, .ref mn, .ref mf, .ref mr, .ref mh, .int 0, .int 0, .ref ma, .ref mas, .ref msn, .ref mac, .ref mat])), (mrr, .inl (g 0, 3, .inl fr))])) (va_Qi (fun (r : Int32) (u : va_W) => u = [(m_, .inr (7, [.int th, .ref mt, .int 0, .int 0, .int 0, .ref mrr, .ref mrh, .ref mrc, .int 0, .int 0, .ref mn, .ref mf, .ref mr, .ref mh, .int 0, .int 0, .ref ma, .ref mas, .ref msn, .ref mac, .ref mat])), (mrr, .inl (g 0, 3, .inl (upd (upd (upd fr 0 1) 1 0) 2 0)))] ∧ r = 0) (wd D (va_A [(m_, .inr (7, [.int th, .ref mt, .int 0, .int pa_, .int wr, .ref mrr, .ref mrh, .ref mrc, .int rh, .int rc, .ref mn, .ref mf, .ref mr, .ref mh, .int 0, .int 0, .ref ma, .ref mas, .ref msn, .ref mac, .ref mat])), (mrr, .inl (g 0, 3, .inl fr))] sz)) (va_A [(m_, .inr (7, [.int th, .ref mt, .int 0, .int pa_, .int wr, .ref mrr, .ref mrh, .ref mrc, .int rh, .int rc, .ref mn, .ref mf, .ref mr, .ref mh, .int 0, .int 0, .ref ma, .ref mas, .ref msn, .ref mac, .ref mat])), (mrr, .inl (g 0, 3, .inl fr))] sz)) 0 0 (va_A [(m_, .inr (7, [.int th, .ref mt, .int 0, .int pa_, .int wr, .ref mrr, .ref mrh, .ref mrc, .int rh, .int rc, .ref mn, .ref mf, .ref mr, .ref mh, .int 0, .int 0, .ref ma, .ref mas, .ref msn, .ref mac, .ref mat])), (mrr, .inl (g 0, 3, .inl fr))] sz) := by
  refine Met.ofW (cc := cX7_readNet) (maxL := 3) (ret := (some .int)) (by decide) rfl ?_
  intro p e s m args below meth c s₁ B hml hv
  obtain ⟨rfl, hsz, hP, ⟨hK, hN⟩, hD0, hZ⟩ := hv
  have hx := B.exec
  have hb := B.bytes
  have hr := B.returns
  have hts := atoms_spec (ws := wsX7_readNet) B.pre
  have hown : s.vm.findClass RX7 = some m.cls := findClass_of_methodNamed B.named
  have hlocks := B.notSynchronized
  clear B
  subst hsz
  have hD := hD0.self (sz := s.heap.size)
  clear hD0
  generalize hAe : va_A [(m_, .inr (7, [.int th, .ref mt, .int 0, .int pa_, .int wr, .ref mrr, .ref mrh, .ref mrc, .int rh, .int rc, .ref mn, .ref mf, .ref mr, .ref mh, .int 0, .int 0, .ref ma, .ref mas, .ref msn, .ref mac, .ref mat])), (mrr, .inl (g 0, 3, .inl fr))] s.heap.size = A at hD hZ ⊢
  have hA : ∀ q : Nat, s.heap.size ≤ q → A q := fun q h => by rw [← hAe]; exact Or.inr h
  have hS : va_S A s.heap s.heap [] := va_S.rf
  have f111 := hts (.fieldLink RX7 111 "HopCreditsModel" "readHops" "I") (by decide +kernel)
  have f114 := hts (.fieldLink RX7 114 "HopCreditsModel" "readCircuits" "I") (by decide +kernel)
  have f13 := hts (.fieldLink RX7 13 "HopCreditsModel" "readRule" "[I") (by decide +kernel)
  have f64 := hts (.fieldLink RX7 64 "HopCreditsModel" "at" "I") (by decide +kernel)
  have f71 := hts (.fieldLink RX7 71 "HopCreditsModel" "wrong" "I") (by decide +kernel)
  have iX7 : ∀ w ∈ u_ws RX7 TX7 21, w ∈ wsX7_readNet := by decide +kernel
  have hl := lv_entry ([.ref m_]) (n := 3) (Nat.le_of_ble_eq_true rfl)
  rw [lg_entry_eq]
  generalize (lg_sl ([.ref m_]) ++ List.replicate (3 - (lg_sl ([.ref m_])).length) Slot.unset).toArray = ls at hl ⊢
  have hl : lv_has ls 3 [(0, .ref m_)] := hl
  generalize hQ : MQ below _ _ s _ _ _ = Q
  generalize hH : s.heap = H at hP ⊢
  have hS : va_S A s.heap H [] := by rw [← hH]; exact hS
  clear hH
  refine lv_aload_n hx hb dX7_readNet_0 rfl (lv_at hl 0 rfl) ?_
  refine lv_iconst (v := 0) hx hb dX7_readNet_1 (by decide) ?_
  refine va_put (D := D) (ci := 7) (v := .int 0) (ty := .int) (C := RX7) (T := TX7) (N := 21) hx hb hts iX7 tyX7 tyX7_ok nmX7 hown hK hP hD hS 0 rfl rfl 3 (by decide) f64 (fun _ h9 => h9) rfl (by decide +kernel) (rfl) (rfl) (Nat.le_of_ble_eq_true rfl) dX7_readNet_2 (fun H locs hP hD hS => ?_)
  have hP : va_P D vwCl [(m_, .inr (7, [.int th, .ref mt, .int 0, .int 0, .int wr, .ref mrr, .ref mrh, .ref mrc, .int rh, .int rc, .ref mn, .ref mf, .ref mr, .ref mh, .int 0, .int 0, .ref ma, .ref mas, .ref msn, .ref mac, .ref mat])), (mrr, .inl (g 0, 3, .inl fr))] H := hP
  have hD : va_D A [(m_, .inr (7, [.int th, .ref mt, .int 0, .int 0, .int wr, .ref mrr, .ref mrh, .ref mrc, .int rh, .int rc, .ref mn, .ref mf, .ref mr, .ref mh, .int 0, .int 0, .ref ma, .ref mas, .ref msn, .ref mac, .ref mat])), (mrr, .inl (g 0, 3, .inl fr))] := hD
  refine lv_aload_n hx hb dX7_readNet_5 rfl (lv_at hl 0 rfl) ?_
  refine lv_iconst (v := (-1)) hx hb dX7_readNet_6 (by decide) ?_
  refine va_put (D := D) (ci := 7) (v := .int (-1)) (ty := .int) (C := RX7) (T := TX7) (N := 21) hx hb hts iX7 tyX7 tyX7_ok nmX7 hown hK hP hD hS 0 rfl rfl 4 (by decide) f71 (fun _ h9 => h9) rfl (by decide +kernel) (rfl) (rfl) (Nat.le_of_ble_eq_true rfl) dX7_readNet_7 (fun H locs hP hD hS => ?_)
  have hP : va_P D vwCl [(m_, .inr (7, [.int th, .ref mt, .int 0, .int 0, .int (-1), .ref mrr, .ref mrh, .ref mrc, .int rh, .int rc, .ref mn, .ref mf, .ref mr, .ref mh, .int 0, .int 0, .ref ma, .ref mas, .ref msn, .ref mac, .ref mat])), (mrr, .inl (g 0, 3, .inl fr))] H := hP
  have hD : va_D A [(m_, .inr (7, [.int th, .ref mt, .int 0, .int 0, .int (-1), .ref mrr, .ref mrh, .ref mrc, .int rh, .int rc, .ref mn, .ref mf, .ref mr, .ref mh, .int 0, .int 0, .ref ma, .ref mas, .ref msn, .ref mac, .ref mat])), (mrr, .inl (g 0, 3, .inl fr))] := hD
  refine lv_aload_n hx hb dX7_readNet_10 rfl (lv_at hl 0 rfl) ?_
  refine lv_iconst (v := 0) hx hb dX7_readNet_11 (by decide) ?_
  refine va_put (D := D) (ci := 7) (v := .int 0) (ty := .int) (C := RX7) (T := TX7) (N := 21) hx hb hts iX7 tyX7 tyX7_ok nmX7 hown hK hP hD hS 0 rfl rfl 8 (by decide) f111 (fun _ h9 => h9) rfl (by decide +kernel) (rfl) (rfl) (Nat.le_of_ble_eq_true rfl) dX7_readNet_12 (fun H locs hP hD hS => ?_)
  have hP : va_P D vwCl [(m_, .inr (7, [.int th, .ref mt, .int 0, .int 0, .int (-1), .ref mrr, .ref mrh, .ref mrc, .int 0, .int rc, .ref mn, .ref mf, .ref mr, .ref mh, .int 0, .int 0, .ref ma, .ref mas, .ref msn, .ref mac, .ref mat])), (mrr, .inl (g 0, 3, .inl fr))] H := hP
  have hD : va_D A [(m_, .inr (7, [.int th, .ref mt, .int 0, .int 0, .int (-1), .ref mrr, .ref mrh, .ref mrc, .int 0, .int rc, .ref mn, .ref mf, .ref mr, .ref mh, .int 0, .int 0, .ref ma, .ref mas, .ref msn, .ref mac, .ref mat])), (mrr, .inl (g 0, 3, .inl fr))] := hD
  refine lv_aload_n hx hb dX7_readNet_15 rfl (lv_at hl 0 rfl) ?_
  refine lv_iconst (v := 0) hx hb dX7_readNet_16 (by decide) ?_
  refine va_put (D := D) (ci := 7) (v := .int 0) (ty := .int) (C := RX7) (T := TX7) (N := 21) hx hb hts iX7 tyX7 tyX7_ok nmX7 hown hK hP hD hS 0 rfl rfl 9 (by decide) f114 (fun _ h9 => h9) rfl (by decide +kernel) (rfl) (rfl) (Nat.le_of_ble_eq_true rfl) dX7_readNet_17 (fun H locs hP hD hS => ?_)
  have hP : va_P D vwCl [(m_, .inr (7, [.int th, .ref mt, .int 0, .int 0, .int (-1), .ref mrr, .ref mrh, .ref mrc, .int 0, .int 0, .ref mn, .ref mf, .ref mr, .ref mh, .int 0, .int 0, .ref ma, .ref mas, .ref msn, .ref mac, .ref mat])), (mrr, .inl (g 0, 3, .inl fr))] H := hP
  have hD : va_D A [(m_, .inr (7, [.int th, .ref mt, .int 0, .int 0, .int (-1), .ref mrr, .ref mrh, .ref mrc, .int 0, .int 0, .ref mn, .ref mf, .ref mr, .ref mh, .int 0, .int 0, .ref ma, .ref mas, .ref msn, .ref mac, .ref mat])), (mrr, .inl (g 0, 3, .inl fr))] := hD
  refine lv_aload_n hx hb dX7_readNet_20 rfl (lv_at hl 0 rfl) ?_
  refine lv_iconst (v := 0) hx hb dX7_readNet_21 (by decide) ?_
  refine lv_aload_n hx hb dX7_readNet_22 rfl (lv_at hl 0 rfl) ?_
  refine va_get (D := D) (ci := 7) (v := .ref mrr) (C := RX7) (T := TX7) (N := 21) hx hb hts iX7 hown hK hP 0 rfl rfl 5 (by decide) f13 (fun _ h9 => h9) rfl dX7_readNet_23 ?_
  refine lv_iconst (v := 0) hx hb dX7_readNet_26 (by decide) ?_
  refine ky_Vv (As := [.int 0, .ref mrr, .int 0]) (rest := []) ⟨hx, hb, hml, hown, hts⟩ ⟨hK, hN⟩ hZ hP hD hS hA [1] [0] (wc := [(mrr, .inl (g 0, 3, .inl fr))]) (wr := [(m_, .inr (7, [.int th, .ref mt, .int 0, .int 0, .int (-1), .ref mrr, .ref mrh, .ref mrc, .int 0, .int 0, .ref mn, .ref mf, .ref mr, .ref mh, .int 0, .int 0, .ref ma, .ref mas, .ref msn, .ref mac, .ref mat]))]) rfl rfl rfl rfl (by decide) (c_X7_laysUsual l D g H.size m_ mrr fr) (cwV 3 hts gX7_readNet_X7_laysUsual rfl rfl rfl (by decide +kernel) ⟨(Nat.le_of_ble_eq_true rfl), (Nat.le_of_ble_eq_true rfl)⟩) 0 7 rfl rfl rfl rfl hl.1 rfl (Nat.le_of_ble_eq_true rfl) dX7_readNet_27 ⟨(Nat.le_of_ble_eq_true rfl), (Nat.le_of_ble_eq_true rfl)⟩ (fun u H locs hw hP hD hS => ?_)
  obtain rfl := hw
  have hP : va_P D vwCl [(m_, .inr (7, [.int th, .ref mt, .int 0, .int 0, .int (-1), .ref mrr, .ref mrh, .ref mrc, .int 0, .int 0, .ref mn, .ref mf, .ref mr, .ref mh, .int 0, .int 0, .ref ma, .ref mas, .ref msn, .ref mac, .ref mat])), (mrr, .inl (g 0, 3, .inl (upd (upd (upd fr 0 1) 1 0) 2 0)))] H := hP
  have hD : va_D A [(m_, .inr (7, [.int th, .ref mt, .int 0, .int 0, .int (-1), .ref mrr, .ref mrh, .ref mrc, .int 0, .int 0, .ref mn, .ref mf, .ref mr, .ref mh, .int 0, .int 0, .ref ma, .ref mas, .ref msn, .ref mac, .ref mat])), (mrr, .inl (g 0, 3, .inl (upd (upd (upd fr 0 1) 1 0) 2 0)))] := hD
  refine W.widen (k := 0) (n := 0) (Nat.le_of_ble_eq_true rfl) (Nat.le_of_ble_eq_true rfl) ?_
  refine lv_iconst (v := 1) hx hb dX7_readNet_30 (by decide) ?_
  refine lv_istore_n (lv' := [(1, .int 1), (0, .ref m_)]) hx hb dX7_readNet_31 rfl hl (by decide) rfl (fun ls hl => ?_)
  refine lv_iconst (v := 1) hx hb dX7_readNet_32 (by decide) ?_
  refine lv_istore_n (lv' := [(2, .int 1), (1, .int 1), (0, .ref m_)]) hx hb dX7_readNet_33 rfl hl (by decide) rfl (fun ls hl => ?_)
  refine lv_iload_n hx hb dX7_readNet_34 rfl (lv_at hl 0 rfl) ?_
  refine lv_if_eq (tgt := 89) hx hb dX7_readNet_35 (by decide) (fun cb => absurd cb (by decide)) (fun _ => ?_)
  refine lv_aload_n hx hb dX7_readNet_38 rfl (lv_at hl 2 rfl) ?_
  refine lv_iload_n hx hb dX7_readNet_39 rfl (lv_at hl 1 rfl) ?_
  refine ky_Vv (As := [.int 1]) (rest := []) ⟨hx, hb, hml, hown, hts⟩ ⟨hK, hN⟩ hZ hP hD hS hA [0] [1] (wc := [(m_, .inr (7, [.int th, .ref mt, .int 0, .int 0, .int (-1), .ref mrr, .ref mrh, .ref mrc, .int 0, .int 0, .ref mn, .ref mf, .ref mr, .ref mh, .int 0, .int 0, .ref ma, .ref mas, .ref msn, .ref mac, .ref mat]))]) (wr := [(mrr, .inl (g 0, 3, .inl (upd (upd (upd fr 0 1) 1 0) 2 0)))]) rfl rfl rfl rfl (by decide) (c_X7_clause l D g H.size m_ th mt mrr mrh mrc 0 0 mn mf mr mh ma mas msn mac mat 1) (cwV 1 hts gX7_readNet_X7_clause rfl rfl rfl (by decide +kernel) ⟨(Nat.le_of_ble_eq_true rfl), (Nat.le_of_ble_eq_true rfl)⟩) 0 7 rfl rfl rfl rfl hl.1 rfl (Nat.le_of_ble_eq_true rfl) dX7_readNet_40 ⟨(Nat.le_of_ble_eq_true rfl), (Nat.le_of_ble_eq_true rfl)⟩ (fun u H locs hw hP hD hS => ?_)
  obtain rfl := hw
  have hP : va_P D vwCl [(mrr, .inl (g 0, 3, .inl (upd (upd (upd fr 0 1) 1 0) 2 0))), (m_, .inr (7, [.int th, .ref mt, .int 0, .int 0, .int 0, .ref mrr, .ref mrh, .ref mrc, .int 0, .int 0, .ref mn, .ref mf, .ref mr, .ref mh, .int 0, .int 0, .ref ma, .ref mas, .ref msn, .ref mac, .ref mat]))] H := hP
  have hD : va_D A [(mrr, .inl (g 0, 3, .inl (upd (upd (upd fr 0 1) 1 0) 2 0))), (m_, .inr (7, [.int th, .ref mt, .int 0, .int 0, .int 0, .ref mrr, .ref mrh, .ref mrc, .int 0, .int 0, .ref mn, .ref mf, .ref mr, .ref mh, .int 0, .int 0, .ref ma, .ref mas, .ref msn, .ref mac, .ref mat]))] := hD
  refine W.widen (k := 0) (n := 0) (Nat.le_of_ble_eq_true rfl) (Nat.le_of_ble_eq_true rfl) ?_
  refine lv_iconst (v := 0) hx hb dX7_readNet_43 (by decide) ?_
  refine lv_istore_n (lv' := [(1, .int 0), (2, .int 1), (0, .ref m_)]) hx hb dX7_readNet_44 rfl hl (by decide) rfl (fun ls hl => ?_)
  refine lv_aload_n hx hb dX7_readNet_45 rfl (lv_at hl 2 rfl) ?_
  refine va_get (D := D) (ci := 7) (v := .int 0) (C := RX7) (T := TX7) (N := 21) hx hb hts iX7 hown hK hP 1 rfl rfl 4 (by decide) f71 (fun _ h9 => h9) rfl dX7_readNet_46 ?_
  refine lv_iconst (v := (-1)) hx hb dX7_readNet_49 (by decide) ?_
  refine lv_icmp_ne (tgt := 66) hx hb dX7_readNet_50 (by decide) (fun _ => ?_) (fun cb => absurd cb (by decide))
  refine lv_iconst (v := 0) hx hb dX7_readNet_66 (by decide) ?_
  refine lv_istore_n (lv' := [(2, .int 0), (1, .int 0), (0, .ref m_)]) hx hb dX7_readNet_67 rfl hl (by decide) rfl (fun ls hl => ?_)
  refine lv_aload_n hx hb dX7_readNet_68 rfl (lv_at hl 2 rfl) ?_
  refine lv_dup hx hb dX7_readNet_69 rfl ?_
  refine va_get (D := D) (ci := 7) (v := .int 0) (C := RX7) (T := TX7) (N := 21) hx hb hts iX7 hown hK hP 1 rfl rfl 3 (by decide) f64 (fun _ h9 => h9) rfl dX7_readNet_70 ?_
  refine lv_iload_n hx hb dX7_readNet_73 rfl (lv_at hl 0 rfl) ?_
  refine lv_if_eq (tgt := 81) hx hb dX7_readNet_74 (by decide) (fun _ => ?_) (fun cb => absurd (by decide) cb)
  refine lv_iconst (v := 0) hx hb dX7_readNet_81 (by decide) ?_
  refine lv_iadd hx hb dX7_readNet_82 ?_
  refine lv_eqi (y := 0) (by decide) ?_
  refine va_put (D := D) (ci := 7) (v := .int 0) (ty := .int) (C := RX7) (T := TX7) (N := 21) hx hb hts iX7 tyX7 tyX7_ok nmX7 hown hK hP hD hS 1 rfl rfl 3 (by decide) f64 (fun _ h9 => h9) rfl (by decide +kernel) (rfl) (rfl) (Nat.le_of_ble_eq_true rfl) dX7_readNet_83 (fun H locs hP hD hS => ?_)
  have hP : va_P D vwCl [(mrr, .inl (g 0, 3, .inl (upd (upd (upd fr 0 1) 1 0) 2 0))), (m_, .inr (7, [.int th, .ref mt, .int 0, .int 0, .int 0, .ref mrr, .ref mrh, .ref mrc, .int 0, .int 0, .ref mn, .ref mf, .ref mr, .ref mh, .int 0, .int 0, .ref ma, .ref mas, .ref msn, .ref mac, .ref mat]))] H := hP
  have hD : va_D A [(mrr, .inl (g 0, 3, .inl (upd (upd (upd fr 0 1) 1 0) 2 0))), (m_, .inr (7, [.int th, .ref mt, .int 0, .int 0, .int 0, .ref mrr, .ref mrh, .ref mrc, .int 0, .int 0, .ref mn, .ref mf, .ref mr, .ref mh, .int 0, .int 0, .ref ma, .ref mas, .ref msn, .ref mac, .ref mat]))] := hD
  refine lv_goto (tgt := 34) hx hb dX7_readNet_86 (by decide) ?_
  refine lv_iload_n hx hb dX7_readNet_34 rfl (lv_at hl 0 rfl) ?_
  refine lv_if_eq (tgt := 89) hx hb dX7_readNet_35 (by decide) (fun _ => ?_) (fun cb => absurd (by decide) cb)
  refine lv_aload_n hx hb dX7_readNet_89 rfl (lv_at hl 2 rfl) ?_
  refine va_get (D := D) (ci := 7) (v := .int 0) (C := RX7) (T := TX7) (N := 21) hx hb hts iX7 hown hK hP 1 rfl rfl 4 (by decide) f71 (fun _ h9 => h9) rfl dX7_readNet_90 ?_
  refine lv_iconst (v := (-1)) hx hb dX7_readNet_93 (by decide) ?_
  refine lv_icmp_ne (tgt := 109) hx hb dX7_readNet_94 (by decide) (fun _ => ?_) (fun cb => absurd cb (by decide))
  refine lv_aload_n hx hb dX7_readNet_109 rfl (lv_at hl 2 rfl) ?_
  refine va_get (D := D) (ci := 7) (v := .int 0) (C := RX7) (T := TX7) (N := 21) hx hb hts iX7 hown hK hP 1 rfl rfl 4 (by decide) f71 (fun _ h9 => h9) rfl dX7_readNet_110 ?_
  have hP9 := hP.sub (ws' := [(m_, .inr (7, [.int th, .ref mt, .int 0, .int 0, .int 0, .ref mrr, .ref mrh, .ref mrc, .int 0, .int 0, .ref mn, .ref mf, .ref mr, .ref mh, .int 0, .int 0, .ref ma, .ref mas, .ref msn, .ref mac, .ref mat])), (mrr, .inl (g 0, 3, .inl (upd (upd (upd fr 0 1) 1 0) 2 0)))]) [1, 0] rfl
  have hD9 := hD.sub (ws' := [(m_, .inr (7, [.int th, .ref mt, .int 0, .int 0, .int 0, .ref mrr, .ref mrh, .ref mrc, .int 0, .int 0, .ref mn, .ref mf, .ref mr, .ref mh, .int 0, .int 0, .ref ma, .ref mas, .ref msn, .ref mac, .ref mat])), (mrr, .inl (g 0, 3, .inl (upd (upd (upd fr 0 1) 1 0) 2 0)))]) [1, 0] (by decide) rfl
  subst hQ
  refine W.widen (k := 0) (n := 0) (Nat.le_of_ble_eq_true rfl) (Nat.le_of_ble_eq_true rfl) ?_
  exact W.iret (v := 0) hx hb hr (fun tS htS _ => ⟨⟨_, _, rfl, ⟨rfl, rfl⟩, by rw [htS]; exact hP9, hD9⟩, hS.F htS⟩) hS.2.2 dX7_readNet_113
set_option maxHeartbeats 4000000 in
set_option maxRecDepth 100000 in
theorem c_X7_fault (l : Launch) (D : va_G) (g : Nat → ClassId) (sz : Nat) (m_ : Nat) (th : Int32) (mt : Nat) (pa_ : Int32) (wr : Int32) (mrr : Nat) (mrh : Nat) (mrc : Nat) (rh : Int32) (rc : Int32) (mn : Nat) (mf : Nat) (mr : Nat) (mh : Nat) (ma : Nat) (mas : Nat) (msn : Nat) (mac : Nat) (mat : Nat) (fr : Nat → Int32) : Met l yX7_fault wsX7_fault ({ frames := 4, cells := 0, slots := 0, locals := 84 }) (va_Pc [.ref m_] (pre D g sz [(m_, .inr (7, [.int th, .ref mt, .int 0, .int pa_, .int wr, .ref mrr, .ref mrh, .ref mrc, .int rh, .int rc, .ref mn, .ref mf, .ref mr, .ref mh, .int 0, .int 0, .ref ma, .ref mas, .ref msn, .ref mac, .ref mat])), (mrr, .inl (g 0, 3, .inl fr))])) (va_Qi (fun (r : Int32) (u : va_W) => u = [(m_, .inr (7, [.int 0, .ref mt, .int 0, .int 0, .int 0, .ref mrr, .ref mrh, .ref mrc, .int 0, .int 0, .ref mn, .ref mf, .ref mr, .ref mh, .int 0, .int 0, .ref ma, .ref mas, .ref msn, .ref mac, .ref mat])), (mrr, .inl (g 0, 3, .inl (upd (upd (upd fr 0 1) 1 0) 2 0)))] ∧ r = 0) (wd D (va_A [(m_, .inr (7, [.int th, .ref mt, .int 0, .int pa_, .int wr, .ref mrr, .ref mrh, .ref mrc, .int rh, .int rc, .ref mn, .ref mf, .ref mr, .ref mh, .int 0, .int 0, .ref ma, .ref mas, .ref msn, .ref mac, .ref mat])), (mrr, .inl (g 0, 3, .inl fr))] sz)) (va_A [(m_, .inr (7, [.int th, .ref mt, .int 0, .int pa_, .int wr, .ref mrr, .ref mrh, .ref mrc, .int rh, .int rc, .ref mn, .ref mf, .ref mr, .ref mh, .int 0, .int 0, .ref ma, .ref mas, .ref msn, .ref mac, .ref mat])), (mrr, .inl (g 0, 3, .inl fr))] sz)) 0 0 (va_A [(m_, .inr (7, [.int th, .ref mt, .int 0, .int pa_, .int wr, .ref mrr, .ref mrh, .ref mrc, .int rh, .int rc, .ref mn, .ref mf, .ref mr, .ref mh, .int 0, .int 0, .ref ma, .ref mas, .ref msn, .ref mac, .ref mat])), (mrr, .inl (g 0, 3, .inl fr))] sz) := by
  refine Met.ofW (cc := cX7_fault) (maxL := 1) (ret := (some .int)) (by decide) rfl ?_
  intro p e s m args below meth c s₁ B hml hv
  obtain ⟨rfl, hsz, hP, ⟨hK, hN⟩, hD0, hZ⟩ := hv
  have hx := B.exec
  have hb := B.bytes
  have hr := B.returns
  have hts := atoms_spec (ws := wsX7_fault) B.pre
  have hown : s.vm.findClass RX7 = some m.cls := findClass_of_methodNamed B.named
  have hlocks := B.notSynchronized
  clear B
  subst hsz
  have hD := hD0.self (sz := s.heap.size)
  clear hD0
  generalize hAe : va_A [(m_, .inr (7, [.int th, .ref mt, .int 0, .int pa_, .int wr, .ref mrr, .ref mrh, .ref mrc, .int rh, .int rc, .ref mn, .ref mf, .ref mr, .ref mh, .int 0, .int 0, .ref ma, .ref mas, .ref msn, .ref mac, .ref mat])), (mrr, .inl (g 0, 3, .inl fr))] s.heap.size = A at hD hZ ⊢
  have hA : ∀ q : Nat, s.heap.size ≤ q → A q := fun q h => by rw [← hAe]; exact Or.inr h
  have hS : va_S A s.heap s.heap [] := va_S.rf
  have f49 := hts (.fieldLink RX7 49 "HopCreditsModel" "thrown" "I") (by decide +kernel)
  have iX7 : ∀ w ∈ u_ws RX7 TX7 21, w ∈ wsX7_fault := by decide +kernel
  have hl := lv_entry ([.ref m_]) (n := 1) (Nat.le_of_ble_eq_true rfl)
  rw [lg_entry_eq]
  generalize (lg_sl ([.ref m_]) ++ List.replicate (1 - (lg_sl ([.ref m_])).length) Slot.unset).toArray = ls at hl ⊢
  have hl : lv_has ls 1 [(0, .ref m_)] := hl
  generalize hQ : MQ below _ _ s _ _ _ = Q
  generalize hH : s.heap = H at hP ⊢
  have hS : va_S A s.heap H [] := by rw [← hH]; exact hS
  clear hH
  refine lv_aload_n hx hb dX7_fault_0 rfl (lv_at hl 0 rfl) ?_
  refine lv_iconst (v := 0) hx hb dX7_fault_1 (by decide) ?_
  refine va_put (D := D) (ci := 7) (v := .int 0) (ty := .int) (C := RX7) (T := TX7) (N := 21) hx hb hts iX7 tyX7 tyX7_ok nmX7 hown hK hP hD hS 0 rfl rfl 0 (by decide) f49 (fun _ h9 => h9) rfl (by decide +kernel) (rfl) (rfl) (Nat.le_of_ble_eq_true rfl) dX7_fault_2 (fun H locs hP hD hS => ?_)
  have hP : va_P D vwCl [(m_, .inr (7, [.int 0, .ref mt, .int 0, .int pa_, .int wr, .ref mrr, .ref mrh, .ref mrc, .int rh, .int rc, .ref mn, .ref mf, .ref mr, .ref mh, .int 0, .int 0, .ref ma, .ref mas, .ref msn, .ref mac, .ref mat])), (mrr, .inl (g 0, 3, .inl fr))] H := hP
  have hD : va_D A [(m_, .inr (7, [.int 0, .ref mt, .int 0, .int pa_, .int wr, .ref mrr, .ref mrh, .ref mrc, .int rh, .int rc, .ref mn, .ref mf, .ref mr, .ref mh, .int 0, .int 0, .ref ma, .ref mas, .ref msn, .ref mac, .ref mat])), (mrr, .inl (g 0, 3, .inl fr))] := hD
  refine lv_aload_n hx hb dX7_fault_5 rfl (lv_at hl 0 rfl) ?_
  refine ky_Vi (As := []) (rest := []) ⟨hx, hb, hml, hown, hts⟩ ⟨hK, hN⟩ hZ hP hD hS hA [0, 1] [] (wc := [(m_, .inr (7, [.int 0, .ref mt, .int 0, .int pa_, .int wr, .ref mrr, .ref mrh, .ref mrc, .int rh, .int rc, .ref mn, .ref mf, .ref mr, .ref mh, .int 0, .int 0, .ref ma, .ref mas, .ref msn, .ref mac, .ref mat])), (mrr, .inl (g 0, 3, .inl fr))]) (wr := []) rfl rfl rfl rfl (by decide) (c_X7_readNet l D g H.size m_ 0 mt pa_ wr mrr mrh mrc rh rc mn mf mr mh ma mas msn mac mat fr) (cwV 0 hts gX7_fault_X7_readNet rfl rfl rfl (by decide +kernel) ⟨(Nat.le_of_ble_eq_true rfl), (Nat.le_of_ble_eq_true rfl)⟩) 0 7 rfl rfl rfl rfl hl.1 rfl (Nat.le_of_ble_eq_true rfl) dX7_fault_6 ⟨(Nat.le_of_ble_eq_true rfl), (Nat.le_of_ble_eq_true rfl)⟩ (fun r_1 u H locs hw hP hD hS => ?_)
  obtain ⟨rfl, rfl⟩ := hw
  have hP : va_P D vwCl [(m_, .inr (7, [.int 0, .ref mt, .int 0, .int 0, .int 0, .ref mrr, .ref mrh, .ref mrc, .int 0, .int 0, .ref mn, .ref mf, .ref mr, .ref mh, .int 0, .int 0, .ref ma, .ref mas, .ref msn, .ref mac, .ref mat])), (mrr, .inl (g 0, 3, .inl (upd (upd (upd fr 0 1) 1 0) 2 0)))] H := hP
  have hD : va_D A [(m_, .inr (7, [.int 0, .ref mt, .int 0, .int 0, .int 0, .ref mrr, .ref mrh, .ref mrc, .int 0, .int 0, .ref mn, .ref mf, .ref mr, .ref mh, .int 0, .int 0, .ref ma, .ref mas, .ref msn, .ref mac, .ref mat])), (mrr, .inl (g 0, 3, .inl (upd (upd (upd fr 0 1) 1 0) 2 0)))] := hD
  refine W.widen (k := 0) (n := 0) (Nat.le_of_ble_eq_true rfl) (Nat.le_of_ble_eq_true rfl) ?_
  have hP9 := hP.sub (ws' := [(m_, .inr (7, [.int 0, .ref mt, .int 0, .int 0, .int 0, .ref mrr, .ref mrh, .ref mrc, .int 0, .int 0, .ref mn, .ref mf, .ref mr, .ref mh, .int 0, .int 0, .ref ma, .ref mas, .ref msn, .ref mac, .ref mat])), (mrr, .inl (g 0, 3, .inl (upd (upd (upd fr 0 1) 1 0) 2 0)))]) [0, 1] rfl
  have hD9 := hD.sub (ws' := [(m_, .inr (7, [.int 0, .ref mt, .int 0, .int 0, .int 0, .ref mrr, .ref mrh, .ref mrc, .int 0, .int 0, .ref mn, .ref mf, .ref mr, .ref mh, .int 0, .int 0, .ref ma, .ref mas, .ref msn, .ref mac, .ref mat])), (mrr, .inl (g 0, 3, .inl (upd (upd (upd fr 0 1) 1 0) 2 0)))]) [0, 1] (by decide) rfl
  subst hQ
  refine W.widen (k := 0) (n := 0) (Nat.le_of_ble_eq_true rfl) (Nat.le_of_ble_eq_true rfl) ?_
  exact W.iret (v := 0) hx hb hr (fun tS htS _ => ⟨⟨_, _, rfl, ⟨rfl, rfl⟩, by rw [htS]; exact hP9, hD9⟩, hS.F htS⟩) hS.2.2 dX7_fault_9
set_option maxHeartbeats 4000000 in
set_option maxRecDepth 100000 in
theorem c_X7_net (l : Launch) (D : va_G) (g : Nat → ClassId) (sz : Nat) (m_ : Nat) (th : Int32) (mt : Nat) (pa_ : Int32) (wr : Int32) (mrr : Nat) (mrh : Nat) (mrc : Nat) (rh : Int32) (rc : Int32) (mn : Nat) (mf : Nat) (mr : Nat) (mh : Nat) (ma : Nat) (mas : Nat) (msn : Nat) (mac : Nat) (mat : Nat) (fr : Nat → Int32) : Met l yX7_net wsX7_net ({ frames := 4, cells := 0, slots := 0, locals := 84 }) (va_Pc [.ref m_] (pre D g sz [(m_, .inr (7, [.int th, .ref mt, .int 0, .int pa_, .int wr, .ref mrr, .ref mrh, .ref mrc, .int rh, .int rc, .ref mn, .ref mf, .ref mr, .ref mh, .int 0, .int 0, .ref ma, .ref mas, .ref msn, .ref mac, .ref mat])), (mrr, .inl (g 0, 3, .inl fr))])) (va_Qi (fun (r : Int32) (u : va_W) => u = [(m_, .inr (7, [.int 0, .ref mt, .int 0, .int 0, .int 0, .ref mrr, .ref mrh, .ref mrc, .int 0, .int 0, .ref mn, .ref mf, .ref mr, .ref mh, .int 0, .int 0, .ref ma, .ref mas, .ref msn, .ref mac, .ref mat])), (mrr, .inl (g 0, 3, .inl (upd (upd (upd fr 0 1) 1 0) 2 0)))] ∧ r = (-1)) (wd D (va_A [(m_, .inr (7, [.int th, .ref mt, .int 0, .int pa_, .int wr, .ref mrr, .ref mrh, .ref mrc, .int rh, .int rc, .ref mn, .ref mf, .ref mr, .ref mh, .int 0, .int 0, .ref ma, .ref mas, .ref msn, .ref mac, .ref mat])), (mrr, .inl (g 0, 3, .inl fr))] sz)) (va_A [(m_, .inr (7, [.int th, .ref mt, .int 0, .int pa_, .int wr, .ref mrr, .ref mrh, .ref mrc, .int rh, .int rc, .ref mn, .ref mf, .ref mr, .ref mh, .int 0, .int 0, .ref ma, .ref mas, .ref msn, .ref mac, .ref mat])), (mrr, .inl (g 0, 3, .inl fr))] sz)) 0 0 (va_A [(m_, .inr (7, [.int th, .ref mt, .int 0, .int pa_, .int wr, .ref mrr, .ref mrh, .ref mrc, .int rh, .int rc, .ref mn, .ref mf, .ref mr, .ref mh, .int 0, .int 0, .ref ma, .ref mas, .ref msn, .ref mac, .ref mat])), (mrr, .inl (g 0, 3, .inl fr))] sz) := by
  refine Met.ofW (cc := cX7_net) (maxL := 3) (ret := (some .int)) (by decide) rfl ?_
  intro p e s m args below meth c s₁ B hml hv
  obtain ⟨rfl, hsz, hP, ⟨hK, hN⟩, hD0, hZ⟩ := hv
  have hx := B.exec
  have hb := B.bytes
  have hr := B.returns
  have hts := atoms_spec (ws := wsX7_net) B.pre
  have hown : s.vm.findClass RX7 = some m.cls := findClass_of_methodNamed B.named
  have hlocks := B.notSynchronized
  clear B
  subst hsz
  have hD := hD0.self (sz := s.heap.size)
  clear hD0
  generalize hAe : va_A [(m_, .inr (7, [.int th, .ref mt, .int 0, .int pa_, .int wr, .ref mrr, .ref mrh, .ref mrc, .int rh, .int rc, .ref mn, .ref mf, .ref mr, .ref mh, .int 0, .int 0, .ref ma, .ref mas, .ref msn, .ref mac, .ref mat])), (mrr, .inl (g 0, 3, .inl fr))] s.heap.size = A at hD hZ ⊢
  have hA : ∀ q : Nat, s.heap.size ≤ q → A q := fun q h => by rw [← hAe]; exact Or.inr h
  have hS : va_S A s.heap s.heap [] := va_S.rf
  have f49 := hts (.fieldLink RX7 49 "HopCreditsModel" "thrown" "I") (by decide +kernel)
  have iX7 : ∀ w ∈ u_ws RX7 TX7 21, w ∈ wsX7_net := by decide +kernel
  have hl := lv_entry ([.ref m_]) (n := 3) (Nat.le_of_ble_eq_true rfl)
  rw [lg_entry_eq]
  generalize (lg_sl ([.ref m_]) ++ List.replicate (3 - (lg_sl ([.ref m_])).length) Slot.unset).toArray = ls at hl ⊢
  have hl : lv_has ls 3 [(0, .ref m_)] := hl
  generalize hQ : MQ below _ _ s _ _ _ = Q
  generalize hH : s.heap = H at hP ⊢
  have hS : va_S A s.heap H [] := by rw [← hH]; exact hS
  clear hH
  refine lv_aload_n hx hb dX7_net_0 rfl (lv_at hl 0 rfl) ?_
  refine lv_iconst (v := 0) hx hb dX7_net_1 (by decide) ?_
  refine va_put (D := D) (ci := 7) (v := .int 0) (ty := .int) (C := RX7) (T := TX7) (N := 21) hx hb hts iX7 tyX7 tyX7_ok nmX7 hown hK hP hD hS 0 rfl rfl 0 (by decide) f49 (fun _ h9 => h9) rfl (by decide +kernel) (rfl) (rfl) (Nat.le_of_ble_eq_true rfl) dX7_net_2 (fun H locs hP hD hS => ?_)
  have hP : va_P D vwCl [(m_, .inr (7, [.int 0, .ref mt, .int 0, .int pa_, .int wr, .ref mrr, .ref mrh, .ref mrc, .int rh, .int rc, .ref mn, .ref mf, .ref mr, .ref mh, .int 0, .int 0, .ref ma, .ref mas, .ref msn, .ref mac, .ref mat])), (mrr, .inl (g 0, 3, .inl fr))] H := hP
  have hD : va_D A [(m_, .inr (7, [.int 0, .ref mt, .int 0, .int pa_, .int wr, .ref mrr, .ref mrh, .ref mrc, .int rh, .int rc, .ref mn, .ref mf, .ref mr, .ref mh, .int 0, .int 0, .ref ma, .ref mas, .ref msn, .ref mac, .ref mat])), (mrr, .inl (g 0, 3, .inl fr))] := hD
  refine lv_aload_n hx hb dX7_net_5 rfl (lv_at hl 0 rfl) ?_
  refine ky_Vi (As := []) (rest := []) ⟨hx, hb, hml, hown, hts⟩ ⟨hK, hN⟩ hZ hP hD hS hA [0, 1] [] (wc := [(m_, .inr (7, [.int 0, .ref mt, .int 0, .int pa_, .int wr, .ref mrr, .ref mrh, .ref mrc, .int rh, .int rc, .ref mn, .ref mf, .ref mr, .ref mh, .int 0, .int 0, .ref ma, .ref mas, .ref msn, .ref mac, .ref mat])), (mrr, .inl (g 0, 3, .inl fr))]) (wr := []) rfl rfl rfl rfl (by decide) (c_X7_readNet l D g H.size m_ 0 mt pa_ wr mrr mrh mrc rh rc mn mf mr mh ma mas msn mac mat fr) (cwV 0 hts gX7_net_X7_readNet rfl rfl rfl (by decide +kernel) ⟨(Nat.le_of_ble_eq_true rfl), (Nat.le_of_ble_eq_true rfl)⟩) 0 7 rfl rfl rfl rfl hl.1 rfl (Nat.le_of_ble_eq_true rfl) dX7_net_6 ⟨(Nat.le_of_ble_eq_true rfl), (Nat.le_of_ble_eq_true rfl)⟩ (fun r_1 u H locs hw hP hD hS => ?_)
  obtain ⟨rfl, rfl⟩ := hw
  have hP : va_P D vwCl [(m_, .inr (7, [.int 0, .ref mt, .int 0, .int 0, .int 0, .ref mrr, .ref mrh, .ref mrc, .int 0, .int 0, .ref mn, .ref mf, .ref mr, .ref mh, .int 0, .int 0, .ref ma, .ref mas, .ref msn, .ref mac, .ref mat])), (mrr, .inl (g 0, 3, .inl (upd (upd (upd fr 0 1) 1 0) 2 0)))] H := hP
  have hD : va_D A [(m_, .inr (7, [.int 0, .ref mt, .int 0, .int 0, .int 0, .ref mrr, .ref mrh, .ref mrc, .int 0, .int 0, .ref mn, .ref mf, .ref mr, .ref mh, .int 0, .int 0, .ref ma, .ref mas, .ref msn, .ref mac, .ref mat])), (mrr, .inl (g 0, 3, .inl (upd (upd (upd fr 0 1) 1 0) 2 0)))] := hD
  refine W.widen (k := 0) (n := 0) (Nat.le_of_ble_eq_true rfl) (Nat.le_of_ble_eq_true rfl) ?_
  refine lv_iconst (v := (-1)) hx hb dX7_net_9 (by decide) ?_
  refine lv_icmp_eq (tgt := 15) hx hb dX7_net_10 (by decide) (fun cb => absurd cb (by decide)) (fun _ => ?_)
  refine lv_iconst (v := (-1)) hx hb dX7_net_13 (by decide) ?_
  have hP9 := hP.sub (ws' := [(m_, .inr (7, [.int 0, .ref mt, .int 0, .int 0, .int 0, .ref mrr, .ref mrh, .ref mrc, .int 0, .int 0, .ref mn, .ref mf, .ref mr, .ref mh, .int 0, .int 0, .ref ma, .ref mas, .ref msn, .ref mac, .ref mat])), (mrr, .inl (g 0, 3, .inl (upd (upd (upd fr 0 1) 1 0) 2 0)))]) [0, 1] rfl
  have hD9 := hD.sub (ws' := [(m_, .inr (7, [.int 0, .ref mt, .int 0, .int 0, .int 0, .ref mrr, .ref mrh, .ref mrc, .int 0, .int 0, .ref mn, .ref mf, .ref mr, .ref mh, .int 0, .int 0, .ref ma, .ref mas, .ref msn, .ref mac, .ref mat])), (mrr, .inl (g 0, 3, .inl (upd (upd (upd fr 0 1) 1 0) 2 0)))]) [0, 1] (by decide) rfl
  subst hQ
  refine W.widen (k := 0) (n := 0) (Nat.le_of_ble_eq_true rfl) (Nat.le_of_ble_eq_true rfl) ?_
  exact W.iret (v := (-1)) hx hb hr (fun tS htS _ => ⟨⟨_, _, rfl, ⟨rfl, rfl⟩, by rw [htS]; exact hP9, hD9⟩, hS.F htS⟩) hS.2.2 dX7_net_14
set_option maxHeartbeats 4000000 in
set_option maxRecDepth 100000 in
/-- the k-th byte -/
theorem c_X7_byteOf (l : Launch) (D : va_G) (g : Nat → ClassId) (sz : Nat) (p0 : Int32) (p1 : Int32) (p2 : Int32) (p3 : Int32) (p4 : Int32) (k : Nat) (hk : k < 20) : Met l yX7_byteOf wsX7_byteOf ({ frames := 0, cells := 0, slots := 0, locals := 0 }) (va_Pc [.int p0, .int p1, .int p2, .int p3, .int p4, .int (nI k)] (pre D g sz [])) (va_Qi (fun (r : Int32) (u : va_W) => u = [] ∧ r = (byr p0 p1 p2 p3 p4 k)) (wd D (va_A [] sz)) (va_A [] sz)) 0 0 (va_A [] sz) := by
  refine Met.ofW (cc := cX7_byteOf) (maxL := 7) (ret := (some .int)) (by decide) rfl ?_
  intro p e s m args below meth c s₁ B hml hv
  obtain ⟨rfl, hsz, hP, ⟨hK, hN⟩, hD0, hZ⟩ := hv
  have hx := B.exec
  have hb := B.bytes
  have hr := B.returns
  have hts := atoms_spec (ws := wsX7_byteOf) B.pre
  have hown : s.vm.findClass RX7 = some m.cls := findClass_of_methodNamed B.named
  have hlocks := B.notSynchronized
  clear B
  subst hsz
  have hD := hD0.self (sz := s.heap.size)
  clear hD0
  generalize hAe : va_A [] s.heap.size = A at hD hZ ⊢
  have hA : ∀ q : Nat, s.heap.size ≤ q → A q := fun q h => by rw [← hAe]; exact Or.inr h
  have hS : va_S A s.heap s.heap [] := va_S.rf
  have hl := lv_entry ([.int p0, .int p1, .int p2, .int p3, .int p4, .int (nI k)]) (n := 7) (Nat.le_of_ble_eq_true rfl)
  rw [lg_entry_eq]
  generalize (lg_sl ([.int p0, .int p1, .int p2, .int p3, .int p4, .int (nI k)]) ++ List.replicate (7 - (lg_sl ([.int p0, .int p1, .int p2, .int p3, .int p4, .int (nI k)])).length) Slot.unset).toArray = ls at hl ⊢
  have hl : lv_has ls 7 [(0, .int p0), (1, .int p1), (2, .int p2), (3, .int p3), (4, .int p4), (5, .int (nI k))] := hl
  generalize hQ : MQ below _ _ s _ _ _ = Q
  generalize hH : s.heap = H at hP ⊢
  have hS : va_S A s.heap H [] := by rw [← hH]; exact hS
  clear hH
  refine lv_iload hx hb dX7_byteOf_0 (lv_at hl 5 rfl) ?_
  refine lv_iconst (v := 4) hx hb dX7_byteOf_2 (by decide) ?_
  refine lv_icmp_ge (tgt := 10) hx hb dX7_byteOf_3 (by decide) (fun cb_1 => ?_) (fun cb_1 => ?_)
  · skip
    refine lv_iload hx hb dX7_byteOf_10 (lv_at hl 5 rfl) ?_
    refine lv_bipush (v := 8) hx hb dX7_byteOf_12 (by decide) ?_
    refine lv_icmp_ge (tgt := 21) hx hb dX7_byteOf_14 (by decide) (fun cb_2 => ?_) (fun cb_2 => ?_)
    · skip
      refine lv_iload hx hb dX7_byteOf_21 (lv_at hl 5 rfl) ?_
      refine lv_bipush (v := 12) hx hb dX7_byteOf_23 (by decide) ?_
      refine lv_icmp_ge (tgt := 32) hx hb dX7_byteOf_25 (by decide) (fun cb_3 => ?_) (fun cb_3 => ?_)
      · skip
        refine lv_iload hx hb dX7_byteOf_32 (lv_at hl 5 rfl) ?_
        refine lv_bipush (v := 16) hx hb dX7_byteOf_34 (by decide) ?_
        refine lv_icmp_ge (tgt := 43) hx hb dX7_byteOf_36 (by decide) (fun cb_4 => ?_) (fun cb_4 => ?_)
        · skip
          refine lv_iload hx hb dX7_byteOf_43 (lv_at hl 4 rfl) ?_
          refine lv_istore (lv' := [(6, .int p4), (0, .int p0), (1, .int p1), (2, .int p2), (3, .int p3), (4, .int p4), (5, .int (nI k))]) hx hb dX7_byteOf_45 hl (by decide) rfl (fun ls hl => ?_)
          refine lv_iload hx hb dX7_byteOf_47 (lv_at hl 0 rfl) ?_
          refine lv_bipush (v := 24) hx hb dX7_byteOf_49 (by decide) ?_
          refine lv_bipush (v := 8) hx hb dX7_byteOf_51 (by decide) ?_
          refine lv_iload hx hb dX7_byteOf_53 (lv_at hl 6 rfl) ?_
          refine lv_iconst (v := 4) hx hb dX7_byteOf_55 (by decide) ?_
          refine lv_irem hx hb dX7_byteOf_56 (by decide) ?_
          refine lv_eqi (y := (nI ((k) % 4))) (pk_rem (show k < 2 ^ 31 by omega) (show 0 < 4 by omega) (show 4 < 2 ^ 31 by omega)) ?_
          refine lv_imul hx hb dX7_byteOf_57 ?_
          refine lv_eqi (y := (nI (8 * ((k) % 4)))) (pk_mul (8) ((k) % 4)) ?_
          refine lv_isub hx hb dX7_byteOf_58 ?_
          refine lv_eqi (y := (nI (24 - (8 * ((k) % 4))))) (pk_sub (show 8 * ((k) % 4) ≤ 24 by omega)) ?_
          refine lv_ishr hx hb dX7_byteOf_59 ?_
          refine lv_sipush (v := 255) hx hb dX7_byteOf_60 (by decide) ?_
          refine lv_iand hx hb dX7_byteOf_63 ?_
          have hP9 := hP.sub (ws' := []) [] rfl
          have hD9 := hD.sub (ws' := []) [] (by decide) rfl
          subst hQ
          refine W.widen (k := 0) (n := 0) (Nat.le_of_ble_eq_true rfl) (Nat.le_of_ble_eq_true rfl) ?_
          exact W.iret (v := ((p4 >>> ((nI (24 - (8 * ((k) % 4)))) &&& 31)) &&& 255)) hx hb hr (fun tS htS _ => ⟨⟨_, _, rfl, ⟨rfl, by unfold byr; rw [if_neg (Nat.not_lt.mpr ((nI_leI (a := 4) (b := k) (by decide) (by omega)).mp cb_1)), if_neg (Nat.not_lt.mpr ((nI_leI (a := 8) (b := k) (by decide) (by omega)).mp cb_2)), if_neg (Nat.not_lt.mpr ((nI_leI (a := 12) (b := k) (by decide) (by omega)).mp cb_3)), if_neg (Nat.not_lt.mpr ((nI_leI (a := 16) (b := k) (by decide) (by omega)).mp cb_4))]⟩, by rw [htS]; exact hP9, hD9⟩, hS.F htS⟩) hS.2.2 dX7_byteOf_64
        · skip
          refine lv_iload_n hx hb dX7_byteOf_39 rfl (lv_at hl 3 rfl) ?_
          refine lv_goto (tgt := 45) hx hb dX7_byteOf_40 (by decide) ?_
          refine lv_istore (lv' := [(6, .int p3), (0, .int p0), (1, .int p1), (2, .int p2), (3, .int p3), (4, .int p4), (5, .int (nI k))]) hx hb dX7_byteOf_45 hl (by decide) rfl (fun ls hl => ?_)
          refine lv_iload hx hb dX7_byteOf_47 (lv_at hl 0 rfl) ?_
          refine lv_bipush (v := 24) hx hb dX7_byteOf_49 (by decide) ?_
          refine lv_bipush (v := 8) hx hb dX7_byteOf_51 (by decide) ?_
          refine lv_iload hx hb dX7_byteOf_53 (lv_at hl 6 rfl) ?_
          refine lv_iconst (v := 4) hx hb dX7_byteOf_55 (by decide) ?_
          refine lv_irem hx hb dX7_byteOf_56 (by decide) ?_
          refine lv_eqi (y := (nI ((k) % 4))) (pk_rem (show k < 2 ^ 31 by omega) (show 0 < 4 by omega) (show 4 < 2 ^ 31 by omega)) ?_
          refine lv_imul hx hb dX7_byteOf_57 ?_
          refine lv_eqi (y := (nI (8 * ((k) % 4)))) (pk_mul (8) ((k) % 4)) ?_
          refine lv_isub hx hb dX7_byteOf_58 ?_
          refine lv_eqi (y := (nI (24 - (8 * ((k) % 4))))) (pk_sub (show 8 * ((k) % 4) ≤ 24 by omega)) ?_
          refine lv_ishr hx hb dX7_byteOf_59 ?_
          refine lv_sipush (v := 255) hx hb dX7_byteOf_60 (by decide) ?_
          refine lv_iand hx hb dX7_byteOf_63 ?_
          have hP9 := hP.sub (ws' := []) [] rfl
          have hD9 := hD.sub (ws' := []) [] (by decide) rfl
          subst hQ
          refine W.widen (k := 0) (n := 0) (Nat.le_of_ble_eq_true rfl) (Nat.le_of_ble_eq_true rfl) ?_
          exact W.iret (v := ((p3 >>> ((nI (24 - (8 * ((k) % 4)))) &&& 31)) &&& 255)) hx hb hr (fun tS htS _ => ⟨⟨_, _, rfl, ⟨rfl, by unfold byr; rw [if_neg (Nat.not_lt.mpr ((nI_leI (a := 4) (b := k) (by decide) (by omega)).mp cb_1)), if_neg (Nat.not_lt.mpr ((nI_leI (a := 8) (b := k) (by decide) (by omega)).mp cb_2)), if_neg (Nat.not_lt.mpr ((nI_leI (a := 12) (b := k) (by decide) (by omega)).mp cb_3)), if_pos (Nat.not_le.mp (fun h9 => cb_4 ((nI_leI (a := 16) (b := k) (by decide) (by omega)).mpr h9)))]⟩, by rw [htS]; exact hP9, hD9⟩, hS.F htS⟩) hS.2.2 dX7_byteOf_64
      · skip
        refine lv_iload_n hx hb dX7_byteOf_28 rfl (lv_at hl 2 rfl) ?_
        refine lv_goto (tgt := 45) hx hb dX7_byteOf_29 (by decide) ?_
        refine lv_istore (lv' := [(6, .int p2), (0, .int p0), (1, .int p1), (2, .int p2), (3, .int p3), (4, .int p4), (5, .int (nI k))]) hx hb dX7_byteOf_45 hl (by decide) rfl (fun ls hl => ?_)
        refine lv_iload hx hb dX7_byteOf_47 (lv_at hl 0 rfl) ?_
        refine lv_bipush (v := 24) hx hb dX7_byteOf_49 (by decide) ?_
        refine lv_bipush (v := 8) hx hb dX7_byteOf_51 (by decide) ?_
        refine lv_iload hx hb dX7_byteOf_53 (lv_at hl 6 rfl) ?_
        refine lv_iconst (v := 4) hx hb dX7_byteOf_55 (by decide) ?_
        refine lv_irem hx hb dX7_byteOf_56 (by decide) ?_
        refine lv_eqi (y := (nI ((k) % 4))) (pk_rem (show k < 2 ^ 31 by omega) (show 0 < 4 by omega) (show 4 < 2 ^ 31 by omega)) ?_
        refine lv_imul hx hb dX7_byteOf_57 ?_
        refine lv_eqi (y := (nI (8 * ((k) % 4)))) (pk_mul (8) ((k) % 4)) ?_
        refine lv_isub hx hb dX7_byteOf_58 ?_
        refine lv_eqi (y := (nI (24 - (8 * ((k) % 4))))) (pk_sub (show 8 * ((k) % 4) ≤ 24 by omega)) ?_
        refine lv_ishr hx hb dX7_byteOf_59 ?_
        refine lv_sipush (v := 255) hx hb dX7_byteOf_60 (by decide) ?_
        refine lv_iand hx hb dX7_byteOf_63 ?_
        have hP9 := hP.sub (ws' := []) [] rfl
        have hD9 := hD.sub (ws' := []) [] (by decide) rfl
        subst hQ
        refine W.widen (k := 0) (n := 0) (Nat.le_of_ble_eq_true rfl) (Nat.le_of_ble_eq_true rfl) ?_
        exact W.iret (v := ((p2 >>> ((nI (24 - (8 * ((k) % 4)))) &&& 31)) &&& 255)) hx hb hr (fun tS htS _ => ⟨⟨_, _, rfl, ⟨rfl, by unfold byr; rw [if_neg (Nat.not_lt.mpr ((nI_leI (a := 4) (b := k) (by decide) (by omega)).mp cb_1)), if_neg (Nat.not_lt.mpr ((nI_leI (a := 8) (b := k) (by decide) (by omega)).mp cb_2)), if_pos (Nat.not_le.mp (fun h9 => cb_3 ((nI_leI (a := 12) (b := k) (by decide) (by omega)).mpr h9)))]⟩, by rw [htS]; exact hP9, hD9⟩, hS.F htS⟩) hS.2.2 dX7_byteOf_64
    · skip
      refine lv_iload_n hx hb dX7_byteOf_17 rfl (lv_at hl 1 rfl) ?_
      refine lv_goto (tgt := 45) hx hb dX7_byteOf_18 (by decide) ?_
      refine lv_istore (lv' := [(6, .int p1), (0, .int p0), (1, .int p1), (2, .int p2), (3, .int p3), (4, .int p4), (5, .int (nI k))]) hx hb dX7_byteOf_45 hl (by decide) rfl (fun ls hl => ?_)
      refine lv_iload hx hb dX7_byteOf_47 (lv_at hl 0 rfl) ?_
      refine lv_bipush (v := 24) hx hb dX7_byteOf_49 (by decide) ?_
      refine lv_bipush (v := 8) hx hb dX7_byteOf_51 (by decide) ?_
      refine lv_iload hx hb dX7_byteOf_53 (lv_at hl 6 rfl) ?_
      refine lv_iconst (v := 4) hx hb dX7_byteOf_55 (by decide) ?_
      refine lv_irem hx hb dX7_byteOf_56 (by decide) ?_
      refine lv_eqi (y := (nI ((k) % 4))) (pk_rem (show k < 2 ^ 31 by omega) (show 0 < 4 by omega) (show 4 < 2 ^ 31 by omega)) ?_
      refine lv_imul hx hb dX7_byteOf_57 ?_
      refine lv_eqi (y := (nI (8 * ((k) % 4)))) (pk_mul (8) ((k) % 4)) ?_
      refine lv_isub hx hb dX7_byteOf_58 ?_
      refine lv_eqi (y := (nI (24 - (8 * ((k) % 4))))) (pk_sub (show 8 * ((k) % 4) ≤ 24 by omega)) ?_
      refine lv_ishr hx hb dX7_byteOf_59 ?_
      refine lv_sipush (v := 255) hx hb dX7_byteOf_60 (by decide) ?_
      refine lv_iand hx hb dX7_byteOf_63 ?_
      have hP9 := hP.sub (ws' := []) [] rfl
      have hD9 := hD.sub (ws' := []) [] (by decide) rfl
      subst hQ
      refine W.widen (k := 0) (n := 0) (Nat.le_of_ble_eq_true rfl) (Nat.le_of_ble_eq_true rfl) ?_
      exact W.iret (v := ((p1 >>> ((nI (24 - (8 * ((k) % 4)))) &&& 31)) &&& 255)) hx hb hr (fun tS htS _ => ⟨⟨_, _, rfl, ⟨rfl, by unfold byr; rw [if_neg (Nat.not_lt.mpr ((nI_leI (a := 4) (b := k) (by decide) (by omega)).mp cb_1)), if_pos (Nat.not_le.mp (fun h9 => cb_2 ((nI_leI (a := 8) (b := k) (by decide) (by omega)).mpr h9)))]⟩, by rw [htS]; exact hP9, hD9⟩, hS.F htS⟩) hS.2.2 dX7_byteOf_64
  · skip
    refine lv_iload_n hx hb dX7_byteOf_6 rfl (lv_at hl 0 rfl) ?_
    refine lv_goto (tgt := 45) hx hb dX7_byteOf_7 (by decide) ?_
    refine lv_istore (lv' := [(6, .int p0), (0, .int p0), (1, .int p1), (2, .int p2), (3, .int p3), (4, .int p4), (5, .int (nI k))]) hx hb dX7_byteOf_45 hl (by decide) rfl (fun ls hl => ?_)
    refine lv_iload hx hb dX7_byteOf_47 (lv_at hl 0 rfl) ?_
    refine lv_bipush (v := 24) hx hb dX7_byteOf_49 (by decide) ?_
    refine lv_bipush (v := 8) hx hb dX7_byteOf_51 (by decide) ?_
    refine lv_iload hx hb dX7_byteOf_53 (lv_at hl 6 rfl) ?_
    refine lv_iconst (v := 4) hx hb dX7_byteOf_55 (by decide) ?_
    refine lv_irem hx hb dX7_byteOf_56 (by decide) ?_
    refine lv_eqi (y := (nI ((k) % 4))) (pk_rem (show k < 2 ^ 31 by omega) (show 0 < 4 by omega) (show 4 < 2 ^ 31 by omega)) ?_
    refine lv_imul hx hb dX7_byteOf_57 ?_
    refine lv_eqi (y := (nI (8 * ((k) % 4)))) (pk_mul (8) ((k) % 4)) ?_
    refine lv_isub hx hb dX7_byteOf_58 ?_
    refine lv_eqi (y := (nI (24 - (8 * ((k) % 4))))) (pk_sub (show 8 * ((k) % 4) ≤ 24 by omega)) ?_
    refine lv_ishr hx hb dX7_byteOf_59 ?_
    refine lv_sipush (v := 255) hx hb dX7_byteOf_60 (by decide) ?_
    refine lv_iand hx hb dX7_byteOf_63 ?_
    have hP9 := hP.sub (ws' := []) [] rfl
    have hD9 := hD.sub (ws' := []) [] (by decide) rfl
    subst hQ
    refine W.widen (k := 0) (n := 0) (Nat.le_of_ble_eq_true rfl) (Nat.le_of_ble_eq_true rfl) ?_
    exact W.iret (v := ((p0 >>> ((nI (24 - (8 * ((k) % 4)))) &&& 31)) &&& 255)) hx hb hr (fun tS htS _ => ⟨⟨_, _, rfl, ⟨rfl, by unfold byr; rw [if_pos (Nat.not_le.mp (fun h9 => cb_1 ((nI_leI (a := 4) (b := k) (by decide) (by omega)).mpr h9)))]⟩, by rw [htS]; exact hP9, hD9⟩, hS.F htS⟩) hS.2.2 dX7_byteOf_64
set_option maxHeartbeats 4000000 in
set_option maxRecDepth 100000 in
theorem c_X7_feed (l : Launch) (D : va_G) (g : Nat → ClassId) (sz : Nat) (m_ : Nat) (th : Int32) (mt : Nat) (pa_ : Int32) (wr : Int32) (mrr : Nat) (mrh : Nat) (mrc : Nat) (rh : Int32) (rc : Int32) (mn : Nat) (mf : Nat) (mr : Nat) (mh : Nat) (ma : Nat) (mas : Nat) (msn : Nat) (mac : Nat) (mat : Nat) (p0 : Int32) (p1 : Int32) (p2 : Int32) (p3 : Int32) (p4 : Int32) (ft : Nat → Int32) : Met l yX7_feed wsX7_feed ({ frames := 1, cells := 0, slots := 0, locals := 26 }) (va_Pc [.ref m_, .int p0, .int p1, .int p2, .int p3, .int p4] (pre D g sz [(m_, .inr (7, [.int th, .ref mt, .int 0, .int pa_, .int wr, .ref mrr, .ref mrh, .ref mrc, .int rh, .int rc, .ref mn, .ref mf, .ref mr, .ref mh, .int 0, .int 0, .ref ma, .ref mas, .ref msn, .ref mac, .ref mat])), (mt, .inl (g 0, 160, .inl ft))])) (va_Qi (fun (r : Int32) (u : va_W) => ∃ (tp2 : Int32) (ft3 : Nat → Int32), u = [(m_, .inr (7, [.int 0, .ref mt, .int tp2, .int pa_, .int wr, .ref mrr, .ref mrh, .ref mrc, .int rh, .int rc, .ref mn, .ref mf, .ref mr, .ref mh, .int 0, .int 0, .ref ma, .ref mas, .ref msn, .ref mac, .ref mat])), (mt, .inl (g 0, 160, .inl ft3))] ∧ r = (nI (fct (byr p0 p1 p2 p3 p4) 20))) (wd D (va_A [(m_, .inr (7, [.int th, .ref mt, .int 0, .int pa_, .int wr, .ref mrr, .ref mrh, .ref mrc, .int rh, .int rc, .ref mn, .ref mf, .ref mr, .ref mh, .int 0, .int 0, .ref ma, .ref mas, .ref msn, .ref mac, .ref mat])), (mt, .inl (g 0, 160, .inl ft))] sz)) (va_A [(m_, .inr (7, [.int th, .ref mt, .int 0, .int pa_, .int wr, .ref mrr, .ref mrh, .ref mrc, .int rh, .int rc, .ref mn, .ref mf, .ref mr, .ref mh, .int 0, .int 0, .ref ma, .ref mas, .ref msn, .ref mac, .ref mat])), (mt, .inl (g 0, 160, .inl ft))] sz)) 0 0 (va_A [(m_, .inr (7, [.int th, .ref mt, .int 0, .int pa_, .int wr, .ref mrr, .ref mrh, .ref mrc, .int rh, .int rc, .ref mn, .ref mf, .ref mr, .ref mh, .int 0, .int 0, .ref ma, .ref mas, .ref msn, .ref mac, .ref mat])), (mt, .inl (g 0, 160, .inl ft))] sz) := by
  refine Met.ofW (cc := cX7_feed) (maxL := 9) (ret := (some .int)) (by decide) rfl ?_
  intro p e s m args below meth c s₁ B hml hv
  obtain ⟨rfl, hsz, hP, ⟨hK, hN⟩, hD0, hZ⟩ := hv
  have hx := B.exec
  have hb := B.bytes
  have hr := B.returns
  have hts := atoms_spec (ws := wsX7_feed) B.pre
  have hown : s.vm.findClass RX7 = some m.cls := findClass_of_methodNamed B.named
  have hlocks := B.notSynchronized
  clear B
  subst hsz
  have hD := hD0.self (sz := s.heap.size)
  clear hD0
  generalize hAe : va_A [(m_, .inr (7, [.int th, .ref mt, .int 0, .int pa_, .int wr, .ref mrr, .ref mrh, .ref mrc, .int rh, .int rc, .ref mn, .ref mf, .ref mr, .ref mh, .int 0, .int 0, .ref ma, .ref mas, .ref msn, .ref mac, .ref mat])), (mt, .inl (g 0, 160, .inl ft))] s.heap.size = A at hD hZ ⊢
  have hA : ∀ q : Nat, s.heap.size ≤ q → A q := fun q h => by rw [← hAe]; exact Or.inr h
  have hS : va_S A s.heap s.heap [] := va_S.rf
  have f49 := hts (.fieldLink RX7 49 "HopCreditsModel" "thrown" "I") (by decide +kernel)
  have f57 := hts (.fieldLink RX7 57 "HopCreditsModel" "taped" "I") (by decide +kernel)
  have f9 := hts (.fieldLink RX7 9 "HopCreditsModel" "tape" "[I") (by decide +kernel)
  have iX7 : ∀ w ∈ u_ws RX7 TX7 21, w ∈ wsX7_feed := by decide +kernel
  have hl := lv_entry ([.ref m_, .int p0, .int p1, .int p2, .int p3, .int p4]) (n := 9) (Nat.le_of_ble_eq_true rfl)
  rw [lg_entry_eq]
  generalize (lg_sl ([.ref m_, .int p0, .int p1, .int p2, .int p3, .int p4]) ++ List.replicate (9 - (lg_sl ([.ref m_, .int p0, .int p1, .int p2, .int p3, .int p4])).length) Slot.unset).toArray = ls at hl ⊢
  have hl : lv_has ls 9 [(0, .ref m_), (1, .int p0), (2, .int p1), (3, .int p2), (4, .int p3), (5, .int p4)] := hl
  generalize hQ : MQ below _ _ s _ _ _ = Q
  generalize hH : s.heap = H at hP ⊢
  have hS : va_S A s.heap H [] := by rw [← hH]; exact hS
  clear hH
  refine lv_aload_n hx hb dX7_feed_0 rfl (lv_at hl 0 rfl) ?_
  refine lv_iconst (v := 0) hx hb dX7_feed_1 (by decide) ?_
  refine va_put (D := D) (ci := 7) (v := .int 0) (ty := .int) (C := RX7) (T := TX7) (N := 21) hx hb hts iX7 tyX7 tyX7_ok nmX7 hown hK hP hD hS 0 rfl rfl 0 (by decide) f49 (fun _ h9 => h9) rfl (by decide +kernel) (rfl) (rfl) (Nat.le_of_ble_eq_true rfl) dX7_feed_2 (fun H locs hP hD hS => ?_)
  have hP : va_P D vwCl [(m_, .inr (7, [.int 0, .ref mt, .int 0, .int pa_, .int wr, .ref mrr, .ref mrh, .ref mrc, .int rh, .int rc, .ref mn, .ref mf, .ref mr, .ref mh, .int 0, .int 0, .ref ma, .ref mas, .ref msn, .ref mac, .ref mat])), (mt, .inl (g 0, 160, .inl ft))] H := hP
  have hD : va_D A [(m_, .inr (7, [.int 0, .ref mt, .int 0, .int pa_, .int wr, .ref mrr, .ref mrh, .ref mrc, .int rh, .int rc, .ref mn, .ref mf, .ref mr, .ref mh, .int 0, .int 0, .ref ma, .ref mas, .ref msn, .ref mac, .ref mat])), (mt, .inl (g 0, 160, .inl ft))] := hD
  refine lv_iconst (v := 0) hx hb dX7_feed_5 (by decide) ?_
  refine lv_istore (lv' := [(6, .int 0), (0, .ref m_), (1, .int p0), (2, .int p1), (3, .int p2), (4, .int p3), (5, .int p4)]) hx hb dX7_feed_6 hl (by decide) rfl (fun ls hl => ?_)
  refine lv_iconst (v := 0) hx hb dX7_feed_8 (by decide) ?_
  refine lv_istore (lv' := [(7, .int 0), (6, .int 0), (0, .ref m_), (1, .int p0), (2, .int p1), (3, .int p2), (4, .int p3), (5, .int p4)]) hx hb dX7_feed_9 hl (by decide) rfl (fun ls hl => ?_)
  have loop_1 : ∀ (N9 : Nat) (q : Nat) (hq : q ≤ 20) (hm9 : 20 - q < N9) (H : Heap) (locs : List Loc) (ls : Array Slot), va_P D vwCl [(m_, .inr (7, [.int 0, .ref mt, .int 0, .int pa_, .int wr, .ref mrr, .ref mrh, .ref mrc, .int rh, .int rc, .ref mn, .ref mf, .ref mr, .ref mh, .int 0, .int 0, .ref ma, .ref mas, .ref msn, .ref mac, .ref mat])), (mt, .inl (g 0, 160, .inl ft))] H → va_D A [(m_, .inr (7, [.int 0, .ref mt, .int 0, .int pa_, .int wr, .ref mrr, .ref mrh, .ref mrc, .int rh, .int rc, .ref mn, .ref mf, .ref mr, .ref mh, .int 0, .int 0, .ref ma, .ref mas, .ref msn, .ref mac, .ref mat])), (mt, .inl (g 0, 160, .inl ft))] → va_S A s.heap H locs → lv_has ls 9 [(7, .int (nI q)), (6, .int (nI (fct (byr p0 p1 p2 p3 p4) q))), (0, .ref m_), (1, .int p0), (2, .int p1), (3, .int p2), (4, .int p3), (5, .int p4)] → W p l e (headSpec wsX7_feed ({ frames := 1, cells := 0, slots := 0, locals := 26 })).room s m ([.ref m_, .int p0, .int p1, .int p2, .int p3, .int p4] : List Value).toArray below meth c H locs 0 0 Q (F0 m 11 ls []) := by
    intro N9
    induction N9 with
    | zero => intro q hq hm9; exact absurd hm9 (Nat.not_lt_zero _)
    | succ N9 loop_1_ih =>
      intro q hq hm9 H locs ls hP hD hS hl
      refine lv_iload hx hb dX7_feed_11 (lv_at hl 0 rfl) ?_
      refine lv_bipush (v := 20) hx hb dX7_feed_13 (by decide) ?_
      refine lv_icmp_ge (tgt := 49) hx hb dX7_feed_15 (by decide) (fun cb_2 => ?_) (fun cb_2 => ?_)
      · skip
        have hx9 : q = 20 := by have h9 := (nI_leI (a := 20) (b := q) (by decide) (by omega)).mp cb_2; omega
        subst hx9
        refine lv_aload_n hx hb dX7_feed_49 rfl (lv_at hl 2 rfl) ?_
        refine va_get (D := D) (ci := 7) (v := .int 0) (C := RX7) (T := TX7) (N := 21) hx hb hts iX7 hown hK hP 0 rfl rfl 2 (by decide) f57 (fun _ h9 => h9) rfl dX7_feed_50 ?_
        refine lv_iload hx hb dX7_feed_53 (lv_at hl 1 rfl) ?_
        refine lv_iadd hx hb dX7_feed_55 ?_
        refine lv_eqi (y := (nI (0 + (fct (byr p0 p1 p2 p3 p4) 20)))) (nI_add (0) (fct (byr p0 p1 p2 p3 p4) 20)) ?_
        refine lv_sipush (v := 160) hx hb dX7_feed_56 (by decide) ?_
        refine lv_icmp_le (tgt := 64) hx hb dX7_feed_59 (by decide) (fun _ => ?_) (fun cb => absurd (nI_le (show 0 + fct (byr p0 p1 p2 p3 p4) 20 ≤ 160 by have := fct_le (byr p0 p1 p2 p3 p4) 20; omega) (by decide)) cb)
        refine lv_iconst (v := 0) hx hb dX7_feed_64 (by decide) ?_
        refine lv_istore (lv' := [(7, .int 0), (6, .int (nI (fct (byr p0 p1 p2 p3 p4) 20))), (0, .ref m_), (1, .int p0), (2, .int p1), (3, .int p2), (4, .int p3), (5, .int p4)]) hx hb dX7_feed_65 hl (by decide) rfl (fun ls hl => ?_)
        have loop_3 : ∀ (N9 : Nat) (q2 : Nat) (ft2 : Nat → Int32) (hq2 : q2 ≤ 20) (hm9 : 20 - q2 < N9) (H : Heap) (locs : List Loc) (ls : Array Slot), va_P D vwCl [(m_, .inr (7, [.int 0, .ref mt, .int (nI (fct (byr p0 p1 p2 p3 p4) q2)), .int pa_, .int wr, .ref mrr, .ref mrh, .ref mrc, .int rh, .int rc, .ref mn, .ref mf, .ref mr, .ref mh, .int 0, .int 0, .ref ma, .ref mas, .ref msn, .ref mac, .ref mat])), (mt, .inl (g 0, 160, .inl ft2))] H → va_D A [(m_, .inr (7, [.int 0, .ref mt, .int (nI (fct (byr p0 p1 p2 p3 p4) q2)), .int pa_, .int wr, .ref mrr, .ref mrh, .ref mrc, .int rh, .int rc, .ref mn, .ref mf, .ref mr, .ref mh, .int 0, .int 0, .ref ma, .ref mas, .ref msn, .ref mac, .ref mat])), (mt, .inl (g 0, 160, .inl ft2))] → va_S A s.heap H locs → lv_has ls 9 [(7, .int (nI q2)), (6, .int (nI (fct (byr p0 p1 p2 p3 p4) 20))), (0, .ref m_), (1, .int p0), (2, .int p1), (3, .int p2), (4, .int p3), (5, .int p4)] → W p l e (headSpec wsX7_feed ({ frames := 1, cells := 0, slots := 0, locals := 26 })).room s m ([.ref m_, .int p0, .int p1, .int p2, .int p3, .int p4] : List Value).toArray below meth c H locs 0 0 Q (F0 m 67 ls []) := by
          intro N9
          induction N9 with
          | zero => intro q2 ft2 hq2 hm9; exact absurd hm9 (Nat.not_lt_zero _)
          | succ N9 loop_3_ih =>
            intro q2 ft2 hq2 hm9 H locs ls hP hD hS hl
            have hle2 := fct_le (byr p0 p1 p2 p3 p4) q2
            refine lv_iload hx hb dX7_feed_67 (lv_at hl 0 rfl) ?_
            refine lv_bipush (v := 20) hx hb dX7_feed_69 (by decide) ?_
            refine lv_icmp_ge (tgt := 120) hx hb dX7_feed_71 (by decide) (fun cb_4 => ?_) (fun cb_4 => ?_)
            · skip
              have hx9 : q2 = 20 := by have h9 := (nI_leI (a := 20) (b := q2) (by decide) (by omega)).mp cb_4; omega
              subst hx9
              refine lv_aload_n hx hb dX7_feed_120 rfl (lv_at hl 2 rfl) ?_
              refine va_get (D := D) (ci := 7) (v := .int (nI (fct (byr p0 p1 p2 p3 p4) 20))) (C := RX7) (T := TX7) (N := 21) hx hb hts iX7 hown hK hP 0 rfl rfl 2 (by decide) f57 (fun _ h9 => h9) rfl dX7_feed_121 ?_
              have hP9 := hP.sub (ws' := [(m_, .inr (7, [.int 0, .ref mt, .int (nI (fct (byr p0 p1 p2 p3 p4) 20)), .int pa_, .int wr, .ref mrr, .ref mrh, .ref mrc, .int rh, .int rc, .ref mn, .ref mf, .ref mr, .ref mh, .int 0, .int 0, .ref ma, .ref mas, .ref msn, .ref mac, .ref mat])), (mt, .inl (g 0, 160, .inl ft2))]) [0, 1] rfl
              have hD9 := hD.sub (ws' := [(m_, .inr (7, [.int 0, .ref mt, .int (nI (fct (byr p0 p1 p2 p3 p4) 20)), .int pa_, .int wr, .ref mrr, .ref mrh, .ref mrc, .int rh, .int rc, .ref mn, .ref mf, .ref mr, .ref mh, .int 0, .int 0, .ref ma, .ref mas, .ref msn, .ref mac, .ref mat])), (mt, .inl (g 0, 160, .inl ft2))]) [0, 1] (by decide) rfl
              subst hQ
              refine W.widen (k := 0) (n := 0) (Nat.le_of_ble_eq_true rfl) (Nat.le_of_ble_eq_true rfl) ?_
              exact W.iret (v := (nI (fct (byr p0 p1 p2 p3 p4) 20))) hx hb hr (fun tS htS _ => ⟨⟨_, _, rfl, ⟨(nI (fct (byr p0 p1 p2 p3 p4) 20)), ft2, rfl, rfl⟩, by rw [htS]; exact hP9, hD9⟩, hS.F htS⟩) hS.2.2 dX7_feed_124
            · skip
              have hlt9 : q2 < 20 := Nat.not_le.mp (fun h9 => cb_4 ((nI_leI (a := 20) (b := q2) (by decide) (by omega)).mpr h9))
              refine lv_iload_n hx hb dX7_feed_74 rfl (lv_at hl 3 rfl) ?_
              refine lv_iload_n hx hb dX7_feed_75 rfl (lv_at hl 4 rfl) ?_
              refine lv_iload_n hx hb dX7_feed_76 rfl (lv_at hl 5 rfl) ?_
              refine lv_iload hx hb dX7_feed_77 (lv_at hl 6 rfl) ?_
              refine lv_iload hx hb dX7_feed_79 (lv_at hl 7 rfl) ?_
              refine lv_iload hx hb dX7_feed_81 (lv_at hl 0 rfl) ?_
              refine ky_Si (As := [.int p0, .int p1, .int p2, .int p3, .int p4, .int (nI q2)]) (rest := []) ⟨hx, hb, hml, hown, hts⟩ ⟨hK, hN⟩ hZ hP hD hS hA [] [0, 1] (wc := []) (wr := [(m_, .inr (7, [.int 0, .ref mt, .int (nI (fct (byr p0 p1 p2 p3 p4) q2)), .int pa_, .int wr, .ref mrr, .ref mrh, .ref mrc, .int rh, .int rc, .ref mn, .ref mf, .ref mr, .ref mh, .int 0, .int 0, .ref ma, .ref mas, .ref msn, .ref mac, .ref mat])), (mt, .inl (g 0, 160, .inl ft2))]) rfl rfl rfl rfl (by decide) (c_X7_byteOf l D g H.size p0 p1 p2 p3 p4 q2 (hlt9)) (va_cwS 6 hts gX7_feed_X7_byteOf rfl rfl rfl (by decide +kernel) ⟨(Nat.le_of_ble_eq_true rfl), (Nat.le_of_ble_eq_true rfl)⟩) rfl hl.1 rfl (Nat.le_of_ble_eq_true rfl) dX7_feed_83 ⟨(Nat.le_of_ble_eq_true rfl), (Nat.le_of_ble_eq_true rfl)⟩ (fun r_5 u H locs hw hP hD hS => ?_)
              obtain ⟨rfl, rfl⟩ := hw
              have hP : va_P D vwCl [(m_, .inr (7, [.int 0, .ref mt, .int (nI (fct (byr p0 p1 p2 p3 p4) q2)), .int pa_, .int wr, .ref mrr, .ref mrh, .ref mrc, .int rh, .int rc, .ref mn, .ref mf, .ref mr, .ref mh, .int 0, .int 0, .ref ma, .ref mas, .ref msn, .ref mac, .ref mat])), (mt, .inl (g 0, 160, .inl ft2))] H := hP
              have hD : va_D A [(m_, .inr (7, [.int 0, .ref mt, .int (nI (fct (byr p0 p1 p2 p3 p4) q2)), .int pa_, .int wr, .ref mrr, .ref mrh, .ref mrc, .int rh, .int rc, .ref mn, .ref mf, .ref mr, .ref mh, .int 0, .int 0, .ref ma, .ref mas, .ref msn, .ref mac, .ref mat])), (mt, .inl (g 0, 160, .inl ft2))] := hD
              refine W.widen (k := 0) (n := 0) (Nat.le_of_ble_eq_true rfl) (Nat.le_of_ble_eq_true rfl) ?_
              refine lv_istore (lv' := [(8, .int (byr p0 p1 p2 p3 p4 q2)), (7, .int (nI q2)), (6, .int (nI (fct (byr p0 p1 p2 p3 p4) 20))), (0, .ref m_), (1, .int p0), (2, .int p1), (3, .int p2), (4, .int p3), (5, .int p4)]) hx hb dX7_feed_86 hl (by decide) rfl (fun ls hl => ?_)
              refine lv_iload hx hb dX7_feed_88 (lv_at hl 0 rfl) ?_
              refine lv_if_eq (tgt := 114) hx hb dX7_feed_90 (by decide) (fun cb_6 => ?_) (fun cb_6 => ?_)
              · skip
                refine lv_iinc (v := (nI (q2 + 1))) (lv' := [(7, .int (nI (q2 + 1))), (8, .int (byr p0 p1 p2 p3 p4 q2)), (6, .int (nI (fct (byr p0 p1 p2 p3 p4) 20))), (0, .ref m_), (1, .int p0), (2, .int p1), (3, .int p2), (4, .int p3), (5, .int p4)]) hx hb dX7_feed_114 hl (k := 1) rfl (nI_1 (q2)) (by decide) rfl (fun ls hl => ?_)
                refine lv_goto (tgt := 67) hx hb dX7_feed_117 (by decide) ?_
                rw [show fct (byr p0 p1 p2 p3 p4) q2 = fct (byr p0 p1 p2 p3 p4) (q2 + 1) from (fct_0 cb_6).symm] at hP hD
                exact loop_3_ih (q2 + 1) ft2 (by omega) (by omega) _ _ _ (hP.sub [0, 1] rfl) (hD.sub [0, 1] (by decide) rfl) hS (lv_sub hl [0, 2, 3, 4, 5, 6, 7, 8] rfl)
              · skip
                refine lv_aload_n hx hb dX7_feed_93 rfl (lv_at hl 3 rfl) ?_
                refine va_get (D := D) (ci := 7) (v := .ref mt) (C := RX7) (T := TX7) (N := 21) hx hb hts iX7 hown hK hP 0 rfl rfl 1 (by decide) f9 (fun _ h9 => h9) rfl dX7_feed_94 ?_
                refine lv_aload_n hx hb dX7_feed_97 rfl (lv_at hl 3 rfl) ?_
                refine va_get (D := D) (ci := 7) (v := .int (nI (fct (byr p0 p1 p2 p3 p4) q2))) (C := RX7) (T := TX7) (N := 21) hx hb hts iX7 hown hK hP 0 rfl rfl 2 (by decide) f57 (fun _ h9 => h9) rfl dX7_feed_98 ?_
                refine lv_iload hx hb dX7_feed_101 (lv_at hl 0 rfl) ?_
                refine va_iast hx hb hK hP hD hS 1 0 rfl rfl (vp_in_nI (show fct (byr p0 p1 p2 p3 p4) q2 < 160 by omega) (by decide)) dX7_feed_103 (fun H locs hP hD hS => ?_)
                have hP : va_P D vwCl [(m_, .inr (7, [.int 0, .ref mt, .int (nI (fct (byr p0 p1 p2 p3 p4) q2)), .int pa_, .int wr, .ref mrr, .ref mrh, .ref mrc, .int rh, .int rc, .ref mn, .ref mf, .ref mr, .ref mh, .int 0, .int 0, .ref ma, .ref mas, .ref msn, .ref mac, .ref mat])), (mt, .inl (g 0, 160, .inl (upd ft2 (nI (fct (byr p0 p1 p2 p3 p4) q2)).toNatClampNeg (byr p0 p1 p2 p3 p4 q2))))] H := hP
                have hD : va_D A [(m_, .inr (7, [.int 0, .ref mt, .int (nI (fct (byr p0 p1 p2 p3 p4) q2)), .int pa_, .int wr, .ref mrr, .ref mrh, .ref mrc, .int rh, .int rc, .ref mn, .ref mf, .ref mr, .ref mh, .int 0, .int 0, .ref ma, .ref mas, .ref msn, .ref mac, .ref mat])), (mt, .inl (g 0, 160, .inl (upd ft2 (nI (fct (byr p0 p1 p2 p3 p4) q2)).toNatClampNeg (byr p0 p1 p2 p3 p4 q2))))] := hD
                rw [nI_clamp (show fct (byr p0 p1 p2 p3 p4) q2 < 2 ^ 31 by omega)] at hP hD
                have hP : va_P D vwCl [(m_, .inr (7, [.int 0, .ref mt, .int (nI (fct (byr p0 p1 p2 p3 p4) q2)), .int pa_, .int wr, .ref mrr, .ref mrh, .ref mrc, .int rh, .int rc, .ref mn, .ref mf, .ref mr, .ref mh, .int 0, .int 0, .ref ma, .ref mas, .ref msn, .ref mac, .ref mat])), (mt, .inl (g 0, 160, .inl (upd ft2 (fct (byr p0 p1 p2 p3 p4) q2) (byr p0 p1 p2 p3 p4 q2))))] H := hP
                have hD : va_D A [(m_, .inr (7, [.int 0, .ref mt, .int (nI (fct (byr p0 p1 p2 p3 p4) q2)), .int pa_, .int wr, .ref mrr, .ref mrh, .ref mrc, .int rh, .int rc, .ref mn, .ref mf, .ref mr, .ref mh, .int 0, .int 0, .ref ma, .ref mas, .ref msn, .ref mac, .ref mat])), (mt, .inl (g 0, 160, .inl (upd ft2 (fct (byr p0 p1 p2 p3 p4) q2) (byr p0 p1 p2 p3 p4 q2))))] := hD
                refine lv_aload_n hx hb dX7_feed_104 rfl (lv_at hl 3 rfl) ?_
                refine lv_dup hx hb dX7_feed_105 rfl ?_
                refine va_get (D := D) (ci := 7) (v := .int (nI (fct (byr p0 p1 p2 p3 p4) q2))) (C := RX7) (T := TX7) (N := 21) hx hb hts iX7 hown hK hP 0 rfl rfl 2 (by decide) f57 (fun _ h9 => h9) rfl dX7_feed_106 ?_
                refine lv_iconst (v := 1) hx hb dX7_feed_109 (by decide) ?_
                refine lv_iadd hx hb dX7_feed_110 ?_
                refine lv_eqi (y := (nI (fct (byr p0 p1 p2 p3 p4) q2 + 1))) (nI_add (fct (byr p0 p1 p2 p3 p4) q2) (1)) ?_
                refine va_put (D := D) (ci := 7) (v := .int (nI (fct (byr p0 p1 p2 p3 p4) q2 + 1))) (ty := .int) (C := RX7) (T := TX7) (N := 21) hx hb hts iX7 tyX7 tyX7_ok nmX7 hown hK hP hD hS 0 rfl rfl 2 (by decide) f57 (fun _ h9 => h9) rfl (by decide +kernel) (rfl) (rfl) (Nat.le_of_ble_eq_true rfl) dX7_feed_111 (fun H locs hP hD hS => ?_)
                have hP : va_P D vwCl [(m_, .inr (7, [.int 0, .ref mt, .int (nI (fct (byr p0 p1 p2 p3 p4) q2 + 1)), .int pa_, .int wr, .ref mrr, .ref mrh, .ref mrc, .int rh, .int rc, .ref mn, .ref mf, .ref mr, .ref mh, .int 0, .int 0, .ref ma, .ref mas, .ref msn, .ref mac, .ref mat])), (mt, .inl (g 0, 160, .inl (upd ft2 (fct (byr p0 p1 p2 p3 p4) q2) (byr p0 p1 p2 p3 p4 q2))))] H := hP
                have hD : va_D A [(m_, .inr (7, [.int 0, .ref mt, .int (nI (fct (byr p0 p1 p2 p3 p4) q2 + 1)), .int pa_, .int wr, .ref mrr, .ref mrh, .ref mrc, .int rh, .int rc, .ref mn, .ref mf, .ref mr, .ref mh, .int 0, .int 0, .ref ma, .ref mas, .ref msn, .ref mac, .ref mat])), (mt, .inl (g 0, 160, .inl (upd ft2 (fct (byr p0 p1 p2 p3 p4) q2) (byr p0 p1 p2 p3 p4 q2))))] := hD
                refine lv_iinc (v := (nI (q2 + 1))) (lv' := [(7, .int (nI (q2 + 1))), (8, .int (byr p0 p1 p2 p3 p4 q2)), (6, .int (nI (fct (byr p0 p1 p2 p3 p4) 20))), (0, .ref m_), (1, .int p0), (2, .int p1), (3, .int p2), (4, .int p3), (5, .int p4)]) hx hb dX7_feed_114 hl (k := 1) rfl (nI_1 (q2)) (by decide) rfl (fun ls hl => ?_)
                refine lv_goto (tgt := 67) hx hb dX7_feed_117 (by decide) ?_
                rw [show fct (byr p0 p1 p2 p3 p4) q2 + 1 = fct (byr p0 p1 p2 p3 p4) (q2 + 1) from (fct_1 cb_6).symm] at hP hD
                exact loop_3_ih (q2 + 1) (upd ft2 (fct (byr p0 p1 p2 p3 p4) q2) (byr p0 p1 p2 p3 p4 q2)) (by omega) (by omega) _ _ _ (hP.sub [0, 1] rfl) (hD.sub [0, 1] (by decide) rfl) hS (lv_sub hl [0, 2, 3, 4, 5, 6, 7, 8] rfl)
        exact loop_3 _ 0 ft (by omega) (Nat.lt_succ_self _) _ _ _ (hP.sub [0, 1] rfl) (hD.sub [0, 1] (by decide) rfl) hS (lv_sub hl [0, 1, 2, 3, 4, 5, 6, 7] rfl)
      · skip
        have hlt9 : q < 20 := Nat.not_le.mp (fun h9 => cb_2 ((nI_leI (a := 20) (b := q) (by decide) (by omega)).mpr h9))
        refine lv_iload hx hb dX7_feed_18 (lv_at hl 1 rfl) ?_
        refine lv_iload_n hx hb dX7_feed_20 rfl (lv_at hl 3 rfl) ?_
        refine lv_iload_n hx hb dX7_feed_21 rfl (lv_at hl 4 rfl) ?_
        refine lv_iload_n hx hb dX7_feed_22 rfl (lv_at hl 5 rfl) ?_
        refine lv_iload hx hb dX7_feed_23 (lv_at hl 6 rfl) ?_
        refine lv_iload hx hb dX7_feed_25 (lv_at hl 7 rfl) ?_
        refine lv_iload hx hb dX7_feed_27 (lv_at hl 0 rfl) ?_
        refine ky_Si (As := [.int p0, .int p1, .int p2, .int p3, .int p4, .int (nI q)]) (rest := [.int (nI (fct (byr p0 p1 p2 p3 p4) q))]) ⟨hx, hb, hml, hown, hts⟩ ⟨hK, hN⟩ hZ hP hD hS hA [] [0, 1] (wc := []) (wr := [(m_, .inr (7, [.int 0, .ref mt, .int 0, .int pa_, .int wr, .ref mrr, .ref mrh, .ref mrc, .int rh, .int rc, .ref mn, .ref mf, .ref mr, .ref mh, .int 0, .int 0, .ref ma, .ref mas, .ref msn, .ref mac, .ref mat])), (mt, .inl (g 0, 160, .inl ft))]) rfl rfl rfl rfl (by decide) (c_X7_byteOf l D g H.size p0 p1 p2 p3 p4 q (hlt9)) (va_cwS 6 hts gX7_feed_X7_byteOf rfl rfl rfl (by decide +kernel) ⟨(Nat.le_of_ble_eq_true rfl), (Nat.le_of_ble_eq_true rfl)⟩) rfl hl.1 rfl (Nat.le_of_ble_eq_true rfl) dX7_feed_29 ⟨(Nat.le_of_ble_eq_true rfl), (Nat.le_of_ble_eq_true rfl)⟩ (fun r_7 u H locs hw hP hD hS => ?_)
        obtain ⟨rfl, rfl⟩ := hw
        have hP : va_P D vwCl [(m_, .inr (7, [.int 0, .ref mt, .int 0, .int pa_, .int wr, .ref mrr, .ref mrh, .ref mrc, .int rh, .int rc, .ref mn, .ref mf, .ref mr, .ref mh, .int 0, .int 0, .ref ma, .ref mas, .ref msn, .ref mac, .ref mat])), (mt, .inl (g 0, 160, .inl ft))] H := hP
        have hD : va_D A [(m_, .inr (7, [.int 0, .ref mt, .int 0, .int pa_, .int wr, .ref mrr, .ref mrh, .ref mrc, .int rh, .int rc, .ref mn, .ref mf, .ref mr, .ref mh, .int 0, .int 0, .ref ma, .ref mas, .ref msn, .ref mac, .ref mat])), (mt, .inl (g 0, 160, .inl ft))] := hD
        refine W.widen (k := 0) (n := 0) (Nat.le_of_ble_eq_true rfl) (Nat.le_of_ble_eq_true rfl) ?_
        refine lv_if_eq (tgt := 39) hx hb dX7_feed_32 (by decide) (fun cb_8 => ?_) (fun cb_8 => ?_)
        · skip
          refine lv_iconst (v := 0) hx hb dX7_feed_39 (by decide) ?_
          refine lv_iadd hx hb dX7_feed_40 ?_
          refine lv_eqi (y := (nI (fct (byr p0 p1 p2 p3 p4) q + 0))) (nI_add (fct (byr p0 p1 p2 p3 p4) q) (0)) ?_
          refine lv_istore (lv' := [(6, .int (nI (fct (byr p0 p1 p2 p3 p4) q + 0))), (7, .int (nI q)), (0, .ref m_), (1, .int p0), (2, .int p1), (3, .int p2), (4, .int p3), (5, .int p4)]) hx hb dX7_feed_41 hl (by decide) rfl (fun ls hl => ?_)
          refine lv_iinc (v := (nI (q + 1))) (lv' := [(7, .int (nI (q + 1))), (6, .int (nI (fct (byr p0 p1 p2 p3 p4) q + 0))), (0, .ref m_), (1, .int p0), (2, .int p1), (3, .int p2), (4, .int p3), (5, .int p4)]) hx hb dX7_feed_43 hl (k := 1) rfl (nI_1 (q)) (by decide) rfl (fun ls hl => ?_)
          refine lv_goto (tgt := 11) hx hb dX7_feed_46 (by decide) ?_
          rw [show fct (byr p0 p1 p2 p3 p4) q + 0 = fct (byr p0 p1 p2 p3 p4) (q + 1) from (fct_0 cb_8).symm] at hl
          exact loop_1_ih (q + 1) (by omega) (by omega) _ _ _ (hP.sub [0, 1] rfl) (hD.sub [0, 1] (by decide) rfl) hS (lv_sub hl [0, 1, 2, 3, 4, 5, 6, 7] rfl)
        · skip
          refine lv_iconst (v := 1) hx hb dX7_feed_35 (by decide) ?_
          refine lv_goto (tgt := 40) hx hb dX7_feed_36 (by decide) ?_
          refine lv_iadd hx hb dX7_feed_40 ?_
          refine lv_eqi (y := (nI (fct (byr p0 p1 p2 p3 p4) q + 1))) (nI_add (fct (byr p0 p1 p2 p3 p4) q) (1)) ?_
          refine lv_istore (lv' := [(6, .int (nI (fct (byr p0 p1 p2 p3 p4) q + 1))), (7, .int (nI q)), (0, .ref m_), (1, .int p0), (2, .int p1), (3, .int p2), (4, .int p3), (5, .int p4)]) hx hb dX7_feed_41 hl (by decide) rfl (fun ls hl => ?_)
          refine lv_iinc (v := (nI (q + 1))) (lv' := [(7, .int (nI (q + 1))), (6, .int (nI (fct (byr p0 p1 p2 p3 p4) q + 1))), (0, .ref m_), (1, .int p0), (2, .int p1), (3, .int p2), (4, .int p3), (5, .int p4)]) hx hb dX7_feed_43 hl (k := 1) rfl (nI_1 (q)) (by decide) rfl (fun ls hl => ?_)
          refine lv_goto (tgt := 11) hx hb dX7_feed_46 (by decide) ?_
          rw [show fct (byr p0 p1 p2 p3 p4) q + 1 = fct (byr p0 p1 p2 p3 p4) (q + 1) from (fct_1 cb_8).symm] at hl
          exact loop_1_ih (q + 1) (by omega) (by omega) _ _ _ (hP.sub [0, 1] rfl) (hD.sub [0, 1] (by decide) rfl) hS (lv_sub hl [0, 1, 2, 3, 4, 5, 6, 7] rfl)
  exact loop_1 _ 0 (by omega) (Nat.lt_succ_self _) _ _ _ (hP.sub [0, 1] rfl) (hD.sub [0, 1] (by decide) rfl) hS (lv_sub hl [0, 1, 2, 3, 4, 5, 6, 7] rfl)
