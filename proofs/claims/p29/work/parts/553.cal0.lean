set_option maxHeartbeats 4000000 in
set_option maxRecDepth 100000 in
/-- OUT -/
theorem c_X1_out (l : Launch) (D : va_G) (g : Nat → ClassId) (sz : Nat) (a0 : Nat) (f0 : Int32) (f1 : Int32) (f2 : Int32) (f3 : Int32) (f4 : Int32) (f5 : Int32) (f6 : Int32) : Met l yX1_out wsX1_out ({ frames := 0, cells := 0, slots := 0, locals := 0 }) (va_Pc [.ref a0] (pre D g sz [(a0, .inr (1, [.int f0, .int f1, .int f2, .int f3, .int f4, .int f5, .int f6]))])) (va_Qi (fun (r : Int32) (u : va_W) => u = [(a0, .inr (1, [.int f0, .int f1, .int f2, .int f3, .int f4, .int f5, .int f6]))] ∧ r = ((f0 - f2) &&& 63)) (wd D (va_A [(a0, .inr (1, [.int f0, .int f1, .int f2, .int f3, .int f4, .int f5, .int f6]))] sz)) (va_A [(a0, .inr (1, [.int f0, .int f1, .int f2, .int f3, .int f4, .int f5, .int f6]))] sz)) 0 0 (va_A [(a0, .inr (1, [.int f0, .int f1, .int f2, .int f3, .int f4, .int f5, .int f6]))] sz) := by
  refine Met.ofW (cc := cX1_out) (maxL := 1) (ret := (some .int)) (by decide) rfl ?_
  intro p e s m args below meth c s₁ B hml hv
  obtain ⟨rfl, hsz, hP, ⟨hK, hN⟩, hD0, hZ⟩ := hv
  have hx := B.exec
  have hb := B.bytes
  have hr := B.returns
  have hts := atoms_spec (ws := wsX1_out) B.pre
  have hown : s.vm.findClass RX1 = some m.cls := findClass_of_methodNamed B.named
  have hlocks := B.notSynchronized
  clear B
  subst hsz
  have hD := hD0.self (sz := s.heap.size)
  clear hD0
  generalize hAe : va_A [(a0, .inr (1, [.int f0, .int f1, .int f2, .int f3, .int f4, .int f5, .int f6]))] s.heap.size = A at hD hZ ⊢
  have hA : ∀ q : Nat, s.heap.size ≤ q → A q := fun q h => by rw [← hAe]; exact Or.inr h
  have hS : va_S A s.heap s.heap [] := va_S.rf
  have f18 := hts (.fieldLink RX1 18 "HopCredits$Lane" "known" "I") (by decide +kernel)
  have f9 := hts (.fieldLink RX1 9 "HopCredits$Lane" "sent" "I") (by decide +kernel)
  have iX1 : ∀ w ∈ u_ws RX1 TX1 7, w ∈ wsX1_out := by decide +kernel
  have hl := lv_entry ([.ref a0]) (n := 1) (Nat.le_of_ble_eq_true rfl)
  rw [lg_entry_eq]
  generalize (lg_sl ([.ref a0]) ++ List.replicate (1 - (lg_sl ([.ref a0])).length) Slot.unset).toArray = ls at hl ⊢
  have hl : lv_has ls 1 [(0, .ref a0)] := hl
  generalize hQ : MQ below _ _ s _ _ _ = Q
  generalize hH : s.heap = H at hP ⊢
  have hS : va_S A s.heap H [] := by rw [← hH]; exact hS
  clear hH
  refine lv_aload_n hx hb dX1_out_0 rfl (lv_at hl 0 rfl) ?_
  refine va_get (D := D) (ci := 1) (v := .int f0) (C := RX1) (T := TX1) (N := 7) hx hb hts iX1 hown hK hP 0 rfl rfl 0 (by decide) f9 (fun _ h9 => h9) rfl dX1_out_1 ?_
  refine lv_aload_n hx hb dX1_out_4 rfl (lv_at hl 0 rfl) ?_
  refine va_get (D := D) (ci := 1) (v := .int f2) (C := RX1) (T := TX1) (N := 7) hx hb hts iX1 hown hK hP 0 rfl rfl 2 (by decide) f18 (fun _ h9 => h9) rfl dX1_out_5 ?_
  refine lv_isub hx hb dX1_out_8 ?_
  refine lv_bipush (v := 63) hx hb dX1_out_9 (by decide) ?_
  refine lv_iand hx hb dX1_out_11 ?_
  have hP9 := hP.sub (ws' := [(a0, .inr (1, [.int f0, .int f1, .int f2, .int f3, .int f4, .int f5, .int f6]))]) [0] rfl
  have hD9 := hD.sub (ws' := [(a0, .inr (1, [.int f0, .int f1, .int f2, .int f3, .int f4, .int f5, .int f6]))]) [0] (by decide) rfl
  subst hQ
  refine W.widen (k := 0) (n := 0) (Nat.le_of_ble_eq_true rfl) (Nat.le_of_ble_eq_true rfl) ?_
  exact W.iret (v := ((f0 - f2) &&& 63)) hx hb hr (fun tS htS _ => ⟨⟨_, _, rfl, ⟨rfl, rfl⟩, by rw [htS]; exact hP9, hD9⟩, hS.F htS⟩) hS.2.2 dX1_out_12
set_option maxHeartbeats 4000000 in
set_option maxRecDepth 100000 in
theorem c_X6_reaches (l : Launch) (D : va_G) (g : Nat → ClassId) (sz : Nat) (c0 : Int32) (b0 : Int32) : Met l yX6_reaches wsX6_reaches ({ frames := 0, cells := 0, slots := 0, locals := 0 }) (va_Pc [.int c0, .int b0] (pre D g sz [])) (va_Qi (fun (r : Int32) (u : va_W) => u = [] ∧ r = (if ((c0 - b0) &&& 63) < 32 then 1 else 0)) (wd D (va_A [] sz)) (va_A [] sz)) 0 0 (va_A [] sz) := by
  refine Met.ofW (cc := cX6_reaches) (maxL := 2) (ret := (some .boolean)) (by decide) rfl ?_
  intro p e s m args below meth c s₁ B hml hv
  obtain ⟨rfl, hsz, hP, ⟨hK, hN⟩, hD0, hZ⟩ := hv
  have hx := B.exec
  have hb := B.bytes
  have hr := B.returns
  have hts := atoms_spec (ws := wsX6_reaches) B.pre
  have hown : s.vm.findClass RX6 = some m.cls := findClass_of_methodNamed B.named
  have hlocks := B.notSynchronized
  clear B
  subst hsz
  have hD := hD0.self (sz := s.heap.size)
  clear hD0
  generalize hAe : va_A [] s.heap.size = A at hD hZ ⊢
  have hA : ∀ q : Nat, s.heap.size ≤ q → A q := fun q h => by rw [← hAe]; exact Or.inr h
  have hS : va_S A s.heap s.heap [] := va_S.rf
  have hl := lv_entry ([.int c0, .int b0]) (n := 2) (Nat.le_of_ble_eq_true rfl)
  rw [lg_entry_eq]
  generalize (lg_sl ([.int c0, .int b0]) ++ List.replicate (2 - (lg_sl ([.int c0, .int b0])).length) Slot.unset).toArray = ls at hl ⊢
  have hl : lv_has ls 2 [(0, .int c0), (1, .int b0)] := hl
  generalize hQ : MQ below _ _ s _ _ _ = Q
  generalize hH : s.heap = H at hP ⊢
  have hS : va_S A s.heap H [] := by rw [← hH]; exact hS
  clear hH
  refine lv_iload_n hx hb dX6_reaches_0 rfl (lv_at hl 0 rfl) ?_
  refine lv_iload_n hx hb dX6_reaches_1 rfl (lv_at hl 1 rfl) ?_
  refine lv_isub hx hb dX6_reaches_2 ?_
  refine lv_bipush (v := 63) hx hb dX6_reaches_3 (by decide) ?_
  refine lv_iand hx hb dX6_reaches_5 ?_
  refine lv_bipush (v := 32) hx hb dX6_reaches_6 (by decide) ?_
  refine lv_icmp_ge (tgt := 15) hx hb dX6_reaches_8 (by decide) (fun cb_1 => ?_) (fun cb_1 => ?_)
  · skip
    refine lv_iconst (v := 0) hx hb dX6_reaches_15 (by decide) ?_
    have hP9 := hP.sub (ws' := []) [] rfl
    have hD9 := hD.sub (ws' := []) [] (by decide) rfl
    subst hQ
    refine W.widen (k := 0) (n := 0) (Nat.le_of_ble_eq_true rfl) (Nat.le_of_ble_eq_true rfl) ?_
    exact W.zret (v := 0) (ty := .boolean) hx hb hr (rfl) (fun tS htS _ => ⟨⟨_, _, rfl, ⟨rfl, (if_neg (Int32.not_lt.mpr cb_1)).symm⟩, by rw [htS]; exact hP9, hD9⟩, hS.F htS⟩) hS.2.2 dX6_reaches_16
  · skip
    refine lv_iconst (v := 1) hx hb dX6_reaches_11 (by decide) ?_
    refine lv_goto (tgt := 16) hx hb dX6_reaches_12 (by decide) ?_
    have hP9 := hP.sub (ws' := []) [] rfl
    have hD9 := hD.sub (ws' := []) [] (by decide) rfl
    subst hQ
    refine W.widen (k := 0) (n := 0) (Nat.le_of_ble_eq_true rfl) (Nat.le_of_ble_eq_true rfl) ?_
    exact W.zret (v := 1) (ty := .boolean) hx hb hr (rfl) (fun tS htS _ => ⟨⟨_, _, rfl, ⟨rfl, (if_pos (Int32.not_le.mp cb_1)).symm⟩, by rw [htS]; exact hP9, hD9⟩, hS.F htS⟩) hS.2.2 dX6_reaches_16
set_option maxHeartbeats 4000000 in
set_option maxRecDepth 100000 in
/-- KNOWN is what it tells, if that is further by less than 32 -/
theorem c_X1_hear (l : Launch) (D : va_G) (g : Nat → ClassId) (sz : Nat) (a0 : Nat) (f0 : Int32) (f1 : Int32) (f2 : Int32) (f3 : Int32) (f4 : Int32) (f5 : Int32) (f6 : Int32) (told : Int32) : Met l yX1_hear wsX1_hear ({ frames := 1, cells := 0, slots := 0, locals := 21 }) (va_Pc [.ref a0, .int told] (pre D g sz [(a0, .inr (1, [.int f0, .int f1, .int f2, .int f3, .int f4, .int f5, .int f6]))])) (va_Qv (fun (u : va_W) => ∃ (kn : Int32), u = [(a0, .inr (1, [.int f0, .int f1, .int kn, .int f3, .int f4, .int f5, .int f6]))] ∧ (kn = (if ((told - f2) &&& 63) < 32 then told else f2))) (wd D (va_A [(a0, .inr (1, [.int f0, .int f1, .int f2, .int f3, .int f4, .int f5, .int f6]))] sz)) (va_A [(a0, .inr (1, [.int f0, .int f1, .int f2, .int f3, .int f4, .int f5, .int f6]))] sz)) 0 0 (va_A [(a0, .inr (1, [.int f0, .int f1, .int f2, .int f3, .int f4, .int f5, .int f6]))] sz) := by
  refine Met.ofW (cc := cX1_hear) (maxL := 2) (ret := none) (by decide) rfl ?_
  intro p e s m args below meth c s₁ B hml hv
  obtain ⟨rfl, hsz, hP, ⟨hK, hN⟩, hD0, hZ⟩ := hv
  have hx := B.exec
  have hb := B.bytes
  have hr := B.returns
  have hts := atoms_spec (ws := wsX1_hear) B.pre
  have hown : s.vm.findClass RX1 = some m.cls := findClass_of_methodNamed B.named
  have hlocks := B.notSynchronized
  clear B
  subst hsz
  have hD := hD0.self (sz := s.heap.size)
  clear hD0
  generalize hAe : va_A [(a0, .inr (1, [.int f0, .int f1, .int f2, .int f3, .int f4, .int f5, .int f6]))] s.heap.size = A at hD hZ ⊢
  have hA : ∀ q : Nat, s.heap.size ≤ q → A q := fun q h => by rw [← hAe]; exact Or.inr h
  have hS : va_S A s.heap s.heap [] := va_S.rf
  have f18 := hts (.fieldLink RX1 18 "HopCredits$Lane" "known" "I") (by decide +kernel)
  have iiX6 := hts (.initialized RX6) (by decide +kernel)
  have stX6_reaches := hts (.static yX6_reaches) (by decide +kernel)
  have iX1 : ∀ w ∈ u_ws RX1 TX1 7, w ∈ wsX1_hear := by decide +kernel
  have hl := lv_entry ([.ref a0, .int told]) (n := 2) (Nat.le_of_ble_eq_true rfl)
  rw [lg_entry_eq]
  generalize (lg_sl ([.ref a0, .int told]) ++ List.replicate (2 - (lg_sl ([.ref a0, .int told])).length) Slot.unset).toArray = ls at hl ⊢
  have hl : lv_has ls 2 [(0, .ref a0), (1, .int told)] := hl
  generalize hQ : MQ below _ _ s _ _ _ = Q
  generalize hH : s.heap = H at hP ⊢
  have hS : va_S A s.heap H [] := by rw [← hH]; exact hS
  clear hH
  refine lv_iload_n hx hb dX1_hear_0 rfl (lv_at hl 1 rfl) ?_
  refine lv_aload_n hx hb dX1_hear_1 rfl (lv_at hl 0 rfl) ?_
  refine va_get (D := D) (ci := 1) (v := .int f2) (C := RX1) (T := TX1) (N := 7) hx hb hts iX1 hown hK hP 0 rfl rfl 2 (by decide) f18 (fun _ h9 => h9) rfl dX1_hear_2 ?_
  refine ky_SNi (As := [.int told, .int f2]) (rest := []) ⟨hx, hb, hml, hown, hts⟩ ⟨hK, hN⟩ hZ hP hD hS hA [] [0] (wc := []) (wr := [(a0, .inr (1, [.int f0, .int f1, .int f2, .int f3, .int f4, .int f5, .int f6]))]) rfl rfl rfl rfl (by decide) (c_X6_reaches l D g H.size told f2) ⟨va_cnB 2 hts ggX1_hear_X6_reaches rfl rfl rfl hN.2.2.1 iiX6 (by decide +kernel) ⟨(Nat.le_of_ble_eq_true rfl), (Nat.le_of_ble_eq_true rfl)⟩, stX6_reaches, trivial⟩ rfl hl.1 rfl (Nat.le_of_ble_eq_true rfl) dX1_hear_5 ⟨(Nat.le_of_ble_eq_true rfl), (Nat.le_of_ble_eq_true rfl)⟩ (fun r_1 u H locs hw hP hD hS => ?_)
  obtain ⟨rfl, rfl⟩ := hw
  have hP : va_P D vwCl [(a0, .inr (1, [.int f0, .int f1, .int f2, .int f3, .int f4, .int f5, .int f6]))] H := hP
  have hD : va_D A [(a0, .inr (1, [.int f0, .int f1, .int f2, .int f3, .int f4, .int f5, .int f6]))] := hD
  refine W.widen (k := 0) (n := 0) (Nat.le_of_ble_eq_true rfl) (Nat.le_of_ble_eq_true rfl) ?_
  refine lv_if_eq (tgt := 16) hx hb dX1_hear_8 (by decide) (fun cb_2 => ?_) (fun cb_2 => ?_)
  · skip
    have hP9 := hP.sub (ws' := [(a0, .inr (1, [.int f0, .int f1, .int f2, .int f3, .int f4, .int f5, .int f6]))]) [0] rfl
    have hD9 := hD.sub (ws' := [(a0, .inr (1, [.int f0, .int f1, .int f2, .int f3, .int f4, .int f5, .int f6]))]) [0] (by decide) rfl
    subst hQ
    refine W.widen (k := 0) (n := 0) (Nat.le_of_ble_eq_true rfl) (Nat.le_of_ble_eq_true rfl) ?_
    exact W.vret hx hb hr (fun tS htS _ => ⟨⟨_, rfl, ⟨f2, rfl, (if_neg (b01_0.mp cb_2)).symm⟩, by rw [htS]; exact hP9, hD9⟩, hS.F htS⟩) hS.2.2 dX1_hear_16
  · skip
    refine lv_aload_n hx hb dX1_hear_11 rfl (lv_at hl 0 rfl) ?_
    refine lv_iload_n hx hb dX1_hear_12 rfl (lv_at hl 1 rfl) ?_
    refine va_put (D := D) (ci := 1) (v := .int told) (ty := .int) (C := RX1) (T := TX1) (N := 7) hx hb hts iX1 tyX1 tyX1_ok nmX1 hown hK hP hD hS 0 rfl rfl 2 (by decide) f18 (fun _ h9 => h9) rfl (by decide +kernel) (rfl) (rfl) (Nat.le_of_ble_eq_true rfl) dX1_hear_13 (fun H locs hP hD hS => ?_)
    have hP : va_P D vwCl [(a0, .inr (1, [.int f0, .int f1, .int told, .int f3, .int f4, .int f5, .int f6]))] H := hP
    have hD : va_D A [(a0, .inr (1, [.int f0, .int f1, .int told, .int f3, .int f4, .int f5, .int f6]))] := hD
    have hP9 := hP.sub (ws' := [(a0, .inr (1, [.int f0, .int f1, .int told, .int f3, .int f4, .int f5, .int f6]))]) [0] rfl
    have hD9 := hD.sub (ws' := [(a0, .inr (1, [.int f0, .int f1, .int told, .int f3, .int f4, .int f5, .int f6]))]) [0] (by decide) rfl
    subst hQ
    refine W.widen (k := 0) (n := 0) (Nat.le_of_ble_eq_true rfl) (Nat.le_of_ble_eq_true rfl) ?_
    exact W.vret hx hb hr (fun tS htS _ => ⟨⟨_, rfl, ⟨told, rfl, (if_pos (b01_1.mp cb_2)).symm⟩, by rw [htS]; exact hP9, hD9⟩, hS.F htS⟩) hS.2.2 dX1_hear_16
set_option maxHeartbeats 4000000 in
set_option maxRecDepth 100000 in
/-- a slot is empty -/
theorem c_X2_clearSlot (l : Launch) (D : va_G) (g : Nat → ClassId) (sz : Nat) (L : Nat) (l0 : Int32) (l1 : Int32) (l2 : Int32) (l3 : Int32) (l4 : Int32) (l5 : Int32) (ca : Nat) (ua : Nat) (pa : Nat) (la : Nat) (fc : Nat → Int32) (fu : Nat → Int32) (fp : Nat → Int32) (j : Nat) (hj : j < 5) : Met l yX2_clearSlot wsX2_clearSlot ({ frames := 0, cells := 0, slots := 0, locals := 0 }) (va_Pc [.ref L, .int (nI j)] (pre D g sz [(L, .inr (2, [.int l0, .int l1, .int l2, .int l3, .int l4, .int l5, .ref ca, .ref ua, .ref pa, .ref la])), (ca, .inl (g 0, 5, .inl fc)), (ua, .inl (g 0, 15, .inl fu)), (pa, .inl (g 0, 15, .inl fp))])) (va_Qv (fun (u : va_W) => u = [(L, .inr (2, [.int l0, .int l1, .int l2, .int l3, .int l4, .int l5, .ref ca, .ref ua, .ref pa, .ref la])), (ca, .inl (g 0, 5, .inl (upd fc (j) (-1)))), (ua, .inl (g 0, 15, .inl (upd (upd (upd fu ((j) * 3 + 0) (-1)) ((j) * 3 + 1) (-1)) ((j) * 3 + 2) (-1)))), (pa, .inl (g 0, 15, .inl (upd (upd (upd fp ((j) * 3 + 0) 0) ((j) * 3 + 1) 0) ((j) * 3 + 2) 0)))]) (wd D (va_A [(L, .inr (2, [.int l0, .int l1, .int l2, .int l3, .int l4, .int l5, .ref ca, .ref ua, .ref pa, .ref la])), (ca, .inl (g 0, 5, .inl fc)), (ua, .inl (g 0, 15, .inl fu)), (pa, .inl (g 0, 15, .inl fp))] sz)) (va_A [(L, .inr (2, [.int l0, .int l1, .int l2, .int l3, .int l4, .int l5, .ref ca, .ref ua, .ref pa, .ref la])), (ca, .inl (g 0, 5, .inl fc)), (ua, .inl (g 0, 15, .inl fu)), (pa, .inl (g 0, 15, .inl fp))] sz)) 0 0 (va_A [(L, .inr (2, [.int l0, .int l1, .int l2, .int l3, .int l4, .int l5, .ref ca, .ref ua, .ref pa, .ref la])), (ca, .inl (g 0, 5, .inl fc)), (ua, .inl (g 0, 15, .inl fu)), (pa, .inl (g 0, 15, .inl fp))] sz) := by
  refine Met.ofW (cc := cX2_clearSlot) (maxL := 3) (ret := none) (by decide) rfl ?_
  intro p e s m args below meth c s₁ B hml hv
  obtain ⟨rfl, hsz, hP, ⟨hK, hN⟩, hD0, hZ⟩ := hv
  have hx := B.exec
  have hb := B.bytes
  have hr := B.returns
  have hts := atoms_spec (ws := wsX2_clearSlot) B.pre
  have hown : s.vm.findClass RX2 = some m.cls := findClass_of_methodNamed B.named
  have hlocks := B.notSynchronized
  clear B
  subst hsz
  have hD := hD0.self (sz := s.heap.size)
  clear hD0
  generalize hAe : va_A [(L, .inr (2, [.int l0, .int l1, .int l2, .int l3, .int l4, .int l5, .ref ca, .ref ua, .ref pa, .ref la])), (ca, .inl (g 0, 5, .inl fc)), (ua, .inl (g 0, 15, .inl fu)), (pa, .inl (g 0, 15, .inl fp))] s.heap.size = A at hD hZ ⊢
  have hA : ∀ q : Nat, s.heap.size ≤ q → A q := fun q h => by rw [← hAe]; exact Or.inr h
  have hS : va_S A s.heap s.heap [] := va_S.rf
  have f15 := hts (.fieldLink RX2 15 "HopCredits$Link" "updateAt" "[I") (by decide +kernel)
  have f18 := hts (.fieldLink RX2 18 "HopCredits$Link" "probesAt" "[I") (by decide +kernel)
  have f9 := hts (.fieldLink RX2 9 "HopCredits$Link" "cellAt" "[I") (by decide +kernel)
  have iX2 : ∀ w ∈ u_ws RX2 TX2 10, w ∈ wsX2_clearSlot := by decide +kernel
  have hl := lv_entry ([.ref L, .int (nI j)]) (n := 3) (Nat.le_of_ble_eq_true rfl)
  rw [lg_entry_eq]
  generalize (lg_sl ([.ref L, .int (nI j)]) ++ List.replicate (3 - (lg_sl ([.ref L, .int (nI j)])).length) Slot.unset).toArray = ls at hl ⊢
  have hl : lv_has ls 3 [(0, .ref L), (1, .int (nI j))] := hl
  generalize hQ : MQ below _ _ s _ _ _ = Q
  generalize hH : s.heap = H at hP ⊢
  have hS : va_S A s.heap H [] := by rw [← hH]; exact hS
  clear hH
  refine lv_aload_n hx hb dX2_clearSlot_0 rfl (lv_at hl 0 rfl) ?_
  refine va_get (D := D) (ci := 2) (v := .ref ca) (C := RX2) (T := TX2) (N := 10) hx hb hts iX2 hown hK hP 0 rfl rfl 6 (by decide) f9 (fun _ h9 => h9) rfl dX2_clearSlot_1 ?_
  refine lv_iload_n hx hb dX2_clearSlot_4 rfl (lv_at hl 1 rfl) ?_
  refine lv_iconst (v := (-1)) hx hb dX2_clearSlot_5 (by decide) ?_
  refine va_iast hx hb hK hP hD hS 1 0 rfl rfl (vp_in_nI (show j < 5 by omega) (by decide)) dX2_clearSlot_6 (fun H locs hP hD hS => ?_)
  have hP : va_P D vwCl [(L, .inr (2, [.int l0, .int l1, .int l2, .int l3, .int l4, .int l5, .ref ca, .ref ua, .ref pa, .ref la])), (ca, .inl (g 0, 5, .inl (upd fc (nI j).toNatClampNeg (-1)))), (ua, .inl (g 0, 15, .inl fu)), (pa, .inl (g 0, 15, .inl fp))] H := hP
  have hD : va_D A [(L, .inr (2, [.int l0, .int l1, .int l2, .int l3, .int l4, .int l5, .ref ca, .ref ua, .ref pa, .ref la])), (ca, .inl (g 0, 5, .inl (upd fc (nI j).toNatClampNeg (-1)))), (ua, .inl (g 0, 15, .inl fu)), (pa, .inl (g 0, 15, .inl fp))] := hD
  rw [nI_clamp (show j < 2 ^ 31 by omega)] at hP hD
  have hP : va_P D vwCl [(L, .inr (2, [.int l0, .int l1, .int l2, .int l3, .int l4, .int l5, .ref ca, .ref ua, .ref pa, .ref la])), (ca, .inl (g 0, 5, .inl (upd fc (j) (-1)))), (ua, .inl (g 0, 15, .inl fu)), (pa, .inl (g 0, 15, .inl fp))] H := hP
  have hD : va_D A [(L, .inr (2, [.int l0, .int l1, .int l2, .int l3, .int l4, .int l5, .ref ca, .ref ua, .ref pa, .ref la])), (ca, .inl (g 0, 5, .inl (upd fc (j) (-1)))), (ua, .inl (g 0, 15, .inl fu)), (pa, .inl (g 0, 15, .inl fp))] := hD
  refine lv_iconst (v := 0) hx hb dX2_clearSlot_7 (by decide) ?_
  refine lv_istore_n (lv' := [(2, .int 0), (0, .ref L), (1, .int (nI j))]) hx hb dX2_clearSlot_8 rfl hl (by decide) rfl (fun ls hl => ?_)
  refine lv_iload_n hx hb dX2_clearSlot_9 rfl (lv_at hl 0 rfl) ?_
  refine lv_iconst (v := 3) hx hb dX2_clearSlot_10 (by decide) ?_
  refine lv_icmp_ge (tgt := 42) hx hb dX2_clearSlot_11 (by decide) (fun cb => absurd cb (by decide)) (fun _ => ?_)
  refine lv_aload_n hx hb dX2_clearSlot_14 rfl (lv_at hl 1 rfl) ?_
  refine va_get (D := D) (ci := 2) (v := .ref ua) (C := RX2) (T := TX2) (N := 10) hx hb hts iX2 hown hK hP 0 rfl rfl 7 (by decide) f15 (fun _ h9 => h9) rfl dX2_clearSlot_15 ?_
  refine lv_iload_n hx hb dX2_clearSlot_18 rfl (lv_at hl 2 rfl) ?_
  refine lv_iconst (v := 3) hx hb dX2_clearSlot_19 (by decide) ?_
  refine lv_imul hx hb dX2_clearSlot_20 ?_
  refine lv_eqi (y := (nI (j * 3))) (pk_mul (j) (3)) ?_
  refine lv_iload_n hx hb dX2_clearSlot_21 rfl (lv_at hl 0 rfl) ?_
  refine lv_iadd hx hb dX2_clearSlot_22 ?_
  refine lv_eqi (y := (nI (j * 3 + 0))) (nI_add (j * 3) (0)) ?_
  refine lv_iconst (v := (-1)) hx hb dX2_clearSlot_23 (by decide) ?_
  refine va_iast hx hb hK hP hD hS 2 0 rfl rfl (vp_in_nI (show j * 3 + 0 < 15 by omega) (by decide)) dX2_clearSlot_24 (fun H locs hP hD hS => ?_)
  have hP : va_P D vwCl [(L, .inr (2, [.int l0, .int l1, .int l2, .int l3, .int l4, .int l5, .ref ca, .ref ua, .ref pa, .ref la])), (ca, .inl (g 0, 5, .inl (upd fc (j) (-1)))), (ua, .inl (g 0, 15, .inl (upd fu (nI (j * 3 + 0)).toNatClampNeg (-1)))), (pa, .inl (g 0, 15, .inl fp))] H := hP
  have hD : va_D A [(L, .inr (2, [.int l0, .int l1, .int l2, .int l3, .int l4, .int l5, .ref ca, .ref ua, .ref pa, .ref la])), (ca, .inl (g 0, 5, .inl (upd fc (j) (-1)))), (ua, .inl (g 0, 15, .inl (upd fu (nI (j * 3 + 0)).toNatClampNeg (-1)))), (pa, .inl (g 0, 15, .inl fp))] := hD
  rw [nI_clamp (show j * 3 + 0 < 2 ^ 31 by omega)] at hP hD
  have hP : va_P D vwCl [(L, .inr (2, [.int l0, .int l1, .int l2, .int l3, .int l4, .int l5, .ref ca, .ref ua, .ref pa, .ref la])), (ca, .inl (g 0, 5, .inl (upd fc (j) (-1)))), (ua, .inl (g 0, 15, .inl (upd fu (j * 3 + 0) (-1)))), (pa, .inl (g 0, 15, .inl fp))] H := hP
  have hD : va_D A [(L, .inr (2, [.int l0, .int l1, .int l2, .int l3, .int l4, .int l5, .ref ca, .ref ua, .ref pa, .ref la])), (ca, .inl (g 0, 5, .inl (upd fc (j) (-1)))), (ua, .inl (g 0, 15, .inl (upd fu (j * 3 + 0) (-1)))), (pa, .inl (g 0, 15, .inl fp))] := hD
  refine lv_aload_n hx hb dX2_clearSlot_25 rfl (lv_at hl 1 rfl) ?_
  refine va_get (D := D) (ci := 2) (v := .ref pa) (C := RX2) (T := TX2) (N := 10) hx hb hts iX2 hown hK hP 0 rfl rfl 8 (by decide) f18 (fun _ h9 => h9) rfl dX2_clearSlot_26 ?_
  refine lv_iload_n hx hb dX2_clearSlot_29 rfl (lv_at hl 2 rfl) ?_
  refine lv_iconst (v := 3) hx hb dX2_clearSlot_30 (by decide) ?_
  refine lv_imul hx hb dX2_clearSlot_31 ?_
  refine lv_eqi (y := (nI (j * 3))) (pk_mul (j) (3)) ?_
  refine lv_iload_n hx hb dX2_clearSlot_32 rfl (lv_at hl 0 rfl) ?_
  refine lv_iadd hx hb dX2_clearSlot_33 ?_
  refine lv_eqi (y := (nI (j * 3 + 0))) (nI_add (j * 3) (0)) ?_
  refine lv_iconst (v := 0) hx hb dX2_clearSlot_34 (by decide) ?_
  refine va_iast hx hb hK hP hD hS 3 0 rfl rfl (vp_in_nI (show j * 3 + 0 < 15 by omega) (by decide)) dX2_clearSlot_35 (fun H locs hP hD hS => ?_)
  have hP : va_P D vwCl [(L, .inr (2, [.int l0, .int l1, .int l2, .int l3, .int l4, .int l5, .ref ca, .ref ua, .ref pa, .ref la])), (ca, .inl (g 0, 5, .inl (upd fc (j) (-1)))), (ua, .inl (g 0, 15, .inl (upd fu (j * 3 + 0) (-1)))), (pa, .inl (g 0, 15, .inl (upd fp (nI (j * 3 + 0)).toNatClampNeg 0)))] H := hP
  have hD : va_D A [(L, .inr (2, [.int l0, .int l1, .int l2, .int l3, .int l4, .int l5, .ref ca, .ref ua, .ref pa, .ref la])), (ca, .inl (g 0, 5, .inl (upd fc (j) (-1)))), (ua, .inl (g 0, 15, .inl (upd fu (j * 3 + 0) (-1)))), (pa, .inl (g 0, 15, .inl (upd fp (nI (j * 3 + 0)).toNatClampNeg 0)))] := hD
  rw [nI_clamp (show j * 3 + 0 < 2 ^ 31 by omega)] at hP hD
  have hP : va_P D vwCl [(L, .inr (2, [.int l0, .int l1, .int l2, .int l3, .int l4, .int l5, .ref ca, .ref ua, .ref pa, .ref la])), (ca, .inl (g 0, 5, .inl (upd fc (j) (-1)))), (ua, .inl (g 0, 15, .inl (upd fu (j * 3 + 0) (-1)))), (pa, .inl (g 0, 15, .inl (upd fp (j * 3 + 0) 0)))] H := hP
  have hD : va_D A [(L, .inr (2, [.int l0, .int l1, .int l2, .int l3, .int l4, .int l5, .ref ca, .ref ua, .ref pa, .ref la])), (ca, .inl (g 0, 5, .inl (upd fc (j) (-1)))), (ua, .inl (g 0, 15, .inl (upd fu (j * 3 + 0) (-1)))), (pa, .inl (g 0, 15, .inl (upd fp (j * 3 + 0) 0)))] := hD
  refine lv_iinc (v := 1) (lv' := [(2, .int 1), (0, .ref L), (1, .int (nI j))]) hx hb dX2_clearSlot_36 hl (k := 0) rfl (by decide) (by decide) rfl (fun ls hl => ?_)
  refine lv_goto (tgt := 9) hx hb dX2_clearSlot_39 (by decide) ?_
  refine lv_iload_n hx hb dX2_clearSlot_9 rfl (lv_at hl 0 rfl) ?_
  refine lv_iconst (v := 3) hx hb dX2_clearSlot_10 (by decide) ?_
  refine lv_icmp_ge (tgt := 42) hx hb dX2_clearSlot_11 (by decide) (fun cb => absurd cb (by decide)) (fun _ => ?_)
  refine lv_aload_n hx hb dX2_clearSlot_14 rfl (lv_at hl 1 rfl) ?_
  refine va_get (D := D) (ci := 2) (v := .ref ua) (C := RX2) (T := TX2) (N := 10) hx hb hts iX2 hown hK hP 0 rfl rfl 7 (by decide) f15 (fun _ h9 => h9) rfl dX2_clearSlot_15 ?_
  refine lv_iload_n hx hb dX2_clearSlot_18 rfl (lv_at hl 2 rfl) ?_
  refine lv_iconst (v := 3) hx hb dX2_clearSlot_19 (by decide) ?_
  refine lv_imul hx hb dX2_clearSlot_20 ?_
  refine lv_eqi (y := (nI (j * 3))) (pk_mul (j) (3)) ?_
  refine lv_iload_n hx hb dX2_clearSlot_21 rfl (lv_at hl 0 rfl) ?_
  refine lv_iadd hx hb dX2_clearSlot_22 ?_
  refine lv_eqi (y := (nI (j * 3 + 1))) (nI_add (j * 3) (1)) ?_
  refine lv_iconst (v := (-1)) hx hb dX2_clearSlot_23 (by decide) ?_
  refine va_iast hx hb hK hP hD hS 2 0 rfl rfl (vp_in_nI (show j * 3 + 1 < 15 by omega) (by decide)) dX2_clearSlot_24 (fun H locs hP hD hS => ?_)
  have hP : va_P D vwCl [(L, .inr (2, [.int l0, .int l1, .int l2, .int l3, .int l4, .int l5, .ref ca, .ref ua, .ref pa, .ref la])), (ca, .inl (g 0, 5, .inl (upd fc (j) (-1)))), (ua, .inl (g 0, 15, .inl (upd (upd fu (j * 3 + 0) (-1)) (nI (j * 3 + 1)).toNatClampNeg (-1)))), (pa, .inl (g 0, 15, .inl (upd fp (j * 3 + 0) 0)))] H := hP
  have hD : va_D A [(L, .inr (2, [.int l0, .int l1, .int l2, .int l3, .int l4, .int l5, .ref ca, .ref ua, .ref pa, .ref la])), (ca, .inl (g 0, 5, .inl (upd fc (j) (-1)))), (ua, .inl (g 0, 15, .inl (upd (upd fu (j * 3 + 0) (-1)) (nI (j * 3 + 1)).toNatClampNeg (-1)))), (pa, .inl (g 0, 15, .inl (upd fp (j * 3 + 0) 0)))] := hD
  rw [nI_clamp (show j * 3 + 1 < 2 ^ 31 by omega)] at hP hD
  have hP : va_P D vwCl [(L, .inr (2, [.int l0, .int l1, .int l2, .int l3, .int l4, .int l5, .ref ca, .ref ua, .ref pa, .ref la])), (ca, .inl (g 0, 5, .inl (upd fc (j) (-1)))), (ua, .inl (g 0, 15, .inl (upd (upd fu (j * 3 + 0) (-1)) (j * 3 + 1) (-1)))), (pa, .inl (g 0, 15, .inl (upd fp (j * 3 + 0) 0)))] H := hP
  have hD : va_D A [(L, .inr (2, [.int l0, .int l1, .int l2, .int l3, .int l4, .int l5, .ref ca, .ref ua, .ref pa, .ref la])), (ca, .inl (g 0, 5, .inl (upd fc (j) (-1)))), (ua, .inl (g 0, 15, .inl (upd (upd fu (j * 3 + 0) (-1)) (j * 3 + 1) (-1)))), (pa, .inl (g 0, 15, .inl (upd fp (j * 3 + 0) 0)))] := hD
  refine lv_aload_n hx hb dX2_clearSlot_25 rfl (lv_at hl 1 rfl) ?_
  refine va_get (D := D) (ci := 2) (v := .ref pa) (C := RX2) (T := TX2) (N := 10) hx hb hts iX2 hown hK hP 0 rfl rfl 8 (by decide) f18 (fun _ h9 => h9) rfl dX2_clearSlot_26 ?_
  refine lv_iload_n hx hb dX2_clearSlot_29 rfl (lv_at hl 2 rfl) ?_
  refine lv_iconst (v := 3) hx hb dX2_clearSlot_30 (by decide) ?_
  refine lv_imul hx hb dX2_clearSlot_31 ?_
  refine lv_eqi (y := (nI (j * 3))) (pk_mul (j) (3)) ?_
  refine lv_iload_n hx hb dX2_clearSlot_32 rfl (lv_at hl 0 rfl) ?_
  refine lv_iadd hx hb dX2_clearSlot_33 ?_
  refine lv_eqi (y := (nI (j * 3 + 1))) (nI_add (j * 3) (1)) ?_
  refine lv_iconst (v := 0) hx hb dX2_clearSlot_34 (by decide) ?_
  refine va_iast hx hb hK hP hD hS 3 0 rfl rfl (vp_in_nI (show j * 3 + 1 < 15 by omega) (by decide)) dX2_clearSlot_35 (fun H locs hP hD hS => ?_)
  have hP : va_P D vwCl [(L, .inr (2, [.int l0, .int l1, .int l2, .int l3, .int l4, .int l5, .ref ca, .ref ua, .ref pa, .ref la])), (ca, .inl (g 0, 5, .inl (upd fc (j) (-1)))), (ua, .inl (g 0, 15, .inl (upd (upd fu (j * 3 + 0) (-1)) (j * 3 + 1) (-1)))), (pa, .inl (g 0, 15, .inl (upd (upd fp (j * 3 + 0) 0) (nI (j * 3 + 1)).toNatClampNeg 0)))] H := hP
  have hD : va_D A [(L, .inr (2, [.int l0, .int l1, .int l2, .int l3, .int l4, .int l5, .ref ca, .ref ua, .ref pa, .ref la])), (ca, .inl (g 0, 5, .inl (upd fc (j) (-1)))), (ua, .inl (g 0, 15, .inl (upd (upd fu (j * 3 + 0) (-1)) (j * 3 + 1) (-1)))), (pa, .inl (g 0, 15, .inl (upd (upd fp (j * 3 + 0) 0) (nI (j * 3 + 1)).toNatClampNeg 0)))] := hD
  rw [nI_clamp (show j * 3 + 1 < 2 ^ 31 by omega)] at hP hD
  have hP : va_P D vwCl [(L, .inr (2, [.int l0, .int l1, .int l2, .int l3, .int l4, .int l5, .ref ca, .ref ua, .ref pa, .ref la])), (ca, .inl (g 0, 5, .inl (upd fc (j) (-1)))), (ua, .inl (g 0, 15, .inl (upd (upd fu (j * 3 + 0) (-1)) (j * 3 + 1) (-1)))), (pa, .inl (g 0, 15, .inl (upd (upd fp (j * 3 + 0) 0) (j * 3 + 1) 0)))] H := hP
  have hD : va_D A [(L, .inr (2, [.int l0, .int l1, .int l2, .int l3, .int l4, .int l5, .ref ca, .ref ua, .ref pa, .ref la])), (ca, .inl (g 0, 5, .inl (upd fc (j) (-1)))), (ua, .inl (g 0, 15, .inl (upd (upd fu (j * 3 + 0) (-1)) (j * 3 + 1) (-1)))), (pa, .inl (g 0, 15, .inl (upd (upd fp (j * 3 + 0) 0) (j * 3 + 1) 0)))] := hD
  refine lv_iinc (v := 2) (lv' := [(2, .int 2), (0, .ref L), (1, .int (nI j))]) hx hb dX2_clearSlot_36 hl (k := 0) rfl (by decide) (by decide) rfl (fun ls hl => ?_)
  refine lv_goto (tgt := 9) hx hb dX2_clearSlot_39 (by decide) ?_
  refine lv_iload_n hx hb dX2_clearSlot_9 rfl (lv_at hl 0 rfl) ?_
  refine lv_iconst (v := 3) hx hb dX2_clearSlot_10 (by decide) ?_
  refine lv_icmp_ge (tgt := 42) hx hb dX2_clearSlot_11 (by decide) (fun cb => absurd cb (by decide)) (fun _ => ?_)
  refine lv_aload_n hx hb dX2_clearSlot_14 rfl (lv_at hl 1 rfl) ?_
  refine va_get (D := D) (ci := 2) (v := .ref ua) (C := RX2) (T := TX2) (N := 10) hx hb hts iX2 hown hK hP 0 rfl rfl 7 (by decide) f15 (fun _ h9 => h9) rfl dX2_clearSlot_15 ?_
  refine lv_iload_n hx hb dX2_clearSlot_18 rfl (lv_at hl 2 rfl) ?_
  refine lv_iconst (v := 3) hx hb dX2_clearSlot_19 (by decide) ?_
  refine lv_imul hx hb dX2_clearSlot_20 ?_
  refine lv_eqi (y := (nI (j * 3))) (pk_mul (j) (3)) ?_
  refine lv_iload_n hx hb dX2_clearSlot_21 rfl (lv_at hl 0 rfl) ?_
  refine lv_iadd hx hb dX2_clearSlot_22 ?_
  refine lv_eqi (y := (nI (j * 3 + 2))) (nI_add (j * 3) (2)) ?_
  refine lv_iconst (v := (-1)) hx hb dX2_clearSlot_23 (by decide) ?_
  refine va_iast hx hb hK hP hD hS 2 0 rfl rfl (vp_in_nI (show j * 3 + 2 < 15 by omega) (by decide)) dX2_clearSlot_24 (fun H locs hP hD hS => ?_)
  have hP : va_P D vwCl [(L, .inr (2, [.int l0, .int l1, .int l2, .int l3, .int l4, .int l5, .ref ca, .ref ua, .ref pa, .ref la])), (ca, .inl (g 0, 5, .inl (upd fc (j) (-1)))), (ua, .inl (g 0, 15, .inl (upd (upd (upd fu (j * 3 + 0) (-1)) (j * 3 + 1) (-1)) (nI (j * 3 + 2)).toNatClampNeg (-1)))), (pa, .inl (g 0, 15, .inl (upd (upd fp (j * 3 + 0) 0) (j * 3 + 1) 0)))] H := hP
  have hD : va_D A [(L, .inr (2, [.int l0, .int l1, .int l2, .int l3, .int l4, .int l5, .ref ca, .ref ua, .ref pa, .ref la])), (ca, .inl (g 0, 5, .inl (upd fc (j) (-1)))), (ua, .inl (g 0, 15, .inl (upd (upd (upd fu (j * 3 + 0) (-1)) (j * 3 + 1) (-1)) (nI (j * 3 + 2)).toNatClampNeg (-1)))), (pa, .inl (g 0, 15, .inl (upd (upd fp (j * 3 + 0) 0) (j * 3 + 1) 0)))] := hD
  rw [nI_clamp (show j * 3 + 2 < 2 ^ 31 by omega)] at hP hD
  have hP : va_P D vwCl [(L, .inr (2, [.int l0, .int l1, .int l2, .int l3, .int l4, .int l5, .ref ca, .ref ua, .ref pa, .ref la])), (ca, .inl (g 0, 5, .inl (upd fc (j) (-1)))), (ua, .inl (g 0, 15, .inl (upd (upd (upd fu (j * 3 + 0) (-1)) (j * 3 + 1) (-1)) (j * 3 + 2) (-1)))), (pa, .inl (g 0, 15, .inl (upd (upd fp (j * 3 + 0) 0) (j * 3 + 1) 0)))] H := hP
  have hD : va_D A [(L, .inr (2, [.int l0, .int l1, .int l2, .int l3, .int l4, .int l5, .ref ca, .ref ua, .ref pa, .ref la])), (ca, .inl (g 0, 5, .inl (upd fc (j) (-1)))), (ua, .inl (g 0, 15, .inl (upd (upd (upd fu (j * 3 + 0) (-1)) (j * 3 + 1) (-1)) (j * 3 + 2) (-1)))), (pa, .inl (g 0, 15, .inl (upd (upd fp (j * 3 + 0) 0) (j * 3 + 1) 0)))] := hD
  refine lv_aload_n hx hb dX2_clearSlot_25 rfl (lv_at hl 1 rfl) ?_
  refine va_get (D := D) (ci := 2) (v := .ref pa) (C := RX2) (T := TX2) (N := 10) hx hb hts iX2 hown hK hP 0 rfl rfl 8 (by decide) f18 (fun _ h9 => h9) rfl dX2_clearSlot_26 ?_
  refine lv_iload_n hx hb dX2_clearSlot_29 rfl (lv_at hl 2 rfl) ?_
  refine lv_iconst (v := 3) hx hb dX2_clearSlot_30 (by decide) ?_
  refine lv_imul hx hb dX2_clearSlot_31 ?_
  refine lv_eqi (y := (nI (j * 3))) (pk_mul (j) (3)) ?_
  refine lv_iload_n hx hb dX2_clearSlot_32 rfl (lv_at hl 0 rfl) ?_
  refine lv_iadd hx hb dX2_clearSlot_33 ?_
  refine lv_eqi (y := (nI (j * 3 + 2))) (nI_add (j * 3) (2)) ?_
  refine lv_iconst (v := 0) hx hb dX2_clearSlot_34 (by decide) ?_
  refine va_iast hx hb hK hP hD hS 3 0 rfl rfl (vp_in_nI (show j * 3 + 2 < 15 by omega) (by decide)) dX2_clearSlot_35 (fun H locs hP hD hS => ?_)
  have hP : va_P D vwCl [(L, .inr (2, [.int l0, .int l1, .int l2, .int l3, .int l4, .int l5, .ref ca, .ref ua, .ref pa, .ref la])), (ca, .inl (g 0, 5, .inl (upd fc (j) (-1)))), (ua, .inl (g 0, 15, .inl (upd (upd (upd fu (j * 3 + 0) (-1)) (j * 3 + 1) (-1)) (j * 3 + 2) (-1)))), (pa, .inl (g 0, 15, .inl (upd (upd (upd fp (j * 3 + 0) 0) (j * 3 + 1) 0) (nI (j * 3 + 2)).toNatClampNeg 0)))] H := hP
  have hD : va_D A [(L, .inr (2, [.int l0, .int l1, .int l2, .int l3, .int l4, .int l5, .ref ca, .ref ua, .ref pa, .ref la])), (ca, .inl (g 0, 5, .inl (upd fc (j) (-1)))), (ua, .inl (g 0, 15, .inl (upd (upd (upd fu (j * 3 + 0) (-1)) (j * 3 + 1) (-1)) (j * 3 + 2) (-1)))), (pa, .inl (g 0, 15, .inl (upd (upd (upd fp (j * 3 + 0) 0) (j * 3 + 1) 0) (nI (j * 3 + 2)).toNatClampNeg 0)))] := hD
  rw [nI_clamp (show j * 3 + 2 < 2 ^ 31 by omega)] at hP hD
  have hP : va_P D vwCl [(L, .inr (2, [.int l0, .int l1, .int l2, .int l3, .int l4, .int l5, .ref ca, .ref ua, .ref pa, .ref la])), (ca, .inl (g 0, 5, .inl (upd fc (j) (-1)))), (ua, .inl (g 0, 15, .inl (upd (upd (upd fu (j * 3 + 0) (-1)) (j * 3 + 1) (-1)) (j * 3 + 2) (-1)))), (pa, .inl (g 0, 15, .inl (upd (upd (upd fp (j * 3 + 0) 0) (j * 3 + 1) 0) (j * 3 + 2) 0)))] H := hP
  have hD : va_D A [(L, .inr (2, [.int l0, .int l1, .int l2, .int l3, .int l4, .int l5, .ref ca, .ref ua, .ref pa, .ref la])), (ca, .inl (g 0, 5, .inl (upd fc (j) (-1)))), (ua, .inl (g 0, 15, .inl (upd (upd (upd fu (j * 3 + 0) (-1)) (j * 3 + 1) (-1)) (j * 3 + 2) (-1)))), (pa, .inl (g 0, 15, .inl (upd (upd (upd fp (j * 3 + 0) 0) (j * 3 + 1) 0) (j * 3 + 2) 0)))] := hD
  refine lv_iinc (v := 3) (lv' := [(2, .int 3), (0, .ref L), (1, .int (nI j))]) hx hb dX2_clearSlot_36 hl (k := 0) rfl (by decide) (by decide) rfl (fun ls hl => ?_)
  refine lv_goto (tgt := 9) hx hb dX2_clearSlot_39 (by decide) ?_
  refine lv_iload_n hx hb dX2_clearSlot_9 rfl (lv_at hl 0 rfl) ?_
  refine lv_iconst (v := 3) hx hb dX2_clearSlot_10 (by decide) ?_
  refine lv_icmp_ge (tgt := 42) hx hb dX2_clearSlot_11 (by decide) (fun _ => ?_) (fun cb => absurd (by decide) cb)
  have hP9 := hP.sub (ws' := [(L, .inr (2, [.int l0, .int l1, .int l2, .int l3, .int l4, .int l5, .ref ca, .ref ua, .ref pa, .ref la])), (ca, .inl (g 0, 5, .inl (upd fc (j) (-1)))), (ua, .inl (g 0, 15, .inl (upd (upd (upd fu (j * 3 + 0) (-1)) (j * 3 + 1) (-1)) (j * 3 + 2) (-1)))), (pa, .inl (g 0, 15, .inl (upd (upd (upd fp (j * 3 + 0) 0) (j * 3 + 1) 0) (j * 3 + 2) 0)))]) [0, 1, 2, 3] rfl
  have hD9 := hD.sub (ws' := [(L, .inr (2, [.int l0, .int l1, .int l2, .int l3, .int l4, .int l5, .ref ca, .ref ua, .ref pa, .ref la])), (ca, .inl (g 0, 5, .inl (upd fc (j) (-1)))), (ua, .inl (g 0, 15, .inl (upd (upd (upd fu (j * 3 + 0) (-1)) (j * 3 + 1) (-1)) (j * 3 + 2) (-1)))), (pa, .inl (g 0, 15, .inl (upd (upd (upd fp (j * 3 + 0) 0) (j * 3 + 1) 0) (j * 3 + 2) 0)))]) [0, 1, 2, 3] (by decide) rfl
  subst hQ
  refine W.widen (k := 0) (n := 0) (Nat.le_of_ble_eq_true rfl) (Nat.le_of_ble_eq_true rfl) ?_
  exact W.vret hx hb hr (fun tS htS _ => ⟨⟨_, rfl, rfl, by rw [htS]; exact hP9, hD9⟩, hS.F htS⟩) hS.2.2 dX2_clearSlot_42
set_option maxHeartbeats 4000000 in
set_option maxRecDepth 100000 in
theorem c_X1_lay (l : Launch) (D : va_G) (g : Nat → ClassId) (sz : Nat) (a0 : Nat) (f0 : Int32) (f1 : Int32) (f2 : Int32) (f3 : Int32) (f4 : Int32) (f5 : Int32) (f6 : Int32) (zz : Int32) : Met l yX1_lay wsX1_lay ({ frames := 0, cells := 0, slots := 0, locals := 0 }) (va_Pc [.ref a0, .int zz] (pre D g sz [(a0, .inr (1, [.int f0, .int f1, .int f2, .int f3, .int f4, .int f5, .int f6]))])) (va_Qv (fun (u : va_W) => u = [(a0, .inr (1, [.int 0, .int 0, .int 0, .int zz, .int 0, .int 0, .int 0]))]) (wd D (va_A [(a0, .inr (1, [.int f0, .int f1, .int f2, .int f3, .int f4, .int f5, .int f6]))] sz)) (va_A [(a0, .inr (1, [.int f0, .int f1, .int f2, .int f3, .int f4, .int f5, .int f6]))] sz)) 0 0 (va_A [(a0, .inr (1, [.int f0, .int f1, .int f2, .int f3, .int f4, .int f5, .int f6]))] sz) := by
  refine Met.ofW (cc := cX1_lay) (maxL := 2) (ret := none) (by decide) rfl ?_
  intro p e s m args below meth c s₁ B hml hv
  obtain ⟨rfl, hsz, hP, ⟨hK, hN⟩, hD0, hZ⟩ := hv
  have hx := B.exec
  have hb := B.bytes
  have hr := B.returns
  have hts := atoms_spec (ws := wsX1_lay) B.pre
  have hown : s.vm.findClass RX1 = some m.cls := findClass_of_methodNamed B.named
  have hlocks := B.notSynchronized
  clear B
  subst hsz
  have hD := hD0.self (sz := s.heap.size)
  clear hD0
  generalize hAe : va_A [(a0, .inr (1, [.int f0, .int f1, .int f2, .int f3, .int f4, .int f5, .int f6]))] s.heap.size = A at hD hZ ⊢
  have hA : ∀ q : Nat, s.heap.size ≤ q → A q := fun q h => by rw [← hAe]; exact Or.inr h
  have hS : va_S A s.heap s.heap [] := va_S.rf
  have f15 := hts (.fieldLink RX1 15 "HopCredits$Lane" "gone" "I") (by decide +kernel)
  have f18 := hts (.fieldLink RX1 18 "HopCredits$Lane" "known" "I") (by decide +kernel)
  have f21 := hts (.fieldLink RX1 21 "HopCredits$Lane" "zone" "I") (by decide +kernel)
  have f24 := hts (.fieldLink RX1 24 "HopCredits$Lane" "waited" "I") (by decide +kernel)
  have f27 := hts (.fieldLink RX1 27 "HopCredits$Lane" "sinceUpdate" "I") (by decide +kernel)
  have f30 := hts (.fieldLink RX1 30 "HopCredits$Lane" "sinceAdapt" "I") (by decide +kernel)
  have f9 := hts (.fieldLink RX1 9 "HopCredits$Lane" "sent" "I") (by decide +kernel)
  have iX1 : ∀ w ∈ u_ws RX1 TX1 7, w ∈ wsX1_lay := by decide +kernel
  have hl := lv_entry ([.ref a0, .int zz]) (n := 2) (Nat.le_of_ble_eq_true rfl)
  rw [lg_entry_eq]
  generalize (lg_sl ([.ref a0, .int zz]) ++ List.replicate (2 - (lg_sl ([.ref a0, .int zz])).length) Slot.unset).toArray = ls at hl ⊢
  have hl : lv_has ls 2 [(0, .ref a0), (1, .int zz)] := hl
  generalize hQ : MQ below _ _ s _ _ _ = Q
  generalize hH : s.heap = H at hP ⊢
  have hS : va_S A s.heap H [] := by rw [← hH]; exact hS
  clear hH
  refine lv_aload_n hx hb dX1_lay_0 rfl (lv_at hl 0 rfl) ?_
  refine lv_iconst (v := 0) hx hb dX1_lay_1 (by decide) ?_
  refine va_put (D := D) (ci := 1) (v := .int 0) (ty := .int) (C := RX1) (T := TX1) (N := 7) hx hb hts iX1 tyX1 tyX1_ok nmX1 hown hK hP hD hS 0 rfl rfl 0 (by decide) f9 (fun _ h9 => h9) rfl (by decide +kernel) (rfl) (rfl) (Nat.le_of_ble_eq_true rfl) dX1_lay_2 (fun H locs hP hD hS => ?_)
  have hP : va_P D vwCl [(a0, .inr (1, [.int 0, .int f1, .int f2, .int f3, .int f4, .int f5, .int f6]))] H := hP
  have hD : va_D A [(a0, .inr (1, [.int 0, .int f1, .int f2, .int f3, .int f4, .int f5, .int f6]))] := hD
  refine lv_aload_n hx hb dX1_lay_5 rfl (lv_at hl 0 rfl) ?_
  refine lv_iconst (v := 0) hx hb dX1_lay_6 (by decide) ?_
  refine va_put (D := D) (ci := 1) (v := .int 0) (ty := .int) (C := RX1) (T := TX1) (N := 7) hx hb hts iX1 tyX1 tyX1_ok nmX1 hown hK hP hD hS 0 rfl rfl 1 (by decide) f15 (fun _ h9 => h9) rfl (by decide +kernel) (rfl) (rfl) (Nat.le_of_ble_eq_true rfl) dX1_lay_7 (fun H locs hP hD hS => ?_)
  have hP : va_P D vwCl [(a0, .inr (1, [.int 0, .int 0, .int f2, .int f3, .int f4, .int f5, .int f6]))] H := hP
  have hD : va_D A [(a0, .inr (1, [.int 0, .int 0, .int f2, .int f3, .int f4, .int f5, .int f6]))] := hD
  refine lv_aload_n hx hb dX1_lay_10 rfl (lv_at hl 0 rfl) ?_
  refine lv_iconst (v := 0) hx hb dX1_lay_11 (by decide) ?_
  refine va_put (D := D) (ci := 1) (v := .int 0) (ty := .int) (C := RX1) (T := TX1) (N := 7) hx hb hts iX1 tyX1 tyX1_ok nmX1 hown hK hP hD hS 0 rfl rfl 2 (by decide) f18 (fun _ h9 => h9) rfl (by decide +kernel) (rfl) (rfl) (Nat.le_of_ble_eq_true rfl) dX1_lay_12 (fun H locs hP hD hS => ?_)
  have hP : va_P D vwCl [(a0, .inr (1, [.int 0, .int 0, .int 0, .int f3, .int f4, .int f5, .int f6]))] H := hP
  have hD : va_D A [(a0, .inr (1, [.int 0, .int 0, .int 0, .int f3, .int f4, .int f5, .int f6]))] := hD
  refine lv_aload_n hx hb dX1_lay_15 rfl (lv_at hl 0 rfl) ?_
  refine lv_iload_n hx hb dX1_lay_16 rfl (lv_at hl 1 rfl) ?_
  refine va_put (D := D) (ci := 1) (v := .int zz) (ty := .int) (C := RX1) (T := TX1) (N := 7) hx hb hts iX1 tyX1 tyX1_ok nmX1 hown hK hP hD hS 0 rfl rfl 3 (by decide) f21 (fun _ h9 => h9) rfl (by decide +kernel) (rfl) (rfl) (Nat.le_of_ble_eq_true rfl) dX1_lay_17 (fun H locs hP hD hS => ?_)
  have hP : va_P D vwCl [(a0, .inr (1, [.int 0, .int 0, .int 0, .int zz, .int f4, .int f5, .int f6]))] H := hP
  have hD : va_D A [(a0, .inr (1, [.int 0, .int 0, .int 0, .int zz, .int f4, .int f5, .int f6]))] := hD
  refine lv_aload_n hx hb dX1_lay_20 rfl (lv_at hl 0 rfl) ?_
  refine lv_iconst (v := 0) hx hb dX1_lay_21 (by decide) ?_
  refine va_put (D := D) (ci := 1) (v := .int 0) (ty := .int) (C := RX1) (T := TX1) (N := 7) hx hb hts iX1 tyX1 tyX1_ok nmX1 hown hK hP hD hS 0 rfl rfl 4 (by decide) f24 (fun _ h9 => h9) rfl (by decide +kernel) (rfl) (rfl) (Nat.le_of_ble_eq_true rfl) dX1_lay_22 (fun H locs hP hD hS => ?_)
  have hP : va_P D vwCl [(a0, .inr (1, [.int 0, .int 0, .int 0, .int zz, .int 0, .int f5, .int f6]))] H := hP
  have hD : va_D A [(a0, .inr (1, [.int 0, .int 0, .int 0, .int zz, .int 0, .int f5, .int f6]))] := hD
  refine lv_aload_n hx hb dX1_lay_25 rfl (lv_at hl 0 rfl) ?_
  refine lv_iconst (v := 0) hx hb dX1_lay_26 (by decide) ?_
  refine va_put (D := D) (ci := 1) (v := .int 0) (ty := .int) (C := RX1) (T := TX1) (N := 7) hx hb hts iX1 tyX1 tyX1_ok nmX1 hown hK hP hD hS 0 rfl rfl 5 (by decide) f27 (fun _ h9 => h9) rfl (by decide +kernel) (rfl) (rfl) (Nat.le_of_ble_eq_true rfl) dX1_lay_27 (fun H locs hP hD hS => ?_)
  have hP : va_P D vwCl [(a0, .inr (1, [.int 0, .int 0, .int 0, .int zz, .int 0, .int 0, .int f6]))] H := hP
  have hD : va_D A [(a0, .inr (1, [.int 0, .int 0, .int 0, .int zz, .int 0, .int 0, .int f6]))] := hD
  refine lv_aload_n hx hb dX1_lay_30 rfl (lv_at hl 0 rfl) ?_
  refine lv_iconst (v := 0) hx hb dX1_lay_31 (by decide) ?_
  refine va_put (D := D) (ci := 1) (v := .int 0) (ty := .int) (C := RX1) (T := TX1) (N := 7) hx hb hts iX1 tyX1 tyX1_ok nmX1 hown hK hP hD hS 0 rfl rfl 6 (by decide) f30 (fun _ h9 => h9) rfl (by decide +kernel) (rfl) (rfl) (Nat.le_of_ble_eq_true rfl) dX1_lay_32 (fun H locs hP hD hS => ?_)
  have hP : va_P D vwCl [(a0, .inr (1, [.int 0, .int 0, .int 0, .int zz, .int 0, .int 0, .int 0]))] H := hP
  have hD : va_D A [(a0, .inr (1, [.int 0, .int 0, .int 0, .int zz, .int 0, .int 0, .int 0]))] := hD
  have hP9 := hP.sub (ws' := [(a0, .inr (1, [.int 0, .int 0, .int 0, .int zz, .int 0, .int 0, .int 0]))]) [0] rfl
  have hD9 := hD.sub (ws' := [(a0, .inr (1, [.int 0, .int 0, .int 0, .int zz, .int 0, .int 0, .int 0]))]) [0] (by decide) rfl
  subst hQ
  refine W.widen (k := 0) (n := 0) (Nat.le_of_ble_eq_true rfl) (Nat.le_of_ble_eq_true rfl) ?_
  exact W.vret hx hb hr (fun tS htS _ => ⟨⟨_, rfl, rfl, by rw [htS]; exact hP9, hD9⟩, hS.F htS⟩) hS.2.2 dX1_lay_35
set_option maxHeartbeats 4000000 in
set_option maxRecDepth 100000 in
theorem c_X0_lay (l : Launch) (D : va_G) (g : Nat → ClassId) (sz : Nat) (w0 : Nat) (g0 : Int32) (g1 : Int32) (g2 : Int32) (g3 : Int32) (g4 : Int32) (g5 : Int32) (g6 : Int32) (g7 : Int32) (v0 : Int32) (v1 : Int32) (v2 : Int32) : Met l yX0_lay wsX0_lay ({ frames := 0, cells := 0, slots := 0, locals := 0 }) (va_Pc [.ref w0, .int v0, .int v1, .int v2] (pre D g sz [(w0, .inr (0, [.int g0, .int g1, .int g2, .int g3, .int g4, .int g5, .int g6, .int g7]))])) (va_Qv (fun (u : va_W) => u = [(w0, .inr (0, [.int v0, .int v1, .int v2, .int 0, .int 0, .int 0, .int 0, .int 0]))]) (wd D (va_A [(w0, .inr (0, [.int g0, .int g1, .int g2, .int g3, .int g4, .int g5, .int g6, .int g7]))] sz)) (va_A [(w0, .inr (0, [.int g0, .int g1, .int g2, .int g3, .int g4, .int g5, .int g6, .int g7]))] sz)) 0 0 (va_A [(w0, .inr (0, [.int g0, .int g1, .int g2, .int g3, .int g4, .int g5, .int g6, .int g7]))] sz) := by
  refine Met.ofW (cc := cX0_lay) (maxL := 4) (ret := none) (by decide) rfl ?_
  intro p e s m args below meth c s₁ B hml hv
  obtain ⟨rfl, hsz, hP, ⟨hK, hN⟩, hD0, hZ⟩ := hv
  have hx := B.exec
  have hb := B.bytes
  have hr := B.returns
  have hts := atoms_spec (ws := wsX0_lay) B.pre
  have hown : s.vm.findClass RX0 = some m.cls := findClass_of_methodNamed B.named
  have hlocks := B.notSynchronized
  clear B
  subst hsz
  have hD := hD0.self (sz := s.heap.size)
  clear hD0
  generalize hAe : va_A [(w0, .inr (0, [.int g0, .int g1, .int g2, .int g3, .int g4, .int g5, .int g6, .int g7]))] s.heap.size = A at hD hZ ⊢
  have hA : ∀ q : Nat, s.heap.size ≤ q → A q := fun q h => by rw [← hAe]; exact Or.inr h
  have hS : va_S A s.heap s.heap [] := va_S.rf
  have f13 := hts (.fieldLink RX0 13 "HopCredits$Flow" "start" "I") (by decide +kernel)
  have f16 := hts (.fieldLink RX0 16 "HopCredits$Flow" "takes" "I") (by decide +kernel)
  have f19 := hts (.fieldLink RX0 19 "HopCredits$Flow" "came" "I") (by decide +kernel)
  have f22 := hts (.fieldLink RX0 22 "HopCredits$Flow" "spilt" "I") (by decide +kernel)
  have f25 := hts (.fieldLink RX0 25 "HopCredits$Flow" "delivered" "I") (by decide +kernel)
  have f28 := hts (.fieldLink RX0 28 "HopCredits$Flow" "cameNow" "Z") (by decide +kernel)
  have f32 := hts (.fieldLink RX0 32 "HopCredits$Flow" "deliveredNow" "Z") (by decide +kernel)
  have f7 := hts (.fieldLink RX0 7 "HopCredits$Flow" "gap" "I") (by decide +kernel)
  have iX0 : ∀ w ∈ u_ws RX0 TX0 8, w ∈ wsX0_lay := by decide +kernel
  have hl := lv_entry ([.ref w0, .int v0, .int v1, .int v2]) (n := 4) (Nat.le_of_ble_eq_true rfl)
  rw [lg_entry_eq]
  generalize (lg_sl ([.ref w0, .int v0, .int v1, .int v2]) ++ List.replicate (4 - (lg_sl ([.ref w0, .int v0, .int v1, .int v2])).length) Slot.unset).toArray = ls at hl ⊢
  have hl : lv_has ls 4 [(0, .ref w0), (1, .int v0), (2, .int v1), (3, .int v2)] := hl
  generalize hQ : MQ below _ _ s _ _ _ = Q
  generalize hH : s.heap = H at hP ⊢
  have hS : va_S A s.heap H [] := by rw [← hH]; exact hS
  clear hH
  refine lv_aload_n hx hb dX0_lay_0 rfl (lv_at hl 0 rfl) ?_
  refine lv_iload_n hx hb dX0_lay_1 rfl (lv_at hl 1 rfl) ?_
  refine va_put (D := D) (ci := 0) (v := .int v0) (ty := .int) (C := RX0) (T := TX0) (N := 8) hx hb hts iX0 tyX0 tyX0_ok nmX0 hown hK hP hD hS 0 rfl rfl 0 (by decide) f7 (fun _ h9 => h9) rfl (by decide +kernel) (rfl) (rfl) (Nat.le_of_ble_eq_true rfl) dX0_lay_2 (fun H locs hP hD hS => ?_)
  have hP : va_P D vwCl [(w0, .inr (0, [.int v0, .int g1, .int g2, .int g3, .int g4, .int g5, .int g6, .int g7]))] H := hP
  have hD : va_D A [(w0, .inr (0, [.int v0, .int g1, .int g2, .int g3, .int g4, .int g5, .int g6, .int g7]))] := hD
  refine lv_aload_n hx hb dX0_lay_5 rfl (lv_at hl 0 rfl) ?_
  refine lv_iload_n hx hb dX0_lay_6 rfl (lv_at hl 2 rfl) ?_
  refine va_put (D := D) (ci := 0) (v := .int v1) (ty := .int) (C := RX0) (T := TX0) (N := 8) hx hb hts iX0 tyX0 tyX0_ok nmX0 hown hK hP hD hS 0 rfl rfl 1 (by decide) f13 (fun _ h9 => h9) rfl (by decide +kernel) (rfl) (rfl) (Nat.le_of_ble_eq_true rfl) dX0_lay_7 (fun H locs hP hD hS => ?_)
  have hP : va_P D vwCl [(w0, .inr (0, [.int v0, .int v1, .int g2, .int g3, .int g4, .int g5, .int g6, .int g7]))] H := hP
  have hD : va_D A [(w0, .inr (0, [.int v0, .int v1, .int g2, .int g3, .int g4, .int g5, .int g6, .int g7]))] := hD
  refine lv_aload_n hx hb dX0_lay_10 rfl (lv_at hl 0 rfl) ?_
  refine lv_iload_n hx hb dX0_lay_11 rfl (lv_at hl 3 rfl) ?_
  refine va_put (D := D) (ci := 0) (v := .int v2) (ty := .int) (C := RX0) (T := TX0) (N := 8) hx hb hts iX0 tyX0 tyX0_ok nmX0 hown hK hP hD hS 0 rfl rfl 2 (by decide) f16 (fun _ h9 => h9) rfl (by decide +kernel) (rfl) (rfl) (Nat.le_of_ble_eq_true rfl) dX0_lay_12 (fun H locs hP hD hS => ?_)
  have hP : va_P D vwCl [(w0, .inr (0, [.int v0, .int v1, .int v2, .int g3, .int g4, .int g5, .int g6, .int g7]))] H := hP
  have hD : va_D A [(w0, .inr (0, [.int v0, .int v1, .int v2, .int g3, .int g4, .int g5, .int g6, .int g7]))] := hD
  refine lv_aload_n hx hb dX0_lay_15 rfl (lv_at hl 0 rfl) ?_
  refine lv_iconst (v := 0) hx hb dX0_lay_16 (by decide) ?_
  refine va_put (D := D) (ci := 0) (v := .int 0) (ty := .int) (C := RX0) (T := TX0) (N := 8) hx hb hts iX0 tyX0 tyX0_ok nmX0 hown hK hP hD hS 0 rfl rfl 3 (by decide) f19 (fun _ h9 => h9) rfl (by decide +kernel) (rfl) (rfl) (Nat.le_of_ble_eq_true rfl) dX0_lay_17 (fun H locs hP hD hS => ?_)
  have hP : va_P D vwCl [(w0, .inr (0, [.int v0, .int v1, .int v2, .int 0, .int g4, .int g5, .int g6, .int g7]))] H := hP
  have hD : va_D A [(w0, .inr (0, [.int v0, .int v1, .int v2, .int 0, .int g4, .int g5, .int g6, .int g7]))] := hD
  refine lv_aload_n hx hb dX0_lay_20 rfl (lv_at hl 0 rfl) ?_
  refine lv_iconst (v := 0) hx hb dX0_lay_21 (by decide) ?_
  refine va_put (D := D) (ci := 0) (v := .int 0) (ty := .int) (C := RX0) (T := TX0) (N := 8) hx hb hts iX0 tyX0 tyX0_ok nmX0 hown hK hP hD hS 0 rfl rfl 4 (by decide) f22 (fun _ h9 => h9) rfl (by decide +kernel) (rfl) (rfl) (Nat.le_of_ble_eq_true rfl) dX0_lay_22 (fun H locs hP hD hS => ?_)
  have hP : va_P D vwCl [(w0, .inr (0, [.int v0, .int v1, .int v2, .int 0, .int 0, .int g5, .int g6, .int g7]))] H := hP
  have hD : va_D A [(w0, .inr (0, [.int v0, .int v1, .int v2, .int 0, .int 0, .int g5, .int g6, .int g7]))] := hD
  refine lv_aload_n hx hb dX0_lay_25 rfl (lv_at hl 0 rfl) ?_
  refine lv_iconst (v := 0) hx hb dX0_lay_26 (by decide) ?_
  refine va_put (D := D) (ci := 0) (v := .int 0) (ty := .int) (C := RX0) (T := TX0) (N := 8) hx hb hts iX0 tyX0 tyX0_ok nmX0 hown hK hP hD hS 0 rfl rfl 5 (by decide) f25 (fun _ h9 => h9) rfl (by decide +kernel) (rfl) (rfl) (Nat.le_of_ble_eq_true rfl) dX0_lay_27 (fun H locs hP hD hS => ?_)
  have hP : va_P D vwCl [(w0, .inr (0, [.int v0, .int v1, .int v2, .int 0, .int 0, .int 0, .int g6, .int g7]))] H := hP
  have hD : va_D A [(w0, .inr (0, [.int v0, .int v1, .int v2, .int 0, .int 0, .int 0, .int g6, .int g7]))] := hD
  refine lv_aload_n hx hb dX0_lay_30 rfl (lv_at hl 0 rfl) ?_
  refine lv_iconst (v := 0) hx hb dX0_lay_31 (by decide) ?_
  refine va_put (D := D) (ci := 0) (v := .int 0) (ty := .boolean) (C := RX0) (T := TX0) (N := 8) hx hb hts iX0 tyX0 tyX0_ok nmX0 hown hK hP hD hS 0 rfl rfl 6 (by decide) f28 (fun _ h9 => h9) rfl (by decide +kernel) (rfl) (rfl) (Nat.le_of_ble_eq_true rfl) dX0_lay_32 (fun H locs hP hD hS => ?_)
  have hP : va_P D vwCl [(w0, .inr (0, [.int v0, .int v1, .int v2, .int 0, .int 0, .int 0, .int 0, .int g7]))] H := hP
  have hD : va_D A [(w0, .inr (0, [.int v0, .int v1, .int v2, .int 0, .int 0, .int 0, .int 0, .int g7]))] := hD
  refine lv_aload_n hx hb dX0_lay_35 rfl (lv_at hl 0 rfl) ?_
  refine lv_iconst (v := 0) hx hb dX0_lay_36 (by decide) ?_
  refine va_put (D := D) (ci := 0) (v := .int 0) (ty := .boolean) (C := RX0) (T := TX0) (N := 8) hx hb hts iX0 tyX0 tyX0_ok nmX0 hown hK hP hD hS 0 rfl rfl 7 (by decide) f32 (fun _ h9 => h9) rfl (by decide +kernel) (rfl) (rfl) (Nat.le_of_ble_eq_true rfl) dX0_lay_37 (fun H locs hP hD hS => ?_)
  have hP : va_P D vwCl [(w0, .inr (0, [.int v0, .int v1, .int v2, .int 0, .int 0, .int 0, .int 0, .int 0]))] H := hP
  have hD : va_D A [(w0, .inr (0, [.int v0, .int v1, .int v2, .int 0, .int 0, .int 0, .int 0, .int 0]))] := hD
  have hP9 := hP.sub (ws' := [(w0, .inr (0, [.int v0, .int v1, .int v2, .int 0, .int 0, .int 0, .int 0, .int 0]))]) [0] rfl
  have hD9 := hD.sub (ws' := [(w0, .inr (0, [.int v0, .int v1, .int v2, .int 0, .int 0, .int 0, .int 0, .int 0]))]) [0] (by decide) rfl
  subst hQ
  refine W.widen (k := 0) (n := 0) (Nat.le_of_ble_eq_true rfl) (Nat.le_of_ble_eq_true rfl) ?_
  exact W.vret hx hb hr (fun tS htS _ => ⟨⟨_, rfl, rfl, by rw [htS]; exact hP9, hD9⟩, hS.F htS⟩) hS.2.2 dX0_lay_40
set_option maxHeartbeats 4000000 in
set_option maxRecDepth 100000 in
theorem c_X3_layRules (l : Launch) (D : va_G) (g : Nat → ClassId) (sz : Nat) (n : Nat) (n0 : Int32) (n1 : Int32) (n2 : Int32) (n3 : Int32) (n4 : Int32) (n5 : Int32) (n6 : Int32) (n7 : Int32) (nl : Nat) (nf : Nat) (nb : Nat) (fb : Nat → Int32) (v0 : Int32) (v1 : Int32) (v2 : Int32) : Met l yX3_layRules wsX3_layRules ({ frames := 0, cells := 0, slots := 0, locals := 0 }) (va_Pc [.ref n, .int v0, .int v1, .int v2] (pre D g sz [(n, .inr (3, [.int n0, .int n1, .int n2, .int n3, .int n4, .int n5, .int n6, .int n7, .ref nl, .ref nf, .ref nb])), (nb, .inl (g 0, 12, .inl fb))])) (va_Qv (fun (u : va_W) => ∃ (fb2 : Nat → Int32), u = [(n, .inr (3, [.int v0, .int v1, .int v2, .int 0, .int 0, .int 0, .int 0, .int 0, .ref nl, .ref nf, .ref nb])), (nb, .inl (g 0, 12, .inl fb2))] ∧ (∀ j, j < 12 → fb2 j = 0)) (wd D (va_A [(n, .inr (3, [.int n0, .int n1, .int n2, .int n3, .int n4, .int n5, .int n6, .int n7, .ref nl, .ref nf, .ref nb])), (nb, .inl (g 0, 12, .inl fb))] sz)) (va_A [(n, .inr (3, [.int n0, .int n1, .int n2, .int n3, .int n4, .int n5, .int n6, .int n7, .ref nl, .ref nf, .ref nb])), (nb, .inl (g 0, 12, .inl fb))] sz)) 0 0 (va_A [(n, .inr (3, [.int n0, .int n1, .int n2, .int n3, .int n4, .int n5, .int n6, .int n7, .ref nl, .ref nf, .ref nb])), (nb, .inl (g 0, 12, .inl fb))] sz) := by
  refine Met.ofW (cc := cX3_layRules) (maxL := 5) (ret := none) (by decide) rfl ?_
  intro p e s m args below meth c s₁ B hml hv
  obtain ⟨rfl, hsz, hP, ⟨hK, hN⟩, hD0, hZ⟩ := hv
  have hx := B.exec
  have hb := B.bytes
  have hr := B.returns
  have hts := atoms_spec (ws := wsX3_layRules) B.pre
  have hown : s.vm.findClass RX3 = some m.cls := findClass_of_methodNamed B.named
  have hlocks := B.notSynchronized
  clear B
  subst hsz
  have hD := hD0.self (sz := s.heap.size)
  clear hD0
  generalize hAe : va_A [(n, .inr (3, [.int n0, .int n1, .int n2, .int n3, .int n4, .int n5, .int n6, .int n7, .ref nl, .ref nf, .ref nb])), (nb, .inl (g 0, 12, .inl fb))] s.heap.size = A at hD hZ ⊢
  have hA : ∀ q : Nat, s.heap.size ≤ q → A q := fun q h => by rw [← hAe]; exact Or.inr h
  have hS : va_S A s.heap s.heap [] := va_S.rf
  have f23 := hts (.fieldLink RX3 23 "HopCredits$Net" "buffers" "[I") (by decide +kernel)
  have f46 := hts (.fieldLink RX3 46 "HopCredits$Net" "adapts" "I") (by decide +kernel)
  have f50 := hts (.fieldLink RX3 50 "HopCredits$Net" "probes" "I") (by decide +kernel)
  have f53 := hts (.fieldLink RX3 53 "HopCredits$Net" "hops" "I") (by decide +kernel)
  have f59 := hts (.fieldLink RX3 59 "HopCredits$Net" "reserve" "I") (by decide +kernel)
  have f62 := hts (.fieldLink RX3 62 "HopCredits$Net" "circuits" "I") (by decide +kernel)
  have f78 := hts (.fieldLink RX3 78 "HopCredits$Net" "tick" "I") (by decide +kernel)
  have f81 := hts (.fieldLink RX3 81 "HopCredits$Net" "lost" "I") (by decide +kernel)
  have f84 := hts (.fieldLink RX3 84 "HopCredits$Net" "probesSent" "I") (by decide +kernel)
  have iX3 : ∀ w ∈ u_ws RX3 TX3 11, w ∈ wsX3_layRules := by decide +kernel
  have hl := lv_entry ([.ref n, .int v0, .int v1, .int v2]) (n := 5) (Nat.le_of_ble_eq_true rfl)
  rw [lg_entry_eq]
  generalize (lg_sl ([.ref n, .int v0, .int v1, .int v2]) ++ List.replicate (5 - (lg_sl ([.ref n, .int v0, .int v1, .int v2])).length) Slot.unset).toArray = ls at hl ⊢
  have hl : lv_has ls 5 [(0, .ref n), (1, .int v0), (2, .int v1), (3, .int v2)] := hl
  generalize hQ : MQ below _ _ s _ _ _ = Q
  generalize hH : s.heap = H at hP ⊢
  have hS : va_S A s.heap H [] := by rw [← hH]; exact hS
  clear hH
  refine lv_aload_n hx hb dX3_layRules_0 rfl (lv_at hl 0 rfl) ?_
  refine lv_iload_n hx hb dX3_layRules_1 rfl (lv_at hl 1 rfl) ?_
  refine va_put (D := D) (ci := 3) (v := .int v0) (ty := .int) (C := RX3) (T := TX3) (N := 11) hx hb hts iX3 tyX3 tyX3_ok nmX3 hown hK hP hD hS 0 rfl rfl 0 (by decide) f53 (fun _ h9 => h9) rfl (by decide +kernel) (rfl) (rfl) (Nat.le_of_ble_eq_true rfl) dX3_layRules_2 (fun H locs hP hD hS => ?_)
  have hP : va_P D vwCl [(n, .inr (3, [.int v0, .int n1, .int n2, .int n3, .int n4, .int n5, .int n6, .int n7, .ref nl, .ref nf, .ref nb])), (nb, .inl (g 0, 12, .inl fb))] H := hP
  have hD : va_D A [(n, .inr (3, [.int v0, .int n1, .int n2, .int n3, .int n4, .int n5, .int n6, .int n7, .ref nl, .ref nf, .ref nb])), (nb, .inl (g 0, 12, .inl fb))] := hD
  refine lv_aload_n hx hb dX3_layRules_5 rfl (lv_at hl 0 rfl) ?_
  refine lv_iload_n hx hb dX3_layRules_6 rfl (lv_at hl 2 rfl) ?_
  refine va_put (D := D) (ci := 3) (v := .int v1) (ty := .int) (C := RX3) (T := TX3) (N := 11) hx hb hts iX3 tyX3 tyX3_ok nmX3 hown hK hP hD hS 0 rfl rfl 1 (by decide) f62 (fun _ h9 => h9) rfl (by decide +kernel) (rfl) (rfl) (Nat.le_of_ble_eq_true rfl) dX3_layRules_7 (fun H locs hP hD hS => ?_)
  have hP : va_P D vwCl [(n, .inr (3, [.int v0, .int v1, .int n2, .int n3, .int n4, .int n5, .int n6, .int n7, .ref nl, .ref nf, .ref nb])), (nb, .inl (g 0, 12, .inl fb))] H := hP
  have hD : va_D A [(n, .inr (3, [.int v0, .int v1, .int n2, .int n3, .int n4, .int n5, .int n6, .int n7, .ref nl, .ref nf, .ref nb])), (nb, .inl (g 0, 12, .inl fb))] := hD
  refine lv_aload_n hx hb dX3_layRules_10 rfl (lv_at hl 0 rfl) ?_
  refine lv_iload_n hx hb dX3_layRules_11 rfl (lv_at hl 3 rfl) ?_
  refine va_put (D := D) (ci := 3) (v := .int v2) (ty := .int) (C := RX3) (T := TX3) (N := 11) hx hb hts iX3 tyX3 tyX3_ok nmX3 hown hK hP hD hS 0 rfl rfl 2 (by decide) f59 (fun _ h9 => h9) rfl (by decide +kernel) (rfl) (rfl) (Nat.le_of_ble_eq_true rfl) dX3_layRules_12 (fun H locs hP hD hS => ?_)
  have hP : va_P D vwCl [(n, .inr (3, [.int v0, .int v1, .int v2, .int n3, .int n4, .int n5, .int n6, .int n7, .ref nl, .ref nf, .ref nb])), (nb, .inl (g 0, 12, .inl fb))] H := hP
  have hD : va_D A [(n, .inr (3, [.int v0, .int v1, .int v2, .int n3, .int n4, .int n5, .int n6, .int n7, .ref nl, .ref nf, .ref nb])), (nb, .inl (g 0, 12, .inl fb))] := hD
  refine lv_aload_n hx hb dX3_layRules_15 rfl (lv_at hl 0 rfl) ?_
  refine lv_iconst (v := 0) hx hb dX3_layRules_16 (by decide) ?_
  refine va_put (D := D) (ci := 3) (v := .int 0) (ty := .int) (C := RX3) (T := TX3) (N := 11) hx hb hts iX3 tyX3 tyX3_ok nmX3 hown hK hP hD hS 0 rfl rfl 3 (by decide) f46 (fun _ h9 => h9) rfl (by decide +kernel) (rfl) (rfl) (Nat.le_of_ble_eq_true rfl) dX3_layRules_17 (fun H locs hP hD hS => ?_)
  have hP : va_P D vwCl [(n, .inr (3, [.int v0, .int v1, .int v2, .int 0, .int n4, .int n5, .int n6, .int n7, .ref nl, .ref nf, .ref nb])), (nb, .inl (g 0, 12, .inl fb))] H := hP
  have hD : va_D A [(n, .inr (3, [.int v0, .int v1, .int v2, .int 0, .int n4, .int n5, .int n6, .int n7, .ref nl, .ref nf, .ref nb])), (nb, .inl (g 0, 12, .inl fb))] := hD
  refine lv_aload_n hx hb dX3_layRules_20 rfl (lv_at hl 0 rfl) ?_
  refine lv_iconst (v := 0) hx hb dX3_layRules_21 (by decide) ?_
  refine va_put (D := D) (ci := 3) (v := .int 0) (ty := .int) (C := RX3) (T := TX3) (N := 11) hx hb hts iX3 tyX3 tyX3_ok nmX3 hown hK hP hD hS 0 rfl rfl 4 (by decide) f50 (fun _ h9 => h9) rfl (by decide +kernel) (rfl) (rfl) (Nat.le_of_ble_eq_true rfl) dX3_layRules_22 (fun H locs hP hD hS => ?_)
  have hP : va_P D vwCl [(n, .inr (3, [.int v0, .int v1, .int v2, .int 0, .int 0, .int n5, .int n6, .int n7, .ref nl, .ref nf, .ref nb])), (nb, .inl (g 0, 12, .inl fb))] H := hP
  have hD : va_D A [(n, .inr (3, [.int v0, .int v1, .int v2, .int 0, .int 0, .int n5, .int n6, .int n7, .ref nl, .ref nf, .ref nb])), (nb, .inl (g 0, 12, .inl fb))] := hD
  refine lv_aload_n hx hb dX3_layRules_25 rfl (lv_at hl 0 rfl) ?_
  refine lv_iconst (v := 0) hx hb dX3_layRules_26 (by decide) ?_
  refine va_put (D := D) (ci := 3) (v := .int 0) (ty := .int) (C := RX3) (T := TX3) (N := 11) hx hb hts iX3 tyX3 tyX3_ok nmX3 hown hK hP hD hS 0 rfl rfl 5 (by decide) f78 (fun _ h9 => h9) rfl (by decide +kernel) (rfl) (rfl) (Nat.le_of_ble_eq_true rfl) dX3_layRules_27 (fun H locs hP hD hS => ?_)
  have hP : va_P D vwCl [(n, .inr (3, [.int v0, .int v1, .int v2, .int 0, .int 0, .int 0, .int n6, .int n7, .ref nl, .ref nf, .ref nb])), (nb, .inl (g 0, 12, .inl fb))] H := hP
  have hD : va_D A [(n, .inr (3, [.int v0, .int v1, .int v2, .int 0, .int 0, .int 0, .int n6, .int n7, .ref nl, .ref nf, .ref nb])), (nb, .inl (g 0, 12, .inl fb))] := hD
  refine lv_aload_n hx hb dX3_layRules_30 rfl (lv_at hl 0 rfl) ?_
  refine lv_iconst (v := 0) hx hb dX3_layRules_31 (by decide) ?_
  refine va_put (D := D) (ci := 3) (v := .int 0) (ty := .int) (C := RX3) (T := TX3) (N := 11) hx hb hts iX3 tyX3 tyX3_ok nmX3 hown hK hP hD hS 0 rfl rfl 6 (by decide) f81 (fun _ h9 => h9) rfl (by decide +kernel) (rfl) (rfl) (Nat.le_of_ble_eq_true rfl) dX3_layRules_32 (fun H locs hP hD hS => ?_)
  have hP : va_P D vwCl [(n, .inr (3, [.int v0, .int v1, .int v2, .int 0, .int 0, .int 0, .int 0, .int n7, .ref nl, .ref nf, .ref nb])), (nb, .inl (g 0, 12, .inl fb))] H := hP
  have hD : va_D A [(n, .inr (3, [.int v0, .int v1, .int v2, .int 0, .int 0, .int 0, .int 0, .int n7, .ref nl, .ref nf, .ref nb])), (nb, .inl (g 0, 12, .inl fb))] := hD
  refine lv_aload_n hx hb dX3_layRules_35 rfl (lv_at hl 0 rfl) ?_
  refine lv_iconst (v := 0) hx hb dX3_layRules_36 (by decide) ?_
  refine va_put (D := D) (ci := 3) (v := .int 0) (ty := .int) (C := RX3) (T := TX3) (N := 11) hx hb hts iX3 tyX3 tyX3_ok nmX3 hown hK hP hD hS 0 rfl rfl 7 (by decide) f84 (fun _ h9 => h9) rfl (by decide +kernel) (rfl) (rfl) (Nat.le_of_ble_eq_true rfl) dX3_layRules_37 (fun H locs hP hD hS => ?_)
  have hP : va_P D vwCl [(n, .inr (3, [.int v0, .int v1, .int v2, .int 0, .int 0, .int 0, .int 0, .int 0, .ref nl, .ref nf, .ref nb])), (nb, .inl (g 0, 12, .inl fb))] H := hP
  have hD : va_D A [(n, .inr (3, [.int v0, .int v1, .int v2, .int 0, .int 0, .int 0, .int 0, .int 0, .ref nl, .ref nf, .ref nb])), (nb, .inl (g 0, 12, .inl fb))] := hD
  refine lv_iconst (v := 0) hx hb dX3_layRules_40 (by decide) ?_
  refine lv_istore (lv' := [(4, .int 0), (0, .ref n), (1, .int v0), (2, .int v1), (3, .int v2)]) hx hb dX3_layRules_41 hl (by decide) rfl (fun ls hl => ?_)
  refine lv_iload hx hb dX3_layRules_43 (lv_at hl 0 rfl) ?_
  refine lv_aload_n hx hb dX3_layRules_45 rfl (lv_at hl 1 rfl) ?_
  refine va_get (D := D) (ci := 3) (v := .ref nb) (C := RX3) (T := TX3) (N := 11) hx hb hts iX3 hown hK hP 0 rfl rfl 10 (by decide) f23 (fun _ h9 => h9) rfl dX3_layRules_46 ?_
  refine va_alen (v := 12) hx hb hK hP 1 0 rfl rfl rfl dX3_layRules_49 ?_
  refine lv_icmp_ge (tgt := 67) hx hb dX3_layRules_50 (by decide) (fun cb => absurd cb (by decide)) (fun _ => ?_)
  refine lv_aload_n hx hb dX3_layRules_53 rfl (lv_at hl 1 rfl) ?_
  refine va_get (D := D) (ci := 3) (v := .ref nb) (C := RX3) (T := TX3) (N := 11) hx hb hts iX3 hown hK hP 0 rfl rfl 10 (by decide) f23 (fun _ h9 => h9) rfl dX3_layRules_54 ?_
  refine lv_iload hx hb dX3_layRules_57 (lv_at hl 0 rfl) ?_
  refine lv_iconst (v := 0) hx hb dX3_layRules_59 (by decide) ?_
  refine va_iast hx hb hK hP hD hS 1 0 rfl rfl (by unfold vp_in; decide) dX3_layRules_60 (fun H locs hP hD hS => ?_)
  have hP : va_P D vwCl [(n, .inr (3, [.int v0, .int v1, .int v2, .int 0, .int 0, .int 0, .int 0, .int 0, .ref nl, .ref nf, .ref nb])), (nb, .inl (g 0, 12, .inl (upd fb 0 0)))] H := hP
  have hD : va_D A [(n, .inr (3, [.int v0, .int v1, .int v2, .int 0, .int 0, .int 0, .int 0, .int 0, .ref nl, .ref nf, .ref nb])), (nb, .inl (g 0, 12, .inl (upd fb 0 0)))] := hD
  refine lv_iinc (v := 1) (lv' := [(4, .int 1), (0, .ref n), (1, .int v0), (2, .int v1), (3, .int v2)]) hx hb dX3_layRules_61 hl (k := 0) rfl (by decide) (by decide) rfl (fun ls hl => ?_)
  refine lv_goto (tgt := 43) hx hb dX3_layRules_64 (by decide) ?_
  refine lv_iload hx hb dX3_layRules_43 (lv_at hl 0 rfl) ?_
  refine lv_aload_n hx hb dX3_layRules_45 rfl (lv_at hl 1 rfl) ?_
  refine va_get (D := D) (ci := 3) (v := .ref nb) (C := RX3) (T := TX3) (N := 11) hx hb hts iX3 hown hK hP 0 rfl rfl 10 (by decide) f23 (fun _ h9 => h9) rfl dX3_layRules_46 ?_
  refine va_alen (v := 12) hx hb hK hP 1 0 rfl rfl rfl dX3_layRules_49 ?_
  refine lv_icmp_ge (tgt := 67) hx hb dX3_layRules_50 (by decide) (fun cb => absurd cb (by decide)) (fun _ => ?_)
  refine lv_aload_n hx hb dX3_layRules_53 rfl (lv_at hl 1 rfl) ?_
  refine va_get (D := D) (ci := 3) (v := .ref nb) (C := RX3) (T := TX3) (N := 11) hx hb hts iX3 hown hK hP 0 rfl rfl 10 (by decide) f23 (fun _ h9 => h9) rfl dX3_layRules_54 ?_
  refine lv_iload hx hb dX3_layRules_57 (lv_at hl 0 rfl) ?_
  refine lv_iconst (v := 0) hx hb dX3_layRules_59 (by decide) ?_
  refine va_iast hx hb hK hP hD hS 1 0 rfl rfl (by unfold vp_in; decide) dX3_layRules_60 (fun H locs hP hD hS => ?_)
  have hP : va_P D vwCl [(n, .inr (3, [.int v0, .int v1, .int v2, .int 0, .int 0, .int 0, .int 0, .int 0, .ref nl, .ref nf, .ref nb])), (nb, .inl (g 0, 12, .inl (upd (upd fb 0 0) 1 0)))] H := hP
  have hD : va_D A [(n, .inr (3, [.int v0, .int v1, .int v2, .int 0, .int 0, .int 0, .int 0, .int 0, .ref nl, .ref nf, .ref nb])), (nb, .inl (g 0, 12, .inl (upd (upd fb 0 0) 1 0)))] := hD
  refine lv_iinc (v := 2) (lv' := [(4, .int 2), (0, .ref n), (1, .int v0), (2, .int v1), (3, .int v2)]) hx hb dX3_layRules_61 hl (k := 0) rfl (by decide) (by decide) rfl (fun ls hl => ?_)
  refine lv_goto (tgt := 43) hx hb dX3_layRules_64 (by decide) ?_
  refine lv_iload hx hb dX3_layRules_43 (lv_at hl 0 rfl) ?_
  refine lv_aload_n hx hb dX3_layRules_45 rfl (lv_at hl 1 rfl) ?_
  refine va_get (D := D) (ci := 3) (v := .ref nb) (C := RX3) (T := TX3) (N := 11) hx hb hts iX3 hown hK hP 0 rfl rfl 10 (by decide) f23 (fun _ h9 => h9) rfl dX3_layRules_46 ?_
  refine va_alen (v := 12) hx hb hK hP 1 0 rfl rfl rfl dX3_layRules_49 ?_
  refine lv_icmp_ge (tgt := 67) hx hb dX3_layRules_50 (by decide) (fun cb => absurd cb (by decide)) (fun _ => ?_)
  refine lv_aload_n hx hb dX3_layRules_53 rfl (lv_at hl 1 rfl) ?_
  refine va_get (D := D) (ci := 3) (v := .ref nb) (C := RX3) (T := TX3) (N := 11) hx hb hts iX3 hown hK hP 0 rfl rfl 10 (by decide) f23 (fun _ h9 => h9) rfl dX3_layRules_54 ?_
  refine lv_iload hx hb dX3_layRules_57 (lv_at hl 0 rfl) ?_
  refine lv_iconst (v := 0) hx hb dX3_layRules_59 (by decide) ?_
  refine va_iast hx hb hK hP hD hS 1 0 rfl rfl (by unfold vp_in; decide) dX3_layRules_60 (fun H locs hP hD hS => ?_)
  have hP : va_P D vwCl [(n, .inr (3, [.int v0, .int v1, .int v2, .int 0, .int 0, .int 0, .int 0, .int 0, .ref nl, .ref nf, .ref nb])), (nb, .inl (g 0, 12, .inl (upd (upd (upd fb 0 0) 1 0) 2 0)))] H := hP
  have hD : va_D A [(n, .inr (3, [.int v0, .int v1, .int v2, .int 0, .int 0, .int 0, .int 0, .int 0, .ref nl, .ref nf, .ref nb])), (nb, .inl (g 0, 12, .inl (upd (upd (upd fb 0 0) 1 0) 2 0)))] := hD
  refine lv_iinc (v := 3) (lv' := [(4, .int 3), (0, .ref n), (1, .int v0), (2, .int v1), (3, .int v2)]) hx hb dX3_layRules_61 hl (k := 0) rfl (by decide) (by decide) rfl (fun ls hl => ?_)
  refine lv_goto (tgt := 43) hx hb dX3_layRules_64 (by decide) ?_
  refine lv_iload hx hb dX3_layRules_43 (lv_at hl 0 rfl) ?_
  refine lv_aload_n hx hb dX3_layRules_45 rfl (lv_at hl 1 rfl) ?_
  refine va_get (D := D) (ci := 3) (v := .ref nb) (C := RX3) (T := TX3) (N := 11) hx hb hts iX3 hown hK hP 0 rfl rfl 10 (by decide) f23 (fun _ h9 => h9) rfl dX3_layRules_46 ?_
  refine va_alen (v := 12) hx hb hK hP 1 0 rfl rfl rfl dX3_layRules_49 ?_
  refine lv_icmp_ge (tgt := 67) hx hb dX3_layRules_50 (by decide) (fun cb => absurd cb (by decide)) (fun _ => ?_)
  refine lv_aload_n hx hb dX3_layRules_53 rfl (lv_at hl 1 rfl) ?_
  refine va_get (D := D) (ci := 3) (v := .ref nb) (C := RX3) (T := TX3) (N := 11) hx hb hts iX3 hown hK hP 0 rfl rfl 10 (by decide) f23 (fun _ h9 => h9) rfl dX3_layRules_54 ?_
  refine lv_iload hx hb dX3_layRules_57 (lv_at hl 0 rfl) ?_
  refine lv_iconst (v := 0) hx hb dX3_layRules_59 (by decide) ?_
  refine va_iast hx hb hK hP hD hS 1 0 rfl rfl (by unfold vp_in; decide) dX3_layRules_60 (fun H locs hP hD hS => ?_)
  have hP : va_P D vwCl [(n, .inr (3, [.int v0, .int v1, .int v2, .int 0, .int 0, .int 0, .int 0, .int 0, .ref nl, .ref nf, .ref nb])), (nb, .inl (g 0, 12, .inl (upd (upd (upd (upd fb 0 0) 1 0) 2 0) 3 0)))] H := hP
  have hD : va_D A [(n, .inr (3, [.int v0, .int v1, .int v2, .int 0, .int 0, .int 0, .int 0, .int 0, .ref nl, .ref nf, .ref nb])), (nb, .inl (g 0, 12, .inl (upd (upd (upd (upd fb 0 0) 1 0) 2 0) 3 0)))] := hD
  refine lv_iinc (v := 4) (lv' := [(4, .int 4), (0, .ref n), (1, .int v0), (2, .int v1), (3, .int v2)]) hx hb dX3_layRules_61 hl (k := 0) rfl (by decide) (by decide) rfl (fun ls hl => ?_)
  refine lv_goto (tgt := 43) hx hb dX3_layRules_64 (by decide) ?_
  refine lv_iload hx hb dX3_layRules_43 (lv_at hl 0 rfl) ?_
  refine lv_aload_n hx hb dX3_layRules_45 rfl (lv_at hl 1 rfl) ?_
  refine va_get (D := D) (ci := 3) (v := .ref nb) (C := RX3) (T := TX3) (N := 11) hx hb hts iX3 hown hK hP 0 rfl rfl 10 (by decide) f23 (fun _ h9 => h9) rfl dX3_layRules_46 ?_
  refine va_alen (v := 12) hx hb hK hP 1 0 rfl rfl rfl dX3_layRules_49 ?_
  refine lv_icmp_ge (tgt := 67) hx hb dX3_layRules_50 (by decide) (fun cb => absurd cb (by decide)) (fun _ => ?_)
  refine lv_aload_n hx hb dX3_layRules_53 rfl (lv_at hl 1 rfl) ?_
  refine va_get (D := D) (ci := 3) (v := .ref nb) (C := RX3) (T := TX3) (N := 11) hx hb hts iX3 hown hK hP 0 rfl rfl 10 (by decide) f23 (fun _ h9 => h9) rfl dX3_layRules_54 ?_
  refine lv_iload hx hb dX3_layRules_57 (lv_at hl 0 rfl) ?_
  refine lv_iconst (v := 0) hx hb dX3_layRules_59 (by decide) ?_
  refine va_iast hx hb hK hP hD hS 1 0 rfl rfl (by unfold vp_in; decide) dX3_layRules_60 (fun H locs hP hD hS => ?_)
  have hP : va_P D vwCl [(n, .inr (3, [.int v0, .int v1, .int v2, .int 0, .int 0, .int 0, .int 0, .int 0, .ref nl, .ref nf, .ref nb])), (nb, .inl (g 0, 12, .inl (upd (upd (upd (upd (upd fb 0 0) 1 0) 2 0) 3 0) 4 0)))] H := hP
  have hD : va_D A [(n, .inr (3, [.int v0, .int v1, .int v2, .int 0, .int 0, .int 0, .int 0, .int 0, .ref nl, .ref nf, .ref nb])), (nb, .inl (g 0, 12, .inl (upd (upd (upd (upd (upd fb 0 0) 1 0) 2 0) 3 0) 4 0)))] := hD
  refine lv_iinc (v := 5) (lv' := [(4, .int 5), (0, .ref n), (1, .int v0), (2, .int v1), (3, .int v2)]) hx hb dX3_layRules_61 hl (k := 0) rfl (by decide) (by decide) rfl (fun ls hl => ?_)
  refine lv_goto (tgt := 43) hx hb dX3_layRules_64 (by decide) ?_
  refine lv_iload hx hb dX3_layRules_43 (lv_at hl 0 rfl) ?_
  refine lv_aload_n hx hb dX3_layRules_45 rfl (lv_at hl 1 rfl) ?_
  refine va_get (D := D) (ci := 3) (v := .ref nb) (C := RX3) (T := TX3) (N := 11) hx hb hts iX3 hown hK hP 0 rfl rfl 10 (by decide) f23 (fun _ h9 => h9) rfl dX3_layRules_46 ?_
  refine va_alen (v := 12) hx hb hK hP 1 0 rfl rfl rfl dX3_layRules_49 ?_
  refine lv_icmp_ge (tgt := 67) hx hb dX3_layRules_50 (by decide) (fun cb => absurd cb (by decide)) (fun _ => ?_)
  refine lv_aload_n hx hb dX3_layRules_53 rfl (lv_at hl 1 rfl) ?_
  refine va_get (D := D) (ci := 3) (v := .ref nb) (C := RX3) (T := TX3) (N := 11) hx hb hts iX3 hown hK hP 0 rfl rfl 10 (by decide) f23 (fun _ h9 => h9) rfl dX3_layRules_54 ?_
  refine lv_iload hx hb dX3_layRules_57 (lv_at hl 0 rfl) ?_
  refine lv_iconst (v := 0) hx hb dX3_layRules_59 (by decide) ?_
  refine va_iast hx hb hK hP hD hS 1 0 rfl rfl (by unfold vp_in; decide) dX3_layRules_60 (fun H locs hP hD hS => ?_)
  have hP : va_P D vwCl [(n, .inr (3, [.int v0, .int v1, .int v2, .int 0, .int 0, .int 0, .int 0, .int 0, .ref nl, .ref nf, .ref nb])), (nb, .inl (g 0, 12, .inl (upd (upd (upd (upd (upd (upd fb 0 0) 1 0) 2 0) 3 0) 4 0) 5 0)))] H := hP
  have hD : va_D A [(n, .inr (3, [.int v0, .int v1, .int v2, .int 0, .int 0, .int 0, .int 0, .int 0, .ref nl, .ref nf, .ref nb])), (nb, .inl (g 0, 12, .inl (upd (upd (upd (upd (upd (upd fb 0 0) 1 0) 2 0) 3 0) 4 0) 5 0)))] := hD
  refine lv_iinc (v := 6) (lv' := [(4, .int 6), (0, .ref n), (1, .int v0), (2, .int v1), (3, .int v2)]) hx hb dX3_layRules_61 hl (k := 0) rfl (by decide) (by decide) rfl (fun ls hl => ?_)
  refine lv_goto (tgt := 43) hx hb dX3_layRules_64 (by decide) ?_
  refine lv_iload hx hb dX3_layRules_43 (lv_at hl 0 rfl) ?_
  refine lv_aload_n hx hb dX3_layRules_45 rfl (lv_at hl 1 rfl) ?_
  refine va_get (D := D) (ci := 3) (v := .ref nb) (C := RX3) (T := TX3) (N := 11) hx hb hts iX3 hown hK hP 0 rfl rfl 10 (by decide) f23 (fun _ h9 => h9) rfl dX3_layRules_46 ?_
  refine va_alen (v := 12) hx hb hK hP 1 0 rfl rfl rfl dX3_layRules_49 ?_
  refine lv_icmp_ge (tgt := 67) hx hb dX3_layRules_50 (by decide) (fun cb => absurd cb (by decide)) (fun _ => ?_)
  refine lv_aload_n hx hb dX3_layRules_53 rfl (lv_at hl 1 rfl) ?_
  refine va_get (D := D) (ci := 3) (v := .ref nb) (C := RX3) (T := TX3) (N := 11) hx hb hts iX3 hown hK hP 0 rfl rfl 10 (by decide) f23 (fun _ h9 => h9) rfl dX3_layRules_54 ?_
  refine lv_iload hx hb dX3_layRules_57 (lv_at hl 0 rfl) ?_
  refine lv_iconst (v := 0) hx hb dX3_layRules_59 (by decide) ?_
  refine va_iast hx hb hK hP hD hS 1 0 rfl rfl (by unfold vp_in; decide) dX3_layRules_60 (fun H locs hP hD hS => ?_)
  have hP : va_P D vwCl [(n, .inr (3, [.int v0, .int v1, .int v2, .int 0, .int 0, .int 0, .int 0, .int 0, .ref nl, .ref nf, .ref nb])), (nb, .inl (g 0, 12, .inl (upd (upd (upd (upd (upd (upd (upd fb 0 0) 1 0) 2 0) 3 0) 4 0) 5 0) 6 0)))] H := hP
  have hD : va_D A [(n, .inr (3, [.int v0, .int v1, .int v2, .int 0, .int 0, .int 0, .int 0, .int 0, .ref nl, .ref nf, .ref nb])), (nb, .inl (g 0, 12, .inl (upd (upd (upd (upd (upd (upd (upd fb 0 0) 1 0) 2 0) 3 0) 4 0) 5 0) 6 0)))] := hD
  refine lv_iinc (v := 7) (lv' := [(4, .int 7), (0, .ref n), (1, .int v0), (2, .int v1), (3, .int v2)]) hx hb dX3_layRules_61 hl (k := 0) rfl (by decide) (by decide) rfl (fun ls hl => ?_)
  refine lv_goto (tgt := 43) hx hb dX3_layRules_64 (by decide) ?_
  refine lv_iload hx hb dX3_layRules_43 (lv_at hl 0 rfl) ?_
  refine lv_aload_n hx hb dX3_layRules_45 rfl (lv_at hl 1 rfl) ?_
  refine va_get (D := D) (ci := 3) (v := .ref nb) (C := RX3) (T := TX3) (N := 11) hx hb hts iX3 hown hK hP 0 rfl rfl 10 (by decide) f23 (fun _ h9 => h9) rfl dX3_layRules_46 ?_
  refine va_alen (v := 12) hx hb hK hP 1 0 rfl rfl rfl dX3_layRules_49 ?_
  refine lv_icmp_ge (tgt := 67) hx hb dX3_layRules_50 (by decide) (fun cb => absurd cb (by decide)) (fun _ => ?_)
  refine lv_aload_n hx hb dX3_layRules_53 rfl (lv_at hl 1 rfl) ?_
  refine va_get (D := D) (ci := 3) (v := .ref nb) (C := RX3) (T := TX3) (N := 11) hx hb hts iX3 hown hK hP 0 rfl rfl 10 (by decide) f23 (fun _ h9 => h9) rfl dX3_layRules_54 ?_
  refine lv_iload hx hb dX3_layRules_57 (lv_at hl 0 rfl) ?_
  refine lv_iconst (v := 0) hx hb dX3_layRules_59 (by decide) ?_
  refine va_iast hx hb hK hP hD hS 1 0 rfl rfl (by unfold vp_in; decide) dX3_layRules_60 (fun H locs hP hD hS => ?_)
  have hP : va_P D vwCl [(n, .inr (3, [.int v0, .int v1, .int v2, .int 0, .int 0, .int 0, .int 0, .int 0, .ref nl, .ref nf, .ref nb])), (nb, .inl (g 0, 12, .inl (upd (upd (upd (upd (upd (upd (upd (upd fb 0 0) 1 0) 2 0) 3 0) 4 0) 5 0) 6 0) 7 0)))] H := hP
  have hD : va_D A [(n, .inr (3, [.int v0, .int v1, .int v2, .int 0, .int 0, .int 0, .int 0, .int 0, .ref nl, .ref nf, .ref nb])), (nb, .inl (g 0, 12, .inl (upd (upd (upd (upd (upd (upd (upd (upd fb 0 0) 1 0) 2 0) 3 0) 4 0) 5 0) 6 0) 7 0)))] := hD
  refine lv_iinc (v := 8) (lv' := [(4, .int 8), (0, .ref n), (1, .int v0), (2, .int v1), (3, .int v2)]) hx hb dX3_layRules_61 hl (k := 0) rfl (by decide) (by decide) rfl (fun ls hl => ?_)
  refine lv_goto (tgt := 43) hx hb dX3_layRules_64 (by decide) ?_
  refine lv_iload hx hb dX3_layRules_43 (lv_at hl 0 rfl) ?_
  refine lv_aload_n hx hb dX3_layRules_45 rfl (lv_at hl 1 rfl) ?_
  refine va_get (D := D) (ci := 3) (v := .ref nb) (C := RX3) (T := TX3) (N := 11) hx hb hts iX3 hown hK hP 0 rfl rfl 10 (by decide) f23 (fun _ h9 => h9) rfl dX3_layRules_46 ?_
  refine va_alen (v := 12) hx hb hK hP 1 0 rfl rfl rfl dX3_layRules_49 ?_
  refine lv_icmp_ge (tgt := 67) hx hb dX3_layRules_50 (by decide) (fun cb => absurd cb (by decide)) (fun _ => ?_)
  refine lv_aload_n hx hb dX3_layRules_53 rfl (lv_at hl 1 rfl) ?_
  refine va_get (D := D) (ci := 3) (v := .ref nb) (C := RX3) (T := TX3) (N := 11) hx hb hts iX3 hown hK hP 0 rfl rfl 10 (by decide) f23 (fun _ h9 => h9) rfl dX3_layRules_54 ?_
  refine lv_iload hx hb dX3_layRules_57 (lv_at hl 0 rfl) ?_
  refine lv_iconst (v := 0) hx hb dX3_layRules_59 (by decide) ?_
  refine va_iast hx hb hK hP hD hS 1 0 rfl rfl (by unfold vp_in; decide) dX3_layRules_60 (fun H locs hP hD hS => ?_)
  have hP : va_P D vwCl [(n, .inr (3, [.int v0, .int v1, .int v2, .int 0, .int 0, .int 0, .int 0, .int 0, .ref nl, .ref nf, .ref nb])), (nb, .inl (g 0, 12, .inl (upd (upd (upd (upd (upd (upd (upd (upd (upd fb 0 0) 1 0) 2 0) 3 0) 4 0) 5 0) 6 0) 7 0) 8 0)))] H := hP
  have hD : va_D A [(n, .inr (3, [.int v0, .int v1, .int v2, .int 0, .int 0, .int 0, .int 0, .int 0, .ref nl, .ref nf, .ref nb])), (nb, .inl (g 0, 12, .inl (upd (upd (upd (upd (upd (upd (upd (upd (upd fb 0 0) 1 0) 2 0) 3 0) 4 0) 5 0) 6 0) 7 0) 8 0)))] := hD
  refine lv_iinc (v := 9) (lv' := [(4, .int 9), (0, .ref n), (1, .int v0), (2, .int v1), (3, .int v2)]) hx hb dX3_layRules_61 hl (k := 0) rfl (by decide) (by decide) rfl (fun ls hl => ?_)
  refine lv_goto (tgt := 43) hx hb dX3_layRules_64 (by decide) ?_
  refine lv_iload hx hb dX3_layRules_43 (lv_at hl 0 rfl) ?_
  refine lv_aload_n hx hb dX3_layRules_45 rfl (lv_at hl 1 rfl) ?_
  refine va_get (D := D) (ci := 3) (v := .ref nb) (C := RX3) (T := TX3) (N := 11) hx hb hts iX3 hown hK hP 0 rfl rfl 10 (by decide) f23 (fun _ h9 => h9) rfl dX3_layRules_46 ?_
  refine va_alen (v := 12) hx hb hK hP 1 0 rfl rfl rfl dX3_layRules_49 ?_
  refine lv_icmp_ge (tgt := 67) hx hb dX3_layRules_50 (by decide) (fun cb => absurd cb (by decide)) (fun _ => ?_)
  refine lv_aload_n hx hb dX3_layRules_53 rfl (lv_at hl 1 rfl) ?_
  refine va_get (D := D) (ci := 3) (v := .ref nb) (C := RX3) (T := TX3) (N := 11) hx hb hts iX3 hown hK hP 0 rfl rfl 10 (by decide) f23 (fun _ h9 => h9) rfl dX3_layRules_54 ?_
  refine lv_iload hx hb dX3_layRules_57 (lv_at hl 0 rfl) ?_
  refine lv_iconst (v := 0) hx hb dX3_layRules_59 (by decide) ?_
  refine va_iast hx hb hK hP hD hS 1 0 rfl rfl (by unfold vp_in; decide) dX3_layRules_60 (fun H locs hP hD hS => ?_)
  have hP : va_P D vwCl [(n, .inr (3, [.int v0, .int v1, .int v2, .int 0, .int 0, .int 0, .int 0, .int 0, .ref nl, .ref nf, .ref nb])), (nb, .inl (g 0, 12, .inl (upd (upd (upd (upd (upd (upd (upd (upd (upd (upd fb 0 0) 1 0) 2 0) 3 0) 4 0) 5 0) 6 0) 7 0) 8 0) 9 0)))] H := hP
  have hD : va_D A [(n, .inr (3, [.int v0, .int v1, .int v2, .int 0, .int 0, .int 0, .int 0, .int 0, .ref nl, .ref nf, .ref nb])), (nb, .inl (g 0, 12, .inl (upd (upd (upd (upd (upd (upd (upd (upd (upd (upd fb 0 0) 1 0) 2 0) 3 0) 4 0) 5 0) 6 0) 7 0) 8 0) 9 0)))] := hD
  refine lv_iinc (v := 10) (lv' := [(4, .int 10), (0, .ref n), (1, .int v0), (2, .int v1), (3, .int v2)]) hx hb dX3_layRules_61 hl (k := 0) rfl (by decide) (by decide) rfl (fun ls hl => ?_)
  refine lv_goto (tgt := 43) hx hb dX3_layRules_64 (by decide) ?_
  refine lv_iload hx hb dX3_layRules_43 (lv_at hl 0 rfl) ?_
  refine lv_aload_n hx hb dX3_layRules_45 rfl (lv_at hl 1 rfl) ?_
  refine va_get (D := D) (ci := 3) (v := .ref nb) (C := RX3) (T := TX3) (N := 11) hx hb hts iX3 hown hK hP 0 rfl rfl 10 (by decide) f23 (fun _ h9 => h9) rfl dX3_layRules_46 ?_
  refine va_alen (v := 12) hx hb hK hP 1 0 rfl rfl rfl dX3_layRules_49 ?_
  refine lv_icmp_ge (tgt := 67) hx hb dX3_layRules_50 (by decide) (fun cb => absurd cb (by decide)) (fun _ => ?_)
  refine lv_aload_n hx hb dX3_layRules_53 rfl (lv_at hl 1 rfl) ?_
  refine va_get (D := D) (ci := 3) (v := .ref nb) (C := RX3) (T := TX3) (N := 11) hx hb hts iX3 hown hK hP 0 rfl rfl 10 (by decide) f23 (fun _ h9 => h9) rfl dX3_layRules_54 ?_
  refine lv_iload hx hb dX3_layRules_57 (lv_at hl 0 rfl) ?_
  refine lv_iconst (v := 0) hx hb dX3_layRules_59 (by decide) ?_
  refine va_iast hx hb hK hP hD hS 1 0 rfl rfl (by unfold vp_in; decide) dX3_layRules_60 (fun H locs hP hD hS => ?_)
  have hP : va_P D vwCl [(n, .inr (3, [.int v0, .int v1, .int v2, .int 0, .int 0, .int 0, .int 0, .int 0, .ref nl, .ref nf, .ref nb])), (nb, .inl (g 0, 12, .inl (upd (upd (upd (upd (upd (upd (upd (upd (upd (upd (upd fb 0 0) 1 0) 2 0) 3 0) 4 0) 5 0) 6 0) 7 0) 8 0) 9 0) 10 0)))] H := hP
  have hD : va_D A [(n, .inr (3, [.int v0, .int v1, .int v2, .int 0, .int 0, .int 0, .int 0, .int 0, .ref nl, .ref nf, .ref nb])), (nb, .inl (g 0, 12, .inl (upd (upd (upd (upd (upd (upd (upd (upd (upd (upd (upd fb 0 0) 1 0) 2 0) 3 0) 4 0) 5 0) 6 0) 7 0) 8 0) 9 0) 10 0)))] := hD
  refine lv_iinc (v := 11) (lv' := [(4, .int 11), (0, .ref n), (1, .int v0), (2, .int v1), (3, .int v2)]) hx hb dX3_layRules_61 hl (k := 0) rfl (by decide) (by decide) rfl (fun ls hl => ?_)
  refine lv_goto (tgt := 43) hx hb dX3_layRules_64 (by decide) ?_
  refine lv_iload hx hb dX3_layRules_43 (lv_at hl 0 rfl) ?_
  refine lv_aload_n hx hb dX3_layRules_45 rfl (lv_at hl 1 rfl) ?_
  refine va_get (D := D) (ci := 3) (v := .ref nb) (C := RX3) (T := TX3) (N := 11) hx hb hts iX3 hown hK hP 0 rfl rfl 10 (by decide) f23 (fun _ h9 => h9) rfl dX3_layRules_46 ?_
  refine va_alen (v := 12) hx hb hK hP 1 0 rfl rfl rfl dX3_layRules_49 ?_
  refine lv_icmp_ge (tgt := 67) hx hb dX3_layRules_50 (by decide) (fun cb => absurd cb (by decide)) (fun _ => ?_)
  refine lv_aload_n hx hb dX3_layRules_53 rfl (lv_at hl 1 rfl) ?_
  refine va_get (D := D) (ci := 3) (v := .ref nb) (C := RX3) (T := TX3) (N := 11) hx hb hts iX3 hown hK hP 0 rfl rfl 10 (by decide) f23 (fun _ h9 => h9) rfl dX3_layRules_54 ?_
  refine lv_iload hx hb dX3_layRules_57 (lv_at hl 0 rfl) ?_
  refine lv_iconst (v := 0) hx hb dX3_layRules_59 (by decide) ?_
  refine va_iast hx hb hK hP hD hS 1 0 rfl rfl (by unfold vp_in; decide) dX3_layRules_60 (fun H locs hP hD hS => ?_)
  have hP : va_P D vwCl [(n, .inr (3, [.int v0, .int v1, .int v2, .int 0, .int 0, .int 0, .int 0, .int 0, .ref nl, .ref nf, .ref nb])), (nb, .inl (g 0, 12, .inl (upd (upd (upd (upd (upd (upd (upd (upd (upd (upd (upd (upd fb 0 0) 1 0) 2 0) 3 0) 4 0) 5 0) 6 0) 7 0) 8 0) 9 0) 10 0) 11 0)))] H := hP
  have hD : va_D A [(n, .inr (3, [.int v0, .int v1, .int v2, .int 0, .int 0, .int 0, .int 0, .int 0, .ref nl, .ref nf, .ref nb])), (nb, .inl (g 0, 12, .inl (upd (upd (upd (upd (upd (upd (upd (upd (upd (upd (upd (upd fb 0 0) 1 0) 2 0) 3 0) 4 0) 5 0) 6 0) 7 0) 8 0) 9 0) 10 0) 11 0)))] := hD
  refine lv_iinc (v := 12) (lv' := [(4, .int 12), (0, .ref n), (1, .int v0), (2, .int v1), (3, .int v2)]) hx hb dX3_layRules_61 hl (k := 0) rfl (by decide) (by decide) rfl (fun ls hl => ?_)
  refine lv_goto (tgt := 43) hx hb dX3_layRules_64 (by decide) ?_
  refine lv_iload hx hb dX3_layRules_43 (lv_at hl 0 rfl) ?_
  refine lv_aload_n hx hb dX3_layRules_45 rfl (lv_at hl 1 rfl) ?_
  refine va_get (D := D) (ci := 3) (v := .ref nb) (C := RX3) (T := TX3) (N := 11) hx hb hts iX3 hown hK hP 0 rfl rfl 10 (by decide) f23 (fun _ h9 => h9) rfl dX3_layRules_46 ?_
  refine va_alen (v := 12) hx hb hK hP 1 0 rfl rfl rfl dX3_layRules_49 ?_
  refine lv_icmp_ge (tgt := 67) hx hb dX3_layRules_50 (by decide) (fun _ => ?_) (fun cb => absurd (by decide) cb)
  have hP9 := hP.sub (ws' := [(n, .inr (3, [.int v0, .int v1, .int v2, .int 0, .int 0, .int 0, .int 0, .int 0, .ref nl, .ref nf, .ref nb])), (nb, .inl (g 0, 12, .inl (upd (upd (upd (upd (upd (upd (upd (upd (upd (upd (upd (upd fb 0 0) 1 0) 2 0) 3 0) 4 0) 5 0) 6 0) 7 0) 8 0) 9 0) 10 0) 11 0)))]) [0, 1] rfl
  have hD9 := hD.sub (ws' := [(n, .inr (3, [.int v0, .int v1, .int v2, .int 0, .int 0, .int 0, .int 0, .int 0, .ref nl, .ref nf, .ref nb])), (nb, .inl (g 0, 12, .inl (upd (upd (upd (upd (upd (upd (upd (upd (upd (upd (upd (upd fb 0 0) 1 0) 2 0) 3 0) 4 0) 5 0) 6 0) 7 0) 8 0) 9 0) 10 0) 11 0)))]) [0, 1] (by decide) rfl
  subst hQ
  refine W.widen (k := 0) (n := 0) (Nat.le_of_ble_eq_true rfl) (Nat.le_of_ble_eq_true rfl) ?_
  exact W.vret hx hb hr (fun tS htS _ => ⟨⟨_, rfl, ⟨(upd (upd (upd (upd (upd (upd (upd (upd (upd (upd (upd (upd fb 0 0) 1 0) 2 0) 3 0) 4 0) 5 0) 6 0) 7 0) 8 0) 9 0) 10 0) 11 0), rfl, fun j hj => by rcases (show j = 0 ∨ j = 1 ∨ j = 2 ∨ j = 3 ∨ j = 4 ∨ j = 5 ∨ j = 6 ∨ j = 7 ∨ j = 8 ∨ j = 9 ∨ j = 10 ∨ j = 11 by omega) with rfl | rfl | rfl | rfl | rfl | rfl | rfl | rfl | rfl | rfl | rfl | rfl <;> rfl⟩, by rw [htS]; exact hP9, hD9⟩, hS.F htS⟩) hS.2.2 dX3_layRules_67
set_option maxHeartbeats 4000000 in
set_option maxRecDepth 100000 in
theorem c_X2_lay (l : Launch) (D : va_G) (g : Nat → ClassId) (sz : Nat) (L : Nat) (l0 : Int32) (l1 : Int32) (l2 : Int32) (l3 : Int32) (l4 : Int32) (l5 : Int32) (ca : Nat) (ua : Nat) (pa : Nat) (la : Nat) (fc : Nat → Int32) (fu : Nat → Int32) (fp : Nat → Int32) (a0 : Nat) (a1 : Nat) (a2 : Nat) (f0 : Int32) (f1 : Int32) (f2 : Int32) (f3 : Int32) (f4 : Int32) (f5 : Int32) (f6 : Int32) (h0 : Int32) (h1 : Int32) (h2 : Int32) (h3 : Int32) (h4 : Int32) (h5 : Int32) (h6 : Int32) (i0 : Int32) (i1 : Int32) (i2 : Int32) (i3 : Int32) (i4 : Int32) (i5 : Int32) (i6 : Int32) (v0 : Int32) (v1 : Int32) (v2 : Int32) (zz : Int32) : Met l yX2_lay wsX2_lay ({ frames := 1, cells := 0, slots := 0, locals := 22 }) (va_Pc [.ref L, .int v0, .int v1, .int v2, .int zz] (pre D g sz [(L, .inr (2, [.int l0, .int l1, .int l2, .int l3, .int l4, .int l5, .ref ca, .ref ua, .ref pa, .ref la])), (ca, .inl (g 0, 5, .inl fc)), (ua, .inl (g 0, 15, .inl fu)), (pa, .inl (g 0, 15, .inl fp)), (la, .inl (g 2, 3, .inr (.inr (.inr (.inr (rf3 a0 a1 a2)))))), (a0, .inr (1, [.int f0, .int f1, .int f2, .int f3, .int f4, .int f5, .int f6])), (a1, .inr (1, [.int h0, .int h1, .int h2, .int h3, .int h4, .int h5, .int h6])), (a2, .inr (1, [.int i0, .int i1, .int i2, .int i3, .int i4, .int i5, .int i6]))])) (va_Qv (fun (u : va_W) => ∃ (fc2 : Nat → Int32) (fu2 : Nat → Int32) (fp2 : Nat → Int32), u = [(L, .inr (2, [.int v0, .int v1, .int v2, .int 0, .int (-1), .int (-1), .ref ca, .ref ua, .ref pa, .ref la])), (ca, .inl (g 0, 5, .inl fc2)), (ua, .inl (g 0, 15, .inl fu2)), (pa, .inl (g 0, 15, .inl fp2)), (la, .inl (g 2, 3, .inr (.inr (.inr (.inr (rf3 a0 a1 a2)))))), (a0, .inr (1, [.int 0, .int 0, .int 0, .int zz, .int 0, .int 0, .int 0])), (a1, .inr (1, [.int 0, .int 0, .int 0, .int zz, .int 0, .int 0, .int 0])), (a2, .inr (1, [.int 0, .int 0, .int 0, .int zz, .int 0, .int 0, .int 0]))] ∧ (∀ j, j < 5 → fc2 j = -1) ∧ (∀ j, j < 15 → fu2 j = -1) ∧ (∀ j, j < 15 → fp2 j = 0)) (wd D (va_A [(L, .inr (2, [.int l0, .int l1, .int l2, .int l3, .int l4, .int l5, .ref ca, .ref ua, .ref pa, .ref la])), (ca, .inl (g 0, 5, .inl fc)), (ua, .inl (g 0, 15, .inl fu)), (pa, .inl (g 0, 15, .inl fp)), (la, .inl (g 2, 3, .inr (.inr (.inr (.inr (rf3 a0 a1 a2)))))), (a0, .inr (1, [.int f0, .int f1, .int f2, .int f3, .int f4, .int f5, .int f6])), (a1, .inr (1, [.int h0, .int h1, .int h2, .int h3, .int h4, .int h5, .int h6])), (a2, .inr (1, [.int i0, .int i1, .int i2, .int i3, .int i4, .int i5, .int i6]))] sz)) (va_A [(L, .inr (2, [.int l0, .int l1, .int l2, .int l3, .int l4, .int l5, .ref ca, .ref ua, .ref pa, .ref la])), (ca, .inl (g 0, 5, .inl fc)), (ua, .inl (g 0, 15, .inl fu)), (pa, .inl (g 0, 15, .inl fp)), (la, .inl (g 2, 3, .inr (.inr (.inr (.inr (rf3 a0 a1 a2)))))), (a0, .inr (1, [.int f0, .int f1, .int f2, .int f3, .int f4, .int f5, .int f6])), (a1, .inr (1, [.int h0, .int h1, .int h2, .int h3, .int h4, .int h5, .int h6])), (a2, .inr (1, [.int i0, .int i1, .int i2, .int i3, .int i4, .int i5, .int i6]))] sz)) 0 0 (va_A [(L, .inr (2, [.int l0, .int l1, .int l2, .int l3, .int l4, .int l5, .ref ca, .ref ua, .ref pa, .ref la])), (ca, .inl (g 0, 5, .inl fc)), (ua, .inl (g 0, 15, .inl fu)), (pa, .inl (g 0, 15, .inl fp)), (la, .inl (g 2, 3, .inr (.inr (.inr (.inr (rf3 a0 a1 a2)))))), (a0, .inr (1, [.int f0, .int f1, .int f2, .int f3, .int f4, .int f5, .int f6])), (a1, .inr (1, [.int h0, .int h1, .int h2, .int h3, .int h4, .int h5, .int h6])), (a2, .inr (1, [.int i0, .int i1, .int i2, .int i3, .int i4, .int i5, .int i6]))] sz) := by
  refine Met.ofW (cc := cX2_lay) (maxL := 6) (ret := none) (by decide) rfl ?_
  intro p e s m args below meth c s₁ B hml hv
  obtain ⟨rfl, hsz, hP, ⟨hK, hN⟩, hD0, hZ⟩ := hv
  have hx := B.exec
  have hb := B.bytes
  have hr := B.returns
  have hts := atoms_spec (ws := wsX2_lay) B.pre
  have hown : s.vm.findClass RX2 = some m.cls := findClass_of_methodNamed B.named
  have hlocks := B.notSynchronized
  clear B
  subst hsz
  have hD := hD0.self (sz := s.heap.size)
  clear hD0
  generalize hAe : va_A [(L, .inr (2, [.int l0, .int l1, .int l2, .int l3, .int l4, .int l5, .ref ca, .ref ua, .ref pa, .ref la])), (ca, .inl (g 0, 5, .inl fc)), (ua, .inl (g 0, 15, .inl fu)), (pa, .inl (g 0, 15, .inl fp)), (la, .inl (g 2, 3, .inr (.inr (.inr (.inr (rf3 a0 a1 a2)))))), (a0, .inr (1, [.int f0, .int f1, .int f2, .int f3, .int f4, .int f5, .int f6])), (a1, .inr (1, [.int h0, .int h1, .int h2, .int h3, .int h4, .int h5, .int h6])), (a2, .inr (1, [.int i0, .int i1, .int i2, .int i3, .int i4, .int i5, .int i6]))] s.heap.size = A at hD hZ ⊢
  have hA : ∀ q : Nat, s.heap.size ≤ q → A q := fun q h => by rw [← hAe]; exact Or.inr h
  have hS : va_S A s.heap s.heap [] := va_S.rf
  have f23 := hts (.fieldLink RX2 23 "HopCredits$Link" "lanes" "[LHopCredits$Lane;") (by decide +kernel)
  have f28 := hts (.fieldLink RX2 28 "HopCredits$Link" "delay" "I") (by decide +kernel)
  have f32 := hts (.fieldLink RX2 32 "HopCredits$Link" "pool" "I") (by decide +kernel)
  have f35 := hts (.fieldLink RX2 35 "HopCredits$Link" "every" "I") (by decide +kernel)
  have f38 := hts (.fieldLink RX2 38 "HopCredits$Link" "jammed" "I") (by decide +kernel)
  have f41 := hts (.fieldLink RX2 41 "HopCredits$Link" "latest" "I") (by decide +kernel)
  have f44 := hts (.fieldLink RX2 44 "HopCredits$Link" "sender" "I") (by decide +kernel)
  have iX2 : ∀ w ∈ u_ws RX2 TX2 10, w ∈ wsX2_lay := by decide +kernel
  have hl := lv_entry ([.ref L, .int v0, .int v1, .int v2, .int zz]) (n := 6) (Nat.le_of_ble_eq_true rfl)
  rw [lg_entry_eq]
  generalize (lg_sl ([.ref L, .int v0, .int v1, .int v2, .int zz]) ++ List.replicate (6 - (lg_sl ([.ref L, .int v0, .int v1, .int v2, .int zz])).length) Slot.unset).toArray = ls at hl ⊢
  have hl : lv_has ls 6 [(0, .ref L), (1, .int v0), (2, .int v1), (3, .int v2), (4, .int zz)] := hl
  generalize hQ : MQ below _ _ s _ _ _ = Q
  generalize hH : s.heap = H at hP ⊢
  have hS : va_S A s.heap H [] := by rw [← hH]; exact hS
  clear hH
  refine lv_aload_n hx hb dX2_lay_0 rfl (lv_at hl 0 rfl) ?_
  refine lv_iload_n hx hb dX2_lay_1 rfl (lv_at hl 1 rfl) ?_
  refine va_put (D := D) (ci := 2) (v := .int v0) (ty := .int) (C := RX2) (T := TX2) (N := 10) hx hb hts iX2 tyX2 tyX2_ok nmX2 hown hK hP hD hS 0 rfl rfl 0 (by decide) f28 (fun _ h9 => h9) rfl (by decide +kernel) (rfl) (rfl) (Nat.le_of_ble_eq_true rfl) dX2_lay_2 (fun H locs hP hD hS => ?_)
  have hP : va_P D vwCl [(L, .inr (2, [.int v0, .int l1, .int l2, .int l3, .int l4, .int l5, .ref ca, .ref ua, .ref pa, .ref la])), (ca, .inl (g 0, 5, .inl fc)), (ua, .inl (g 0, 15, .inl fu)), (pa, .inl (g 0, 15, .inl fp)), (la, .inl (g 2, 3, .inr (.inr (.inr (.inr (rf3 a0 a1 a2)))))), (a0, .inr (1, [.int f0, .int f1, .int f2, .int f3, .int f4, .int f5, .int f6])), (a1, .inr (1, [.int h0, .int h1, .int h2, .int h3, .int h4, .int h5, .int h6])), (a2, .inr (1, [.int i0, .int i1, .int i2, .int i3, .int i4, .int i5, .int i6]))] H := hP
  have hD : va_D A [(L, .inr (2, [.int v0, .int l1, .int l2, .int l3, .int l4, .int l5, .ref ca, .ref ua, .ref pa, .ref la])), (ca, .inl (g 0, 5, .inl fc)), (ua, .inl (g 0, 15, .inl fu)), (pa, .inl (g 0, 15, .inl fp)), (la, .inl (g 2, 3, .inr (.inr (.inr (.inr (rf3 a0 a1 a2)))))), (a0, .inr (1, [.int f0, .int f1, .int f2, .int f3, .int f4, .int f5, .int f6])), (a1, .inr (1, [.int h0, .int h1, .int h2, .int h3, .int h4, .int h5, .int h6])), (a2, .inr (1, [.int i0, .int i1, .int i2, .int i3, .int i4, .int i5, .int i6]))] := hD
  refine lv_aload_n hx hb dX2_lay_5 rfl (lv_at hl 0 rfl) ?_
  refine lv_iload_n hx hb dX2_lay_6 rfl (lv_at hl 2 rfl) ?_
  refine va_put (D := D) (ci := 2) (v := .int v1) (ty := .int) (C := RX2) (T := TX2) (N := 10) hx hb hts iX2 tyX2 tyX2_ok nmX2 hown hK hP hD hS 0 rfl rfl 1 (by decide) f32 (fun _ h9 => h9) rfl (by decide +kernel) (rfl) (rfl) (Nat.le_of_ble_eq_true rfl) dX2_lay_7 (fun H locs hP hD hS => ?_)
  have hP : va_P D vwCl [(L, .inr (2, [.int v0, .int v1, .int l2, .int l3, .int l4, .int l5, .ref ca, .ref ua, .ref pa, .ref la])), (ca, .inl (g 0, 5, .inl fc)), (ua, .inl (g 0, 15, .inl fu)), (pa, .inl (g 0, 15, .inl fp)), (la, .inl (g 2, 3, .inr (.inr (.inr (.inr (rf3 a0 a1 a2)))))), (a0, .inr (1, [.int f0, .int f1, .int f2, .int f3, .int f4, .int f5, .int f6])), (a1, .inr (1, [.int h0, .int h1, .int h2, .int h3, .int h4, .int h5, .int h6])), (a2, .inr (1, [.int i0, .int i1, .int i2, .int i3, .int i4, .int i5, .int i6]))] H := hP
  have hD : va_D A [(L, .inr (2, [.int v0, .int v1, .int l2, .int l3, .int l4, .int l5, .ref ca, .ref ua, .ref pa, .ref la])), (ca, .inl (g 0, 5, .inl fc)), (ua, .inl (g 0, 15, .inl fu)), (pa, .inl (g 0, 15, .inl fp)), (la, .inl (g 2, 3, .inr (.inr (.inr (.inr (rf3 a0 a1 a2)))))), (a0, .inr (1, [.int f0, .int f1, .int f2, .int f3, .int f4, .int f5, .int f6])), (a1, .inr (1, [.int h0, .int h1, .int h2, .int h3, .int h4, .int h5, .int h6])), (a2, .inr (1, [.int i0, .int i1, .int i2, .int i3, .int i4, .int i5, .int i6]))] := hD
  refine lv_aload_n hx hb dX2_lay_10 rfl (lv_at hl 0 rfl) ?_
  refine lv_iload_n hx hb dX2_lay_11 rfl (lv_at hl 3 rfl) ?_
  refine va_put (D := D) (ci := 2) (v := .int v2) (ty := .int) (C := RX2) (T := TX2) (N := 10) hx hb hts iX2 tyX2 tyX2_ok nmX2 hown hK hP hD hS 0 rfl rfl 2 (by decide) f35 (fun _ h9 => h9) rfl (by decide +kernel) (rfl) (rfl) (Nat.le_of_ble_eq_true rfl) dX2_lay_12 (fun H locs hP hD hS => ?_)
  have hP : va_P D vwCl [(L, .inr (2, [.int v0, .int v1, .int v2, .int l3, .int l4, .int l5, .ref ca, .ref ua, .ref pa, .ref la])), (ca, .inl (g 0, 5, .inl fc)), (ua, .inl (g 0, 15, .inl fu)), (pa, .inl (g 0, 15, .inl fp)), (la, .inl (g 2, 3, .inr (.inr (.inr (.inr (rf3 a0 a1 a2)))))), (a0, .inr (1, [.int f0, .int f1, .int f2, .int f3, .int f4, .int f5, .int f6])), (a1, .inr (1, [.int h0, .int h1, .int h2, .int h3, .int h4, .int h5, .int h6])), (a2, .inr (1, [.int i0, .int i1, .int i2, .int i3, .int i4, .int i5, .int i6]))] H := hP
  have hD : va_D A [(L, .inr (2, [.int v0, .int v1, .int v2, .int l3, .int l4, .int l5, .ref ca, .ref ua, .ref pa, .ref la])), (ca, .inl (g 0, 5, .inl fc)), (ua, .inl (g 0, 15, .inl fu)), (pa, .inl (g 0, 15, .inl fp)), (la, .inl (g 2, 3, .inr (.inr (.inr (.inr (rf3 a0 a1 a2)))))), (a0, .inr (1, [.int f0, .int f1, .int f2, .int f3, .int f4, .int f5, .int f6])), (a1, .inr (1, [.int h0, .int h1, .int h2, .int h3, .int h4, .int h5, .int h6])), (a2, .inr (1, [.int i0, .int i1, .int i2, .int i3, .int i4, .int i5, .int i6]))] := hD
  refine lv_aload_n hx hb dX2_lay_15 rfl (lv_at hl 0 rfl) ?_
  refine lv_iconst (v := 0) hx hb dX2_lay_16 (by decide) ?_
  refine va_put (D := D) (ci := 2) (v := .int 0) (ty := .int) (C := RX2) (T := TX2) (N := 10) hx hb hts iX2 tyX2 tyX2_ok nmX2 hown hK hP hD hS 0 rfl rfl 3 (by decide) f38 (fun _ h9 => h9) rfl (by decide +kernel) (rfl) (rfl) (Nat.le_of_ble_eq_true rfl) dX2_lay_17 (fun H locs hP hD hS => ?_)
  have hP : va_P D vwCl [(L, .inr (2, [.int v0, .int v1, .int v2, .int 0, .int l4, .int l5, .ref ca, .ref ua, .ref pa, .ref la])), (ca, .inl (g 0, 5, .inl fc)), (ua, .inl (g 0, 15, .inl fu)), (pa, .inl (g 0, 15, .inl fp)), (la, .inl (g 2, 3, .inr (.inr (.inr (.inr (rf3 a0 a1 a2)))))), (a0, .inr (1, [.int f0, .int f1, .int f2, .int f3, .int f4, .int f5, .int f6])), (a1, .inr (1, [.int h0, .int h1, .int h2, .int h3, .int h4, .int h5, .int h6])), (a2, .inr (1, [.int i0, .int i1, .int i2, .int i3, .int i4, .int i5, .int i6]))] H := hP
  have hD : va_D A [(L, .inr (2, [.int v0, .int v1, .int v2, .int 0, .int l4, .int l5, .ref ca, .ref ua, .ref pa, .ref la])), (ca, .inl (g 0, 5, .inl fc)), (ua, .inl (g 0, 15, .inl fu)), (pa, .inl (g 0, 15, .inl fp)), (la, .inl (g 2, 3, .inr (.inr (.inr (.inr (rf3 a0 a1 a2)))))), (a0, .inr (1, [.int f0, .int f1, .int f2, .int f3, .int f4, .int f5, .int f6])), (a1, .inr (1, [.int h0, .int h1, .int h2, .int h3, .int h4, .int h5, .int h6])), (a2, .inr (1, [.int i0, .int i1, .int i2, .int i3, .int i4, .int i5, .int i6]))] := hD
  refine lv_aload_n hx hb dX2_lay_20 rfl (lv_at hl 0 rfl) ?_
  refine lv_iconst (v := (-1)) hx hb dX2_lay_21 (by decide) ?_
  refine va_put (D := D) (ci := 2) (v := .int (-1)) (ty := .int) (C := RX2) (T := TX2) (N := 10) hx hb hts iX2 tyX2 tyX2_ok nmX2 hown hK hP hD hS 0 rfl rfl 4 (by decide) f41 (fun _ h9 => h9) rfl (by decide +kernel) (rfl) (rfl) (Nat.le_of_ble_eq_true rfl) dX2_lay_22 (fun H locs hP hD hS => ?_)
  have hP : va_P D vwCl [(L, .inr (2, [.int v0, .int v1, .int v2, .int 0, .int (-1), .int l5, .ref ca, .ref ua, .ref pa, .ref la])), (ca, .inl (g 0, 5, .inl fc)), (ua, .inl (g 0, 15, .inl fu)), (pa, .inl (g 0, 15, .inl fp)), (la, .inl (g 2, 3, .inr (.inr (.inr (.inr (rf3 a0 a1 a2)))))), (a0, .inr (1, [.int f0, .int f1, .int f2, .int f3, .int f4, .int f5, .int f6])), (a1, .inr (1, [.int h0, .int h1, .int h2, .int h3, .int h4, .int h5, .int h6])), (a2, .inr (1, [.int i0, .int i1, .int i2, .int i3, .int i4, .int i5, .int i6]))] H := hP
  have hD : va_D A [(L, .inr (2, [.int v0, .int v1, .int v2, .int 0, .int (-1), .int l5, .ref ca, .ref ua, .ref pa, .ref la])), (ca, .inl (g 0, 5, .inl fc)), (ua, .inl (g 0, 15, .inl fu)), (pa, .inl (g 0, 15, .inl fp)), (la, .inl (g 2, 3, .inr (.inr (.inr (.inr (rf3 a0 a1 a2)))))), (a0, .inr (1, [.int f0, .int f1, .int f2, .int f3, .int f4, .int f5, .int f6])), (a1, .inr (1, [.int h0, .int h1, .int h2, .int h3, .int h4, .int h5, .int h6])), (a2, .inr (1, [.int i0, .int i1, .int i2, .int i3, .int i4, .int i5, .int i6]))] := hD
  refine lv_aload_n hx hb dX2_lay_25 rfl (lv_at hl 0 rfl) ?_
  refine lv_iconst (v := (-1)) hx hb dX2_lay_26 (by decide) ?_
  refine va_put (D := D) (ci := 2) (v := .int (-1)) (ty := .int) (C := RX2) (T := TX2) (N := 10) hx hb hts iX2 tyX2 tyX2_ok nmX2 hown hK hP hD hS 0 rfl rfl 5 (by decide) f44 (fun _ h9 => h9) rfl (by decide +kernel) (rfl) (rfl) (Nat.le_of_ble_eq_true rfl) dX2_lay_27 (fun H locs hP hD hS => ?_)
  have hP : va_P D vwCl [(L, .inr (2, [.int v0, .int v1, .int v2, .int 0, .int (-1), .int (-1), .ref ca, .ref ua, .ref pa, .ref la])), (ca, .inl (g 0, 5, .inl fc)), (ua, .inl (g 0, 15, .inl fu)), (pa, .inl (g 0, 15, .inl fp)), (la, .inl (g 2, 3, .inr (.inr (.inr (.inr (rf3 a0 a1 a2)))))), (a0, .inr (1, [.int f0, .int f1, .int f2, .int f3, .int f4, .int f5, .int f6])), (a1, .inr (1, [.int h0, .int h1, .int h2, .int h3, .int h4, .int h5, .int h6])), (a2, .inr (1, [.int i0, .int i1, .int i2, .int i3, .int i4, .int i5, .int i6]))] H := hP
  have hD : va_D A [(L, .inr (2, [.int v0, .int v1, .int v2, .int 0, .int (-1), .int (-1), .ref ca, .ref ua, .ref pa, .ref la])), (ca, .inl (g 0, 5, .inl fc)), (ua, .inl (g 0, 15, .inl fu)), (pa, .inl (g 0, 15, .inl fp)), (la, .inl (g 2, 3, .inr (.inr (.inr (.inr (rf3 a0 a1 a2)))))), (a0, .inr (1, [.int f0, .int f1, .int f2, .int f3, .int f4, .int f5, .int f6])), (a1, .inr (1, [.int h0, .int h1, .int h2, .int h3, .int h4, .int h5, .int h6])), (a2, .inr (1, [.int i0, .int i1, .int i2, .int i3, .int i4, .int i5, .int i6]))] := hD
  refine lv_iconst (v := 0) hx hb dX2_lay_30 (by decide) ?_
  refine lv_istore (lv' := [(5, .int 0), (0, .ref L), (1, .int v0), (2, .int v1), (3, .int v2), (4, .int zz)]) hx hb dX2_lay_31 hl (by decide) rfl (fun ls hl => ?_)
  refine lv_iload hx hb dX2_lay_33 (lv_at hl 0 rfl) ?_
  refine lv_iconst (v := 5) hx hb dX2_lay_35 (by decide) ?_
  refine lv_icmp_ge (tgt := 51) hx hb dX2_lay_36 (by decide) (fun cb => absurd cb (by decide)) (fun _ => ?_)
  refine lv_aload_n hx hb dX2_lay_39 rfl (lv_at hl 1 rfl) ?_
  refine lv_iload hx hb dX2_lay_40 (lv_at hl 0 rfl) ?_
  refine ky_Vv (As := [.int 0]) (rest := []) ⟨hx, hb, hml, hown, hts⟩ ⟨hK, hN⟩ hZ hP hD hS hA [0, 1, 2, 3] [4, 5, 6, 7] (wc := [(L, .inr (2, [.int v0, .int v1, .int v2, .int 0, .int (-1), .int (-1), .ref ca, .ref ua, .ref pa, .ref la])), (ca, .inl (g 0, 5, .inl fc)), (ua, .inl (g 0, 15, .inl fu)), (pa, .inl (g 0, 15, .inl fp))]) (wr := [(la, .inl (g 2, 3, .inr (.inr (.inr (.inr (rf3 a0 a1 a2)))))), (a0, .inr (1, [.int f0, .int f1, .int f2, .int f3, .int f4, .int f5, .int f6])), (a1, .inr (1, [.int h0, .int h1, .int h2, .int h3, .int h4, .int h5, .int h6])), (a2, .inr (1, [.int i0, .int i1, .int i2, .int i3, .int i4, .int i5, .int i6]))]) rfl rfl rfl rfl (by decide) (c_X2_clearSlot l D g H.size L v0 v1 v2 0 (-1) (-1) ca ua pa la fc fu fp 0 (by decide)) (cwV 1 hts gX2_lay_X2_clearSlot rfl rfl rfl (by decide +kernel) ⟨(Nat.le_of_ble_eq_true rfl), (Nat.le_of_ble_eq_true rfl)⟩) 0 2 rfl rfl rfl rfl hl.1 rfl (Nat.le_of_ble_eq_true rfl) dX2_lay_42 ⟨(Nat.le_of_ble_eq_true rfl), (Nat.le_of_ble_eq_true rfl)⟩ (fun u H locs hw hP hD hS => ?_)
  obtain rfl := hw
  have hP : va_P D vwCl [(la, .inl (g 2, 3, .inr (.inr (.inr (.inr (rf3 a0 a1 a2)))))), (a0, .inr (1, [.int f0, .int f1, .int f2, .int f3, .int f4, .int f5, .int f6])), (a1, .inr (1, [.int h0, .int h1, .int h2, .int h3, .int h4, .int h5, .int h6])), (a2, .inr (1, [.int i0, .int i1, .int i2, .int i3, .int i4, .int i5, .int i6])), (L, .inr (2, [.int v0, .int v1, .int v2, .int 0, .int (-1), .int (-1), .ref ca, .ref ua, .ref pa, .ref la])), (ca, .inl (g 0, 5, .inl (upd fc (0) (-1)))), (ua, .inl (g 0, 15, .inl (upd (upd (upd fu ((0) * 3 + 0) (-1)) ((0) * 3 + 1) (-1)) ((0) * 3 + 2) (-1)))), (pa, .inl (g 0, 15, .inl (upd (upd (upd fp ((0) * 3 + 0) 0) ((0) * 3 + 1) 0) ((0) * 3 + 2) 0)))] H := hP
  have hD : va_D A [(la, .inl (g 2, 3, .inr (.inr (.inr (.inr (rf3 a0 a1 a2)))))), (a0, .inr (1, [.int f0, .int f1, .int f2, .int f3, .int f4, .int f5, .int f6])), (a1, .inr (1, [.int h0, .int h1, .int h2, .int h3, .int h4, .int h5, .int h6])), (a2, .inr (1, [.int i0, .int i1, .int i2, .int i3, .int i4, .int i5, .int i6])), (L, .inr (2, [.int v0, .int v1, .int v2, .int 0, .int (-1), .int (-1), .ref ca, .ref ua, .ref pa, .ref la])), (ca, .inl (g 0, 5, .inl (upd fc (0) (-1)))), (ua, .inl (g 0, 15, .inl (upd (upd (upd fu ((0) * 3 + 0) (-1)) ((0) * 3 + 1) (-1)) ((0) * 3 + 2) (-1)))), (pa, .inl (g 0, 15, .inl (upd (upd (upd fp ((0) * 3 + 0) 0) ((0) * 3 + 1) 0) ((0) * 3 + 2) 0)))] := hD
  refine W.widen (k := 0) (n := 0) (Nat.le_of_ble_eq_true rfl) (Nat.le_of_ble_eq_true rfl) ?_
  refine lv_iinc (v := 1) (lv' := [(5, .int 1), (0, .ref L), (1, .int v0), (2, .int v1), (3, .int v2), (4, .int zz)]) hx hb dX2_lay_45 hl (k := 0) rfl (by decide) (by decide) rfl (fun ls hl => ?_)
  refine lv_goto (tgt := 33) hx hb dX2_lay_48 (by decide) ?_
  refine lv_iload hx hb dX2_lay_33 (lv_at hl 0 rfl) ?_
  refine lv_iconst (v := 5) hx hb dX2_lay_35 (by decide) ?_
  refine lv_icmp_ge (tgt := 51) hx hb dX2_lay_36 (by decide) (fun cb => absurd cb (by decide)) (fun _ => ?_)
  refine lv_aload_n hx hb dX2_lay_39 rfl (lv_at hl 1 rfl) ?_
  refine lv_iload hx hb dX2_lay_40 (lv_at hl 0 rfl) ?_
  refine ky_Vv (As := [.int 1]) (rest := []) ⟨hx, hb, hml, hown, hts⟩ ⟨hK, hN⟩ hZ hP hD hS hA [4, 5, 6, 7] [0, 1, 2, 3] (wc := [(L, .inr (2, [.int v0, .int v1, .int v2, .int 0, .int (-1), .int (-1), .ref ca, .ref ua, .ref pa, .ref la])), (ca, .inl (g 0, 5, .inl (upd fc (0) (-1)))), (ua, .inl (g 0, 15, .inl (upd (upd (upd fu ((0) * 3 + 0) (-1)) ((0) * 3 + 1) (-1)) ((0) * 3 + 2) (-1)))), (pa, .inl (g 0, 15, .inl (upd (upd (upd fp ((0) * 3 + 0) 0) ((0) * 3 + 1) 0) ((0) * 3 + 2) 0)))]) (wr := [(la, .inl (g 2, 3, .inr (.inr (.inr (.inr (rf3 a0 a1 a2)))))), (a0, .inr (1, [.int f0, .int f1, .int f2, .int f3, .int f4, .int f5, .int f6])), (a1, .inr (1, [.int h0, .int h1, .int h2, .int h3, .int h4, .int h5, .int h6])), (a2, .inr (1, [.int i0, .int i1, .int i2, .int i3, .int i4, .int i5, .int i6]))]) rfl rfl rfl rfl (by decide) (c_X2_clearSlot l D g H.size L v0 v1 v2 0 (-1) (-1) ca ua pa la (upd fc (0) (-1)) (upd (upd (upd fu ((0) * 3 + 0) (-1)) ((0) * 3 + 1) (-1)) ((0) * 3 + 2) (-1)) (upd (upd (upd fp ((0) * 3 + 0) 0) ((0) * 3 + 1) 0) ((0) * 3 + 2) 0) 1 (by decide)) (cwV 1 hts gX2_lay_X2_clearSlot rfl rfl rfl (by decide +kernel) ⟨(Nat.le_of_ble_eq_true rfl), (Nat.le_of_ble_eq_true rfl)⟩) 4 2 rfl rfl rfl rfl hl.1 rfl (Nat.le_of_ble_eq_true rfl) dX2_lay_42 ⟨(Nat.le_of_ble_eq_true rfl), (Nat.le_of_ble_eq_true rfl)⟩ (fun u H locs hw hP hD hS => ?_)
  obtain rfl := hw
  have hP : va_P D vwCl [(la, .inl (g 2, 3, .inr (.inr (.inr (.inr (rf3 a0 a1 a2)))))), (a0, .inr (1, [.int f0, .int f1, .int f2, .int f3, .int f4, .int f5, .int f6])), (a1, .inr (1, [.int h0, .int h1, .int h2, .int h3, .int h4, .int h5, .int h6])), (a2, .inr (1, [.int i0, .int i1, .int i2, .int i3, .int i4, .int i5, .int i6])), (L, .inr (2, [.int v0, .int v1, .int v2, .int 0, .int (-1), .int (-1), .ref ca, .ref ua, .ref pa, .ref la])), (ca, .inl (g 0, 5, .inl (upd (upd fc (0) (-1)) (1) (-1)))), (ua, .inl (g 0, 15, .inl (upd (upd (upd (upd (upd (upd fu ((0) * 3 + 0) (-1)) ((0) * 3 + 1) (-1)) ((0) * 3 + 2) (-1)) ((1) * 3 + 0) (-1)) ((1) * 3 + 1) (-1)) ((1) * 3 + 2) (-1)))), (pa, .inl (g 0, 15, .inl (upd (upd (upd (upd (upd (upd fp ((0) * 3 + 0) 0) ((0) * 3 + 1) 0) ((0) * 3 + 2) 0) ((1) * 3 + 0) 0) ((1) * 3 + 1) 0) ((1) * 3 + 2) 0)))] H := hP
  have hD : va_D A [(la, .inl (g 2, 3, .inr (.inr (.inr (.inr (rf3 a0 a1 a2)))))), (a0, .inr (1, [.int f0, .int f1, .int f2, .int f3, .int f4, .int f5, .int f6])), (a1, .inr (1, [.int h0, .int h1, .int h2, .int h3, .int h4, .int h5, .int h6])), (a2, .inr (1, [.int i0, .int i1, .int i2, .int i3, .int i4, .int i5, .int i6])), (L, .inr (2, [.int v0, .int v1, .int v2, .int 0, .int (-1), .int (-1), .ref ca, .ref ua, .ref pa, .ref la])), (ca, .inl (g 0, 5, .inl (upd (upd fc (0) (-1)) (1) (-1)))), (ua, .inl (g 0, 15, .inl (upd (upd (upd (upd (upd (upd fu ((0) * 3 + 0) (-1)) ((0) * 3 + 1) (-1)) ((0) * 3 + 2) (-1)) ((1) * 3 + 0) (-1)) ((1) * 3 + 1) (-1)) ((1) * 3 + 2) (-1)))), (pa, .inl (g 0, 15, .inl (upd (upd (upd (upd (upd (upd fp ((0) * 3 + 0) 0) ((0) * 3 + 1) 0) ((0) * 3 + 2) 0) ((1) * 3 + 0) 0) ((1) * 3 + 1) 0) ((1) * 3 + 2) 0)))] := hD
  refine W.widen (k := 0) (n := 0) (Nat.le_of_ble_eq_true rfl) (Nat.le_of_ble_eq_true rfl) ?_
  refine lv_iinc (v := 2) (lv' := [(5, .int 2), (0, .ref L), (1, .int v0), (2, .int v1), (3, .int v2), (4, .int zz)]) hx hb dX2_lay_45 hl (k := 0) rfl (by decide) (by decide) rfl (fun ls hl => ?_)
  refine lv_goto (tgt := 33) hx hb dX2_lay_48 (by decide) ?_
  refine lv_iload hx hb dX2_lay_33 (lv_at hl 0 rfl) ?_
  refine lv_iconst (v := 5) hx hb dX2_lay_35 (by decide) ?_
  refine lv_icmp_ge (tgt := 51) hx hb dX2_lay_36 (by decide) (fun cb => absurd cb (by decide)) (fun _ => ?_)
  refine lv_aload_n hx hb dX2_lay_39 rfl (lv_at hl 1 rfl) ?_
  refine lv_iload hx hb dX2_lay_40 (lv_at hl 0 rfl) ?_
  refine ky_Vv (As := [.int 2]) (rest := []) ⟨hx, hb, hml, hown, hts⟩ ⟨hK, hN⟩ hZ hP hD hS hA [4, 5, 6, 7] [0, 1, 2, 3] (wc := [(L, .inr (2, [.int v0, .int v1, .int v2, .int 0, .int (-1), .int (-1), .ref ca, .ref ua, .ref pa, .ref la])), (ca, .inl (g 0, 5, .inl (upd (upd fc (0) (-1)) (1) (-1)))), (ua, .inl (g 0, 15, .inl (upd (upd (upd (upd (upd (upd fu ((0) * 3 + 0) (-1)) ((0) * 3 + 1) (-1)) ((0) * 3 + 2) (-1)) ((1) * 3 + 0) (-1)) ((1) * 3 + 1) (-1)) ((1) * 3 + 2) (-1)))), (pa, .inl (g 0, 15, .inl (upd (upd (upd (upd (upd (upd fp ((0) * 3 + 0) 0) ((0) * 3 + 1) 0) ((0) * 3 + 2) 0) ((1) * 3 + 0) 0) ((1) * 3 + 1) 0) ((1) * 3 + 2) 0)))]) (wr := [(la, .inl (g 2, 3, .inr (.inr (.inr (.inr (rf3 a0 a1 a2)))))), (a0, .inr (1, [.int f0, .int f1, .int f2, .int f3, .int f4, .int f5, .int f6])), (a1, .inr (1, [.int h0, .int h1, .int h2, .int h3, .int h4, .int h5, .int h6])), (a2, .inr (1, [.int i0, .int i1, .int i2, .int i3, .int i4, .int i5, .int i6]))]) rfl rfl rfl rfl (by decide) (c_X2_clearSlot l D g H.size L v0 v1 v2 0 (-1) (-1) ca ua pa la (upd (upd fc (0) (-1)) (1) (-1)) (upd (upd (upd (upd (upd (upd fu ((0) * 3 + 0) (-1)) ((0) * 3 + 1) (-1)) ((0) * 3 + 2) (-1)) ((1) * 3 + 0) (-1)) ((1) * 3 + 1) (-1)) ((1) * 3 + 2) (-1)) (upd (upd (upd (upd (upd (upd fp ((0) * 3 + 0) 0) ((0) * 3 + 1) 0) ((0) * 3 + 2) 0) ((1) * 3 + 0) 0) ((1) * 3 + 1) 0) ((1) * 3 + 2) 0) 2 (by decide)) (cwV 1 hts gX2_lay_X2_clearSlot rfl rfl rfl (by decide +kernel) ⟨(Nat.le_of_ble_eq_true rfl), (Nat.le_of_ble_eq_true rfl)⟩) 4 2 rfl rfl rfl rfl hl.1 rfl (Nat.le_of_ble_eq_true rfl) dX2_lay_42 ⟨(Nat.le_of_ble_eq_true rfl), (Nat.le_of_ble_eq_true rfl)⟩ (fun u H locs hw hP hD hS => ?_)
  obtain rfl := hw
  have hP : va_P D vwCl [(la, .inl (g 2, 3, .inr (.inr (.inr (.inr (rf3 a0 a1 a2)))))), (a0, .inr (1, [.int f0, .int f1, .int f2, .int f3, .int f4, .int f5, .int f6])), (a1, .inr (1, [.int h0, .int h1, .int h2, .int h3, .int h4, .int h5, .int h6])), (a2, .inr (1, [.int i0, .int i1, .int i2, .int i3, .int i4, .int i5, .int i6])), (L, .inr (2, [.int v0, .int v1, .int v2, .int 0, .int (-1), .int (-1), .ref ca, .ref ua, .ref pa, .ref la])), (ca, .inl (g 0, 5, .inl (upd (upd (upd fc (0) (-1)) (1) (-1)) (2) (-1)))), (ua, .inl (g 0, 15, .inl (upd (upd (upd (upd (upd (upd (upd (upd (upd fu ((0) * 3 + 0) (-1)) ((0) * 3 + 1) (-1)) ((0) * 3 + 2) (-1)) ((1) * 3 + 0) (-1)) ((1) * 3 + 1) (-1)) ((1) * 3 + 2) (-1)) ((2) * 3 + 0) (-1)) ((2) * 3 + 1) (-1)) ((2) * 3 + 2) (-1)))), (pa, .inl (g 0, 15, .inl (upd (upd (upd (upd (upd (upd (upd (upd (upd fp ((0) * 3 + 0) 0) ((0) * 3 + 1) 0) ((0) * 3 + 2) 0) ((1) * 3 + 0) 0) ((1) * 3 + 1) 0) ((1) * 3 + 2) 0) ((2) * 3 + 0) 0) ((2) * 3 + 1) 0) ((2) * 3 + 2) 0)))] H := hP
  have hD : va_D A [(la, .inl (g 2, 3, .inr (.inr (.inr (.inr (rf3 a0 a1 a2)))))), (a0, .inr (1, [.int f0, .int f1, .int f2, .int f3, .int f4, .int f5, .int f6])), (a1, .inr (1, [.int h0, .int h1, .int h2, .int h3, .int h4, .int h5, .int h6])), (a2, .inr (1, [.int i0, .int i1, .int i2, .int i3, .int i4, .int i5, .int i6])), (L, .inr (2, [.int v0, .int v1, .int v2, .int 0, .int (-1), .int (-1), .ref ca, .ref ua, .ref pa, .ref la])), (ca, .inl (g 0, 5, .inl (upd (upd (upd fc (0) (-1)) (1) (-1)) (2) (-1)))), (ua, .inl (g 0, 15, .inl (upd (upd (upd (upd (upd (upd (upd (upd (upd fu ((0) * 3 + 0) (-1)) ((0) * 3 + 1) (-1)) ((0) * 3 + 2) (-1)) ((1) * 3 + 0) (-1)) ((1) * 3 + 1) (-1)) ((1) * 3 + 2) (-1)) ((2) * 3 + 0) (-1)) ((2) * 3 + 1) (-1)) ((2) * 3 + 2) (-1)))), (pa, .inl (g 0, 15, .inl (upd (upd (upd (upd (upd (upd (upd (upd (upd fp ((0) * 3 + 0) 0) ((0) * 3 + 1) 0) ((0) * 3 + 2) 0) ((1) * 3 + 0) 0) ((1) * 3 + 1) 0) ((1) * 3 + 2) 0) ((2) * 3 + 0) 0) ((2) * 3 + 1) 0) ((2) * 3 + 2) 0)))] := hD
  refine W.widen (k := 0) (n := 0) (Nat.le_of_ble_eq_true rfl) (Nat.le_of_ble_eq_true rfl) ?_
  refine lv_iinc (v := 3) (lv' := [(5, .int 3), (0, .ref L), (1, .int v0), (2, .int v1), (3, .int v2), (4, .int zz)]) hx hb dX2_lay_45 hl (k := 0) rfl (by decide) (by decide) rfl (fun ls hl => ?_)
  refine lv_goto (tgt := 33) hx hb dX2_lay_48 (by decide) ?_
  refine lv_iload hx hb dX2_lay_33 (lv_at hl 0 rfl) ?_
  refine lv_iconst (v := 5) hx hb dX2_lay_35 (by decide) ?_
  refine lv_icmp_ge (tgt := 51) hx hb dX2_lay_36 (by decide) (fun cb => absurd cb (by decide)) (fun _ => ?_)
  refine lv_aload_n hx hb dX2_lay_39 rfl (lv_at hl 1 rfl) ?_
  refine lv_iload hx hb dX2_lay_40 (lv_at hl 0 rfl) ?_
  refine ky_Vv (As := [.int 3]) (rest := []) ⟨hx, hb, hml, hown, hts⟩ ⟨hK, hN⟩ hZ hP hD hS hA [4, 5, 6, 7] [0, 1, 2, 3] (wc := [(L, .inr (2, [.int v0, .int v1, .int v2, .int 0, .int (-1), .int (-1), .ref ca, .ref ua, .ref pa, .ref la])), (ca, .inl (g 0, 5, .inl (upd (upd (upd fc (0) (-1)) (1) (-1)) (2) (-1)))), (ua, .inl (g 0, 15, .inl (upd (upd (upd (upd (upd (upd (upd (upd (upd fu ((0) * 3 + 0) (-1)) ((0) * 3 + 1) (-1)) ((0) * 3 + 2) (-1)) ((1) * 3 + 0) (-1)) ((1) * 3 + 1) (-1)) ((1) * 3 + 2) (-1)) ((2) * 3 + 0) (-1)) ((2) * 3 + 1) (-1)) ((2) * 3 + 2) (-1)))), (pa, .inl (g 0, 15, .inl (upd (upd (upd (upd (upd (upd (upd (upd (upd fp ((0) * 3 + 0) 0) ((0) * 3 + 1) 0) ((0) * 3 + 2) 0) ((1) * 3 + 0) 0) ((1) * 3 + 1) 0) ((1) * 3 + 2) 0) ((2) * 3 + 0) 0) ((2) * 3 + 1) 0) ((2) * 3 + 2) 0)))]) (wr := [(la, .inl (g 2, 3, .inr (.inr (.inr (.inr (rf3 a0 a1 a2)))))), (a0, .inr (1, [.int f0, .int f1, .int f2, .int f3, .int f4, .int f5, .int f6])), (a1, .inr (1, [.int h0, .int h1, .int h2, .int h3, .int h4, .int h5, .int h6])), (a2, .inr (1, [.int i0, .int i1, .int i2, .int i3, .int i4, .int i5, .int i6]))]) rfl rfl rfl rfl (by decide) (c_X2_clearSlot l D g H.size L v0 v1 v2 0 (-1) (-1) ca ua pa la (upd (upd (upd fc (0) (-1)) (1) (-1)) (2) (-1)) (upd (upd (upd (upd (upd (upd (upd (upd (upd fu ((0) * 3 + 0) (-1)) ((0) * 3 + 1) (-1)) ((0) * 3 + 2) (-1)) ((1) * 3 + 0) (-1)) ((1) * 3 + 1) (-1)) ((1) * 3 + 2) (-1)) ((2) * 3 + 0) (-1)) ((2) * 3 + 1) (-1)) ((2) * 3 + 2) (-1)) (upd (upd (upd (upd (upd (upd (upd (upd (upd fp ((0) * 3 + 0) 0) ((0) * 3 + 1) 0) ((0) * 3 + 2) 0) ((1) * 3 + 0) 0) ((1) * 3 + 1) 0) ((1) * 3 + 2) 0) ((2) * 3 + 0) 0) ((2) * 3 + 1) 0) ((2) * 3 + 2) 0) 3 (by decide)) (cwV 1 hts gX2_lay_X2_clearSlot rfl rfl rfl (by decide +kernel) ⟨(Nat.le_of_ble_eq_true rfl), (Nat.le_of_ble_eq_true rfl)⟩) 4 2 rfl rfl rfl rfl hl.1 rfl (Nat.le_of_ble_eq_true rfl) dX2_lay_42 ⟨(Nat.le_of_ble_eq_true rfl), (Nat.le_of_ble_eq_true rfl)⟩ (fun u H locs hw hP hD hS => ?_)
  obtain rfl := hw
  have hP : va_P D vwCl [(la, .inl (g 2, 3, .inr (.inr (.inr (.inr (rf3 a0 a1 a2)))))), (a0, .inr (1, [.int f0, .int f1, .int f2, .int f3, .int f4, .int f5, .int f6])), (a1, .inr (1, [.int h0, .int h1, .int h2, .int h3, .int h4, .int h5, .int h6])), (a2, .inr (1, [.int i0, .int i1, .int i2, .int i3, .int i4, .int i5, .int i6])), (L, .inr (2, [.int v0, .int v1, .int v2, .int 0, .int (-1), .int (-1), .ref ca, .ref ua, .ref pa, .ref la])), (ca, .inl (g 0, 5, .inl (upd (upd (upd (upd fc (0) (-1)) (1) (-1)) (2) (-1)) (3) (-1)))), (ua, .inl (g 0, 15, .inl (upd (upd (upd (upd (upd (upd (upd (upd (upd (upd (upd (upd fu ((0) * 3 + 0) (-1)) ((0) * 3 + 1) (-1)) ((0) * 3 + 2) (-1)) ((1) * 3 + 0) (-1)) ((1) * 3 + 1) (-1)) ((1) * 3 + 2) (-1)) ((2) * 3 + 0) (-1)) ((2) * 3 + 1) (-1)) ((2) * 3 + 2) (-1)) ((3) * 3 + 0) (-1)) ((3) * 3 + 1) (-1)) ((3) * 3 + 2) (-1)))), (pa, .inl (g 0, 15, .inl (upd (upd (upd (upd (upd (upd (upd (upd (upd (upd (upd (upd fp ((0) * 3 + 0) 0) ((0) * 3 + 1) 0) ((0) * 3 + 2) 0) ((1) * 3 + 0) 0) ((1) * 3 + 1) 0) ((1) * 3 + 2) 0) ((2) * 3 + 0) 0) ((2) * 3 + 1) 0) ((2) * 3 + 2) 0) ((3) * 3 + 0) 0) ((3) * 3 + 1) 0) ((3) * 3 + 2) 0)))] H := hP
  have hD : va_D A [(la, .inl (g 2, 3, .inr (.inr (.inr (.inr (rf3 a0 a1 a2)))))), (a0, .inr (1, [.int f0, .int f1, .int f2, .int f3, .int f4, .int f5, .int f6])), (a1, .inr (1, [.int h0, .int h1, .int h2, .int h3, .int h4, .int h5, .int h6])), (a2, .inr (1, [.int i0, .int i1, .int i2, .int i3, .int i4, .int i5, .int i6])), (L, .inr (2, [.int v0, .int v1, .int v2, .int 0, .int (-1), .int (-1), .ref ca, .ref ua, .ref pa, .ref la])), (ca, .inl (g 0, 5, .inl (upd (upd (upd (upd fc (0) (-1)) (1) (-1)) (2) (-1)) (3) (-1)))), (ua, .inl (g 0, 15, .inl (upd (upd (upd (upd (upd (upd (upd (upd (upd (upd (upd (upd fu ((0) * 3 + 0) (-1)) ((0) * 3 + 1) (-1)) ((0) * 3 + 2) (-1)) ((1) * 3 + 0) (-1)) ((1) * 3 + 1) (-1)) ((1) * 3 + 2) (-1)) ((2) * 3 + 0) (-1)) ((2) * 3 + 1) (-1)) ((2) * 3 + 2) (-1)) ((3) * 3 + 0) (-1)) ((3) * 3 + 1) (-1)) ((3) * 3 + 2) (-1)))), (pa, .inl (g 0, 15, .inl (upd (upd (upd (upd (upd (upd (upd (upd (upd (upd (upd (upd fp ((0) * 3 + 0) 0) ((0) * 3 + 1) 0) ((0) * 3 + 2) 0) ((1) * 3 + 0) 0) ((1) * 3 + 1) 0) ((1) * 3 + 2) 0) ((2) * 3 + 0) 0) ((2) * 3 + 1) 0) ((2) * 3 + 2) 0) ((3) * 3 + 0) 0) ((3) * 3 + 1) 0) ((3) * 3 + 2) 0)))] := hD
  refine W.widen (k := 0) (n := 0) (Nat.le_of_ble_eq_true rfl) (Nat.le_of_ble_eq_true rfl) ?_
  refine lv_iinc (v := 4) (lv' := [(5, .int 4), (0, .ref L), (1, .int v0), (2, .int v1), (3, .int v2), (4, .int zz)]) hx hb dX2_lay_45 hl (k := 0) rfl (by decide) (by decide) rfl (fun ls hl => ?_)
  refine lv_goto (tgt := 33) hx hb dX2_lay_48 (by decide) ?_
  refine lv_iload hx hb dX2_lay_33 (lv_at hl 0 rfl) ?_
  refine lv_iconst (v := 5) hx hb dX2_lay_35 (by decide) ?_
  refine lv_icmp_ge (tgt := 51) hx hb dX2_lay_36 (by decide) (fun cb => absurd cb (by decide)) (fun _ => ?_)
  refine lv_aload_n hx hb dX2_lay_39 rfl (lv_at hl 1 rfl) ?_
  refine lv_iload hx hb dX2_lay_40 (lv_at hl 0 rfl) ?_
  refine ky_Vv (As := [.int 4]) (rest := []) ⟨hx, hb, hml, hown, hts⟩ ⟨hK, hN⟩ hZ hP hD hS hA [4, 5, 6, 7] [0, 1, 2, 3] (wc := [(L, .inr (2, [.int v0, .int v1, .int v2, .int 0, .int (-1), .int (-1), .ref ca, .ref ua, .ref pa, .ref la])), (ca, .inl (g 0, 5, .inl (upd (upd (upd (upd fc (0) (-1)) (1) (-1)) (2) (-1)) (3) (-1)))), (ua, .inl (g 0, 15, .inl (upd (upd (upd (upd (upd (upd (upd (upd (upd (upd (upd (upd fu ((0) * 3 + 0) (-1)) ((0) * 3 + 1) (-1)) ((0) * 3 + 2) (-1)) ((1) * 3 + 0) (-1)) ((1) * 3 + 1) (-1)) ((1) * 3 + 2) (-1)) ((2) * 3 + 0) (-1)) ((2) * 3 + 1) (-1)) ((2) * 3 + 2) (-1)) ((3) * 3 + 0) (-1)) ((3) * 3 + 1) (-1)) ((3) * 3 + 2) (-1)))), (pa, .inl (g 0, 15, .inl (upd (upd (upd (upd (upd (upd (upd (upd (upd (upd (upd (upd fp ((0) * 3 + 0) 0) ((0) * 3 + 1) 0) ((0) * 3 + 2) 0) ((1) * 3 + 0) 0) ((1) * 3 + 1) 0) ((1) * 3 + 2) 0) ((2) * 3 + 0) 0) ((2) * 3 + 1) 0) ((2) * 3 + 2) 0) ((3) * 3 + 0) 0) ((3) * 3 + 1) 0) ((3) * 3 + 2) 0)))]) (wr := [(la, .inl (g 2, 3, .inr (.inr (.inr (.inr (rf3 a0 a1 a2)))))), (a0, .inr (1, [.int f0, .int f1, .int f2, .int f3, .int f4, .int f5, .int f6])), (a1, .inr (1, [.int h0, .int h1, .int h2, .int h3, .int h4, .int h5, .int h6])), (a2, .inr (1, [.int i0, .int i1, .int i2, .int i3, .int i4, .int i5, .int i6]))]) rfl rfl rfl rfl (by decide) (c_X2_clearSlot l D g H.size L v0 v1 v2 0 (-1) (-1) ca ua pa la (upd (upd (upd (upd fc (0) (-1)) (1) (-1)) (2) (-1)) (3) (-1)) (upd (upd (upd (upd (upd (upd (upd (upd (upd (upd (upd (upd fu ((0) * 3 + 0) (-1)) ((0) * 3 + 1) (-1)) ((0) * 3 + 2) (-1)) ((1) * 3 + 0) (-1)) ((1) * 3 + 1) (-1)) ((1) * 3 + 2) (-1)) ((2) * 3 + 0) (-1)) ((2) * 3 + 1) (-1)) ((2) * 3 + 2) (-1)) ((3) * 3 + 0) (-1)) ((3) * 3 + 1) (-1)) ((3) * 3 + 2) (-1)) (upd (upd (upd (upd (upd (upd (upd (upd (upd (upd (upd (upd fp ((0) * 3 + 0) 0) ((0) * 3 + 1) 0) ((0) * 3 + 2) 0) ((1) * 3 + 0) 0) ((1) * 3 + 1) 0) ((1) * 3 + 2) 0) ((2) * 3 + 0) 0) ((2) * 3 + 1) 0) ((2) * 3 + 2) 0) ((3) * 3 + 0) 0) ((3) * 3 + 1) 0) ((3) * 3 + 2) 0) 4 (by decide)) (cwV 1 hts gX2_lay_X2_clearSlot rfl rfl rfl (by decide +kernel) ⟨(Nat.le_of_ble_eq_true rfl), (Nat.le_of_ble_eq_true rfl)⟩) 4 2 rfl rfl rfl rfl hl.1 rfl (Nat.le_of_ble_eq_true rfl) dX2_lay_42 ⟨(Nat.le_of_ble_eq_true rfl), (Nat.le_of_ble_eq_true rfl)⟩ (fun u H locs hw hP hD hS => ?_)
  obtain rfl := hw
  have hP : va_P D vwCl [(la, .inl (g 2, 3, .inr (.inr (.inr (.inr (rf3 a0 a1 a2)))))), (a0, .inr (1, [.int f0, .int f1, .int f2, .int f3, .int f4, .int f5, .int f6])), (a1, .inr (1, [.int h0, .int h1, .int h2, .int h3, .int h4, .int h5, .int h6])), (a2, .inr (1, [.int i0, .int i1, .int i2, .int i3, .int i4, .int i5, .int i6])), (L, .inr (2, [.int v0, .int v1, .int v2, .int 0, .int (-1), .int (-1), .ref ca, .ref ua, .ref pa, .ref la])), (ca, .inl (g 0, 5, .inl (upd (upd (upd (upd (upd fc (0) (-1)) (1) (-1)) (2) (-1)) (3) (-1)) (4) (-1)))), (ua, .inl (g 0, 15, .inl (upd (upd (upd (upd (upd (upd (upd (upd (upd (upd (upd (upd (upd (upd (upd fu ((0) * 3 + 0) (-1)) ((0) * 3 + 1) (-1)) ((0) * 3 + 2) (-1)) ((1) * 3 + 0) (-1)) ((1) * 3 + 1) (-1)) ((1) * 3 + 2) (-1)) ((2) * 3 + 0) (-1)) ((2) * 3 + 1) (-1)) ((2) * 3 + 2) (-1)) ((3) * 3 + 0) (-1)) ((3) * 3 + 1) (-1)) ((3) * 3 + 2) (-1)) ((4) * 3 + 0) (-1)) ((4) * 3 + 1) (-1)) ((4) * 3 + 2) (-1)))), (pa, .inl (g 0, 15, .inl (upd (upd (upd (upd (upd (upd (upd (upd (upd (upd (upd (upd (upd (upd (upd fp ((0) * 3 + 0) 0) ((0) * 3 + 1) 0) ((0) * 3 + 2) 0) ((1) * 3 + 0) 0) ((1) * 3 + 1) 0) ((1) * 3 + 2) 0) ((2) * 3 + 0) 0) ((2) * 3 + 1) 0) ((2) * 3 + 2) 0) ((3) * 3 + 0) 0) ((3) * 3 + 1) 0) ((3) * 3 + 2) 0) ((4) * 3 + 0) 0) ((4) * 3 + 1) 0) ((4) * 3 + 2) 0)))] H := hP
  have hD : va_D A [(la, .inl (g 2, 3, .inr (.inr (.inr (.inr (rf3 a0 a1 a2)))))), (a0, .inr (1, [.int f0, .int f1, .int f2, .int f3, .int f4, .int f5, .int f6])), (a1, .inr (1, [.int h0, .int h1, .int h2, .int h3, .int h4, .int h5, .int h6])), (a2, .inr (1, [.int i0, .int i1, .int i2, .int i3, .int i4, .int i5, .int i6])), (L, .inr (2, [.int v0, .int v1, .int v2, .int 0, .int (-1), .int (-1), .ref ca, .ref ua, .ref pa, .ref la])), (ca, .inl (g 0, 5, .inl (upd (upd (upd (upd (upd fc (0) (-1)) (1) (-1)) (2) (-1)) (3) (-1)) (4) (-1)))), (ua, .inl (g 0, 15, .inl (upd (upd (upd (upd (upd (upd (upd (upd (upd (upd (upd (upd (upd (upd (upd fu ((0) * 3 + 0) (-1)) ((0) * 3 + 1) (-1)) ((0) * 3 + 2) (-1)) ((1) * 3 + 0) (-1)) ((1) * 3 + 1) (-1)) ((1) * 3 + 2) (-1)) ((2) * 3 + 0) (-1)) ((2) * 3 + 1) (-1)) ((2) * 3 + 2) (-1)) ((3) * 3 + 0) (-1)) ((3) * 3 + 1) (-1)) ((3) * 3 + 2) (-1)) ((4) * 3 + 0) (-1)) ((4) * 3 + 1) (-1)) ((4) * 3 + 2) (-1)))), (pa, .inl (g 0, 15, .inl (upd (upd (upd (upd (upd (upd (upd (upd (upd (upd (upd (upd (upd (upd (upd fp ((0) * 3 + 0) 0) ((0) * 3 + 1) 0) ((0) * 3 + 2) 0) ((1) * 3 + 0) 0) ((1) * 3 + 1) 0) ((1) * 3 + 2) 0) ((2) * 3 + 0) 0) ((2) * 3 + 1) 0) ((2) * 3 + 2) 0) ((3) * 3 + 0) 0) ((3) * 3 + 1) 0) ((3) * 3 + 2) 0) ((4) * 3 + 0) 0) ((4) * 3 + 1) 0) ((4) * 3 + 2) 0)))] := hD
  refine W.widen (k := 0) (n := 0) (Nat.le_of_ble_eq_true rfl) (Nat.le_of_ble_eq_true rfl) ?_
  refine lv_iinc (v := 5) (lv' := [(5, .int 5), (0, .ref L), (1, .int v0), (2, .int v1), (3, .int v2), (4, .int zz)]) hx hb dX2_lay_45 hl (k := 0) rfl (by decide) (by decide) rfl (fun ls hl => ?_)
  refine lv_goto (tgt := 33) hx hb dX2_lay_48 (by decide) ?_
  refine lv_iload hx hb dX2_lay_33 (lv_at hl 0 rfl) ?_
  refine lv_iconst (v := 5) hx hb dX2_lay_35 (by decide) ?_
  refine lv_icmp_ge (tgt := 51) hx hb dX2_lay_36 (by decide) (fun _ => ?_) (fun cb => absurd (by decide) cb)
  refine lv_iconst (v := 0) hx hb dX2_lay_51 (by decide) ?_
  refine lv_istore (lv' := [(5, .int 0), (0, .ref L), (1, .int v0), (2, .int v1), (3, .int v2), (4, .int zz)]) hx hb dX2_lay_52 hl (by decide) rfl (fun ls hl => ?_)
  refine lv_iload hx hb dX2_lay_54 (lv_at hl 0 rfl) ?_
  refine lv_iconst (v := 3) hx hb dX2_lay_56 (by decide) ?_
  refine lv_icmp_ge (tgt := 78) hx hb dX2_lay_57 (by decide) (fun cb => absurd cb (by decide)) (fun _ => ?_)
  refine lv_aload_n hx hb dX2_lay_60 rfl (lv_at hl 1 rfl) ?_
  refine va_get (D := D) (ci := 2) (v := .ref la) (C := RX2) (T := TX2) (N := 10) hx hb hts iX2 hown hK hP 4 rfl rfl 9 (by decide) f23 (fun _ h9 => h9) rfl dX2_lay_61 ?_
  refine lv_iload hx hb dX2_lay_64 (lv_at hl 0 rfl) ?_
  refine va_aldq (C := "HopCredits$Lane") hx hb hK hP 0 2 rfl rfl (by unfold vp_in; decide) dX2_lay_66 ?_
  refine lv_eqv (v2 := .ref a0) rfl ?_
  refine lv_iload hx hb dX2_lay_67 (lv_at hl 5 rfl) ?_
  refine ky_Vv (As := [.int zz]) (rest := []) ⟨hx, hb, hml, hown, hts⟩ ⟨hK, hN⟩ hZ hP hD hS hA [1] [0, 2, 3, 4, 5, 6, 7] (wc := [(a0, .inr (1, [.int f0, .int f1, .int f2, .int f3, .int f4, .int f5, .int f6]))]) (wr := [(la, .inl (g 2, 3, .inr (.inr (.inr (.inr (rf3 a0 a1 a2)))))), (a1, .inr (1, [.int h0, .int h1, .int h2, .int h3, .int h4, .int h5, .int h6])), (a2, .inr (1, [.int i0, .int i1, .int i2, .int i3, .int i4, .int i5, .int i6])), (L, .inr (2, [.int v0, .int v1, .int v2, .int 0, .int (-1), .int (-1), .ref ca, .ref ua, .ref pa, .ref la])), (ca, .inl (g 0, 5, .inl (upd (upd (upd (upd (upd fc (0) (-1)) (1) (-1)) (2) (-1)) (3) (-1)) (4) (-1)))), (ua, .inl (g 0, 15, .inl (upd (upd (upd (upd (upd (upd (upd (upd (upd (upd (upd (upd (upd (upd (upd fu ((0) * 3 + 0) (-1)) ((0) * 3 + 1) (-1)) ((0) * 3 + 2) (-1)) ((1) * 3 + 0) (-1)) ((1) * 3 + 1) (-1)) ((1) * 3 + 2) (-1)) ((2) * 3 + 0) (-1)) ((2) * 3 + 1) (-1)) ((2) * 3 + 2) (-1)) ((3) * 3 + 0) (-1)) ((3) * 3 + 1) (-1)) ((3) * 3 + 2) (-1)) ((4) * 3 + 0) (-1)) ((4) * 3 + 1) (-1)) ((4) * 3 + 2) (-1)))), (pa, .inl (g 0, 15, .inl (upd (upd (upd (upd (upd (upd (upd (upd (upd (upd (upd (upd (upd (upd (upd fp ((0) * 3 + 0) 0) ((0) * 3 + 1) 0) ((0) * 3 + 2) 0) ((1) * 3 + 0) 0) ((1) * 3 + 1) 0) ((1) * 3 + 2) 0) ((2) * 3 + 0) 0) ((2) * 3 + 1) 0) ((2) * 3 + 2) 0) ((3) * 3 + 0) 0) ((3) * 3 + 1) 0) ((3) * 3 + 2) 0) ((4) * 3 + 0) 0) ((4) * 3 + 1) 0) ((4) * 3 + 2) 0)))]) rfl rfl rfl rfl (by decide) (c_X1_lay l D g H.size a0 f0 f1 f2 f3 f4 f5 f6 zz) (cwV 1 hts gX2_lay_X1_lay rfl rfl rfl (by decide +kernel) ⟨(Nat.le_of_ble_eq_true rfl), (Nat.le_of_ble_eq_true rfl)⟩) 1 1 rfl rfl rfl rfl hl.1 rfl (Nat.le_of_ble_eq_true rfl) dX2_lay_69 ⟨(Nat.le_of_ble_eq_true rfl), (Nat.le_of_ble_eq_true rfl)⟩ (fun u H locs hw hP hD hS => ?_)
  obtain rfl := hw
  have hP : va_P D vwCl [(la, .inl (g 2, 3, .inr (.inr (.inr (.inr (rf3 a0 a1 a2)))))), (a1, .inr (1, [.int h0, .int h1, .int h2, .int h3, .int h4, .int h5, .int h6])), (a2, .inr (1, [.int i0, .int i1, .int i2, .int i3, .int i4, .int i5, .int i6])), (L, .inr (2, [.int v0, .int v1, .int v2, .int 0, .int (-1), .int (-1), .ref ca, .ref ua, .ref pa, .ref la])), (ca, .inl (g 0, 5, .inl (upd (upd (upd (upd (upd fc (0) (-1)) (1) (-1)) (2) (-1)) (3) (-1)) (4) (-1)))), (ua, .inl (g 0, 15, .inl (upd (upd (upd (upd (upd (upd (upd (upd (upd (upd (upd (upd (upd (upd (upd fu ((0) * 3 + 0) (-1)) ((0) * 3 + 1) (-1)) ((0) * 3 + 2) (-1)) ((1) * 3 + 0) (-1)) ((1) * 3 + 1) (-1)) ((1) * 3 + 2) (-1)) ((2) * 3 + 0) (-1)) ((2) * 3 + 1) (-1)) ((2) * 3 + 2) (-1)) ((3) * 3 + 0) (-1)) ((3) * 3 + 1) (-1)) ((3) * 3 + 2) (-1)) ((4) * 3 + 0) (-1)) ((4) * 3 + 1) (-1)) ((4) * 3 + 2) (-1)))), (pa, .inl (g 0, 15, .inl (upd (upd (upd (upd (upd (upd (upd (upd (upd (upd (upd (upd (upd (upd (upd fp ((0) * 3 + 0) 0) ((0) * 3 + 1) 0) ((0) * 3 + 2) 0) ((1) * 3 + 0) 0) ((1) * 3 + 1) 0) ((1) * 3 + 2) 0) ((2) * 3 + 0) 0) ((2) * 3 + 1) 0) ((2) * 3 + 2) 0) ((3) * 3 + 0) 0) ((3) * 3 + 1) 0) ((3) * 3 + 2) 0) ((4) * 3 + 0) 0) ((4) * 3 + 1) 0) ((4) * 3 + 2) 0))), (a0, .inr (1, [.int 0, .int 0, .int 0, .int zz, .int 0, .int 0, .int 0]))] H := hP
  have hD : va_D A [(la, .inl (g 2, 3, .inr (.inr (.inr (.inr (rf3 a0 a1 a2)))))), (a1, .inr (1, [.int h0, .int h1, .int h2, .int h3, .int h4, .int h5, .int h6])), (a2, .inr (1, [.int i0, .int i1, .int i2, .int i3, .int i4, .int i5, .int i6])), (L, .inr (2, [.int v0, .int v1, .int v2, .int 0, .int (-1), .int (-1), .ref ca, .ref ua, .ref pa, .ref la])), (ca, .inl (g 0, 5, .inl (upd (upd (upd (upd (upd fc (0) (-1)) (1) (-1)) (2) (-1)) (3) (-1)) (4) (-1)))), (ua, .inl (g 0, 15, .inl (upd (upd (upd (upd (upd (upd (upd (upd (upd (upd (upd (upd (upd (upd (upd fu ((0) * 3 + 0) (-1)) ((0) * 3 + 1) (-1)) ((0) * 3 + 2) (-1)) ((1) * 3 + 0) (-1)) ((1) * 3 + 1) (-1)) ((1) * 3 + 2) (-1)) ((2) * 3 + 0) (-1)) ((2) * 3 + 1) (-1)) ((2) * 3 + 2) (-1)) ((3) * 3 + 0) (-1)) ((3) * 3 + 1) (-1)) ((3) * 3 + 2) (-1)) ((4) * 3 + 0) (-1)) ((4) * 3 + 1) (-1)) ((4) * 3 + 2) (-1)))), (pa, .inl (g 0, 15, .inl (upd (upd (upd (upd (upd (upd (upd (upd (upd (upd (upd (upd (upd (upd (upd fp ((0) * 3 + 0) 0) ((0) * 3 + 1) 0) ((0) * 3 + 2) 0) ((1) * 3 + 0) 0) ((1) * 3 + 1) 0) ((1) * 3 + 2) 0) ((2) * 3 + 0) 0) ((2) * 3 + 1) 0) ((2) * 3 + 2) 0) ((3) * 3 + 0) 0) ((3) * 3 + 1) 0) ((3) * 3 + 2) 0) ((4) * 3 + 0) 0) ((4) * 3 + 1) 0) ((4) * 3 + 2) 0))), (a0, .inr (1, [.int 0, .int 0, .int 0, .int zz, .int 0, .int 0, .int 0]))] := hD
  refine W.widen (k := 0) (n := 0) (Nat.le_of_ble_eq_true rfl) (Nat.le_of_ble_eq_true rfl) ?_
  refine lv_iinc (v := 1) (lv' := [(5, .int 1), (0, .ref L), (1, .int v0), (2, .int v1), (3, .int v2), (4, .int zz)]) hx hb dX2_lay_72 hl (k := 0) rfl (by decide) (by decide) rfl (fun ls hl => ?_)
  refine lv_goto (tgt := 54) hx hb dX2_lay_75 (by decide) ?_
  refine lv_iload hx hb dX2_lay_54 (lv_at hl 0 rfl) ?_
  refine lv_iconst (v := 3) hx hb dX2_lay_56 (by decide) ?_
  refine lv_icmp_ge (tgt := 78) hx hb dX2_lay_57 (by decide) (fun cb => absurd cb (by decide)) (fun _ => ?_)
  refine lv_aload_n hx hb dX2_lay_60 rfl (lv_at hl 1 rfl) ?_
  refine va_get (D := D) (ci := 2) (v := .ref la) (C := RX2) (T := TX2) (N := 10) hx hb hts iX2 hown hK hP 3 rfl rfl 9 (by decide) f23 (fun _ h9 => h9) rfl dX2_lay_61 ?_
  refine lv_iload hx hb dX2_lay_64 (lv_at hl 0 rfl) ?_
  refine va_aldq (C := "HopCredits$Lane") hx hb hK hP 0 2 rfl rfl (by unfold vp_in; decide) dX2_lay_66 ?_
  refine lv_eqv (v2 := .ref a1) rfl ?_
  refine lv_iload hx hb dX2_lay_67 (lv_at hl 5 rfl) ?_
  refine ky_Vv (As := [.int zz]) (rest := []) ⟨hx, hb, hml, hown, hts⟩ ⟨hK, hN⟩ hZ hP hD hS hA [1] [0, 2, 3, 4, 5, 6, 7] (wc := [(a1, .inr (1, [.int h0, .int h1, .int h2, .int h3, .int h4, .int h5, .int h6]))]) (wr := [(la, .inl (g 2, 3, .inr (.inr (.inr (.inr (rf3 a0 a1 a2)))))), (a2, .inr (1, [.int i0, .int i1, .int i2, .int i3, .int i4, .int i5, .int i6])), (L, .inr (2, [.int v0, .int v1, .int v2, .int 0, .int (-1), .int (-1), .ref ca, .ref ua, .ref pa, .ref la])), (ca, .inl (g 0, 5, .inl (upd (upd (upd (upd (upd fc (0) (-1)) (1) (-1)) (2) (-1)) (3) (-1)) (4) (-1)))), (ua, .inl (g 0, 15, .inl (upd (upd (upd (upd (upd (upd (upd (upd (upd (upd (upd (upd (upd (upd (upd fu ((0) * 3 + 0) (-1)) ((0) * 3 + 1) (-1)) ((0) * 3 + 2) (-1)) ((1) * 3 + 0) (-1)) ((1) * 3 + 1) (-1)) ((1) * 3 + 2) (-1)) ((2) * 3 + 0) (-1)) ((2) * 3 + 1) (-1)) ((2) * 3 + 2) (-1)) ((3) * 3 + 0) (-1)) ((3) * 3 + 1) (-1)) ((3) * 3 + 2) (-1)) ((4) * 3 + 0) (-1)) ((4) * 3 + 1) (-1)) ((4) * 3 + 2) (-1)))), (pa, .inl (g 0, 15, .inl (upd (upd (upd (upd (upd (upd (upd (upd (upd (upd (upd (upd (upd (upd (upd fp ((0) * 3 + 0) 0) ((0) * 3 + 1) 0) ((0) * 3 + 2) 0) ((1) * 3 + 0) 0) ((1) * 3 + 1) 0) ((1) * 3 + 2) 0) ((2) * 3 + 0) 0) ((2) * 3 + 1) 0) ((2) * 3 + 2) 0) ((3) * 3 + 0) 0) ((3) * 3 + 1) 0) ((3) * 3 + 2) 0) ((4) * 3 + 0) 0) ((4) * 3 + 1) 0) ((4) * 3 + 2) 0))), (a0, .inr (1, [.int 0, .int 0, .int 0, .int zz, .int 0, .int 0, .int 0]))]) rfl rfl rfl rfl (by decide) (c_X1_lay l D g H.size a1 h0 h1 h2 h3 h4 h5 h6 zz) (cwV 1 hts gX2_lay_X1_lay rfl rfl rfl (by decide +kernel) ⟨(Nat.le_of_ble_eq_true rfl), (Nat.le_of_ble_eq_true rfl)⟩) 1 1 rfl rfl rfl rfl hl.1 rfl (Nat.le_of_ble_eq_true rfl) dX2_lay_69 ⟨(Nat.le_of_ble_eq_true rfl), (Nat.le_of_ble_eq_true rfl)⟩ (fun u H locs hw hP hD hS => ?_)
  obtain rfl := hw
  have hP : va_P D vwCl [(la, .inl (g 2, 3, .inr (.inr (.inr (.inr (rf3 a0 a1 a2)))))), (a2, .inr (1, [.int i0, .int i1, .int i2, .int i3, .int i4, .int i5, .int i6])), (L, .inr (2, [.int v0, .int v1, .int v2, .int 0, .int (-1), .int (-1), .ref ca, .ref ua, .ref pa, .ref la])), (ca, .inl (g 0, 5, .inl (upd (upd (upd (upd (upd fc (0) (-1)) (1) (-1)) (2) (-1)) (3) (-1)) (4) (-1)))), (ua, .inl (g 0, 15, .inl (upd (upd (upd (upd (upd (upd (upd (upd (upd (upd (upd (upd (upd (upd (upd fu ((0) * 3 + 0) (-1)) ((0) * 3 + 1) (-1)) ((0) * 3 + 2) (-1)) ((1) * 3 + 0) (-1)) ((1) * 3 + 1) (-1)) ((1) * 3 + 2) (-1)) ((2) * 3 + 0) (-1)) ((2) * 3 + 1) (-1)) ((2) * 3 + 2) (-1)) ((3) * 3 + 0) (-1)) ((3) * 3 + 1) (-1)) ((3) * 3 + 2) (-1)) ((4) * 3 + 0) (-1)) ((4) * 3 + 1) (-1)) ((4) * 3 + 2) (-1)))), (pa, .inl (g 0, 15, .inl (upd (upd (upd (upd (upd (upd (upd (upd (upd (upd (upd (upd (upd (upd (upd fp ((0) * 3 + 0) 0) ((0) * 3 + 1) 0) ((0) * 3 + 2) 0) ((1) * 3 + 0) 0) ((1) * 3 + 1) 0) ((1) * 3 + 2) 0) ((2) * 3 + 0) 0) ((2) * 3 + 1) 0) ((2) * 3 + 2) 0) ((3) * 3 + 0) 0) ((3) * 3 + 1) 0) ((3) * 3 + 2) 0) ((4) * 3 + 0) 0) ((4) * 3 + 1) 0) ((4) * 3 + 2) 0))), (a0, .inr (1, [.int 0, .int 0, .int 0, .int zz, .int 0, .int 0, .int 0])), (a1, .inr (1, [.int 0, .int 0, .int 0, .int zz, .int 0, .int 0, .int 0]))] H := hP
  have hD : va_D A [(la, .inl (g 2, 3, .inr (.inr (.inr (.inr (rf3 a0 a1 a2)))))), (a2, .inr (1, [.int i0, .int i1, .int i2, .int i3, .int i4, .int i5, .int i6])), (L, .inr (2, [.int v0, .int v1, .int v2, .int 0, .int (-1), .int (-1), .ref ca, .ref ua, .ref pa, .ref la])), (ca, .inl (g 0, 5, .inl (upd (upd (upd (upd (upd fc (0) (-1)) (1) (-1)) (2) (-1)) (3) (-1)) (4) (-1)))), (ua, .inl (g 0, 15, .inl (upd (upd (upd (upd (upd (upd (upd (upd (upd (upd (upd (upd (upd (upd (upd fu ((0) * 3 + 0) (-1)) ((0) * 3 + 1) (-1)) ((0) * 3 + 2) (-1)) ((1) * 3 + 0) (-1)) ((1) * 3 + 1) (-1)) ((1) * 3 + 2) (-1)) ((2) * 3 + 0) (-1)) ((2) * 3 + 1) (-1)) ((2) * 3 + 2) (-1)) ((3) * 3 + 0) (-1)) ((3) * 3 + 1) (-1)) ((3) * 3 + 2) (-1)) ((4) * 3 + 0) (-1)) ((4) * 3 + 1) (-1)) ((4) * 3 + 2) (-1)))), (pa, .inl (g 0, 15, .inl (upd (upd (upd (upd (upd (upd (upd (upd (upd (upd (upd (upd (upd (upd (upd fp ((0) * 3 + 0) 0) ((0) * 3 + 1) 0) ((0) * 3 + 2) 0) ((1) * 3 + 0) 0) ((1) * 3 + 1) 0) ((1) * 3 + 2) 0) ((2) * 3 + 0) 0) ((2) * 3 + 1) 0) ((2) * 3 + 2) 0) ((3) * 3 + 0) 0) ((3) * 3 + 1) 0) ((3) * 3 + 2) 0) ((4) * 3 + 0) 0) ((4) * 3 + 1) 0) ((4) * 3 + 2) 0))), (a0, .inr (1, [.int 0, .int 0, .int 0, .int zz, .int 0, .int 0, .int 0])), (a1, .inr (1, [.int 0, .int 0, .int 0, .int zz, .int 0, .int 0, .int 0]))] := hD
  refine W.widen (k := 0) (n := 0) (Nat.le_of_ble_eq_true rfl) (Nat.le_of_ble_eq_true rfl) ?_
  refine lv_iinc (v := 2) (lv' := [(5, .int 2), (0, .ref L), (1, .int v0), (2, .int v1), (3, .int v2), (4, .int zz)]) hx hb dX2_lay_72 hl (k := 0) rfl (by decide) (by decide) rfl (fun ls hl => ?_)
  refine lv_goto (tgt := 54) hx hb dX2_lay_75 (by decide) ?_
  refine lv_iload hx hb dX2_lay_54 (lv_at hl 0 rfl) ?_
  refine lv_iconst (v := 3) hx hb dX2_lay_56 (by decide) ?_
  refine lv_icmp_ge (tgt := 78) hx hb dX2_lay_57 (by decide) (fun cb => absurd cb (by decide)) (fun _ => ?_)
  refine lv_aload_n hx hb dX2_lay_60 rfl (lv_at hl 1 rfl) ?_
  refine va_get (D := D) (ci := 2) (v := .ref la) (C := RX2) (T := TX2) (N := 10) hx hb hts iX2 hown hK hP 2 rfl rfl 9 (by decide) f23 (fun _ h9 => h9) rfl dX2_lay_61 ?_
  refine lv_iload hx hb dX2_lay_64 (lv_at hl 0 rfl) ?_
  refine va_aldq (C := "HopCredits$Lane") hx hb hK hP 0 2 rfl rfl (by unfold vp_in; decide) dX2_lay_66 ?_
  refine lv_eqv (v2 := .ref a2) rfl ?_
  refine lv_iload hx hb dX2_lay_67 (lv_at hl 5 rfl) ?_
  refine ky_Vv (As := [.int zz]) (rest := []) ⟨hx, hb, hml, hown, hts⟩ ⟨hK, hN⟩ hZ hP hD hS hA [1] [0, 2, 3, 4, 5, 6, 7] (wc := [(a2, .inr (1, [.int i0, .int i1, .int i2, .int i3, .int i4, .int i5, .int i6]))]) (wr := [(la, .inl (g 2, 3, .inr (.inr (.inr (.inr (rf3 a0 a1 a2)))))), (L, .inr (2, [.int v0, .int v1, .int v2, .int 0, .int (-1), .int (-1), .ref ca, .ref ua, .ref pa, .ref la])), (ca, .inl (g 0, 5, .inl (upd (upd (upd (upd (upd fc (0) (-1)) (1) (-1)) (2) (-1)) (3) (-1)) (4) (-1)))), (ua, .inl (g 0, 15, .inl (upd (upd (upd (upd (upd (upd (upd (upd (upd (upd (upd (upd (upd (upd (upd fu ((0) * 3 + 0) (-1)) ((0) * 3 + 1) (-1)) ((0) * 3 + 2) (-1)) ((1) * 3 + 0) (-1)) ((1) * 3 + 1) (-1)) ((1) * 3 + 2) (-1)) ((2) * 3 + 0) (-1)) ((2) * 3 + 1) (-1)) ((2) * 3 + 2) (-1)) ((3) * 3 + 0) (-1)) ((3) * 3 + 1) (-1)) ((3) * 3 + 2) (-1)) ((4) * 3 + 0) (-1)) ((4) * 3 + 1) (-1)) ((4) * 3 + 2) (-1)))), (pa, .inl (g 0, 15, .inl (upd (upd (upd (upd (upd (upd (upd (upd (upd (upd (upd (upd (upd (upd (upd fp ((0) * 3 + 0) 0) ((0) * 3 + 1) 0) ((0) * 3 + 2) 0) ((1) * 3 + 0) 0) ((1) * 3 + 1) 0) ((1) * 3 + 2) 0) ((2) * 3 + 0) 0) ((2) * 3 + 1) 0) ((2) * 3 + 2) 0) ((3) * 3 + 0) 0) ((3) * 3 + 1) 0) ((3) * 3 + 2) 0) ((4) * 3 + 0) 0) ((4) * 3 + 1) 0) ((4) * 3 + 2) 0))), (a0, .inr (1, [.int 0, .int 0, .int 0, .int zz, .int 0, .int 0, .int 0])), (a1, .inr (1, [.int 0, .int 0, .int 0, .int zz, .int 0, .int 0, .int 0]))]) rfl rfl rfl rfl (by decide) (c_X1_lay l D g H.size a2 i0 i1 i2 i3 i4 i5 i6 zz) (cwV 1 hts gX2_lay_X1_lay rfl rfl rfl (by decide +kernel) ⟨(Nat.le_of_ble_eq_true rfl), (Nat.le_of_ble_eq_true rfl)⟩) 1 1 rfl rfl rfl rfl hl.1 rfl (Nat.le_of_ble_eq_true rfl) dX2_lay_69 ⟨(Nat.le_of_ble_eq_true rfl), (Nat.le_of_ble_eq_true rfl)⟩ (fun u H locs hw hP hD hS => ?_)
  obtain rfl := hw
  have hP : va_P D vwCl [(la, .inl (g 2, 3, .inr (.inr (.inr (.inr (rf3 a0 a1 a2)))))), (L, .inr (2, [.int v0, .int v1, .int v2, .int 0, .int (-1), .int (-1), .ref ca, .ref ua, .ref pa, .ref la])), (ca, .inl (g 0, 5, .inl (upd (upd (upd (upd (upd fc (0) (-1)) (1) (-1)) (2) (-1)) (3) (-1)) (4) (-1)))), (ua, .inl (g 0, 15, .inl (upd (upd (upd (upd (upd (upd (upd (upd (upd (upd (upd (upd (upd (upd (upd fu ((0) * 3 + 0) (-1)) ((0) * 3 + 1) (-1)) ((0) * 3 + 2) (-1)) ((1) * 3 + 0) (-1)) ((1) * 3 + 1) (-1)) ((1) * 3 + 2) (-1)) ((2) * 3 + 0) (-1)) ((2) * 3 + 1) (-1)) ((2) * 3 + 2) (-1)) ((3) * 3 + 0) (-1)) ((3) * 3 + 1) (-1)) ((3) * 3 + 2) (-1)) ((4) * 3 + 0) (-1)) ((4) * 3 + 1) (-1)) ((4) * 3 + 2) (-1)))), (pa, .inl (g 0, 15, .inl (upd (upd (upd (upd (upd (upd (upd (upd (upd (upd (upd (upd (upd (upd (upd fp ((0) * 3 + 0) 0) ((0) * 3 + 1) 0) ((0) * 3 + 2) 0) ((1) * 3 + 0) 0) ((1) * 3 + 1) 0) ((1) * 3 + 2) 0) ((2) * 3 + 0) 0) ((2) * 3 + 1) 0) ((2) * 3 + 2) 0) ((3) * 3 + 0) 0) ((3) * 3 + 1) 0) ((3) * 3 + 2) 0) ((4) * 3 + 0) 0) ((4) * 3 + 1) 0) ((4) * 3 + 2) 0))), (a0, .inr (1, [.int 0, .int 0, .int 0, .int zz, .int 0, .int 0, .int 0])), (a1, .inr (1, [.int 0, .int 0, .int 0, .int zz, .int 0, .int 0, .int 0])), (a2, .inr (1, [.int 0, .int 0, .int 0, .int zz, .int 0, .int 0, .int 0]))] H := hP
  have hD : va_D A [(la, .inl (g 2, 3, .inr (.inr (.inr (.inr (rf3 a0 a1 a2)))))), (L, .inr (2, [.int v0, .int v1, .int v2, .int 0, .int (-1), .int (-1), .ref ca, .ref ua, .ref pa, .ref la])), (ca, .inl (g 0, 5, .inl (upd (upd (upd (upd (upd fc (0) (-1)) (1) (-1)) (2) (-1)) (3) (-1)) (4) (-1)))), (ua, .inl (g 0, 15, .inl (upd (upd (upd (upd (upd (upd (upd (upd (upd (upd (upd (upd (upd (upd (upd fu ((0) * 3 + 0) (-1)) ((0) * 3 + 1) (-1)) ((0) * 3 + 2) (-1)) ((1) * 3 + 0) (-1)) ((1) * 3 + 1) (-1)) ((1) * 3 + 2) (-1)) ((2) * 3 + 0) (-1)) ((2) * 3 + 1) (-1)) ((2) * 3 + 2) (-1)) ((3) * 3 + 0) (-1)) ((3) * 3 + 1) (-1)) ((3) * 3 + 2) (-1)) ((4) * 3 + 0) (-1)) ((4) * 3 + 1) (-1)) ((4) * 3 + 2) (-1)))), (pa, .inl (g 0, 15, .inl (upd (upd (upd (upd (upd (upd (upd (upd (upd (upd (upd (upd (upd (upd (upd fp ((0) * 3 + 0) 0) ((0) * 3 + 1) 0) ((0) * 3 + 2) 0) ((1) * 3 + 0) 0) ((1) * 3 + 1) 0) ((1) * 3 + 2) 0) ((2) * 3 + 0) 0) ((2) * 3 + 1) 0) ((2) * 3 + 2) 0) ((3) * 3 + 0) 0) ((3) * 3 + 1) 0) ((3) * 3 + 2) 0) ((4) * 3 + 0) 0) ((4) * 3 + 1) 0) ((4) * 3 + 2) 0))), (a0, .inr (1, [.int 0, .int 0, .int 0, .int zz, .int 0, .int 0, .int 0])), (a1, .inr (1, [.int 0, .int 0, .int 0, .int zz, .int 0, .int 0, .int 0])), (a2, .inr (1, [.int 0, .int 0, .int 0, .int zz, .int 0, .int 0, .int 0]))] := hD
  refine W.widen (k := 0) (n := 0) (Nat.le_of_ble_eq_true rfl) (Nat.le_of_ble_eq_true rfl) ?_
  refine lv_iinc (v := 3) (lv' := [(5, .int 3), (0, .ref L), (1, .int v0), (2, .int v1), (3, .int v2), (4, .int zz)]) hx hb dX2_lay_72 hl (k := 0) rfl (by decide) (by decide) rfl (fun ls hl => ?_)
  refine lv_goto (tgt := 54) hx hb dX2_lay_75 (by decide) ?_
  refine lv_iload hx hb dX2_lay_54 (lv_at hl 0 rfl) ?_
  refine lv_iconst (v := 3) hx hb dX2_lay_56 (by decide) ?_
  refine lv_icmp_ge (tgt := 78) hx hb dX2_lay_57 (by decide) (fun _ => ?_) (fun cb => absurd (by decide) cb)
  have hP9 := hP.sub (ws' := [(L, .inr (2, [.int v0, .int v1, .int v2, .int 0, .int (-1), .int (-1), .ref ca, .ref ua, .ref pa, .ref la])), (ca, .inl (g 0, 5, .inl (upd (upd (upd (upd (upd fc (0) (-1)) (1) (-1)) (2) (-1)) (3) (-1)) (4) (-1)))), (ua, .inl (g 0, 15, .inl (upd (upd (upd (upd (upd (upd (upd (upd (upd (upd (upd (upd (upd (upd (upd fu ((0) * 3 + 0) (-1)) ((0) * 3 + 1) (-1)) ((0) * 3 + 2) (-1)) ((1) * 3 + 0) (-1)) ((1) * 3 + 1) (-1)) ((1) * 3 + 2) (-1)) ((2) * 3 + 0) (-1)) ((2) * 3 + 1) (-1)) ((2) * 3 + 2) (-1)) ((3) * 3 + 0) (-1)) ((3) * 3 + 1) (-1)) ((3) * 3 + 2) (-1)) ((4) * 3 + 0) (-1)) ((4) * 3 + 1) (-1)) ((4) * 3 + 2) (-1)))), (pa, .inl (g 0, 15, .inl (upd (upd (upd (upd (upd (upd (upd (upd (upd (upd (upd (upd (upd (upd (upd fp ((0) * 3 + 0) 0) ((0) * 3 + 1) 0) ((0) * 3 + 2) 0) ((1) * 3 + 0) 0) ((1) * 3 + 1) 0) ((1) * 3 + 2) 0) ((2) * 3 + 0) 0) ((2) * 3 + 1) 0) ((2) * 3 + 2) 0) ((3) * 3 + 0) 0) ((3) * 3 + 1) 0) ((3) * 3 + 2) 0) ((4) * 3 + 0) 0) ((4) * 3 + 1) 0) ((4) * 3 + 2) 0))), (la, .inl (g 2, 3, .inr (.inr (.inr (.inr (rf3 a0 a1 a2)))))), (a0, .inr (1, [.int 0, .int 0, .int 0, .int zz, .int 0, .int 0, .int 0])), (a1, .inr (1, [.int 0, .int 0, .int 0, .int zz, .int 0, .int 0, .int 0])), (a2, .inr (1, [.int 0, .int 0, .int 0, .int zz, .int 0, .int 0, .int 0]))]) [1, 2, 3, 4, 0, 5, 6, 7] rfl
  have hD9 := hD.sub (ws' := [(L, .inr (2, [.int v0, .int v1, .int v2, .int 0, .int (-1), .int (-1), .ref ca, .ref ua, .ref pa, .ref la])), (ca, .inl (g 0, 5, .inl (upd (upd (upd (upd (upd fc (0) (-1)) (1) (-1)) (2) (-1)) (3) (-1)) (4) (-1)))), (ua, .inl (g 0, 15, .inl (upd (upd (upd (upd (upd (upd (upd (upd (upd (upd (upd (upd (upd (upd (upd fu ((0) * 3 + 0) (-1)) ((0) * 3 + 1) (-1)) ((0) * 3 + 2) (-1)) ((1) * 3 + 0) (-1)) ((1) * 3 + 1) (-1)) ((1) * 3 + 2) (-1)) ((2) * 3 + 0) (-1)) ((2) * 3 + 1) (-1)) ((2) * 3 + 2) (-1)) ((3) * 3 + 0) (-1)) ((3) * 3 + 1) (-1)) ((3) * 3 + 2) (-1)) ((4) * 3 + 0) (-1)) ((4) * 3 + 1) (-1)) ((4) * 3 + 2) (-1)))), (pa, .inl (g 0, 15, .inl (upd (upd (upd (upd (upd (upd (upd (upd (upd (upd (upd (upd (upd (upd (upd fp ((0) * 3 + 0) 0) ((0) * 3 + 1) 0) ((0) * 3 + 2) 0) ((1) * 3 + 0) 0) ((1) * 3 + 1) 0) ((1) * 3 + 2) 0) ((2) * 3 + 0) 0) ((2) * 3 + 1) 0) ((2) * 3 + 2) 0) ((3) * 3 + 0) 0) ((3) * 3 + 1) 0) ((3) * 3 + 2) 0) ((4) * 3 + 0) 0) ((4) * 3 + 1) 0) ((4) * 3 + 2) 0))), (la, .inl (g 2, 3, .inr (.inr (.inr (.inr (rf3 a0 a1 a2)))))), (a0, .inr (1, [.int 0, .int 0, .int 0, .int zz, .int 0, .int 0, .int 0])), (a1, .inr (1, [.int 0, .int 0, .int 0, .int zz, .int 0, .int 0, .int 0])), (a2, .inr (1, [.int 0, .int 0, .int 0, .int zz, .int 0, .int 0, .int 0]))]) [1, 2, 3, 4, 0, 5, 6, 7] (by decide) rfl
  subst hQ
  refine W.widen (k := 0) (n := 0) (Nat.le_of_ble_eq_true rfl) (Nat.le_of_ble_eq_true rfl) ?_
  exact W.vret hx hb hr (fun tS htS _ => ⟨⟨_, rfl, ⟨(upd (upd (upd (upd (upd fc (0) (-1)) (1) (-1)) (2) (-1)) (3) (-1)) (4) (-1)), (upd (upd (upd (upd (upd (upd (upd (upd (upd (upd (upd (upd (upd (upd (upd fu ((0) * 3 + 0) (-1)) ((0) * 3 + 1) (-1)) ((0) * 3 + 2) (-1)) ((1) * 3 + 0) (-1)) ((1) * 3 + 1) (-1)) ((1) * 3 + 2) (-1)) ((2) * 3 + 0) (-1)) ((2) * 3 + 1) (-1)) ((2) * 3 + 2) (-1)) ((3) * 3 + 0) (-1)) ((3) * 3 + 1) (-1)) ((3) * 3 + 2) (-1)) ((4) * 3 + 0) (-1)) ((4) * 3 + 1) (-1)) ((4) * 3 + 2) (-1)), (upd (upd (upd (upd (upd (upd (upd (upd (upd (upd (upd (upd (upd (upd (upd fp ((0) * 3 + 0) 0) ((0) * 3 + 1) 0) ((0) * 3 + 2) 0) ((1) * 3 + 0) 0) ((1) * 3 + 1) 0) ((1) * 3 + 2) 0) ((2) * 3 + 0) 0) ((2) * 3 + 1) 0) ((2) * 3 + 2) 0) ((3) * 3 + 0) 0) ((3) * 3 + 1) 0) ((3) * 3 + 2) 0) ((4) * 3 + 0) 0) ((4) * 3 + 1) 0) ((4) * 3 + 2) 0), rfl, fun j hj => by rcases (show j = 0 ∨ j = 1 ∨ j = 2 ∨ j = 3 ∨ j = 4 by omega) with rfl | rfl | rfl | rfl | rfl <;> rfl, fun j hj => by rcases (show j = 0 ∨ j = 1 ∨ j = 2 ∨ j = 3 ∨ j = 4 ∨ j = 5 ∨ j = 6 ∨ j = 7 ∨ j = 8 ∨ j = 9 ∨ j = 10 ∨ j = 11 ∨ j = 12 ∨ j = 13 ∨ j = 14 by omega) with rfl | rfl | rfl | rfl | rfl | rfl | rfl | rfl | rfl | rfl | rfl | rfl | rfl | rfl | rfl <;> rfl, fun j hj => by rcases (show j = 0 ∨ j = 1 ∨ j = 2 ∨ j = 3 ∨ j = 4 ∨ j = 5 ∨ j = 6 ∨ j = 7 ∨ j = 8 ∨ j = 9 ∨ j = 10 ∨ j = 11 ∨ j = 12 ∨ j = 13 ∨ j = 14 by omega) with rfl | rfl | rfl | rfl | rfl | rfl | rfl | rfl | rfl | rfl | rfl | rfl | rfl | rfl | rfl <;> rfl⟩, by rw [htS]; exact hP9, hD9⟩, hS.F htS⟩) hS.2.2 dX2_lay_78
set_option maxHeartbeats 4000000 in
set_option maxRecDepth 100000 in
theorem c_X3_layAlone (l : Launch) (D : va_G) (g : Nat → ClassId) (sz : Nat) (n : Nat) (n0 : Int32) (n1 : Int32) (n2 : Int32) (n3 : Int32) (n4 : Int32) (n5 : Int32) (n6 : Int32) (n7 : Int32) (nl : Nat) (nf : Nat) (nb : Nat) (fb : Nat → Int32) (L : Nat) (L1 : Nat) (L2 : Nat) (l0 : Int32) (l1 : Int32) (l2 : Int32) (l3 : Int32) (l4 : Int32) (l5 : Int32) (ca : Nat) (ua : Nat) (pa : Nat) (la : Nat) (fc : Nat → Int32) (fu : Nat → Int32) (fp : Nat → Int32) (a0 : Nat) (a1 : Nat) (a2 : Nat) (f0 : Int32) (f1 : Int32) (f2 : Int32) (f3 : Int32) (f4 : Int32) (f5 : Int32) (f6 : Int32) (h0 : Int32) (h1 : Int32) (h2 : Int32) (h3 : Int32) (h4 : Int32) (h5 : Int32) (h6 : Int32) (i0 : Int32) (i1 : Int32) (i2 : Int32) (i3 : Int32) (i4 : Int32) (i5 : Int32) (i6 : Int32) (w0 : Nat) (w1 : Nat) (w2 : Nat) (g0 : Int32) (g1 : Int32) (g2 : Int32) (g3 : Int32) (g4 : Int32) (g5 : Int32) (g6 : Int32) (g7 : Int32) (v0 : Int32) (v1 : Int32) (v2 : Int32) (v3 : Int32) : Met l yX3_layAlone wsX3_layAlone ({ frames := 2, cells := 0, slots := 0, locals := 47 }) (va_Pc [.ref n, .int v0, .int v1, .int v2, .int v3] (pre D g sz [(n, .inr (3, [.int n0, .int n1, .int n2, .int n3, .int n4, .int n5, .int n6, .int n7, .ref nl, .ref nf, .ref nb])), (nl, .inl (g 1, 3, .inr (.inr (.inr (.inr (rf3 L L1 L2)))))), (nf, .inl (g 3, 3, .inr (.inr (.inr (.inr (rf3 w0 w1 w2)))))), (nb, .inl (g 0, 12, .inl fb)), (L, .inr (2, [.int l0, .int l1, .int l2, .int l3, .int l4, .int l5, .ref ca, .ref ua, .ref pa, .ref la])), (ca, .inl (g 0, 5, .inl fc)), (ua, .inl (g 0, 15, .inl fu)), (pa, .inl (g 0, 15, .inl fp)), (la, .inl (g 2, 3, .inr (.inr (.inr (.inr (rf3 a0 a1 a2)))))), (a0, .inr (1, [.int f0, .int f1, .int f2, .int f3, .int f4, .int f5, .int f6])), (a1, .inr (1, [.int h0, .int h1, .int h2, .int h3, .int h4, .int h5, .int h6])), (a2, .inr (1, [.int i0, .int i1, .int i2, .int i3, .int i4, .int i5, .int i6])), (w0, .inr (0, [.int g0, .int g1, .int g2, .int g3, .int g4, .int g5, .int g6, .int g7]))])) (va_Qv (fun (u : va_W) => ∃ (fb2 : Nat → Int32) (fc2 : Nat → Int32) (fu2 : Nat → Int32) (fp2 : Nat → Int32), u = [(n, .inr (3, [.int 1, .int 1, .int 1, .int 0, .int 0, .int 0, .int 0, .int 0, .ref nl, .ref nf, .ref nb])), (nl, .inl (g 1, 3, .inr (.inr (.inr (.inr (rf3 L L1 L2)))))), (nf, .inl (g 3, 3, .inr (.inr (.inr (.inr (rf3 w0 w1 w2)))))), (nb, .inl (g 0, 12, .inl fb2)), (L, .inr (2, [.int v0, .int 30, .int v1, .int 0, .int (-1), .int (-1), .ref ca, .ref ua, .ref pa, .ref la])), (ca, .inl (g 0, 5, .inl fc2)), (ua, .inl (g 0, 15, .inl fu2)), (pa, .inl (g 0, 15, .inl fp2)), (la, .inl (g 2, 3, .inr (.inr (.inr (.inr (rf3 a0 a1 a2)))))), (a0, .inr (1, [.int 0, .int 0, .int 0, .int v2, .int 0, .int 0, .int 0])), (a1, .inr (1, [.int 0, .int 0, .int 0, .int v2, .int 0, .int 0, .int 0])), (a2, .inr (1, [.int 0, .int 0, .int 0, .int v2, .int 0, .int 0, .int 0])), (w0, .inr (0, [.int 0, .int 0, .int v3, .int 0, .int 0, .int 0, .int 0, .int 0]))] ∧ (∀ j, j < 12 → 0 < j → fb2 j = 0) ∧ (fb2 0 = 201) ∧ (∀ j, j < 5 → fc2 j = -1) ∧ (∀ j, j < 15 → fu2 j = -1) ∧ (∀ j, j < 15 → fp2 j = 0)) (wd D (va_A [(n, .inr (3, [.int n0, .int n1, .int n2, .int n3, .int n4, .int n5, .int n6, .int n7, .ref nl, .ref nf, .ref nb])), (nl, .inl (g 1, 3, .inr (.inr (.inr (.inr (rf3 L L1 L2)))))), (nf, .inl (g 3, 3, .inr (.inr (.inr (.inr (rf3 w0 w1 w2)))))), (nb, .inl (g 0, 12, .inl fb)), (L, .inr (2, [.int l0, .int l1, .int l2, .int l3, .int l4, .int l5, .ref ca, .ref ua, .ref pa, .ref la])), (ca, .inl (g 0, 5, .inl fc)), (ua, .inl (g 0, 15, .inl fu)), (pa, .inl (g 0, 15, .inl fp)), (la, .inl (g 2, 3, .inr (.inr (.inr (.inr (rf3 a0 a1 a2)))))), (a0, .inr (1, [.int f0, .int f1, .int f2, .int f3, .int f4, .int f5, .int f6])), (a1, .inr (1, [.int h0, .int h1, .int h2, .int h3, .int h4, .int h5, .int h6])), (a2, .inr (1, [.int i0, .int i1, .int i2, .int i3, .int i4, .int i5, .int i6])), (w0, .inr (0, [.int g0, .int g1, .int g2, .int g3, .int g4, .int g5, .int g6, .int g7]))] sz)) (va_A [(n, .inr (3, [.int n0, .int n1, .int n2, .int n3, .int n4, .int n5, .int n6, .int n7, .ref nl, .ref nf, .ref nb])), (nl, .inl (g 1, 3, .inr (.inr (.inr (.inr (rf3 L L1 L2)))))), (nf, .inl (g 3, 3, .inr (.inr (.inr (.inr (rf3 w0 w1 w2)))))), (nb, .inl (g 0, 12, .inl fb)), (L, .inr (2, [.int l0, .int l1, .int l2, .int l3, .int l4, .int l5, .ref ca, .ref ua, .ref pa, .ref la])), (ca, .inl (g 0, 5, .inl fc)), (ua, .inl (g 0, 15, .inl fu)), (pa, .inl (g 0, 15, .inl fp)), (la, .inl (g 2, 3, .inr (.inr (.inr (.inr (rf3 a0 a1 a2)))))), (a0, .inr (1, [.int f0, .int f1, .int f2, .int f3, .int f4, .int f5, .int f6])), (a1, .inr (1, [.int h0, .int h1, .int h2, .int h3, .int h4, .int h5, .int h6])), (a2, .inr (1, [.int i0, .int i1, .int i2, .int i3, .int i4, .int i5, .int i6])), (w0, .inr (0, [.int g0, .int g1, .int g2, .int g3, .int g4, .int g5, .int g6, .int g7]))] sz)) 0 0 (va_A [(n, .inr (3, [.int n0, .int n1, .int n2, .int n3, .int n4, .int n5, .int n6, .int n7, .ref nl, .ref nf, .ref nb])), (nl, .inl (g 1, 3, .inr (.inr (.inr (.inr (rf3 L L1 L2)))))), (nf, .inl (g 3, 3, .inr (.inr (.inr (.inr (rf3 w0 w1 w2)))))), (nb, .inl (g 0, 12, .inl fb)), (L, .inr (2, [.int l0, .int l1, .int l2, .int l3, .int l4, .int l5, .ref ca, .ref ua, .ref pa, .ref la])), (ca, .inl (g 0, 5, .inl fc)), (ua, .inl (g 0, 15, .inl fu)), (pa, .inl (g 0, 15, .inl fp)), (la, .inl (g 2, 3, .inr (.inr (.inr (.inr (rf3 a0 a1 a2)))))), (a0, .inr (1, [.int f0, .int f1, .int f2, .int f3, .int f4, .int f5, .int f6])), (a1, .inr (1, [.int h0, .int h1, .int h2, .int h3, .int h4, .int h5, .int h6])), (a2, .inr (1, [.int i0, .int i1, .int i2, .int i3, .int i4, .int i5, .int i6])), (w0, .inr (0, [.int g0, .int g1, .int g2, .int g3, .int g4, .int g5, .int g6, .int g7]))] sz) := by
  refine Met.ofW (cc := cX3_layAlone) (maxL := 5) (ret := none) (by decide) rfl ?_
  intro p e s m args below meth c s₁ B hml hv
  obtain ⟨rfl, hsz, hP, ⟨hK, hN⟩, hD0, hZ⟩ := hv
  have hx := B.exec
  have hb := B.bytes
  have hr := B.returns
  have hts := atoms_spec (ws := wsX3_layAlone) B.pre
  have hown : s.vm.findClass RX3 = some m.cls := findClass_of_methodNamed B.named
  have hlocks := B.notSynchronized
  clear B
  subst hsz
  have hD := hD0.self (sz := s.heap.size)
  clear hD0
  generalize hAe : va_A [(n, .inr (3, [.int n0, .int n1, .int n2, .int n3, .int n4, .int n5, .int n6, .int n7, .ref nl, .ref nf, .ref nb])), (nl, .inl (g 1, 3, .inr (.inr (.inr (.inr (rf3 L L1 L2)))))), (nf, .inl (g 3, 3, .inr (.inr (.inr (.inr (rf3 w0 w1 w2)))))), (nb, .inl (g 0, 12, .inl fb)), (L, .inr (2, [.int l0, .int l1, .int l2, .int l3, .int l4, .int l5, .ref ca, .ref ua, .ref pa, .ref la])), (ca, .inl (g 0, 5, .inl fc)), (ua, .inl (g 0, 15, .inl fu)), (pa, .inl (g 0, 15, .inl fp)), (la, .inl (g 2, 3, .inr (.inr (.inr (.inr (rf3 a0 a1 a2)))))), (a0, .inr (1, [.int f0, .int f1, .int f2, .int f3, .int f4, .int f5, .int f6])), (a1, .inr (1, [.int h0, .int h1, .int h2, .int h3, .int h4, .int h5, .int h6])), (a2, .inr (1, [.int i0, .int i1, .int i2, .int i3, .int i4, .int i5, .int i6])), (w0, .inr (0, [.int g0, .int g1, .int g2, .int g3, .int g4, .int g5, .int g6, .int g7]))] s.heap.size = A at hD hZ ⊢
  have hA : ∀ q : Nat, s.heap.size ≤ q → A q := fun q h => by rw [← hAe]; exact Or.inr h
  have hS : va_S A s.heap s.heap [] := va_S.rf
  have f11 := hts (.fieldLink RX3 11 "HopCredits$Net" "links" "[LHopCredits$Link;") (by decide +kernel)
  have f19 := hts (.fieldLink RX3 19 "HopCredits$Net" "flows" "[LHopCredits$Flow;") (by decide +kernel)
  have f23 := hts (.fieldLink RX3 23 "HopCredits$Net" "buffers" "[I") (by decide +kernel)
  have iX3 : ∀ w ∈ u_ws RX3 TX3 11, w ∈ wsX3_layAlone := by decide +kernel
  have hl := lv_entry ([.ref n, .int v0, .int v1, .int v2, .int v3]) (n := 5) (Nat.le_of_ble_eq_true rfl)
  rw [lg_entry_eq]
  generalize (lg_sl ([.ref n, .int v0, .int v1, .int v2, .int v3]) ++ List.replicate (5 - (lg_sl ([.ref n, .int v0, .int v1, .int v2, .int v3])).length) Slot.unset).toArray = ls at hl ⊢
  have hl : lv_has ls 5 [(0, .ref n), (1, .int v0), (2, .int v1), (3, .int v2), (4, .int v3)] := hl
  generalize hQ : MQ below _ _ s _ _ _ = Q
  generalize hH : s.heap = H at hP ⊢
  have hS : va_S A s.heap H [] := by rw [← hH]; exact hS
  clear hH
  refine lv_aload_n hx hb dX3_layAlone_0 rfl (lv_at hl 0 rfl) ?_
  refine lv_iconst (v := 1) hx hb dX3_layAlone_1 (by decide) ?_
  refine lv_iconst (v := 1) hx hb dX3_layAlone_2 (by decide) ?_
  refine lv_iconst (v := 1) hx hb dX3_layAlone_3 (by decide) ?_
  refine ky_Vv (As := [.int 1, .int 1, .int 1]) (rest := []) ⟨hx, hb, hml, hown, hts⟩ ⟨hK, hN⟩ hZ hP hD hS hA [0, 3] [1, 2, 4, 5, 6, 7, 8, 9, 10, 11, 12] (wc := [(n, .inr (3, [.int n0, .int n1, .int n2, .int n3, .int n4, .int n5, .int n6, .int n7, .ref nl, .ref nf, .ref nb])), (nb, .inl (g 0, 12, .inl fb))]) (wr := [(nl, .inl (g 1, 3, .inr (.inr (.inr (.inr (rf3 L L1 L2)))))), (nf, .inl (g 3, 3, .inr (.inr (.inr (.inr (rf3 w0 w1 w2)))))), (L, .inr (2, [.int l0, .int l1, .int l2, .int l3, .int l4, .int l5, .ref ca, .ref ua, .ref pa, .ref la])), (ca, .inl (g 0, 5, .inl fc)), (ua, .inl (g 0, 15, .inl fu)), (pa, .inl (g 0, 15, .inl fp)), (la, .inl (g 2, 3, .inr (.inr (.inr (.inr (rf3 a0 a1 a2)))))), (a0, .inr (1, [.int f0, .int f1, .int f2, .int f3, .int f4, .int f5, .int f6])), (a1, .inr (1, [.int h0, .int h1, .int h2, .int h3, .int h4, .int h5, .int h6])), (a2, .inr (1, [.int i0, .int i1, .int i2, .int i3, .int i4, .int i5, .int i6])), (w0, .inr (0, [.int g0, .int g1, .int g2, .int g3, .int g4, .int g5, .int g6, .int g7]))]) rfl rfl rfl rfl (by decide) (c_X3_layRules l D g H.size n n0 n1 n2 n3 n4 n5 n6 n7 nl nf nb fb 1 1 1) (cwV 3 hts gX3_layAlone_X3_layRules rfl rfl rfl (by decide +kernel) ⟨(Nat.le_of_ble_eq_true rfl), (Nat.le_of_ble_eq_true rfl)⟩) 0 3 rfl rfl rfl rfl hl.1 rfl (Nat.le_of_ble_eq_true rfl) dX3_layAlone_4 ⟨(Nat.le_of_ble_eq_true rfl), (Nat.le_of_ble_eq_true rfl)⟩ (fun u H locs hw hP hD hS => ?_)
  obtain ⟨fb2_1, rfl, hf_3⟩ := hw
  have hP : va_P D vwCl [(nl, .inl (g 1, 3, .inr (.inr (.inr (.inr (rf3 L L1 L2)))))), (nf, .inl (g 3, 3, .inr (.inr (.inr (.inr (rf3 w0 w1 w2)))))), (L, .inr (2, [.int l0, .int l1, .int l2, .int l3, .int l4, .int l5, .ref ca, .ref ua, .ref pa, .ref la])), (ca, .inl (g 0, 5, .inl fc)), (ua, .inl (g 0, 15, .inl fu)), (pa, .inl (g 0, 15, .inl fp)), (la, .inl (g 2, 3, .inr (.inr (.inr (.inr (rf3 a0 a1 a2)))))), (a0, .inr (1, [.int f0, .int f1, .int f2, .int f3, .int f4, .int f5, .int f6])), (a1, .inr (1, [.int h0, .int h1, .int h2, .int h3, .int h4, .int h5, .int h6])), (a2, .inr (1, [.int i0, .int i1, .int i2, .int i3, .int i4, .int i5, .int i6])), (w0, .inr (0, [.int g0, .int g1, .int g2, .int g3, .int g4, .int g5, .int g6, .int g7])), (n, .inr (3, [.int 1, .int 1, .int 1, .int 0, .int 0, .int 0, .int 0, .int 0, .ref nl, .ref nf, .ref nb])), (nb, .inl (g 0, 12, .inl fb2_1))] H := hP
  have hD : va_D A [(nl, .inl (g 1, 3, .inr (.inr (.inr (.inr (rf3 L L1 L2)))))), (nf, .inl (g 3, 3, .inr (.inr (.inr (.inr (rf3 w0 w1 w2)))))), (L, .inr (2, [.int l0, .int l1, .int l2, .int l3, .int l4, .int l5, .ref ca, .ref ua, .ref pa, .ref la])), (ca, .inl (g 0, 5, .inl fc)), (ua, .inl (g 0, 15, .inl fu)), (pa, .inl (g 0, 15, .inl fp)), (la, .inl (g 2, 3, .inr (.inr (.inr (.inr (rf3 a0 a1 a2)))))), (a0, .inr (1, [.int f0, .int f1, .int f2, .int f3, .int f4, .int f5, .int f6])), (a1, .inr (1, [.int h0, .int h1, .int h2, .int h3, .int h4, .int h5, .int h6])), (a2, .inr (1, [.int i0, .int i1, .int i2, .int i3, .int i4, .int i5, .int i6])), (w0, .inr (0, [.int g0, .int g1, .int g2, .int g3, .int g4, .int g5, .int g6, .int g7])), (n, .inr (3, [.int 1, .int 1, .int 1, .int 0, .int 0, .int 0, .int 0, .int 0, .ref nl, .ref nf, .ref nb])), (nb, .inl (g 0, 12, .inl fb2_1))] := hD
  refine W.widen (k := 0) (n := 0) (Nat.le_of_ble_eq_true rfl) (Nat.le_of_ble_eq_true rfl) ?_
  refine lv_aload_n hx hb dX3_layAlone_7 rfl (lv_at hl 0 rfl) ?_
  refine va_get (D := D) (ci := 3) (v := .ref nl) (C := RX3) (T := TX3) (N := 11) hx hb hts iX3 hown hK hP 11 rfl rfl 8 (by decide) f11 (fun _ h9 => h9) rfl dX3_layAlone_8 ?_
  refine lv_iconst (v := 0) hx hb dX3_layAlone_11 (by decide) ?_
  refine va_aldq (C := "HopCredits$Link") hx hb hK hP 0 1 rfl rfl (by unfold vp_in; decide) dX3_layAlone_12 ?_
  refine lv_eqv (v2 := .ref L) rfl ?_
  refine lv_iload_n hx hb dX3_layAlone_13 rfl (lv_at hl 1 rfl) ?_
  refine lv_bipush (v := 30) hx hb dX3_layAlone_14 (by decide) ?_
  refine lv_iload_n hx hb dX3_layAlone_16 rfl (lv_at hl 2 rfl) ?_
  refine lv_iload_n hx hb dX3_layAlone_17 rfl (lv_at hl 3 rfl) ?_
  refine ky_Vv (As := [.int v0, .int 30, .int v1, .int v2]) (rest := []) ⟨hx, hb, hml, hown, hts⟩ ⟨hK, hN⟩ hZ hP hD hS hA [2, 3, 4, 5, 6, 7, 8, 9] [0, 1, 10, 11, 12] (wc := [(L, .inr (2, [.int l0, .int l1, .int l2, .int l3, .int l4, .int l5, .ref ca, .ref ua, .ref pa, .ref la])), (ca, .inl (g 0, 5, .inl fc)), (ua, .inl (g 0, 15, .inl fu)), (pa, .inl (g 0, 15, .inl fp)), (la, .inl (g 2, 3, .inr (.inr (.inr (.inr (rf3 a0 a1 a2)))))), (a0, .inr (1, [.int f0, .int f1, .int f2, .int f3, .int f4, .int f5, .int f6])), (a1, .inr (1, [.int h0, .int h1, .int h2, .int h3, .int h4, .int h5, .int h6])), (a2, .inr (1, [.int i0, .int i1, .int i2, .int i3, .int i4, .int i5, .int i6]))]) (wr := [(nl, .inl (g 1, 3, .inr (.inr (.inr (.inr (rf3 L L1 L2)))))), (nf, .inl (g 3, 3, .inr (.inr (.inr (.inr (rf3 w0 w1 w2)))))), (w0, .inr (0, [.int g0, .int g1, .int g2, .int g3, .int g4, .int g5, .int g6, .int g7])), (n, .inr (3, [.int 1, .int 1, .int 1, .int 0, .int 0, .int 0, .int 0, .int 0, .ref nl, .ref nf, .ref nb])), (nb, .inl (g 0, 12, .inl fb2_1))]) rfl rfl rfl rfl (by decide) (c_X2_lay l D g H.size L l0 l1 l2 l3 l4 l5 ca ua pa la fc fu fp a0 a1 a2 f0 f1 f2 f3 f4 f5 f6 h0 h1 h2 h3 h4 h5 h6 i0 i1 i2 i3 i4 i5 i6 v0 30 v1 v2) (cwV 4 hts gX3_layAlone_X2_lay rfl rfl rfl (by decide +kernel) ⟨(Nat.le_of_ble_eq_true rfl), (Nat.le_of_ble_eq_true rfl)⟩) 2 2 rfl rfl rfl rfl hl.1 rfl (Nat.le_of_ble_eq_true rfl) dX3_layAlone_18 ⟨(Nat.le_of_ble_eq_true rfl), (Nat.le_of_ble_eq_true rfl)⟩ (fun u H locs hw hP hD hS => ?_)
  obtain ⟨fc2_4, fu2_5, fp2_6, rfl, hf_8, hf_9, hf_10⟩ := hw
  have hP : va_P D vwCl [(nl, .inl (g 1, 3, .inr (.inr (.inr (.inr (rf3 L L1 L2)))))), (nf, .inl (g 3, 3, .inr (.inr (.inr (.inr (rf3 w0 w1 w2)))))), (w0, .inr (0, [.int g0, .int g1, .int g2, .int g3, .int g4, .int g5, .int g6, .int g7])), (n, .inr (3, [.int 1, .int 1, .int 1, .int 0, .int 0, .int 0, .int 0, .int 0, .ref nl, .ref nf, .ref nb])), (nb, .inl (g 0, 12, .inl fb2_1)), (L, .inr (2, [.int v0, .int 30, .int v1, .int 0, .int (-1), .int (-1), .ref ca, .ref ua, .ref pa, .ref la])), (ca, .inl (g 0, 5, .inl fc2_4)), (ua, .inl (g 0, 15, .inl fu2_5)), (pa, .inl (g 0, 15, .inl fp2_6)), (la, .inl (g 2, 3, .inr (.inr (.inr (.inr (rf3 a0 a1 a2)))))), (a0, .inr (1, [.int 0, .int 0, .int 0, .int v2, .int 0, .int 0, .int 0])), (a1, .inr (1, [.int 0, .int 0, .int 0, .int v2, .int 0, .int 0, .int 0])), (a2, .inr (1, [.int 0, .int 0, .int 0, .int v2, .int 0, .int 0, .int 0]))] H := hP
  have hD : va_D A [(nl, .inl (g 1, 3, .inr (.inr (.inr (.inr (rf3 L L1 L2)))))), (nf, .inl (g 3, 3, .inr (.inr (.inr (.inr (rf3 w0 w1 w2)))))), (w0, .inr (0, [.int g0, .int g1, .int g2, .int g3, .int g4, .int g5, .int g6, .int g7])), (n, .inr (3, [.int 1, .int 1, .int 1, .int 0, .int 0, .int 0, .int 0, .int 0, .ref nl, .ref nf, .ref nb])), (nb, .inl (g 0, 12, .inl fb2_1)), (L, .inr (2, [.int v0, .int 30, .int v1, .int 0, .int (-1), .int (-1), .ref ca, .ref ua, .ref pa, .ref la])), (ca, .inl (g 0, 5, .inl fc2_4)), (ua, .inl (g 0, 15, .inl fu2_5)), (pa, .inl (g 0, 15, .inl fp2_6)), (la, .inl (g 2, 3, .inr (.inr (.inr (.inr (rf3 a0 a1 a2)))))), (a0, .inr (1, [.int 0, .int 0, .int 0, .int v2, .int 0, .int 0, .int 0])), (a1, .inr (1, [.int 0, .int 0, .int 0, .int v2, .int 0, .int 0, .int 0])), (a2, .inr (1, [.int 0, .int 0, .int 0, .int v2, .int 0, .int 0, .int 0]))] := hD
  refine W.widen (k := 0) (n := 0) (Nat.le_of_ble_eq_true rfl) (Nat.le_of_ble_eq_true rfl) ?_
  refine lv_aload_n hx hb dX3_layAlone_21 rfl (lv_at hl 0 rfl) ?_
  refine va_get (D := D) (ci := 3) (v := .ref nf) (C := RX3) (T := TX3) (N := 11) hx hb hts iX3 hown hK hP 3 rfl rfl 9 (by decide) f19 (fun _ h9 => h9) rfl dX3_layAlone_22 ?_
  refine lv_iconst (v := 0) hx hb dX3_layAlone_25 (by decide) ?_
  refine va_aldq (C := "HopCredits$Flow") hx hb hK hP 1 3 rfl rfl (by unfold vp_in; decide) dX3_layAlone_26 ?_
  refine lv_eqv (v2 := .ref w0) rfl ?_
  refine lv_iconst (v := 0) hx hb dX3_layAlone_27 (by decide) ?_
  refine lv_iconst (v := 0) hx hb dX3_layAlone_28 (by decide) ?_
  refine lv_iload hx hb dX3_layAlone_29 (lv_at hl 4 rfl) ?_
  refine ky_Vv (As := [.int 0, .int 0, .int v3]) (rest := []) ⟨hx, hb, hml, hown, hts⟩ ⟨hK, hN⟩ hZ hP hD hS hA [2] [0, 1, 3, 4, 5, 6, 7, 8, 9, 10, 11, 12] (wc := [(w0, .inr (0, [.int g0, .int g1, .int g2, .int g3, .int g4, .int g5, .int g6, .int g7]))]) (wr := [(nl, .inl (g 1, 3, .inr (.inr (.inr (.inr (rf3 L L1 L2)))))), (nf, .inl (g 3, 3, .inr (.inr (.inr (.inr (rf3 w0 w1 w2)))))), (n, .inr (3, [.int 1, .int 1, .int 1, .int 0, .int 0, .int 0, .int 0, .int 0, .ref nl, .ref nf, .ref nb])), (nb, .inl (g 0, 12, .inl fb2_1)), (L, .inr (2, [.int v0, .int 30, .int v1, .int 0, .int (-1), .int (-1), .ref ca, .ref ua, .ref pa, .ref la])), (ca, .inl (g 0, 5, .inl fc2_4)), (ua, .inl (g 0, 15, .inl fu2_5)), (pa, .inl (g 0, 15, .inl fp2_6)), (la, .inl (g 2, 3, .inr (.inr (.inr (.inr (rf3 a0 a1 a2)))))), (a0, .inr (1, [.int 0, .int 0, .int 0, .int v2, .int 0, .int 0, .int 0])), (a1, .inr (1, [.int 0, .int 0, .int 0, .int v2, .int 0, .int 0, .int 0])), (a2, .inr (1, [.int 0, .int 0, .int 0, .int v2, .int 0, .int 0, .int 0]))]) rfl rfl rfl rfl (by decide) (c_X0_lay l D g H.size w0 g0 g1 g2 g3 g4 g5 g6 g7 0 0 v3) (cwV 3 hts gX3_layAlone_X0_lay rfl rfl rfl (by decide +kernel) ⟨(Nat.le_of_ble_eq_true rfl), (Nat.le_of_ble_eq_true rfl)⟩) 2 0 rfl rfl rfl rfl hl.1 rfl (Nat.le_of_ble_eq_true rfl) dX3_layAlone_31 ⟨(Nat.le_of_ble_eq_true rfl), (Nat.le_of_ble_eq_true rfl)⟩ (fun u H locs hw hP hD hS => ?_)
  obtain rfl := hw
  have hP : va_P D vwCl [(nl, .inl (g 1, 3, .inr (.inr (.inr (.inr (rf3 L L1 L2)))))), (nf, .inl (g 3, 3, .inr (.inr (.inr (.inr (rf3 w0 w1 w2)))))), (n, .inr (3, [.int 1, .int 1, .int 1, .int 0, .int 0, .int 0, .int 0, .int 0, .ref nl, .ref nf, .ref nb])), (nb, .inl (g 0, 12, .inl fb2_1)), (L, .inr (2, [.int v0, .int 30, .int v1, .int 0, .int (-1), .int (-1), .ref ca, .ref ua, .ref pa, .ref la])), (ca, .inl (g 0, 5, .inl fc2_4)), (ua, .inl (g 0, 15, .inl fu2_5)), (pa, .inl (g 0, 15, .inl fp2_6)), (la, .inl (g 2, 3, .inr (.inr (.inr (.inr (rf3 a0 a1 a2)))))), (a0, .inr (1, [.int 0, .int 0, .int 0, .int v2, .int 0, .int 0, .int 0])), (a1, .inr (1, [.int 0, .int 0, .int 0, .int v2, .int 0, .int 0, .int 0])), (a2, .inr (1, [.int 0, .int 0, .int 0, .int v2, .int 0, .int 0, .int 0])), (w0, .inr (0, [.int 0, .int 0, .int v3, .int 0, .int 0, .int 0, .int 0, .int 0]))] H := hP
  have hD : va_D A [(nl, .inl (g 1, 3, .inr (.inr (.inr (.inr (rf3 L L1 L2)))))), (nf, .inl (g 3, 3, .inr (.inr (.inr (.inr (rf3 w0 w1 w2)))))), (n, .inr (3, [.int 1, .int 1, .int 1, .int 0, .int 0, .int 0, .int 0, .int 0, .ref nl, .ref nf, .ref nb])), (nb, .inl (g 0, 12, .inl fb2_1)), (L, .inr (2, [.int v0, .int 30, .int v1, .int 0, .int (-1), .int (-1), .ref ca, .ref ua, .ref pa, .ref la])), (ca, .inl (g 0, 5, .inl fc2_4)), (ua, .inl (g 0, 15, .inl fu2_5)), (pa, .inl (g 0, 15, .inl fp2_6)), (la, .inl (g 2, 3, .inr (.inr (.inr (.inr (rf3 a0 a1 a2)))))), (a0, .inr (1, [.int 0, .int 0, .int 0, .int v2, .int 0, .int 0, .int 0])), (a1, .inr (1, [.int 0, .int 0, .int 0, .int v2, .int 0, .int 0, .int 0])), (a2, .inr (1, [.int 0, .int 0, .int 0, .int v2, .int 0, .int 0, .int 0])), (w0, .inr (0, [.int 0, .int 0, .int v3, .int 0, .int 0, .int 0, .int 0, .int 0]))] := hD
  refine W.widen (k := 0) (n := 0) (Nat.le_of_ble_eq_true rfl) (Nat.le_of_ble_eq_true rfl) ?_
  refine lv_aload_n hx hb dX3_layAlone_34 rfl (lv_at hl 0 rfl) ?_
  refine va_get (D := D) (ci := 3) (v := .ref nb) (C := RX3) (T := TX3) (N := 11) hx hb hts iX3 hown hK hP 2 rfl rfl 10 (by decide) f23 (fun _ h9 => h9) rfl dX3_layAlone_35 ?_
  refine lv_iconst (v := 0) hx hb dX3_layAlone_38 (by decide) ?_
  refine lv_sipush (v := 201) hx hb dX3_layAlone_39 (by decide) ?_
  refine va_iast hx hb hK hP hD hS 3 0 rfl rfl (by unfold vp_in; decide) dX3_layAlone_42 (fun H locs hP hD hS => ?_)
  have hP : va_P D vwCl [(nl, .inl (g 1, 3, .inr (.inr (.inr (.inr (rf3 L L1 L2)))))), (nf, .inl (g 3, 3, .inr (.inr (.inr (.inr (rf3 w0 w1 w2)))))), (n, .inr (3, [.int 1, .int 1, .int 1, .int 0, .int 0, .int 0, .int 0, .int 0, .ref nl, .ref nf, .ref nb])), (nb, .inl (g 0, 12, .inl (upd fb2_1 0 201))), (L, .inr (2, [.int v0, .int 30, .int v1, .int 0, .int (-1), .int (-1), .ref ca, .ref ua, .ref pa, .ref la])), (ca, .inl (g 0, 5, .inl fc2_4)), (ua, .inl (g 0, 15, .inl fu2_5)), (pa, .inl (g 0, 15, .inl fp2_6)), (la, .inl (g 2, 3, .inr (.inr (.inr (.inr (rf3 a0 a1 a2)))))), (a0, .inr (1, [.int 0, .int 0, .int 0, .int v2, .int 0, .int 0, .int 0])), (a1, .inr (1, [.int 0, .int 0, .int 0, .int v2, .int 0, .int 0, .int 0])), (a2, .inr (1, [.int 0, .int 0, .int 0, .int v2, .int 0, .int 0, .int 0])), (w0, .inr (0, [.int 0, .int 0, .int v3, .int 0, .int 0, .int 0, .int 0, .int 0]))] H := hP
  have hD : va_D A [(nl, .inl (g 1, 3, .inr (.inr (.inr (.inr (rf3 L L1 L2)))))), (nf, .inl (g 3, 3, .inr (.inr (.inr (.inr (rf3 w0 w1 w2)))))), (n, .inr (3, [.int 1, .int 1, .int 1, .int 0, .int 0, .int 0, .int 0, .int 0, .ref nl, .ref nf, .ref nb])), (nb, .inl (g 0, 12, .inl (upd fb2_1 0 201))), (L, .inr (2, [.int v0, .int 30, .int v1, .int 0, .int (-1), .int (-1), .ref ca, .ref ua, .ref pa, .ref la])), (ca, .inl (g 0, 5, .inl fc2_4)), (ua, .inl (g 0, 15, .inl fu2_5)), (pa, .inl (g 0, 15, .inl fp2_6)), (la, .inl (g 2, 3, .inr (.inr (.inr (.inr (rf3 a0 a1 a2)))))), (a0, .inr (1, [.int 0, .int 0, .int 0, .int v2, .int 0, .int 0, .int 0])), (a1, .inr (1, [.int 0, .int 0, .int 0, .int v2, .int 0, .int 0, .int 0])), (a2, .inr (1, [.int 0, .int 0, .int 0, .int v2, .int 0, .int 0, .int 0])), (w0, .inr (0, [.int 0, .int 0, .int v3, .int 0, .int 0, .int 0, .int 0, .int 0]))] := hD
  have hP9 := hP.sub (ws' := [(n, .inr (3, [.int 1, .int 1, .int 1, .int 0, .int 0, .int 0, .int 0, .int 0, .ref nl, .ref nf, .ref nb])), (nl, .inl (g 1, 3, .inr (.inr (.inr (.inr (rf3 L L1 L2)))))), (nf, .inl (g 3, 3, .inr (.inr (.inr (.inr (rf3 w0 w1 w2)))))), (nb, .inl (g 0, 12, .inl (upd fb2_1 0 201))), (L, .inr (2, [.int v0, .int 30, .int v1, .int 0, .int (-1), .int (-1), .ref ca, .ref ua, .ref pa, .ref la])), (ca, .inl (g 0, 5, .inl fc2_4)), (ua, .inl (g 0, 15, .inl fu2_5)), (pa, .inl (g 0, 15, .inl fp2_6)), (la, .inl (g 2, 3, .inr (.inr (.inr (.inr (rf3 a0 a1 a2)))))), (a0, .inr (1, [.int 0, .int 0, .int 0, .int v2, .int 0, .int 0, .int 0])), (a1, .inr (1, [.int 0, .int 0, .int 0, .int v2, .int 0, .int 0, .int 0])), (a2, .inr (1, [.int 0, .int 0, .int 0, .int v2, .int 0, .int 0, .int 0])), (w0, .inr (0, [.int 0, .int 0, .int v3, .int 0, .int 0, .int 0, .int 0, .int 0]))]) [2, 0, 1, 3, 4, 5, 6, 7, 8, 9, 10, 11, 12] rfl
  have hD9 := hD.sub (ws' := [(n, .inr (3, [.int 1, .int 1, .int 1, .int 0, .int 0, .int 0, .int 0, .int 0, .ref nl, .ref nf, .ref nb])), (nl, .inl (g 1, 3, .inr (.inr (.inr (.inr (rf3 L L1 L2)))))), (nf, .inl (g 3, 3, .inr (.inr (.inr (.inr (rf3 w0 w1 w2)))))), (nb, .inl (g 0, 12, .inl (upd fb2_1 0 201))), (L, .inr (2, [.int v0, .int 30, .int v1, .int 0, .int (-1), .int (-1), .ref ca, .ref ua, .ref pa, .ref la])), (ca, .inl (g 0, 5, .inl fc2_4)), (ua, .inl (g 0, 15, .inl fu2_5)), (pa, .inl (g 0, 15, .inl fp2_6)), (la, .inl (g 2, 3, .inr (.inr (.inr (.inr (rf3 a0 a1 a2)))))), (a0, .inr (1, [.int 0, .int 0, .int 0, .int v2, .int 0, .int 0, .int 0])), (a1, .inr (1, [.int 0, .int 0, .int 0, .int v2, .int 0, .int 0, .int 0])), (a2, .inr (1, [.int 0, .int 0, .int 0, .int v2, .int 0, .int 0, .int 0])), (w0, .inr (0, [.int 0, .int 0, .int v3, .int 0, .int 0, .int 0, .int 0, .int 0]))]) [2, 0, 1, 3, 4, 5, 6, 7, 8, 9, 10, 11, 12] (by decide) rfl
  subst hQ
  refine W.widen (k := 0) (n := 0) (Nat.le_of_ble_eq_true rfl) (Nat.le_of_ble_eq_true rfl) ?_
  exact W.vret hx hb hr (fun tS htS _ => ⟨⟨_, rfl, ⟨(upd fb2_1 0 201), fc2_4, fu2_5, fp2_6, rfl, fun j hj hj1 => (pk_un (show j ≠ 0 by omega)).trans (hf_3 j hj), rfl, hf_8, hf_9, hf_10⟩, by rw [htS]; exact hP9, hD9⟩, hS.F htS⟩) hS.2.2 dX3_layAlone_43
