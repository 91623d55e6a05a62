set_option maxHeartbeats 4000000 in
set_option maxRecDepth 100000 in
theorem k_X4_kindOf_0 (l : Launch) (D : va_G) (g : Nat → ClassId) (sz : Nat) : Met l yX4_kindOf wsX4_kindOf ({ frames := 0, cells := 0, slots := 0, locals := 0 }) (va_Pc [.int 0] (pre D g sz [])) (va_Qi (fun (r : Int32) (u : va_W) => u = [] ∧ r = 0) (wd D (va_A [] sz)) (va_A [] sz)) 0 0 (va_A [] sz) := by
  refine Met.ofW (cc := cX4_kindOf) (maxL := 1) (ret := (some .int)) (by decide) rfl ?_
  intro p e s m args below meth c s₁ B hml hv
  obtain ⟨rfl, hsz, hP, ⟨hK, hN⟩, hD0, hZ⟩ := hv
  have hx := B.exec
  have hb := B.bytes
  have hr := B.returns
  have hts := atoms_spec (ws := wsX4_kindOf) B.pre
  have hown : s.vm.findClass RX4 = some m.cls := findClass_of_methodNamed B.named
  have hlocks := B.notSynchronized
  clear B
  subst hsz
  have hD := hD0.self (sz := s.heap.size)
  clear hD0
  generalize hAe : va_A [] s.heap.size = A at hD hZ ⊢
  have hA : ∀ q : Nat, s.heap.size ≤ q → A q := fun q h => by rw [← hAe]; exact Or.inr h
  have hS : va_S A s.heap s.heap [] := va_S.rf
  have hl := lv_entry ([.int 0]) (n := 1) (Nat.le_of_ble_eq_true rfl)
  rw [lg_entry_eq]
  generalize (lg_sl ([.int 0]) ++ List.replicate (1 - (lg_sl ([.int 0])).length) Slot.unset).toArray = ls at hl ⊢
  have hl : lv_has ls 1 [(0, .int 0)] := hl
  generalize hQ : MQ below _ _ s _ _ _ = Q
  generalize hH : s.heap = H at hP ⊢
  have hS : va_S A s.heap H [] := by rw [← hH]; exact hS
  clear hH
  refine lv_iload_n hx hb dX4_kindOf_0 rfl (lv_at hl 0 rfl) ?_
  refine lv_if_ne (tgt := 6) hx hb dX4_kindOf_1 (by decide) (fun cb => absurd (by decide) cb) (fun _ => ?_)
  refine lv_iconst (v := 0) hx hb dX4_kindOf_4 (by decide) ?_
  have hP9 := hP; have hD9 := hD
  subst hQ
  refine W.widen (k := 0) (n := 0) (Nat.le_of_ble_eq_true rfl) (Nat.le_of_ble_eq_true rfl) ?_
  exact W.iret (v := 0) hx hb hr (fun tS htS _ => ⟨⟨_, _, rfl, ⟨rfl, rfl⟩, by rw [htS]; exact hP9, hD9⟩, hS.F htS⟩) hS.2.2 dX4_kindOf_5

set_option maxHeartbeats 4000000 in
set_option maxRecDepth 100000 in
theorem k_X4_kindOf_1 (l : Launch) (D : va_G) (g : Nat → ClassId) (sz : Nat) : Met l yX4_kindOf wsX4_kindOf ({ frames := 0, cells := 0, slots := 0, locals := 0 }) (va_Pc [.int 1] (pre D g sz [])) (va_Qi (fun (r : Int32) (u : va_W) => u = [] ∧ r = 1) (wd D (va_A [] sz)) (va_A [] sz)) 0 0 (va_A [] sz) := by
  refine Met.ofW (cc := cX4_kindOf) (maxL := 1) (ret := (some .int)) (by decide) rfl ?_
  intro p e s m args below meth c s₁ B hml hv
  obtain ⟨rfl, hsz, hP, ⟨hK, hN⟩, hD0, hZ⟩ := hv
  have hx := B.exec
  have hb := B.bytes
  have hr := B.returns
  have hts := atoms_spec (ws := wsX4_kindOf) B.pre
  have hown : s.vm.findClass RX4 = some m.cls := findClass_of_methodNamed B.named
  have hlocks := B.notSynchronized
  clear B
  subst hsz
  have hD := hD0.self (sz := s.heap.size)
  clear hD0
  generalize hAe : va_A [] s.heap.size = A at hD hZ ⊢
  have hA : ∀ q : Nat, s.heap.size ≤ q → A q := fun q h => by rw [← hAe]; exact Or.inr h
  have hS : va_S A s.heap s.heap [] := va_S.rf
  have hl := lv_entry ([.int 1]) (n := 1) (Nat.le_of_ble_eq_true rfl)
  rw [lg_entry_eq]
  generalize (lg_sl ([.int 1]) ++ List.replicate (1 - (lg_sl ([.int 1])).length) Slot.unset).toArray = ls at hl ⊢
  have hl : lv_has ls 1 [(0, .int 1)] := hl
  generalize hQ : MQ below _ _ s _ _ _ = Q
  generalize hH : s.heap = H at hP ⊢
  have hS : va_S A s.heap H [] := by rw [← hH]; exact hS
  clear hH
  refine lv_iload_n hx hb dX4_kindOf_0 rfl (lv_at hl 0 rfl) ?_
  refine lv_if_ne (tgt := 6) hx hb dX4_kindOf_1 (by decide) (fun _ => ?_) (fun cb => absurd cb (by decide))
  refine lv_iload_n hx hb dX4_kindOf_6 rfl (lv_at hl 0 rfl) ?_
  refine lv_iconst (v := 3) hx hb dX4_kindOf_7 (by decide) ?_
  refine lv_icmp_gt (tgt := 15) hx hb dX4_kindOf_8 (by decide) (fun cb => absurd cb (by decide)) (fun _ => ?_)
  refine lv_iconst (v := 1) hx hb dX4_kindOf_11 (by decide) ?_
  refine lv_goto (tgt := 16) hx hb dX4_kindOf_12 (by decide) ?_
  have hP9 := hP; have hD9 := hD
  subst hQ
  refine W.widen (k := 0) (n := 0) (Nat.le_of_ble_eq_true rfl) (Nat.le_of_ble_eq_true rfl) ?_
  exact W.iret (v := 1) hx hb hr (fun tS htS _ => ⟨⟨_, _, rfl, ⟨rfl, rfl⟩, by rw [htS]; exact hP9, hD9⟩, hS.F htS⟩) hS.2.2 dX4_kindOf_16

set_option maxHeartbeats 4000000 in
set_option maxRecDepth 100000 in
theorem k_X4_kindOf_2 (l : Launch) (D : va_G) (g : Nat → ClassId) (sz : Nat) : Met l yX4_kindOf wsX4_kindOf ({ frames := 0, cells := 0, slots := 0, locals := 0 }) (va_Pc [.int 2] (pre D g sz [])) (va_Qi (fun (r : Int32) (u : va_W) => u = [] ∧ r = 1) (wd D (va_A [] sz)) (va_A [] sz)) 0 0 (va_A [] sz) := by
  refine Met.ofW (cc := cX4_kindOf) (maxL := 1) (ret := (some .int)) (by decide) rfl ?_
  intro p e s m args below meth c s₁ B hml hv
  obtain ⟨rfl, hsz, hP, ⟨hK, hN⟩, hD0, hZ⟩ := hv
  have hx := B.exec
  have hb := B.bytes
  have hr := B.returns
  have hts := atoms_spec (ws := wsX4_kindOf) B.pre
  have hown : s.vm.findClass RX4 = some m.cls := findClass_of_methodNamed B.named
  have hlocks := B.notSynchronized
  clear B
  subst hsz
  have hD := hD0.self (sz := s.heap.size)
  clear hD0
  generalize hAe : va_A [] s.heap.size = A at hD hZ ⊢
  have hA : ∀ q : Nat, s.heap.size ≤ q → A q := fun q h => by rw [← hAe]; exact Or.inr h
  have hS : va_S A s.heap s.heap [] := va_S.rf
  have hl := lv_entry ([.int 2]) (n := 1) (Nat.le_of_ble_eq_true rfl)
  rw [lg_entry_eq]
  generalize (lg_sl ([.int 2]) ++ List.replicate (1 - (lg_sl ([.int 2])).length) Slot.unset).toArray = ls at hl ⊢
  have hl : lv_has ls 1 [(0, .int 2)] := hl
  generalize hQ : MQ below _ _ s _ _ _ = Q
  generalize hH : s.heap = H at hP ⊢
  have hS : va_S A s.heap H [] := by rw [← hH]; exact hS
  clear hH
  refine lv_iload_n hx hb dX4_kindOf_0 rfl (lv_at hl 0 rfl) ?_
  refine lv_if_ne (tgt := 6) hx hb dX4_kindOf_1 (by decide) (fun _ => ?_) (fun cb => absurd cb (by decide))
  refine lv_iload_n hx hb dX4_kindOf_6 rfl (lv_at hl 0 rfl) ?_
  refine lv_iconst (v := 3) hx hb dX4_kindOf_7 (by decide) ?_
  refine lv_icmp_gt (tgt := 15) hx hb dX4_kindOf_8 (by decide) (fun cb => absurd cb (by decide)) (fun _ => ?_)
  refine lv_iconst (v := 1) hx hb dX4_kindOf_11 (by decide) ?_
  refine lv_goto (tgt := 16) hx hb dX4_kindOf_12 (by decide) ?_
  have hP9 := hP; have hD9 := hD
  subst hQ
  refine W.widen (k := 0) (n := 0) (Nat.le_of_ble_eq_true rfl) (Nat.le_of_ble_eq_true rfl) ?_
  exact W.iret (v := 1) hx hb hr (fun tS htS _ => ⟨⟨_, _, rfl, ⟨rfl, rfl⟩, by rw [htS]; exact hP9, hD9⟩, hS.F htS⟩) hS.2.2 dX4_kindOf_16

set_option maxHeartbeats 4000000 in
set_option maxRecDepth 100000 in
theorem k_X4_kindOf_3 (l : Launch) (D : va_G) (g : Nat → ClassId) (sz : Nat) : Met l yX4_kindOf wsX4_kindOf ({ frames := 0, cells := 0, slots := 0, locals := 0 }) (va_Pc [.int 3] (pre D g sz [])) (va_Qi (fun (r : Int32) (u : va_W) => u = [] ∧ r = 1) (wd D (va_A [] sz)) (va_A [] sz)) 0 0 (va_A [] sz) := by
  refine Met.ofW (cc := cX4_kindOf) (maxL := 1) (ret := (some .int)) (by decide) rfl ?_
  intro p e s m args below meth c s₁ B hml hv
  obtain ⟨rfl, hsz, hP, ⟨hK, hN⟩, hD0, hZ⟩ := hv
  have hx := B.exec
  have hb := B.bytes
  have hr := B.returns
  have hts := atoms_spec (ws := wsX4_kindOf) B.pre
  have hown : s.vm.findClass RX4 = some m.cls := findClass_of_methodNamed B.named
  have hlocks := B.notSynchronized
  clear B
  subst hsz
  have hD := hD0.self (sz := s.heap.size)
  clear hD0
  generalize hAe : va_A [] s.heap.size = A at hD hZ ⊢
  have hA : ∀ q : Nat, s.heap.size ≤ q → A q := fun q h => by rw [← hAe]; exact Or.inr h
  have hS : va_S A s.heap s.heap [] := va_S.rf
  have hl := lv_entry ([.int 3]) (n := 1) (Nat.le_of_ble_eq_true rfl)
  rw [lg_entry_eq]
  generalize (lg_sl ([.int 3]) ++ List.replicate (1 - (lg_sl ([.int 3])).length) Slot.unset).toArray = ls at hl ⊢
  have hl : lv_has ls 1 [(0, .int 3)] := hl
  generalize hQ : MQ below _ _ s _ _ _ = Q
  generalize hH : s.heap = H at hP ⊢
  have hS : va_S A s.heap H [] := by rw [← hH]; exact hS
  clear hH
  refine lv_iload_n hx hb dX4_kindOf_0 rfl (lv_at hl 0 rfl) ?_
  refine lv_if_ne (tgt := 6) hx hb dX4_kindOf_1 (by decide) (fun _ => ?_) (fun cb => absurd cb (by decide))
  refine lv_iload_n hx hb dX4_kindOf_6 rfl (lv_at hl 0 rfl) ?_
  refine lv_iconst (v := 3) hx hb dX4_kindOf_7 (by decide) ?_
  refine lv_icmp_gt (tgt := 15) hx hb dX4_kindOf_8 (by decide) (fun cb => absurd cb (by decide)) (fun _ => ?_)
  refine lv_iconst (v := 1) hx hb dX4_kindOf_11 (by decide) ?_
  refine lv_goto (tgt := 16) hx hb dX4_kindOf_12 (by decide) ?_
  have hP9 := hP; have hD9 := hD
  subst hQ
  refine W.widen (k := 0) (n := 0) (Nat.le_of_ble_eq_true rfl) (Nat.le_of_ble_eq_true rfl) ?_
  exact W.iret (v := 1) hx hb hr (fun tS htS _ => ⟨⟨_, _, rfl, ⟨rfl, rfl⟩, by rw [htS]; exact hP9, hD9⟩, hS.F htS⟩) hS.2.2 dX4_kindOf_16

set_option maxHeartbeats 4000000 in
set_option maxRecDepth 100000 in
theorem k_X4_kindOf_4 (l : Launch) (D : va_G) (g : Nat → ClassId) (sz : Nat) : Met l yX4_kindOf wsX4_kindOf ({ frames := 0, cells := 0, slots := 0, locals := 0 }) (va_Pc [.int 4] (pre D g sz [])) (va_Qi (fun (r : Int32) (u : va_W) => u = [] ∧ r = 2) (wd D (va_A [] sz)) (va_A [] sz)) 0 0 (va_A [] sz) := by
  refine Met.ofW (cc := cX4_kindOf) (maxL := 1) (ret := (some .int)) (by decide) rfl ?_
  intro p e s m args below meth c s₁ B hml hv
  obtain ⟨rfl, hsz, hP, ⟨hK, hN⟩, hD0, hZ⟩ := hv
  have hx := B.exec
  have hb := B.bytes
  have hr := B.returns
  have hts := atoms_spec (ws := wsX4_kindOf) B.pre
  have hown : s.vm.findClass RX4 = some m.cls := findClass_of_methodNamed B.named
  have hlocks := B.notSynchronized
  clear B
  subst hsz
  have hD := hD0.self (sz := s.heap.size)
  clear hD0
  generalize hAe : va_A [] s.heap.size = A at hD hZ ⊢
  have hA : ∀ q : Nat, s.heap.size ≤ q → A q := fun q h => by rw [← hAe]; exact Or.inr h
  have hS : va_S A s.heap s.heap [] := va_S.rf
  have hl := lv_entry ([.int 4]) (n := 1) (Nat.le_of_ble_eq_true rfl)
  rw [lg_entry_eq]
  generalize (lg_sl ([.int 4]) ++ List.replicate (1 - (lg_sl ([.int 4])).length) Slot.unset).toArray = ls at hl ⊢
  have hl : lv_has ls 1 [(0, .int 4)] := hl
  generalize hQ : MQ below _ _ s _ _ _ = Q
  generalize hH : s.heap = H at hP ⊢
  have hS : va_S A s.heap H [] := by rw [← hH]; exact hS
  clear hH
  refine lv_iload_n hx hb dX4_kindOf_0 rfl (lv_at hl 0 rfl) ?_
  refine lv_if_ne (tgt := 6) hx hb dX4_kindOf_1 (by decide) (fun _ => ?_) (fun cb => absurd cb (by decide))
  refine lv_iload_n hx hb dX4_kindOf_6 rfl (lv_at hl 0 rfl) ?_
  refine lv_iconst (v := 3) hx hb dX4_kindOf_7 (by decide) ?_
  refine lv_icmp_gt (tgt := 15) hx hb dX4_kindOf_8 (by decide) (fun _ => ?_) (fun cb => absurd (by decide) cb)
  refine lv_iconst (v := 2) hx hb dX4_kindOf_15 (by decide) ?_
  have hP9 := hP; have hD9 := hD
  subst hQ
  refine W.widen (k := 0) (n := 0) (Nat.le_of_ble_eq_true rfl) (Nat.le_of_ble_eq_true rfl) ?_
  exact W.iret (v := 2) hx hb hr (fun tS htS _ => ⟨⟨_, _, rfl, ⟨rfl, rfl⟩, by rw [htS]; exact hP9, hD9⟩, hS.F htS⟩) hS.2.2 dX4_kindOf_16

set_option maxHeartbeats 4000000 in
set_option maxRecDepth 100000 in
theorem k_X4_kindOf_5 (l : Launch) (D : va_G) (g : Nat → ClassId) (sz : Nat) : Met l yX4_kindOf wsX4_kindOf ({ frames := 0, cells := 0, slots := 0, locals := 0 }) (va_Pc [.int 5] (pre D g sz [])) (va_Qi (fun (r : Int32) (u : va_W) => u = [] ∧ r = 2) (wd D (va_A [] sz)) (va_A [] sz)) 0 0 (va_A [] sz) := by
  refine Met.ofW (cc := cX4_kindOf) (maxL := 1) (ret := (some .int)) (by decide) rfl ?_
  intro p e s m args below meth c s₁ B hml hv
  obtain ⟨rfl, hsz, hP, ⟨hK, hN⟩, hD0, hZ⟩ := hv
  have hx := B.exec
  have hb := B.bytes
  have hr := B.returns
  have hts := atoms_spec (ws := wsX4_kindOf) B.pre
  have hown : s.vm.findClass RX4 = some m.cls := findClass_of_methodNamed B.named
  have hlocks := B.notSynchronized
  clear B
  subst hsz
  have hD := hD0.self (sz := s.heap.size)
  clear hD0
  generalize hAe : va_A [] s.heap.size = A at hD hZ ⊢
  have hA : ∀ q : Nat, s.heap.size ≤ q → A q := fun q h => by rw [← hAe]; exact Or.inr h
  have hS : va_S A s.heap s.heap [] := va_S.rf
  have hl := lv_entry ([.int 5]) (n := 1) (Nat.le_of_ble_eq_true rfl)
  rw [lg_entry_eq]
  generalize (lg_sl ([.int 5]) ++ List.replicate (1 - (lg_sl ([.int 5])).length) Slot.unset).toArray = ls at hl ⊢
  have hl : lv_has ls 1 [(0, .int 5)] := hl
  generalize hQ : MQ below _ _ s _ _ _ = Q
  generalize hH : s.heap = H at hP ⊢
  have hS : va_S A s.heap H [] := by rw [← hH]; exact hS
  clear hH
  refine lv_iload_n hx hb dX4_kindOf_0 rfl (lv_at hl 0 rfl) ?_
  refine lv_if_ne (tgt := 6) hx hb dX4_kindOf_1 (by decide) (fun _ => ?_) (fun cb => absurd cb (by decide))
  refine lv_iload_n hx hb dX4_kindOf_6 rfl (lv_at hl 0 rfl) ?_
  refine lv_iconst (v := 3) hx hb dX4_kindOf_7 (by decide) ?_
  refine lv_icmp_gt (tgt := 15) hx hb dX4_kindOf_8 (by decide) (fun _ => ?_) (fun cb => absurd (by decide) cb)
  refine lv_iconst (v := 2) hx hb dX4_kindOf_15 (by decide) ?_
  have hP9 := hP; have hD9 := hD
  subst hQ
  refine W.widen (k := 0) (n := 0) (Nat.le_of_ble_eq_true rfl) (Nat.le_of_ble_eq_true rfl) ?_
  exact W.iret (v := 2) hx hb hr (fun tS htS _ => ⟨⟨_, _, rfl, ⟨rfl, rfl⟩, by rw [htS]; exact hP9, hD9⟩, hS.F htS⟩) hS.2.2 dX4_kindOf_16

set_option maxHeartbeats 4000000 in
set_option maxRecDepth 100000 in
theorem k_X4_kindOf_6 (l : Launch) (D : va_G) (g : Nat → ClassId) (sz : Nat) : Met l yX4_kindOf wsX4_kindOf ({ frames := 0, cells := 0, slots := 0, locals := 0 }) (va_Pc [.int 6] (pre D g sz [])) (va_Qi (fun (r : Int32) (u : va_W) => u = [] ∧ r = 2) (wd D (va_A [] sz)) (va_A [] sz)) 0 0 (va_A [] sz) := by
  refine Met.ofW (cc := cX4_kindOf) (maxL := 1) (ret := (some .int)) (by decide) rfl ?_
  intro p e s m args below meth c s₁ B hml hv
  obtain ⟨rfl, hsz, hP, ⟨hK, hN⟩, hD0, hZ⟩ := hv
  have hx := B.exec
  have hb := B.bytes
  have hr := B.returns
  have hts := atoms_spec (ws := wsX4_kindOf) B.pre
  have hown : s.vm.findClass RX4 = some m.cls := findClass_of_methodNamed B.named
  have hlocks := B.notSynchronized
  clear B
  subst hsz
  have hD := hD0.self (sz := s.heap.size)
  clear hD0
  generalize hAe : va_A [] s.heap.size = A at hD hZ ⊢
  have hA : ∀ q : Nat, s.heap.size ≤ q → A q := fun q h => by rw [← hAe]; exact Or.inr h
  have hS : va_S A s.heap s.heap [] := va_S.rf
  have hl := lv_entry ([.int 6]) (n := 1) (Nat.le_of_ble_eq_true rfl)
  rw [lg_entry_eq]
  generalize (lg_sl ([.int 6]) ++ List.replicate (1 - (lg_sl ([.int 6])).length) Slot.unset).toArray = ls at hl ⊢
  have hl : lv_has ls 1 [(0, .int 6)] := hl
  generalize hQ : MQ below _ _ s _ _ _ = Q
  generalize hH : s.heap = H at hP ⊢
  have hS : va_S A s.heap H [] := by rw [← hH]; exact hS
  clear hH
  refine lv_iload_n hx hb dX4_kindOf_0 rfl (lv_at hl 0 rfl) ?_
  refine lv_if_ne (tgt := 6) hx hb dX4_kindOf_1 (by decide) (fun _ => ?_) (fun cb => absurd cb (by decide))
  refine lv_iload_n hx hb dX4_kindOf_6 rfl (lv_at hl 0 rfl) ?_
  refine lv_iconst (v := 3) hx hb dX4_kindOf_7 (by decide) ?_
  refine lv_icmp_gt (tgt := 15) hx hb dX4_kindOf_8 (by decide) (fun _ => ?_) (fun cb => absurd (by decide) cb)
  refine lv_iconst (v := 2) hx hb dX4_kindOf_15 (by decide) ?_
  have hP9 := hP; have hD9 := hD
  subst hQ
  refine W.widen (k := 0) (n := 0) (Nat.le_of_ble_eq_true rfl) (Nat.le_of_ble_eq_true rfl) ?_
  exact W.iret (v := 2) hx hb hr (fun tS htS _ => ⟨⟨_, _, rfl, ⟨rfl, rfl⟩, by rw [htS]; exact hP9, hD9⟩, hS.F htS⟩) hS.2.2 dX4_kindOf_16

set_option maxHeartbeats 4000000 in
set_option maxRecDepth 100000 in
theorem k_X4_kindOf (l : Launch) (D : va_G) (g : Nat → ClassId) (sz : Nat) (kx : Nat) (h0 : kx < 7) : Met l yX4_kindOf wsX4_kindOf ({ frames := 0, cells := 0, slots := 0, locals := 0 }) (va_Pc [.int (nI kx)] (pre D g sz [])) (va_Qi (fun (r : Int32) (u : va_W) => ∃ (ky : Nat), u = [] ∧ r = (nI ky) ∧ (ky < 3)) (wd D (va_A [] sz)) (va_A [] sz)) 0 0 (va_A [] sz) := by
  refine Met.ofW (cc := cX4_kindOf) (maxL := 1) (ret := (some .int)) (by decide) rfl ?_
  intro p e s m args below meth c s₁ B hml hv
  obtain ⟨rfl, hsz, hP, ⟨hK, hN⟩, hD0, hZ⟩ := hv
  have hx := B.exec
  have hb := B.bytes
  have hr := B.returns
  have hts := atoms_spec (ws := wsX4_kindOf) B.pre
  have hown : s.vm.findClass RX4 = some m.cls := findClass_of_methodNamed B.named
  have hlocks := B.notSynchronized
  clear B
  subst hsz
  have hD := hD0.self (sz := s.heap.size)
  clear hD0
  generalize hAe : va_A [] s.heap.size = A at hD hZ ⊢
  have hA : ∀ q : Nat, s.heap.size ≤ q → A q := fun q h => by rw [← hAe]; exact Or.inr h
  have hS : va_S A s.heap s.heap [] := va_S.rf
  have hl := lv_entry ([.int (nI kx)]) (n := 1) (Nat.le_of_ble_eq_true rfl)
  rw [lg_entry_eq]
  generalize (lg_sl ([.int (nI kx)]) ++ List.replicate (1 - (lg_sl ([.int (nI kx)])).length) Slot.unset).toArray = ls at hl ⊢
  have hl : lv_has ls 1 [(0, .int (nI kx))] := hl
  generalize hQ : MQ below _ _ s _ _ _ = Q
  generalize hH : s.heap = H at hP ⊢
  have hS : va_S A s.heap H [] := by rw [← hH]; exact hS
  clear hH
  refine lv_iload_n hx hb dX4_kindOf_0 rfl (lv_at hl 0 rfl) ?_
  refine lv_if_ne (tgt := 6) hx hb dX4_kindOf_1 (by decide) (fun cb_1 => ?_) (fun cb_1 => ?_)
  · skip
    have cn_2 : ¬ kx = 0 := fun q9 => cb_1 (congrArg nI q9)
    refine lv_iload_n hx hb dX4_kindOf_6 rfl (lv_at hl 0 rfl) ?_
    refine lv_iconst (v := 3) hx hb dX4_kindOf_7 (by decide) ?_
    refine lv_icmp_gt (tgt := 15) hx hb dX4_kindOf_8 (by decide) (fun cb_3 => ?_) (fun cb_3 => ?_)
    · skip
      have cn_4 : 3 < kx := (nI_ltI (show 3 < 2 ^ 31 by omega) (show kx < 2 ^ 31 by omega)).mp cb_3
      refine lv_iconst (v := 2) hx hb dX4_kindOf_15 (by decide) ?_
      have hP9 := hP; have hD9 := hD
      subst hQ
      refine W.widen (k := 0) (n := 0) (Nat.le_of_ble_eq_true rfl) (Nat.le_of_ble_eq_true rfl) ?_
      exact W.iret (v := 2) hx hb hr (fun tS htS _ => ⟨⟨_, _, rfl, ⟨2, rfl, rfl, (show 2 < 3 by omega)⟩, by rw [htS]; exact hP9, hD9⟩, hS.F htS⟩) hS.2.2 dX4_kindOf_16
    · skip
      have cn_5 : kx ≤ 3 := Nat.le_of_not_lt (fun q9 => cb_3 ((nI_ltI (show 3 < 2 ^ 31 by omega) (show kx < 2 ^ 31 by omega)).mpr q9))
      refine lv_iconst (v := 1) hx hb dX4_kindOf_11 (by decide) ?_
      refine lv_goto (tgt := 16) hx hb dX4_kindOf_12 (by decide) ?_
      have hP9 := hP; have hD9 := hD
      subst hQ
      refine W.widen (k := 0) (n := 0) (Nat.le_of_ble_eq_true rfl) (Nat.le_of_ble_eq_true rfl) ?_
      exact W.iret (v := 1) hx hb hr (fun tS htS _ => ⟨⟨_, _, rfl, ⟨1, rfl, rfl, (show 1 < 3 by omega)⟩, by rw [htS]; exact hP9, hD9⟩, hS.F htS⟩) hS.2.2 dX4_kindOf_16
  · skip
    have cn_6 : kx = 0 := (nI_eq (show kx < 2 ^ 31 by omega) (show 0 < 2 ^ 31 by omega)).mp cb_1
    refine lv_iconst (v := 0) hx hb dX4_kindOf_4 (by decide) ?_
    have hP9 := hP; have hD9 := hD
    subst hQ
    refine W.widen (k := 0) (n := 0) (Nat.le_of_ble_eq_true rfl) (Nat.le_of_ble_eq_true rfl) ?_
    exact W.iret (v := 0) hx hb hr (fun tS htS _ => ⟨⟨_, _, rfl, ⟨0, rfl, rfl, (show 0 < 3 by omega)⟩, by rw [htS]; exact hP9, hD9⟩, hS.F htS⟩) hS.2.2 dX4_kindOf_5

set_option maxHeartbeats 4000000 in
set_option maxRecDepth 100000 in
theorem k_X4_setUsual (l : Launch) (D : va_G) (g : Nat → ClassId) (sz : Nat) (Rd : Nat) (Rq : Nat) (fr : Nat → Int32) (Rv : Nat) (fval : Nat → Int32) (h0 : vOK fval) : Met l yX4_setUsual wsX4_setUsual ({ frames := 1, cells := 0, slots := 0, locals := 20 }) (va_Pc [.ref Rd] (pre D g sz [(Rd, .inr (4, [.ref Rq, .int (fr 1), .int (fr 2), .int (fr 3), .int (fr 4), .int (fr 5), .ref Rv])), (Rv, .inl (g 0, 21, .inl fval))])) (va_Qv (fun (u : va_W) => ∃ (fvalx : Nat → Int32), u = [(Rd, .inr (4, [.ref Rq, .int (fr 1), .int (fr 2), .int (fr 3), .int (fr 4), .int (fr 5), .ref Rv])), (Rv, .inl (g 0, 21, .inl fvalx))] ∧ (vOK fvalx)) (wd D (va_A [(Rd, .inr (4, [.ref Rq, .int (fr 1), .int (fr 2), .int (fr 3), .int (fr 4), .int (fr 5), .ref Rv])), (Rv, .inl (g 0, 21, .inl fval))] sz)) (va_A [(Rd, .inr (4, [.ref Rq, .int (fr 1), .int (fr 2), .int (fr 3), .int (fr 4), .int (fr 5), .ref Rv])), (Rv, .inl (g 0, 21, .inl fval))] sz)) 0 0 (va_A [(Rd, .inr (4, [.ref Rq, .int (fr 1), .int (fr 2), .int (fr 3), .int (fr 4), .int (fr 5), .ref Rv])), (Rv, .inl (g 0, 21, .inl fval))] sz) := by
  refine Met.ofW (cc := cX4_setUsual) (maxL := 3) (ret := none) (by decide) rfl ?_
  intro p e s m args below meth c s₁ B hml hv
  obtain ⟨rfl, hsz, hP, ⟨hK, hN⟩, hD0, hZ⟩ := hv
  have hx := B.exec
  have hb := B.bytes
  have hr := B.returns
  have hts := atoms_spec (ws := wsX4_setUsual) B.pre
  have hown : s.vm.findClass RX4 = some m.cls := findClass_of_methodNamed B.named
  have hlocks := B.notSynchronized
  clear B
  subst hsz
  have hD := hD0.self (sz := s.heap.size)
  clear hD0
  generalize hAe : va_A [(Rd, .inr (4, [.ref Rq, .int (fr 1), .int (fr 2), .int (fr 3), .int (fr 4), .int (fr 5), .ref Rv])), (Rv, .inl (g 0, 21, .inl fval))] s.heap.size = A at hD hZ ⊢
  have hA : ∀ q : Nat, s.heap.size ≤ q → A q := fun q h => by rw [← hAe]; exact Or.inr h
  have hS : va_S A s.heap s.heap [] := va_S.rf
  have f15 := hts (.fieldLink RX4 15 "HopCredits$Reading" "values" "[I") (List.mem_of_getElem? (i := 1) rfl)
  have f47 := hts (.fieldLink RX4 47 "HopCredits$Reading" "USUAL" "[I") (List.mem_of_getElem? (i := 2) rfl)
  have iX4 : ∀ w ∈ u_ws RX4 TX4 7, w ∈ wsX4_setUsual := fun w h => List.mem_cons_of_mem _ (List.mem_append_right _ (h))
  have hl := lv_entry ([.ref Rd]) (n := 3) (Nat.le_of_ble_eq_true rfl)
  rw [lg_entry_eq]
  generalize (lg_sl ([.ref Rd]) ++ List.replicate (3 - (lg_sl ([.ref Rd])).length) Slot.unset).toArray = ls at hl ⊢
  have hl : lv_has ls 3 [(0, .ref Rd)] := hl
  generalize hQ : MQ below _ _ s _ _ _ = Q
  generalize hH : s.heap = H at hP ⊢
  have hS : va_S A s.heap H [] := by rw [← hH]; exact hS
  clear hH
  refine lv_iconst (v := 0) hx hb dX4_setUsual_0 (by decide) ?_
  refine lv_istore_n (lv' := [(1, .int 0), (0, .ref Rd)]) hx hb dX4_setUsual_1 rfl hl (by decide) rfl (fun ls hl => ?_)
  refine lv_iload_n hx hb dX4_setUsual_2 rfl (lv_at hl 0 rfl) ?_
  refine lv_bipush (v := 7) hx hb dX4_setUsual_3 (by decide) ?_
  refine lv_icmp_ge (tgt := 49) hx hb dX4_setUsual_5 (by decide) (fun cb => absurd cb (by decide)) (fun _ => ?_)
  refine lv_iconst (v := 0) hx hb dX4_setUsual_8 (by decide) ?_
  refine lv_istore_n (lv' := [(2, .int 0), (1, .int 0), (0, .ref Rd)]) hx hb dX4_setUsual_9 rfl hl (by decide) rfl (fun ls hl => ?_)
  refine lv_iload_n hx hb dX4_setUsual_10 rfl (lv_at hl 0 rfl) ?_
  refine lv_iconst (v := 3) hx hb dX4_setUsual_11 (by decide) ?_
  refine lv_icmp_ge (tgt := 43) hx hb dX4_setUsual_12 (by decide) (fun cb => absurd cb (by decide)) (fun _ => ?_)
  refine lv_aload_n hx hb dX4_setUsual_15 rfl (lv_at hl 2 rfl) ?_
  refine va_get (D := D) (ci := 4) (v := .ref Rv) (C := RX4) (T := TX4) (N := 7) hx hb hts iX4 hown hK hP 0 rfl rfl 6 (by decide) f15 (fun _ h9 => h9) rfl dX4_setUsual_16 ?_
  refine lv_iload_n hx hb dX4_setUsual_19 rfl (lv_at hl 1 rfl) ?_
  refine lv_iconst (v := 3) hx hb dX4_setUsual_20 (by decide) ?_
  refine lv_imul hx hb dX4_setUsual_21 ?_
  refine lv_eqi (y := 0) (by decide) ?_
  refine lv_iload_n hx hb dX4_setUsual_22 rfl (lv_at hl 0 rfl) ?_
  refine lv_iadd hx hb dX4_setUsual_23 ?_
  refine lv_eqi (y := 0) (by decide) ?_
  refine va_gets hx hb hZ.1 hS hown f47 (fun _ h9 => h9) dX4_setUsual_24 ?_
  refine lv_iload_n hx hb dX4_setUsual_27 rfl (lv_at hl 1 rfl) ?_
  refine ky_Si (As := [.int 0]) (rest := [.ref (g 10), .int 0, .ref Rv]) ⟨hx, hb, hml, hown, hts⟩ ⟨hK, hN⟩ hZ hP hD hS hA [] [0, 1] (wc := []) (wr := [(Rd, .inr (4, [.ref Rq, .int (fr 1), .int (fr 2), .int (fr 3), .int (fr 4), .int (fr 5), .ref Rv])), (Rv, .inl (g 0, 21, .inl fval))]) rfl rfl rfl rfl (by decide) (k_X4_kindOf_0 l D g H.size) (va_cwS 1 hts gX4_setUsual_X4_kindOf rfl rfl rfl (by decide +kernel) ⟨(Nat.le_of_ble_eq_true rfl), (Nat.le_of_ble_eq_true rfl)⟩) rfl hl.1 rfl (Nat.le_of_ble_eq_true rfl) dX4_setUsual_28 ⟨(Nat.le_of_ble_eq_true rfl), (Nat.le_of_ble_eq_true rfl)⟩ (fun r_1 u H locs hw hP2 hD2 hS2 => ?_)
  clear hP hD hS
  obtain ⟨rfl, rfl⟩ := hw
  have hPD : PD D A [(Rd, .inr (4, [.ref Rq, .int (fr 1), .int (fr 2), .int (fr 3), .int (fr 4), .int (fr 5), .ref Rv])), (Rv, .inl (g 0, 21, .inl fval))] H := ⟨hP2, hD2⟩
  have hS := hS2; clear hP2 hD2 hS2; have hP := hPD.1; have hD := hPD.2; clear hPD
  refine W.widen (k := 0) (n := 0) (Nat.le_of_ble_eq_true rfl) (Nat.le_of_ble_eq_true rfl) ?_
  refine lv_iconst (v := 3) hx hb dX4_setUsual_31 (by decide) ?_
  refine lv_imul hx hb dX4_setUsual_32 ?_
  refine lv_eqi (y := 0) (by decide) ?_
  refine lv_iload_n hx hb dX4_setUsual_33 rfl (lv_at hl 0 rfl) ?_
  refine lv_iadd hx hb dX4_setUsual_34 ?_
  refine lv_eqi (y := 0) (by decide) ?_
  refine va_ti (v := .int 1) hx hb hZ.2.1 hS (by unfold vp_in; decide) rfl dX4_setUsual_35 ?_
  refine va_iast hx hb hK hP hD hS 1 0 rfl rfl (by unfold vp_in; decide) dX4_setUsual_36 (fun H locs hP2 hD2 hS2 => ?_)
  clear hP hD hS
  have hPD : PD D A [(Rd, .inr (4, [.ref Rq, .int (fr 1), .int (fr 2), .int (fr 3), .int (fr 4), .int (fr 5), .ref Rv])), (Rv, .inl (g 0, 21, .inl (upd fval 0 1)))] H := ⟨hP2, hD2⟩
  have hS := hS2; clear hP2 hD2 hS2; have hP := hPD.1; have hD := hPD.2; clear hPD
  have hF_2 : vOK (upd fval 0 1) := vOK_upd (h0) (k := 0) (n := 1) (Nat.le_trans (show 1 ≤ 4 by omega) (Nat.le_of_ble_eq_true rfl))
  generalize upd fval 0 1 = F_2 at hP hD hF_2
  refine lv_iinc (v := 1) (lv' := [(2, .int 1), (1, .int 0), (0, .ref Rd)]) hx hb dX4_setUsual_37 hl (k := 0) rfl (by decide) (by decide) rfl (fun ls hl => ?_)
  refine lv_goto (tgt := 10) hx hb dX4_setUsual_40 (by decide) ?_
  refine lv_iload_n hx hb dX4_setUsual_10 rfl (lv_at hl 0 rfl) ?_
  refine lv_iconst (v := 3) hx hb dX4_setUsual_11 (by decide) ?_
  refine lv_icmp_ge (tgt := 43) hx hb dX4_setUsual_12 (by decide) (fun cb => absurd cb (by decide)) (fun _ => ?_)
  refine lv_aload_n hx hb dX4_setUsual_15 rfl (lv_at hl 2 rfl) ?_
  refine va_get (D := D) (ci := 4) (v := .ref Rv) (C := RX4) (T := TX4) (N := 7) hx hb hts iX4 hown hK hP 0 rfl rfl 6 (by decide) f15 (fun _ h9 => h9) rfl dX4_setUsual_16 ?_
  refine lv_iload_n hx hb dX4_setUsual_19 rfl (lv_at hl 1 rfl) ?_
  refine lv_iconst (v := 3) hx hb dX4_setUsual_20 (by decide) ?_
  refine lv_imul hx hb dX4_setUsual_21 ?_
  refine lv_eqi (y := 0) (by decide) ?_
  refine lv_iload_n hx hb dX4_setUsual_22 rfl (lv_at hl 0 rfl) ?_
  refine lv_iadd hx hb dX4_setUsual_23 ?_
  refine lv_eqi (y := 1) (by decide) ?_
  refine va_gets hx hb hZ.1 hS hown f47 (fun _ h9 => h9) dX4_setUsual_24 ?_
  refine lv_iload_n hx hb dX4_setUsual_27 rfl (lv_at hl 1 rfl) ?_
  refine ky_Si (As := [.int 0]) (rest := [.ref (g 10), .int 1, .ref Rv]) ⟨hx, hb, hml, hown, hts⟩ ⟨hK, hN⟩ hZ hP hD hS hA [] [0, 1] (wc := []) (wr := [(Rd, .inr (4, [.ref Rq, .int (fr 1), .int (fr 2), .int (fr 3), .int (fr 4), .int (fr 5), .ref Rv])), (Rv, .inl (g 0, 21, .inl F_2))]) rfl rfl rfl rfl (by decide) (k_X4_kindOf_0 l D g H.size) (va_cwS 1 hts gX4_setUsual_X4_kindOf rfl rfl rfl (by decide +kernel) ⟨(Nat.le_of_ble_eq_true rfl), (Nat.le_of_ble_eq_true rfl)⟩) rfl hl.1 rfl (Nat.le_of_ble_eq_true rfl) dX4_setUsual_28 ⟨(Nat.le_of_ble_eq_true rfl), (Nat.le_of_ble_eq_true rfl)⟩ (fun r_3 u H locs hw hP2 hD2 hS2 => ?_)
  clear hP hD hS
  obtain ⟨rfl, rfl⟩ := hw
  have hPD : PD D A [(Rd, .inr (4, [.ref Rq, .int (fr 1), .int (fr 2), .int (fr 3), .int (fr 4), .int (fr 5), .ref Rv])), (Rv, .inl (g 0, 21, .inl F_2))] H := ⟨hP2, hD2⟩
  have hS := hS2; clear hP2 hD2 hS2; have hP := hPD.1; have hD := hPD.2; clear hPD
  refine W.widen (k := 0) (n := 0) (Nat.le_of_ble_eq_true rfl) (Nat.le_of_ble_eq_true rfl) ?_
  refine lv_iconst (v := 3) hx hb dX4_setUsual_31 (by decide) ?_
  refine lv_imul hx hb dX4_setUsual_32 ?_
  refine lv_eqi (y := 0) (by decide) ?_
  refine lv_iload_n hx hb dX4_setUsual_33 rfl (lv_at hl 0 rfl) ?_
  refine lv_iadd hx hb dX4_setUsual_34 ?_
  refine lv_eqi (y := 1) (by decide) ?_
  refine va_ti (v := .int 0) hx hb hZ.2.1 hS (by unfold vp_in; decide) rfl dX4_setUsual_35 ?_
  refine va_iast hx hb hK hP hD hS 1 0 rfl rfl (by unfold vp_in; decide) dX4_setUsual_36 (fun H locs hP2 hD2 hS2 => ?_)
  clear hP hD hS
  have hPD : PD D A [(Rd, .inr (4, [.ref Rq, .int (fr 1), .int (fr 2), .int (fr 3), .int (fr 4), .int (fr 5), .ref Rv])), (Rv, .inl (g 0, 21, .inl (upd F_2 1 0)))] H := ⟨hP2, hD2⟩
  have hS := hS2; clear hP2 hD2 hS2; have hP := hPD.1; have hD := hPD.2; clear hPD
  have hF_4 : vOK (upd F_2 1 0) := vOK_upd (hF_2) (k := 1) (n := 0) (Nat.le_trans (show 0 ≤ 20 by omega) (Nat.le_of_ble_eq_true rfl))
  generalize upd F_2 1 0 = F_4 at hP hD hF_4
  refine lv_iinc (v := 2) (lv' := [(2, .int 2), (1, .int 0), (0, .ref Rd)]) hx hb dX4_setUsual_37 hl (k := 0) rfl (by decide) (by decide) rfl (fun ls hl => ?_)
  refine lv_goto (tgt := 10) hx hb dX4_setUsual_40 (by decide) ?_
  refine lv_iload_n hx hb dX4_setUsual_10 rfl (lv_at hl 0 rfl) ?_
  refine lv_iconst (v := 3) hx hb dX4_setUsual_11 (by decide) ?_
  refine lv_icmp_ge (tgt := 43) hx hb dX4_setUsual_12 (by decide) (fun cb => absurd cb (by decide)) (fun _ => ?_)
  refine lv_aload_n hx hb dX4_setUsual_15 rfl (lv_at hl 2 rfl) ?_
  refine va_get (D := D) (ci := 4) (v := .ref Rv) (C := RX4) (T := TX4) (N := 7) hx hb hts iX4 hown hK hP 0 rfl rfl 6 (by decide) f15 (fun _ h9 => h9) rfl dX4_setUsual_16 ?_
  refine lv_iload_n hx hb dX4_setUsual_19 rfl (lv_at hl 1 rfl) ?_
  refine lv_iconst (v := 3) hx hb dX4_setUsual_20 (by decide) ?_
  refine lv_imul hx hb dX4_setUsual_21 ?_
  refine lv_eqi (y := 0) (by decide) ?_
  refine lv_iload_n hx hb dX4_setUsual_22 rfl (lv_at hl 0 rfl) ?_
  refine lv_iadd hx hb dX4_setUsual_23 ?_
  refine lv_eqi (y := 2) (by decide) ?_
  refine va_gets hx hb hZ.1 hS hown f47 (fun _ h9 => h9) dX4_setUsual_24 ?_
  refine lv_iload_n hx hb dX4_setUsual_27 rfl (lv_at hl 1 rfl) ?_
  refine ky_Si (As := [.int 0]) (rest := [.ref (g 10), .int 2, .ref Rv]) ⟨hx, hb, hml, hown, hts⟩ ⟨hK, hN⟩ hZ hP hD hS hA [] [0, 1] (wc := []) (wr := [(Rd, .inr (4, [.ref Rq, .int (fr 1), .int (fr 2), .int (fr 3), .int (fr 4), .int (fr 5), .ref Rv])), (Rv, .inl (g 0, 21, .inl F_4))]) rfl rfl rfl rfl (by decide) (k_X4_kindOf_0 l D g H.size) (va_cwS 1 hts gX4_setUsual_X4_kindOf rfl rfl rfl (by decide +kernel) ⟨(Nat.le_of_ble_eq_true rfl), (Nat.le_of_ble_eq_true rfl)⟩) rfl hl.1 rfl (Nat.le_of_ble_eq_true rfl) dX4_setUsual_28 ⟨(Nat.le_of_ble_eq_true rfl), (Nat.le_of_ble_eq_true rfl)⟩ (fun r_5 u H locs hw hP2 hD2 hS2 => ?_)
  clear hP hD hS
  obtain ⟨rfl, rfl⟩ := hw
  have hPD : PD D A [(Rd, .inr (4, [.ref Rq, .int (fr 1), .int (fr 2), .int (fr 3), .int (fr 4), .int (fr 5), .ref Rv])), (Rv, .inl (g 0, 21, .inl F_4))] H := ⟨hP2, hD2⟩
  have hS := hS2; clear hP2 hD2 hS2; have hP := hPD.1; have hD := hPD.2; clear hPD
  refine W.widen (k := 0) (n := 0) (Nat.le_of_ble_eq_true rfl) (Nat.le_of_ble_eq_true rfl) ?_
  refine lv_iconst (v := 3) hx hb dX4_setUsual_31 (by decide) ?_
  refine lv_imul hx hb dX4_setUsual_32 ?_
  refine lv_eqi (y := 0) (by decide) ?_
  refine lv_iload_n hx hb dX4_setUsual_33 rfl (lv_at hl 0 rfl) ?_
  refine lv_iadd hx hb dX4_setUsual_34 ?_
  refine lv_eqi (y := 2) (by decide) ?_
  refine va_ti (v := .int 0) hx hb hZ.2.1 hS (by unfold vp_in; decide) rfl dX4_setUsual_35 ?_
  refine va_iast hx hb hK hP hD hS 1 0 rfl rfl (by unfold vp_in; decide) dX4_setUsual_36 (fun H locs hP2 hD2 hS2 => ?_)
  clear hP hD hS
  have hPD : PD D A [(Rd, .inr (4, [.ref Rq, .int (fr 1), .int (fr 2), .int (fr 3), .int (fr 4), .int (fr 5), .ref Rv])), (Rv, .inl (g 0, 21, .inl (upd F_4 2 0)))] H := ⟨hP2, hD2⟩
  have hS := hS2; clear hP2 hD2 hS2; have hP := hPD.1; have hD := hPD.2; clear hPD
  have hF_6 : vOK (upd F_4 2 0) := vOK_upd (hF_4) (k := 2) (n := 0) (Nat.le_trans (show 0 ≤ 9 by omega) (Nat.le_of_ble_eq_true rfl))
  generalize upd F_4 2 0 = F_6 at hP hD hF_6
  refine lv_iinc (v := 3) (lv' := [(2, .int 3), (1, .int 0), (0, .ref Rd)]) hx hb dX4_setUsual_37 hl (k := 0) rfl (by decide) (by decide) rfl (fun ls hl => ?_)
  refine lv_goto (tgt := 10) hx hb dX4_setUsual_40 (by decide) ?_
  refine lv_iload_n hx hb dX4_setUsual_10 rfl (lv_at hl 0 rfl) ?_
  refine lv_iconst (v := 3) hx hb dX4_setUsual_11 (by decide) ?_
  refine lv_icmp_ge (tgt := 43) hx hb dX4_setUsual_12 (by decide) (fun _ => ?_) (fun cb => absurd (by decide) cb)
  refine lv_iinc (v := 1) (lv' := [(1, .int 1), (2, .int 3), (0, .ref Rd)]) hx hb dX4_setUsual_43 hl (k := 1) rfl (by decide) (by decide) rfl (fun ls hl => ?_)
  refine lv_goto (tgt := 2) hx hb dX4_setUsual_46 (by decide) ?_
  refine lv_iload_n hx hb dX4_setUsual_2 rfl (lv_at hl 0 rfl) ?_
  refine lv_bipush (v := 7) hx hb dX4_setUsual_3 (by decide) ?_
  refine lv_icmp_ge (tgt := 49) hx hb dX4_setUsual_5 (by decide) (fun cb => absurd cb (by decide)) (fun _ => ?_)
  refine lv_iconst (v := 0) hx hb dX4_setUsual_8 (by decide) ?_
  refine lv_istore_n (lv' := [(2, .int 0), (1, .int 1), (0, .ref Rd)]) hx hb dX4_setUsual_9 rfl hl (by decide) rfl (fun ls hl => ?_)
  refine lv_iload_n hx hb dX4_setUsual_10 rfl (lv_at hl 0 rfl) ?_
  refine lv_iconst (v := 3) hx hb dX4_setUsual_11 (by decide) ?_
  refine lv_icmp_ge (tgt := 43) hx hb dX4_setUsual_12 (by decide) (fun cb => absurd cb (by decide)) (fun _ => ?_)
  refine lv_aload_n hx hb dX4_setUsual_15 rfl (lv_at hl 2 rfl) ?_
  refine va_get (D := D) (ci := 4) (v := .ref Rv) (C := RX4) (T := TX4) (N := 7) hx hb hts iX4 hown hK hP 0 rfl rfl 6 (by decide) f15 (fun _ h9 => h9) rfl dX4_setUsual_16 ?_
  refine lv_iload_n hx hb dX4_setUsual_19 rfl (lv_at hl 1 rfl) ?_
  refine lv_iconst (v := 3) hx hb dX4_setUsual_20 (by decide) ?_
  refine lv_imul hx hb dX4_setUsual_21 ?_
  refine lv_eqi (y := 3) (by decide) ?_
  refine lv_iload_n hx hb dX4_setUsual_22 rfl (lv_at hl 0 rfl) ?_
  refine lv_iadd hx hb dX4_setUsual_23 ?_
  refine lv_eqi (y := 3) (by decide) ?_
  refine va_gets hx hb hZ.1 hS hown f47 (fun _ h9 => h9) dX4_setUsual_24 ?_
  refine lv_iload_n hx hb dX4_setUsual_27 rfl (lv_at hl 1 rfl) ?_
  refine ky_Si (As := [.int 1]) (rest := [.ref (g 10), .int 3, .ref Rv]) ⟨hx, hb, hml, hown, hts⟩ ⟨hK, hN⟩ hZ hP hD hS hA [] [0, 1] (wc := []) (wr := [(Rd, .inr (4, [.ref Rq, .int (fr 1), .int (fr 2), .int (fr 3), .int (fr 4), .int (fr 5), .ref Rv])), (Rv, .inl (g 0, 21, .inl F_6))]) rfl rfl rfl rfl (by decide) (k_X4_kindOf_1 l D g H.size) (va_cwS 1 hts gX4_setUsual_X4_kindOf rfl rfl rfl (by decide +kernel) ⟨(Nat.le_of_ble_eq_true rfl), (Nat.le_of_ble_eq_true rfl)⟩) rfl hl.1 rfl (Nat.le_of_ble_eq_true rfl) dX4_setUsual_28 ⟨(Nat.le_of_ble_eq_true rfl), (Nat.le_of_ble_eq_true rfl)⟩ (fun r_7 u H locs hw hP2 hD2 hS2 => ?_)
  clear hP hD hS
  obtain ⟨rfl, rfl⟩ := hw
  have hPD : PD D A [(Rd, .inr (4, [.ref Rq, .int (fr 1), .int (fr 2), .int (fr 3), .int (fr 4), .int (fr 5), .ref Rv])), (Rv, .inl (g 0, 21, .inl F_6))] H := ⟨hP2, hD2⟩
  have hS := hS2; clear hP2 hD2 hS2; have hP := hPD.1; have hD := hPD.2; clear hPD
  refine W.widen (k := 0) (n := 0) (Nat.le_of_ble_eq_true rfl) (Nat.le_of_ble_eq_true rfl) ?_
  refine lv_iconst (v := 3) hx hb dX4_setUsual_31 (by decide) ?_
  refine lv_imul hx hb dX4_setUsual_32 ?_
  refine lv_eqi (y := 3) (by decide) ?_
  refine lv_iload_n hx hb dX4_setUsual_33 rfl (lv_at hl 0 rfl) ?_
  refine lv_iadd hx hb dX4_setUsual_34 ?_
  refine lv_eqi (y := 3) (by decide) ?_
  refine va_ti (v := .int 1) hx hb hZ.2.1 hS (by unfold vp_in; decide) rfl dX4_setUsual_35 ?_
  refine va_iast hx hb hK hP hD hS 1 0 rfl rfl (by unfold vp_in; decide) dX4_setUsual_36 (fun H locs hP2 hD2 hS2 => ?_)
  clear hP hD hS
  have hPD : PD D A [(Rd, .inr (4, [.ref Rq, .int (fr 1), .int (fr 2), .int (fr 3), .int (fr 4), .int (fr 5), .ref Rv])), (Rv, .inl (g 0, 21, .inl (upd F_6 3 1)))] H := ⟨hP2, hD2⟩
  have hS := hS2; clear hP2 hD2 hS2; have hP := hPD.1; have hD := hPD.2; clear hPD
  have hF_8 : vOK (upd F_6 3 1) := vOK_upd (hF_6) (k := 3) (n := 1) (Nat.le_trans (show 1 ≤ 4 by omega) (Nat.le_of_ble_eq_true rfl))
  generalize upd F_6 3 1 = F_8 at hP hD hF_8
  refine lv_iinc (v := 1) (lv' := [(2, .int 1), (1, .int 1), (0, .ref Rd)]) hx hb dX4_setUsual_37 hl (k := 0) rfl (by decide) (by decide) rfl (fun ls hl => ?_)
  refine lv_goto (tgt := 10) hx hb dX4_setUsual_40 (by decide) ?_
  refine lv_iload_n hx hb dX4_setUsual_10 rfl (lv_at hl 0 rfl) ?_
  refine lv_iconst (v := 3) hx hb dX4_setUsual_11 (by decide) ?_
  refine lv_icmp_ge (tgt := 43) hx hb dX4_setUsual_12 (by decide) (fun cb => absurd cb (by decide)) (fun _ => ?_)
  refine lv_aload_n hx hb dX4_setUsual_15 rfl (lv_at hl 2 rfl) ?_
  refine va_get (D := D) (ci := 4) (v := .ref Rv) (C := RX4) (T := TX4) (N := 7) hx hb hts iX4 hown hK hP 0 rfl rfl 6 (by decide) f15 (fun _ h9 => h9) rfl dX4_setUsual_16 ?_
  refine lv_iload_n hx hb dX4_setUsual_19 rfl (lv_at hl 1 rfl) ?_
  refine lv_iconst (v := 3) hx hb dX4_setUsual_20 (by decide) ?_
  refine lv_imul hx hb dX4_setUsual_21 ?_
  refine lv_eqi (y := 3) (by decide) ?_
  refine lv_iload_n hx hb dX4_setUsual_22 rfl (lv_at hl 0 rfl) ?_
  refine lv_iadd hx hb dX4_setUsual_23 ?_
  refine lv_eqi (y := 4) (by decide) ?_
  refine va_gets hx hb hZ.1 hS hown f47 (fun _ h9 => h9) dX4_setUsual_24 ?_
  refine lv_iload_n hx hb dX4_setUsual_27 rfl (lv_at hl 1 rfl) ?_
  refine ky_Si (As := [.int 1]) (rest := [.ref (g 10), .int 4, .ref Rv]) ⟨hx, hb, hml, hown, hts⟩ ⟨hK, hN⟩ hZ hP hD hS hA [] [0, 1] (wc := []) (wr := [(Rd, .inr (4, [.ref Rq, .int (fr 1), .int (fr 2), .int (fr 3), .int (fr 4), .int (fr 5), .ref Rv])), (Rv, .inl (g 0, 21, .inl F_8))]) rfl rfl rfl rfl (by decide) (k_X4_kindOf_1 l D g H.size) (va_cwS 1 hts gX4_setUsual_X4_kindOf rfl rfl rfl (by decide +kernel) ⟨(Nat.le_of_ble_eq_true rfl), (Nat.le_of_ble_eq_true rfl)⟩) rfl hl.1 rfl (Nat.le_of_ble_eq_true rfl) dX4_setUsual_28 ⟨(Nat.le_of_ble_eq_true rfl), (Nat.le_of_ble_eq_true rfl)⟩ (fun r_9 u H locs hw hP2 hD2 hS2 => ?_)
  clear hP hD hS
  obtain ⟨rfl, rfl⟩ := hw
  have hPD : PD D A [(Rd, .inr (4, [.ref Rq, .int (fr 1), .int (fr 2), .int (fr 3), .int (fr 4), .int (fr 5), .ref Rv])), (Rv, .inl (g 0, 21, .inl F_8))] H := ⟨hP2, hD2⟩
  have hS := hS2; clear hP2 hD2 hS2; have hP := hPD.1; have hD := hPD.2; clear hPD
  refine W.widen (k := 0) (n := 0) (Nat.le_of_ble_eq_true rfl) (Nat.le_of_ble_eq_true rfl) ?_
  refine lv_iconst (v := 3) hx hb dX4_setUsual_31 (by decide) ?_
  refine lv_imul hx hb dX4_setUsual_32 ?_
  refine lv_eqi (y := 3) (by decide) ?_
  refine lv_iload_n hx hb dX4_setUsual_33 rfl (lv_at hl 0 rfl) ?_
  refine lv_iadd hx hb dX4_setUsual_34 ?_
  refine lv_eqi (y := 4) (by decide) ?_
  refine va_ti (v := .int 12) hx hb hZ.2.1 hS (by unfold vp_in; decide) rfl dX4_setUsual_35 ?_
  refine va_iast hx hb hK hP hD hS 1 0 rfl rfl (by unfold vp_in; decide) dX4_setUsual_36 (fun H locs hP2 hD2 hS2 => ?_)
  clear hP hD hS
  have hPD : PD D A [(Rd, .inr (4, [.ref Rq, .int (fr 1), .int (fr 2), .int (fr 3), .int (fr 4), .int (fr 5), .ref Rv])), (Rv, .inl (g 0, 21, .inl (upd F_8 4 12)))] H := ⟨hP2, hD2⟩
  have hS := hS2; clear hP2 hD2 hS2; have hP := hPD.1; have hD := hPD.2; clear hPD
  have hF_10 : vOK (upd F_8 4 12) := vOK_upd (hF_8) (k := 4) (n := 12) (Nat.le_trans (show 12 ≤ 30 by omega) (Nat.le_of_ble_eq_true rfl))
  generalize upd F_8 4 12 = F_10 at hP hD hF_10
  refine lv_iinc (v := 2) (lv' := [(2, .int 2), (1, .int 1), (0, .ref Rd)]) hx hb dX4_setUsual_37 hl (k := 0) rfl (by decide) (by decide) rfl (fun ls hl => ?_)
  refine lv_goto (tgt := 10) hx hb dX4_setUsual_40 (by decide) ?_
  refine lv_iload_n hx hb dX4_setUsual_10 rfl (lv_at hl 0 rfl) ?_
  refine lv_iconst (v := 3) hx hb dX4_setUsual_11 (by decide) ?_
  refine lv_icmp_ge (tgt := 43) hx hb dX4_setUsual_12 (by decide) (fun cb => absurd cb (by decide)) (fun _ => ?_)
  refine lv_aload_n hx hb dX4_setUsual_15 rfl (lv_at hl 2 rfl) ?_
  refine va_get (D := D) (ci := 4) (v := .ref Rv) (C := RX4) (T := TX4) (N := 7) hx hb hts iX4 hown hK hP 0 rfl rfl 6 (by decide) f15 (fun _ h9 => h9) rfl dX4_setUsual_16 ?_
  refine lv_iload_n hx hb dX4_setUsual_19 rfl (lv_at hl 1 rfl) ?_
  refine lv_iconst (v := 3) hx hb dX4_setUsual_20 (by decide) ?_
  refine lv_imul hx hb dX4_setUsual_21 ?_
  refine lv_eqi (y := 3) (by decide) ?_
  refine lv_iload_n hx hb dX4_setUsual_22 rfl (lv_at hl 0 rfl) ?_
  refine lv_iadd hx hb dX4_setUsual_23 ?_
  refine lv_eqi (y := 5) (by decide) ?_
  refine va_gets hx hb hZ.1 hS hown f47 (fun _ h9 => h9) dX4_setUsual_24 ?_
  refine lv_iload_n hx hb dX4_setUsual_27 rfl (lv_at hl 1 rfl) ?_
  refine ky_Si (As := [.int 1]) (rest := [.ref (g 10), .int 5, .ref Rv]) ⟨hx, hb, hml, hown, hts⟩ ⟨hK, hN⟩ hZ hP hD hS hA [] [0, 1] (wc := []) (wr := [(Rd, .inr (4, [.ref Rq, .int (fr 1), .int (fr 2), .int (fr 3), .int (fr 4), .int (fr 5), .ref Rv])), (Rv, .inl (g 0, 21, .inl F_10))]) rfl rfl rfl rfl (by decide) (k_X4_kindOf_1 l D g H.size) (va_cwS 1 hts gX4_setUsual_X4_kindOf rfl rfl rfl (by decide +kernel) ⟨(Nat.le_of_ble_eq_true rfl), (Nat.le_of_ble_eq_true rfl)⟩) rfl hl.1 rfl (Nat.le_of_ble_eq_true rfl) dX4_setUsual_28 ⟨(Nat.le_of_ble_eq_true rfl), (Nat.le_of_ble_eq_true rfl)⟩ (fun r_11 u H locs hw hP2 hD2 hS2 => ?_)
  clear hP hD hS
  obtain ⟨rfl, rfl⟩ := hw
  have hPD : PD D A [(Rd, .inr (4, [.ref Rq, .int (fr 1), .int (fr 2), .int (fr 3), .int (fr 4), .int (fr 5), .ref Rv])), (Rv, .inl (g 0, 21, .inl F_10))] H := ⟨hP2, hD2⟩
  have hS := hS2; clear hP2 hD2 hS2; have hP := hPD.1; have hD := hPD.2; clear hPD
  refine W.widen (k := 0) (n := 0) (Nat.le_of_ble_eq_true rfl) (Nat.le_of_ble_eq_true rfl) ?_
  refine lv_iconst (v := 3) hx hb dX4_setUsual_31 (by decide) ?_
  refine lv_imul hx hb dX4_setUsual_32 ?_
  refine lv_eqi (y := 3) (by decide) ?_
  refine lv_iload_n hx hb dX4_setUsual_33 rfl (lv_at hl 0 rfl) ?_
  refine lv_iadd hx hb dX4_setUsual_34 ?_
  refine lv_eqi (y := 5) (by decide) ?_
  refine va_ti (v := .int 1) hx hb hZ.2.1 hS (by unfold vp_in; decide) rfl dX4_setUsual_35 ?_
  refine va_iast hx hb hK hP hD hS 1 0 rfl rfl (by unfold vp_in; decide) dX4_setUsual_36 (fun H locs hP2 hD2 hS2 => ?_)
  clear hP hD hS
  have hPD : PD D A [(Rd, .inr (4, [.ref Rq, .int (fr 1), .int (fr 2), .int (fr 3), .int (fr 4), .int (fr 5), .ref Rv])), (Rv, .inl (g 0, 21, .inl (upd F_10 5 1)))] H := ⟨hP2, hD2⟩
  have hS := hS2; clear hP2 hD2 hS2; have hP := hPD.1; have hD := hPD.2; clear hPD
  have hF_12 : vOK (upd F_10 5 1) := vOK_upd (hF_10) (k := 5) (n := 1) (Nat.le_trans (show 1 ≤ 4 by omega) (Nat.le_of_ble_eq_true rfl))
  generalize upd F_10 5 1 = F_12 at hP hD hF_12
  refine lv_iinc (v := 3) (lv' := [(2, .int 3), (1, .int 1), (0, .ref Rd)]) hx hb dX4_setUsual_37 hl (k := 0) rfl (by decide) (by decide) rfl (fun ls hl => ?_)
  refine lv_goto (tgt := 10) hx hb dX4_setUsual_40 (by decide) ?_
  refine lv_iload_n hx hb dX4_setUsual_10 rfl (lv_at hl 0 rfl) ?_
  refine lv_iconst (v := 3) hx hb dX4_setUsual_11 (by decide) ?_
  refine lv_icmp_ge (tgt := 43) hx hb dX4_setUsual_12 (by decide) (fun _ => ?_) (fun cb => absurd (by decide) cb)
  refine lv_iinc (v := 2) (lv' := [(1, .int 2), (2, .int 3), (0, .ref Rd)]) hx hb dX4_setUsual_43 hl (k := 1) rfl (by decide) (by decide) rfl (fun ls hl => ?_)
  refine lv_goto (tgt := 2) hx hb dX4_setUsual_46 (by decide) ?_
  refine lv_iload_n hx hb dX4_setUsual_2 rfl (lv_at hl 0 rfl) ?_
  refine lv_bipush (v := 7) hx hb dX4_setUsual_3 (by decide) ?_
  refine lv_icmp_ge (tgt := 49) hx hb dX4_setUsual_5 (by decide) (fun cb => absurd cb (by decide)) (fun _ => ?_)
  refine lv_iconst (v := 0) hx hb dX4_setUsual_8 (by decide) ?_
  refine lv_istore_n (lv' := [(2, .int 0), (1, .int 2), (0, .ref Rd)]) hx hb dX4_setUsual_9 rfl hl (by decide) rfl (fun ls hl => ?_)
  refine lv_iload_n hx hb dX4_setUsual_10 rfl (lv_at hl 0 rfl) ?_
  refine lv_iconst (v := 3) hx hb dX4_setUsual_11 (by decide) ?_
  refine lv_icmp_ge (tgt := 43) hx hb dX4_setUsual_12 (by decide) (fun cb => absurd cb (by decide)) (fun _ => ?_)
  refine lv_aload_n hx hb dX4_setUsual_15 rfl (lv_at hl 2 rfl) ?_
  refine va_get (D := D) (ci := 4) (v := .ref Rv) (C := RX4) (T := TX4) (N := 7) hx hb hts iX4 hown hK hP 0 rfl rfl 6 (by decide) f15 (fun _ h9 => h9) rfl dX4_setUsual_16 ?_
  refine lv_iload_n hx hb dX4_setUsual_19 rfl (lv_at hl 1 rfl) ?_
  refine lv_iconst (v := 3) hx hb dX4_setUsual_20 (by decide) ?_
  refine lv_imul hx hb dX4_setUsual_21 ?_
  refine lv_eqi (y := 6) (by decide) ?_
  refine lv_iload_n hx hb dX4_setUsual_22 rfl (lv_at hl 0 rfl) ?_
  refine lv_iadd hx hb dX4_setUsual_23 ?_
  refine lv_eqi (y := 6) (by decide) ?_
  refine va_gets hx hb hZ.1 hS hown f47 (fun _ h9 => h9) dX4_setUsual_24 ?_
  refine lv_iload_n hx hb dX4_setUsual_27 rfl (lv_at hl 1 rfl) ?_
  refine ky_Si (As := [.int 2]) (rest := [.ref (g 10), .int 6, .ref Rv]) ⟨hx, hb, hml, hown, hts⟩ ⟨hK, hN⟩ hZ hP hD hS hA [] [0, 1] (wc := []) (wr := [(Rd, .inr (4, [.ref Rq, .int (fr 1), .int (fr 2), .int (fr 3), .int (fr 4), .int (fr 5), .ref Rv])), (Rv, .inl (g 0, 21, .inl F_12))]) rfl rfl rfl rfl (by decide) (k_X4_kindOf_2 l D g H.size) (va_cwS 1 hts gX4_setUsual_X4_kindOf rfl rfl rfl (by decide +kernel) ⟨(Nat.le_of_ble_eq_true rfl), (Nat.le_of_ble_eq_true rfl)⟩) rfl hl.1 rfl (Nat.le_of_ble_eq_true rfl) dX4_setUsual_28 ⟨(Nat.le_of_ble_eq_true rfl), (Nat.le_of_ble_eq_true rfl)⟩ (fun r_13 u H locs hw hP2 hD2 hS2 => ?_)
  clear hP hD hS
  obtain ⟨rfl, rfl⟩ := hw
  have hPD : PD D A [(Rd, .inr (4, [.ref Rq, .int (fr 1), .int (fr 2), .int (fr 3), .int (fr 4), .int (fr 5), .ref Rv])), (Rv, .inl (g 0, 21, .inl F_12))] H := ⟨hP2, hD2⟩
  have hS := hS2; clear hP2 hD2 hS2; have hP := hPD.1; have hD := hPD.2; clear hPD
  refine W.widen (k := 0) (n := 0) (Nat.le_of_ble_eq_true rfl) (Nat.le_of_ble_eq_true rfl) ?_
  refine lv_iconst (v := 3) hx hb dX4_setUsual_31 (by decide) ?_
  refine lv_imul hx hb dX4_setUsual_32 ?_
  refine lv_eqi (y := 3) (by decide) ?_
  refine lv_iload_n hx hb dX4_setUsual_33 rfl (lv_at hl 0 rfl) ?_
  refine lv_iadd hx hb dX4_setUsual_34 ?_
  refine lv_eqi (y := 3) (by decide) ?_
  refine va_ti (v := .int 1) hx hb hZ.2.1 hS (by unfold vp_in; decide) rfl dX4_setUsual_35 ?_
  refine va_iast hx hb hK hP hD hS 1 0 rfl rfl (by unfold vp_in; decide) dX4_setUsual_36 (fun H locs hP2 hD2 hS2 => ?_)
  clear hP hD hS
  have hPD : PD D A [(Rd, .inr (4, [.ref Rq, .int (fr 1), .int (fr 2), .int (fr 3), .int (fr 4), .int (fr 5), .ref Rv])), (Rv, .inl (g 0, 21, .inl (upd F_12 6 1)))] H := ⟨hP2, hD2⟩
  have hS := hS2; clear hP2 hD2 hS2; have hP := hPD.1; have hD := hPD.2; clear hPD
  have hF_14 : vOK (upd F_12 6 1) := vOK_upd (hF_12) (k := 6) (n := 1) (Nat.le_trans (show 1 ≤ 4 by omega) (Nat.le_of_ble_eq_true rfl))
  generalize upd F_12 6 1 = F_14 at hP hD hF_14
  refine lv_iinc (v := 1) (lv' := [(2, .int 1), (1, .int 2), (0, .ref Rd)]) hx hb dX4_setUsual_37 hl (k := 0) rfl (by decide) (by decide) rfl (fun ls hl => ?_)
  refine lv_goto (tgt := 10) hx hb dX4_setUsual_40 (by decide) ?_
  refine lv_iload_n hx hb dX4_setUsual_10 rfl (lv_at hl 0 rfl) ?_
  refine lv_iconst (v := 3) hx hb dX4_setUsual_11 (by decide) ?_
  refine lv_icmp_ge (tgt := 43) hx hb dX4_setUsual_12 (by decide) (fun cb => absurd cb (by decide)) (fun _ => ?_)
  refine lv_aload_n hx hb dX4_setUsual_15 rfl (lv_at hl 2 rfl) ?_
  refine va_get (D := D) (ci := 4) (v := .ref Rv) (C := RX4) (T := TX4) (N := 7) hx hb hts iX4 hown hK hP 0 rfl rfl 6 (by decide) f15 (fun _ h9 => h9) rfl dX4_setUsual_16 ?_
  refine lv_iload_n hx hb dX4_setUsual_19 rfl (lv_at hl 1 rfl) ?_
  refine lv_iconst (v := 3) hx hb dX4_setUsual_20 (by decide) ?_
  refine lv_imul hx hb dX4_setUsual_21 ?_
  refine lv_eqi (y := 6) (by decide) ?_
  refine lv_iload_n hx hb dX4_setUsual_22 rfl (lv_at hl 0 rfl) ?_
  refine lv_iadd hx hb dX4_setUsual_23 ?_
  refine lv_eqi (y := 7) (by decide) ?_
  refine va_gets hx hb hZ.1 hS hown f47 (fun _ h9 => h9) dX4_setUsual_24 ?_
  refine lv_iload_n hx hb dX4_setUsual_27 rfl (lv_at hl 1 rfl) ?_
  refine ky_Si (As := [.int 2]) (rest := [.ref (g 10), .int 7, .ref Rv]) ⟨hx, hb, hml, hown, hts⟩ ⟨hK, hN⟩ hZ hP hD hS hA [] [0, 1] (wc := []) (wr := [(Rd, .inr (4, [.ref Rq, .int (fr 1), .int (fr 2), .int (fr 3), .int (fr 4), .int (fr 5), .ref Rv])), (Rv, .inl (g 0, 21, .inl F_14))]) rfl rfl rfl rfl (by decide) (k_X4_kindOf_2 l D g H.size) (va_cwS 1 hts gX4_setUsual_X4_kindOf rfl rfl rfl (by decide +kernel) ⟨(Nat.le_of_ble_eq_true rfl), (Nat.le_of_ble_eq_true rfl)⟩) rfl hl.1 rfl (Nat.le_of_ble_eq_true rfl) dX4_setUsual_28 ⟨(Nat.le_of_ble_eq_true rfl), (Nat.le_of_ble_eq_true rfl)⟩ (fun r_15 u H locs hw hP2 hD2 hS2 => ?_)
  clear hP hD hS
  obtain ⟨rfl, rfl⟩ := hw
  have hPD : PD D A [(Rd, .inr (4, [.ref Rq, .int (fr 1), .int (fr 2), .int (fr 3), .int (fr 4), .int (fr 5), .ref Rv])), (Rv, .inl (g 0, 21, .inl F_14))] H := ⟨hP2, hD2⟩
  have hS := hS2; clear hP2 hD2 hS2; have hP := hPD.1; have hD := hPD.2; clear hPD
  refine W.widen (k := 0) (n := 0) (Nat.le_of_ble_eq_true rfl) (Nat.le_of_ble_eq_true rfl) ?_
  refine lv_iconst (v := 3) hx hb dX4_setUsual_31 (by decide) ?_
  refine lv_imul hx hb dX4_setUsual_32 ?_
  refine lv_eqi (y := 3) (by decide) ?_
  refine lv_iload_n hx hb dX4_setUsual_33 rfl (lv_at hl 0 rfl) ?_
  refine lv_iadd hx hb dX4_setUsual_34 ?_
  refine lv_eqi (y := 4) (by decide) ?_
  refine va_ti (v := .int 12) hx hb hZ.2.1 hS (by unfold vp_in; decide) rfl dX4_setUsual_35 ?_
  refine va_iast hx hb hK hP hD hS 1 0 rfl rfl (by unfold vp_in; decide) dX4_setUsual_36 (fun H locs hP2 hD2 hS2 => ?_)
  clear hP hD hS
  have hPD : PD D A [(Rd, .inr (4, [.ref Rq, .int (fr 1), .int (fr 2), .int (fr 3), .int (fr 4), .int (fr 5), .ref Rv])), (Rv, .inl (g 0, 21, .inl (upd F_14 7 12)))] H := ⟨hP2, hD2⟩
  have hS := hS2; clear hP2 hD2 hS2; have hP := hPD.1; have hD := hPD.2; clear hPD
  have hF_16 : vOK (upd F_14 7 12) := vOK_upd (hF_14) (k := 7) (n := 12) (Nat.le_trans (show 12 ≤ 30 by omega) (Nat.le_of_ble_eq_true rfl))
  generalize upd F_14 7 12 = F_16 at hP hD hF_16
  refine lv_iinc (v := 2) (lv' := [(2, .int 2), (1, .int 2), (0, .ref Rd)]) hx hb dX4_setUsual_37 hl (k := 0) rfl (by decide) (by decide) rfl (fun ls hl => ?_)
  refine lv_goto (tgt := 10) hx hb dX4_setUsual_40 (by decide) ?_
  refine lv_iload_n hx hb dX4_setUsual_10 rfl (lv_at hl 0 rfl) ?_
  refine lv_iconst (v := 3) hx hb dX4_setUsual_11 (by decide) ?_
  refine lv_icmp_ge (tgt := 43) hx hb dX4_setUsual_12 (by decide) (fun cb => absurd cb (by decide)) (fun _ => ?_)
  refine lv_aload_n hx hb dX4_setUsual_15 rfl (lv_at hl 2 rfl) ?_
  refine va_get (D := D) (ci := 4) (v := .ref Rv) (C := RX4) (T := TX4) (N := 7) hx hb hts iX4 hown hK hP 0 rfl rfl 6 (by decide) f15 (fun _ h9 => h9) rfl dX4_setUsual_16 ?_
  refine lv_iload_n hx hb dX4_setUsual_19 rfl (lv_at hl 1 rfl) ?_
  refine lv_iconst (v := 3) hx hb dX4_setUsual_20 (by decide) ?_
  refine lv_imul hx hb dX4_setUsual_21 ?_
  refine lv_eqi (y := 6) (by decide) ?_
  refine lv_iload_n hx hb dX4_setUsual_22 rfl (lv_at hl 0 rfl) ?_
  refine lv_iadd hx hb dX4_setUsual_23 ?_
  refine lv_eqi (y := 8) (by decide) ?_
  refine va_gets hx hb hZ.1 hS hown f47 (fun _ h9 => h9) dX4_setUsual_24 ?_
  refine lv_iload_n hx hb dX4_setUsual_27 rfl (lv_at hl 1 rfl) ?_
  refine ky_Si (As := [.int 2]) (rest := [.ref (g 10), .int 8, .ref Rv]) ⟨hx, hb, hml, hown, hts⟩ ⟨hK, hN⟩ hZ hP hD hS hA [] [0, 1] (wc := []) (wr := [(Rd, .inr (4, [.ref Rq, .int (fr 1), .int (fr 2), .int (fr 3), .int (fr 4), .int (fr 5), .ref Rv])), (Rv, .inl (g 0, 21, .inl F_16))]) rfl rfl rfl rfl (by decide) (k_X4_kindOf_2 l D g H.size) (va_cwS 1 hts gX4_setUsual_X4_kindOf rfl rfl rfl (by decide +kernel) ⟨(Nat.le_of_ble_eq_true rfl), (Nat.le_of_ble_eq_true rfl)⟩) rfl hl.1 rfl (Nat.le_of_ble_eq_true rfl) dX4_setUsual_28 ⟨(Nat.le_of_ble_eq_true rfl), (Nat.le_of_ble_eq_true rfl)⟩ (fun r_17 u H locs hw hP2 hD2 hS2 => ?_)
  clear hP hD hS
  obtain ⟨rfl, rfl⟩ := hw
  have hPD : PD D A [(Rd, .inr (4, [.ref Rq, .int (fr 1), .int (fr 2), .int (fr 3), .int (fr 4), .int (fr 5), .ref Rv])), (Rv, .inl (g 0, 21, .inl F_16))] H := ⟨hP2, hD2⟩
  have hS := hS2; clear hP2 hD2 hS2; have hP := hPD.1; have hD := hPD.2; clear hPD
  refine W.widen (k := 0) (n := 0) (Nat.le_of_ble_eq_true rfl) (Nat.le_of_ble_eq_true rfl) ?_
  refine lv_iconst (v := 3) hx hb dX4_setUsual_31 (by decide) ?_
  refine lv_imul hx hb dX4_setUsual_32 ?_
  refine lv_eqi (y := 3) (by decide) ?_
  refine lv_iload_n hx hb dX4_setUsual_33 rfl (lv_at hl 0 rfl) ?_
  refine lv_iadd hx hb dX4_setUsual_34 ?_
  refine lv_eqi (y := 5) (by decide) ?_
  refine va_ti (v := .int 1) hx hb hZ.2.1 hS (by unfold vp_in; decide) rfl dX4_setUsual_35 ?_
  refine va_iast hx hb hK hP hD hS 1 0 rfl rfl (by unfold vp_in; decide) dX4_setUsual_36 (fun H locs hP2 hD2 hS2 => ?_)
  clear hP hD hS
  have hPD : PD D A [(Rd, .inr (4, [.ref Rq, .int (fr 1), .int (fr 2), .int (fr 3), .int (fr 4), .int (fr 5), .ref Rv])), (Rv, .inl (g 0, 21, .inl (upd F_16 8 1)))] H := ⟨hP2, hD2⟩
  have hS := hS2; clear hP2 hD2 hS2; have hP := hPD.1; have hD := hPD.2; clear hPD
  have hF_18 : vOK (upd F_16 8 1) := vOK_upd (hF_16) (k := 8) (n := 1) (Nat.le_trans (show 1 ≤ 4 by omega) (Nat.le_of_ble_eq_true rfl))
  generalize upd F_16 8 1 = F_18 at hP hD hF_18
  refine lv_iinc (v := 3) (lv' := [(2, .int 3), (1, .int 2), (0, .ref Rd)]) hx hb dX4_setUsual_37 hl (k := 0) rfl (by decide) (by decide) rfl (fun ls hl => ?_)
  refine lv_goto (tgt := 10) hx hb dX4_setUsual_40 (by decide) ?_
  refine lv_iload_n hx hb dX4_setUsual_10 rfl (lv_at hl 0 rfl) ?_
  refine lv_iconst (v := 3) hx hb dX4_setUsual_11 (by decide) ?_
  refine lv_icmp_ge (tgt := 43) hx hb dX4_setUsual_12 (by decide) (fun _ => ?_) (fun cb => absurd (by decide) cb)
  refine lv_iinc (v := 3) (lv' := [(1, .int 3), (2, .int 3), (0, .ref Rd)]) hx hb dX4_setUsual_43 hl (k := 1) rfl (by decide) (by decide) rfl (fun ls hl => ?_)
  refine lv_goto (tgt := 2) hx hb dX4_setUsual_46 (by decide) ?_
  refine lv_iload_n hx hb dX4_setUsual_2 rfl (lv_at hl 0 rfl) ?_
  refine lv_bipush (v := 7) hx hb dX4_setUsual_3 (by decide) ?_
  refine lv_icmp_ge (tgt := 49) hx hb dX4_setUsual_5 (by decide) (fun cb => absurd cb (by decide)) (fun _ => ?_)
  refine lv_iconst (v := 0) hx hb dX4_setUsual_8 (by decide) ?_
  refine lv_istore_n (lv' := [(2, .int 0), (1, .int 3), (0, .ref Rd)]) hx hb dX4_setUsual_9 rfl hl (by decide) rfl (fun ls hl => ?_)
  refine lv_iload_n hx hb dX4_setUsual_10 rfl (lv_at hl 0 rfl) ?_
  refine lv_iconst (v := 3) hx hb dX4_setUsual_11 (by decide) ?_
  refine lv_icmp_ge (tgt := 43) hx hb dX4_setUsual_12 (by decide) (fun cb => absurd cb (by decide)) (fun _ => ?_)
  refine lv_aload_n hx hb dX4_setUsual_15 rfl (lv_at hl 2 rfl) ?_
  refine va_get (D := D) (ci := 4) (v := .ref Rv) (C := RX4) (T := TX4) (N := 7) hx hb hts iX4 hown hK hP 0 rfl rfl 6 (by decide) f15 (fun _ h9 => h9) rfl dX4_setUsual_16 ?_
  refine lv_iload_n hx hb dX4_setUsual_19 rfl (lv_at hl 1 rfl) ?_
  refine lv_iconst (v := 3) hx hb dX4_setUsual_20 (by decide) ?_
  refine lv_imul hx hb dX4_setUsual_21 ?_
  refine lv_eqi (y := 9) (by decide) ?_
  refine lv_iload_n hx hb dX4_setUsual_22 rfl (lv_at hl 0 rfl) ?_
  refine lv_iadd hx hb dX4_setUsual_23 ?_
  refine lv_eqi (y := 9) (by decide) ?_
  refine va_gets hx hb hZ.1 hS hown f47 (fun _ h9 => h9) dX4_setUsual_24 ?_
  refine lv_iload_n hx hb dX4_setUsual_27 rfl (lv_at hl 1 rfl) ?_
  refine ky_Si (As := [.int 3]) (rest := [.ref (g 10), .int 9, .ref Rv]) ⟨hx, hb, hml, hown, hts⟩ ⟨hK, hN⟩ hZ hP hD hS hA [] [0, 1] (wc := []) (wr := [(Rd, .inr (4, [.ref Rq, .int (fr 1), .int (fr 2), .int (fr 3), .int (fr 4), .int (fr 5), .ref Rv])), (Rv, .inl (g 0, 21, .inl F_18))]) rfl rfl rfl rfl (by decide) (k_X4_kindOf_3 l D g H.size) (va_cwS 1 hts gX4_setUsual_X4_kindOf rfl rfl rfl (by decide +kernel) ⟨(Nat.le_of_ble_eq_true rfl), (Nat.le_of_ble_eq_true rfl)⟩) rfl hl.1 rfl (Nat.le_of_ble_eq_true rfl) dX4_setUsual_28 ⟨(Nat.le_of_ble_eq_true rfl), (Nat.le_of_ble_eq_true rfl)⟩ (fun r_19 u H locs hw hP2 hD2 hS2 => ?_)
  clear hP hD hS
  obtain ⟨rfl, rfl⟩ := hw
  have hPD : PD D A [(Rd, .inr (4, [.ref Rq, .int (fr 1), .int (fr 2), .int (fr 3), .int (fr 4), .int (fr 5), .ref Rv])), (Rv, .inl (g 0, 21, .inl F_18))] H := ⟨hP2, hD2⟩
  have hS := hS2; clear hP2 hD2 hS2; have hP := hPD.1; have hD := hPD.2; clear hPD
  refine W.widen (k := 0) (n := 0) (Nat.le_of_ble_eq_true rfl) (Nat.le_of_ble_eq_true rfl) ?_
  refine lv_iconst (v := 3) hx hb dX4_setUsual_31 (by decide) ?_
  refine lv_imul hx hb dX4_setUsual_32 ?_
  refine lv_eqi (y := 3) (by decide) ?_
  refine lv_iload_n hx hb dX4_setUsual_33 rfl (lv_at hl 0 rfl) ?_
  refine lv_iadd hx hb dX4_setUsual_34 ?_
  refine lv_eqi (y := 3) (by decide) ?_
  refine va_ti (v := .int 1) hx hb hZ.2.1 hS (by unfold vp_in; decide) rfl dX4_setUsual_35 ?_
  refine va_iast hx hb hK hP hD hS 1 0 rfl rfl (by unfold vp_in; decide) dX4_setUsual_36 (fun H locs hP2 hD2 hS2 => ?_)
  clear hP hD hS
  have hPD : PD D A [(Rd, .inr (4, [.ref Rq, .int (fr 1), .int (fr 2), .int (fr 3), .int (fr 4), .int (fr 5), .ref Rv])), (Rv, .inl (g 0, 21, .inl (upd F_18 9 1)))] H := ⟨hP2, hD2⟩
  have hS := hS2; clear hP2 hD2 hS2; have hP := hPD.1; have hD := hPD.2; clear hPD
  have hF_20 : vOK (upd F_18 9 1) := vOK_upd (hF_18) (k := 9) (n := 1) (Nat.le_trans (show 1 ≤ 4 by omega) (Nat.le_of_ble_eq_true rfl))
  generalize upd F_18 9 1 = F_20 at hP hD hF_20
  refine lv_iinc (v := 1) (lv' := [(2, .int 1), (1, .int 3), (0, .ref Rd)]) hx hb dX4_setUsual_37 hl (k := 0) rfl (by decide) (by decide) rfl (fun ls hl => ?_)
  refine lv_goto (tgt := 10) hx hb dX4_setUsual_40 (by decide) ?_
  refine lv_iload_n hx hb dX4_setUsual_10 rfl (lv_at hl 0 rfl) ?_
  refine lv_iconst (v := 3) hx hb dX4_setUsual_11 (by decide) ?_
  refine lv_icmp_ge (tgt := 43) hx hb dX4_setUsual_12 (by decide) (fun cb => absurd cb (by decide)) (fun _ => ?_)
  refine lv_aload_n hx hb dX4_setUsual_15 rfl (lv_at hl 2 rfl) ?_
  refine va_get (D := D) (ci := 4) (v := .ref Rv) (C := RX4) (T := TX4) (N := 7) hx hb hts iX4 hown hK hP 0 rfl rfl 6 (by decide) f15 (fun _ h9 => h9) rfl dX4_setUsual_16 ?_
  refine lv_iload_n hx hb dX4_setUsual_19 rfl (lv_at hl 1 rfl) ?_
  refine lv_iconst (v := 3) hx hb dX4_setUsual_20 (by decide) ?_
  refine lv_imul hx hb dX4_setUsual_21 ?_
  refine lv_eqi (y := 9) (by decide) ?_
  refine lv_iload_n hx hb dX4_setUsual_22 rfl (lv_at hl 0 rfl) ?_
  refine lv_iadd hx hb dX4_setUsual_23 ?_
  refine lv_eqi (y := 10) (by decide) ?_
  refine va_gets hx hb hZ.1 hS hown f47 (fun _ h9 => h9) dX4_setUsual_24 ?_
  refine lv_iload_n hx hb dX4_setUsual_27 rfl (lv_at hl 1 rfl) ?_
  refine ky_Si (As := [.int 3]) (rest := [.ref (g 10), .int 10, .ref Rv]) ⟨hx, hb, hml, hown, hts⟩ ⟨hK, hN⟩ hZ hP hD hS hA [] [0, 1] (wc := []) (wr := [(Rd, .inr (4, [.ref Rq, .int (fr 1), .int (fr 2), .int (fr 3), .int (fr 4), .int (fr 5), .ref Rv])), (Rv, .inl (g 0, 21, .inl F_20))]) rfl rfl rfl rfl (by decide) (k_X4_kindOf_3 l D g H.size) (va_cwS 1 hts gX4_setUsual_X4_kindOf rfl rfl rfl (by decide +kernel) ⟨(Nat.le_of_ble_eq_true rfl), (Nat.le_of_ble_eq_true rfl)⟩) rfl hl.1 rfl (Nat.le_of_ble_eq_true rfl) dX4_setUsual_28 ⟨(Nat.le_of_ble_eq_true rfl), (Nat.le_of_ble_eq_true rfl)⟩ (fun r_21 u H locs hw hP2 hD2 hS2 => ?_)
  clear hP hD hS
  obtain ⟨rfl, rfl⟩ := hw
  have hPD : PD D A [(Rd, .inr (4, [.ref Rq, .int (fr 1), .int (fr 2), .int (fr 3), .int (fr 4), .int (fr 5), .ref Rv])), (Rv, .inl (g 0, 21, .inl F_20))] H := ⟨hP2, hD2⟩
  have hS := hS2; clear hP2 hD2 hS2; have hP := hPD.1; have hD := hPD.2; clear hPD
  refine W.widen (k := 0) (n := 0) (Nat.le_of_ble_eq_true rfl) (Nat.le_of_ble_eq_true rfl) ?_
  refine lv_iconst (v := 3) hx hb dX4_setUsual_31 (by decide) ?_
  refine lv_imul hx hb dX4_setUsual_32 ?_
  refine lv_eqi (y := 3) (by decide) ?_
  refine lv_iload_n hx hb dX4_setUsual_33 rfl (lv_at hl 0 rfl) ?_
  refine lv_iadd hx hb dX4_setUsual_34 ?_
  refine lv_eqi (y := 4) (by decide) ?_
  refine va_ti (v := .int 12) hx hb hZ.2.1 hS (by unfold vp_in; decide) rfl dX4_setUsual_35 ?_
  refine va_iast hx hb hK hP hD hS 1 0 rfl rfl (by unfold vp_in; decide) dX4_setUsual_36 (fun H locs hP2 hD2 hS2 => ?_)
  clear hP hD hS
  have hPD : PD D A [(Rd, .inr (4, [.ref Rq, .int (fr 1), .int (fr 2), .int (fr 3), .int (fr 4), .int (fr 5), .ref Rv])), (Rv, .inl (g 0, 21, .inl (upd F_20 10 12)))] H := ⟨hP2, hD2⟩
  have hS := hS2; clear hP2 hD2 hS2; have hP := hPD.1; have hD := hPD.2; clear hPD
  have hF_22 : vOK (upd F_20 10 12) := vOK_upd (hF_20) (k := 10) (n := 12) (Nat.le_trans (show 12 ≤ 30 by omega) (Nat.le_of_ble_eq_true rfl))
  generalize upd F_20 10 12 = F_22 at hP hD hF_22
  refine lv_iinc (v := 2) (lv' := [(2, .int 2), (1, .int 3), (0, .ref Rd)]) hx hb dX4_setUsual_37 hl (k := 0) rfl (by decide) (by decide) rfl (fun ls hl => ?_)
  refine lv_goto (tgt := 10) hx hb dX4_setUsual_40 (by decide) ?_
  refine lv_iload_n hx hb dX4_setUsual_10 rfl (lv_at hl 0 rfl) ?_
  refine lv_iconst (v := 3) hx hb dX4_setUsual_11 (by decide) ?_
  refine lv_icmp_ge (tgt := 43) hx hb dX4_setUsual_12 (by decide) (fun cb => absurd cb (by decide)) (fun _ => ?_)
  refine lv_aload_n hx hb dX4_setUsual_15 rfl (lv_at hl 2 rfl) ?_
  refine va_get (D := D) (ci := 4) (v := .ref Rv) (C := RX4) (T := TX4) (N := 7) hx hb hts iX4 hown hK hP 0 rfl rfl 6 (by decide) f15 (fun _ h9 => h9) rfl dX4_setUsual_16 ?_
  refine lv_iload_n hx hb dX4_setUsual_19 rfl (lv_at hl 1 rfl) ?_
  refine lv_iconst (v := 3) hx hb dX4_setUsual_20 (by decide) ?_
  refine lv_imul hx hb dX4_setUsual_21 ?_
  refine lv_eqi (y := 9) (by decide) ?_
  refine lv_iload_n hx hb dX4_setUsual_22 rfl (lv_at hl 0 rfl) ?_
  refine lv_iadd hx hb dX4_setUsual_23 ?_
  refine lv_eqi (y := 11) (by decide) ?_
  refine va_gets hx hb hZ.1 hS hown f47 (fun _ h9 => h9) dX4_setUsual_24 ?_
  refine lv_iload_n hx hb dX4_setUsual_27 rfl (lv_at hl 1 rfl) ?_
  refine ky_Si (As := [.int 3]) (rest := [.ref (g 10), .int 11, .ref Rv]) ⟨hx, hb, hml, hown, hts⟩ ⟨hK, hN⟩ hZ hP hD hS hA [] [0, 1] (wc := []) (wr := [(Rd, .inr (4, [.ref Rq, .int (fr 1), .int (fr 2), .int (fr 3), .int (fr 4), .int (fr 5), .ref Rv])), (Rv, .inl (g 0, 21, .inl F_22))]) rfl rfl rfl rfl (by decide) (k_X4_kindOf_3 l D g H.size) (va_cwS 1 hts gX4_setUsual_X4_kindOf rfl rfl rfl (by decide +kernel) ⟨(Nat.le_of_ble_eq_true rfl), (Nat.le_of_ble_eq_true rfl)⟩) rfl hl.1 rfl (Nat.le_of_ble_eq_true rfl) dX4_setUsual_28 ⟨(Nat.le_of_ble_eq_true rfl), (Nat.le_of_ble_eq_true rfl)⟩ (fun r_23 u H locs hw hP2 hD2 hS2 => ?_)
  clear hP hD hS
  obtain ⟨rfl, rfl⟩ := hw
  have hPD : PD D A [(Rd, .inr (4, [.ref Rq, .int (fr 1), .int (fr 2), .int (fr 3), .int (fr 4), .int (fr 5), .ref Rv])), (Rv, .inl (g 0, 21, .inl F_22))] H := ⟨hP2, hD2⟩
  have hS := hS2; clear hP2 hD2 hS2; have hP := hPD.1; have hD := hPD.2; clear hPD
  refine W.widen (k := 0) (n := 0) (Nat.le_of_ble_eq_true rfl) (Nat.le_of_ble_eq_true rfl) ?_
  refine lv_iconst (v := 3) hx hb dX4_setUsual_31 (by decide) ?_
  refine lv_imul hx hb dX4_setUsual_32 ?_
  refine lv_eqi (y := 3) (by decide) ?_
  refine lv_iload_n hx hb dX4_setUsual_33 rfl (lv_at hl 0 rfl) ?_
  refine lv_iadd hx hb dX4_setUsual_34 ?_
  refine lv_eqi (y := 5) (by decide) ?_
  refine va_ti (v := .int 1) hx hb hZ.2.1 hS (by unfold vp_in; decide) rfl dX4_setUsual_35 ?_
  refine va_iast hx hb hK hP hD hS 1 0 rfl rfl (by unfold vp_in; decide) dX4_setUsual_36 (fun H locs hP2 hD2 hS2 => ?_)
  clear hP hD hS
  have hPD : PD D A [(Rd, .inr (4, [.ref Rq, .int (fr 1), .int (fr 2), .int (fr 3), .int (fr 4), .int (fr 5), .ref Rv])), (Rv, .inl (g 0, 21, .inl (upd F_22 11 1)))] H := ⟨hP2, hD2⟩
  have hS := hS2; clear hP2 hD2 hS2; have hP := hPD.1; have hD := hPD.2; clear hPD
  have hF_24 : vOK (upd F_22 11 1) := vOK_upd (hF_22) (k := 11) (n := 1) (Nat.le_trans (show 1 ≤ 4 by omega) (Nat.le_of_ble_eq_true rfl))
  generalize upd F_22 11 1 = F_24 at hP hD hF_24
  refine lv_iinc (v := 3) (lv' := [(2, .int 3), (1, .int 3), (0, .ref Rd)]) hx hb dX4_setUsual_37 hl (k := 0) rfl (by decide) (by decide) rfl (fun ls hl => ?_)
  refine lv_goto (tgt := 10) hx hb dX4_setUsual_40 (by decide) ?_
  refine lv_iload_n hx hb dX4_setUsual_10 rfl (lv_at hl 0 rfl) ?_
  refine lv_iconst (v := 3) hx hb dX4_setUsual_11 (by decide) ?_
  refine lv_icmp_ge (tgt := 43) hx hb dX4_setUsual_12 (by decide) (fun _ => ?_) (fun cb => absurd (by decide) cb)
  refine lv_iinc (v := 4) (lv' := [(1, .int 4), (2, .int 3), (0, .ref Rd)]) hx hb dX4_setUsual_43 hl (k := 1) rfl (by decide) (by decide) rfl (fun ls hl => ?_)
  refine lv_goto (tgt := 2) hx hb dX4_setUsual_46 (by decide) ?_
  refine lv_iload_n hx hb dX4_setUsual_2 rfl (lv_at hl 0 rfl) ?_
  refine lv_bipush (v := 7) hx hb dX4_setUsual_3 (by decide) ?_
  refine lv_icmp_ge (tgt := 49) hx hb dX4_setUsual_5 (by decide) (fun cb => absurd cb (by decide)) (fun _ => ?_)
  refine lv_iconst (v := 0) hx hb dX4_setUsual_8 (by decide) ?_
  refine lv_istore_n (lv' := [(2, .int 0), (1, .int 4), (0, .ref Rd)]) hx hb dX4_setUsual_9 rfl hl (by decide) rfl (fun ls hl => ?_)
  refine lv_iload_n hx hb dX4_setUsual_10 rfl (lv_at hl 0 rfl) ?_
  refine lv_iconst (v := 3) hx hb dX4_setUsual_11 (by decide) ?_
  refine lv_icmp_ge (tgt := 43) hx hb dX4_setUsual_12 (by decide) (fun cb => absurd cb (by decide)) (fun _ => ?_)
  refine lv_aload_n hx hb dX4_setUsual_15 rfl (lv_at hl 2 rfl) ?_
  refine va_get (D := D) (ci := 4) (v := .ref Rv) (C := RX4) (T := TX4) (N := 7) hx hb hts iX4 hown hK hP 0 rfl rfl 6 (by decide) f15 (fun _ h9 => h9) rfl dX4_setUsual_16 ?_
  refine lv_iload_n hx hb dX4_setUsual_19 rfl (lv_at hl 1 rfl) ?_
  refine lv_iconst (v := 3) hx hb dX4_setUsual_20 (by decide) ?_
  refine lv_imul hx hb dX4_setUsual_21 ?_
  refine lv_eqi (y := 12) (by decide) ?_
  refine lv_iload_n hx hb dX4_setUsual_22 rfl (lv_at hl 0 rfl) ?_
  refine lv_iadd hx hb dX4_setUsual_23 ?_
  refine lv_eqi (y := 12) (by decide) ?_
  refine va_gets hx hb hZ.1 hS hown f47 (fun _ h9 => h9) dX4_setUsual_24 ?_
  refine lv_iload_n hx hb dX4_setUsual_27 rfl (lv_at hl 1 rfl) ?_
  refine ky_Si (As := [.int 4]) (rest := [.ref (g 10), .int 12, .ref Rv]) ⟨hx, hb, hml, hown, hts⟩ ⟨hK, hN⟩ hZ hP hD hS hA [] [0, 1] (wc := []) (wr := [(Rd, .inr (4, [.ref Rq, .int (fr 1), .int (fr 2), .int (fr 3), .int (fr 4), .int (fr 5), .ref Rv])), (Rv, .inl (g 0, 21, .inl F_24))]) rfl rfl rfl rfl (by decide) (k_X4_kindOf_4 l D g H.size) (va_cwS 1 hts gX4_setUsual_X4_kindOf rfl rfl rfl (by decide +kernel) ⟨(Nat.le_of_ble_eq_true rfl), (Nat.le_of_ble_eq_true rfl)⟩) rfl hl.1 rfl (Nat.le_of_ble_eq_true rfl) dX4_setUsual_28 ⟨(Nat.le_of_ble_eq_true rfl), (Nat.le_of_ble_eq_true rfl)⟩ (fun r_25 u H locs hw hP2 hD2 hS2 => ?_)
  clear hP hD hS
  obtain ⟨rfl, rfl⟩ := hw
  have hPD : PD D A [(Rd, .inr (4, [.ref Rq, .int (fr 1), .int (fr 2), .int (fr 3), .int (fr 4), .int (fr 5), .ref Rv])), (Rv, .inl (g 0, 21, .inl F_24))] H := ⟨hP2, hD2⟩
  have hS := hS2; clear hP2 hD2 hS2; have hP := hPD.1; have hD := hPD.2; clear hPD
  refine W.widen (k := 0) (n := 0) (Nat.le_of_ble_eq_true rfl) (Nat.le_of_ble_eq_true rfl) ?_
  refine lv_iconst (v := 3) hx hb dX4_setUsual_31 (by decide) ?_
  refine lv_imul hx hb dX4_setUsual_32 ?_
  refine lv_eqi (y := 6) (by decide) ?_
  refine lv_iload_n hx hb dX4_setUsual_33 rfl (lv_at hl 0 rfl) ?_
  refine lv_iadd hx hb dX4_setUsual_34 ?_
  refine lv_eqi (y := 6) (by decide) ?_
  refine va_ti (v := .int 1) hx hb hZ.2.1 hS (by unfold vp_in; decide) rfl dX4_setUsual_35 ?_
  refine va_iast hx hb hK hP hD hS 1 0 rfl rfl (by unfold vp_in; decide) dX4_setUsual_36 (fun H locs hP2 hD2 hS2 => ?_)
  clear hP hD hS
  have hPD : PD D A [(Rd, .inr (4, [.ref Rq, .int (fr 1), .int (fr 2), .int (fr 3), .int (fr 4), .int (fr 5), .ref Rv])), (Rv, .inl (g 0, 21, .inl (upd F_24 12 1)))] H := ⟨hP2, hD2⟩
  have hS := hS2; clear hP2 hD2 hS2; have hP := hPD.1; have hD := hPD.2; clear hPD
  have hF_26 : vOK (upd F_24 12 1) := vOK_upd (hF_24) (k := 12) (n := 1) (Nat.le_trans (show 1 ≤ 9 by omega) (Nat.le_of_ble_eq_true rfl))
  generalize upd F_24 12 1 = F_26 at hP hD hF_26
  refine lv_iinc (v := 1) (lv' := [(2, .int 1), (1, .int 4), (0, .ref Rd)]) hx hb dX4_setUsual_37 hl (k := 0) rfl (by decide) (by decide) rfl (fun ls hl => ?_)
  refine lv_goto (tgt := 10) hx hb dX4_setUsual_40 (by decide) ?_
  refine lv_iload_n hx hb dX4_setUsual_10 rfl (lv_at hl 0 rfl) ?_
  refine lv_iconst (v := 3) hx hb dX4_setUsual_11 (by decide) ?_
  refine lv_icmp_ge (tgt := 43) hx hb dX4_setUsual_12 (by decide) (fun cb => absurd cb (by decide)) (fun _ => ?_)
  refine lv_aload_n hx hb dX4_setUsual_15 rfl (lv_at hl 2 rfl) ?_
  refine va_get (D := D) (ci := 4) (v := .ref Rv) (C := RX4) (T := TX4) (N := 7) hx hb hts iX4 hown hK hP 0 rfl rfl 6 (by decide) f15 (fun _ h9 => h9) rfl dX4_setUsual_16 ?_
  refine lv_iload_n hx hb dX4_setUsual_19 rfl (lv_at hl 1 rfl) ?_
  refine lv_iconst (v := 3) hx hb dX4_setUsual_20 (by decide) ?_
  refine lv_imul hx hb dX4_setUsual_21 ?_
  refine lv_eqi (y := 12) (by decide) ?_
  refine lv_iload_n hx hb dX4_setUsual_22 rfl (lv_at hl 0 rfl) ?_
  refine lv_iadd hx hb dX4_setUsual_23 ?_
  refine lv_eqi (y := 13) (by decide) ?_
  refine va_gets hx hb hZ.1 hS hown f47 (fun _ h9 => h9) dX4_setUsual_24 ?_
  refine lv_iload_n hx hb dX4_setUsual_27 rfl (lv_at hl 1 rfl) ?_
  refine ky_Si (As := [.int 4]) (rest := [.ref (g 10), .int 13, .ref Rv]) ⟨hx, hb, hml, hown, hts⟩ ⟨hK, hN⟩ hZ hP hD hS hA [] [0, 1] (wc := []) (wr := [(Rd, .inr (4, [.ref Rq, .int (fr 1), .int (fr 2), .int (fr 3), .int (fr 4), .int (fr 5), .ref Rv])), (Rv, .inl (g 0, 21, .inl F_26))]) rfl rfl rfl rfl (by decide) (k_X4_kindOf_4 l D g H.size) (va_cwS 1 hts gX4_setUsual_X4_kindOf rfl rfl rfl (by decide +kernel) ⟨(Nat.le_of_ble_eq_true rfl), (Nat.le_of_ble_eq_true rfl)⟩) rfl hl.1 rfl (Nat.le_of_ble_eq_true rfl) dX4_setUsual_28 ⟨(Nat.le_of_ble_eq_true rfl), (Nat.le_of_ble_eq_true rfl)⟩ (fun r_27 u H locs hw hP2 hD2 hS2 => ?_)
  clear hP hD hS
  obtain ⟨rfl, rfl⟩ := hw
  have hPD : PD D A [(Rd, .inr (4, [.ref Rq, .int (fr 1), .int (fr 2), .int (fr 3), .int (fr 4), .int (fr 5), .ref Rv])), (Rv, .inl (g 0, 21, .inl F_26))] H := ⟨hP2, hD2⟩
  have hS := hS2; clear hP2 hD2 hS2; have hP := hPD.1; have hD := hPD.2; clear hPD
  refine W.widen (k := 0) (n := 0) (Nat.le_of_ble_eq_true rfl) (Nat.le_of_ble_eq_true rfl) ?_
  refine lv_iconst (v := 3) hx hb dX4_setUsual_31 (by decide) ?_
  refine lv_imul hx hb dX4_setUsual_32 ?_
  refine lv_eqi (y := 6) (by decide) ?_
  refine lv_iload_n hx hb dX4_setUsual_33 rfl (lv_at hl 0 rfl) ?_
  refine lv_iadd hx hb dX4_setUsual_34 ?_
  refine lv_eqi (y := 7) (by decide) ?_
  refine va_ti (v := .int 0) hx hb hZ.2.1 hS (by unfold vp_in; decide) rfl dX4_setUsual_35 ?_
  refine va_iast hx hb hK hP hD hS 1 0 rfl rfl (by unfold vp_in; decide) dX4_setUsual_36 (fun H locs hP2 hD2 hS2 => ?_)
  clear hP hD hS
  have hPD : PD D A [(Rd, .inr (4, [.ref Rq, .int (fr 1), .int (fr 2), .int (fr 3), .int (fr 4), .int (fr 5), .ref Rv])), (Rv, .inl (g 0, 21, .inl (upd F_26 13 0)))] H := ⟨hP2, hD2⟩
  have hS := hS2; clear hP2 hD2 hS2; have hP := hPD.1; have hD := hPD.2; clear hPD
  have hF_28 : vOK (upd F_26 13 0) := vOK_upd (hF_26) (k := 13) (n := 0) (Nat.le_trans (show 0 ≤ 20 by omega) (Nat.le_of_ble_eq_true rfl))
  generalize upd F_26 13 0 = F_28 at hP hD hF_28
  refine lv_iinc (v := 2) (lv' := [(2, .int 2), (1, .int 4), (0, .ref Rd)]) hx hb dX4_setUsual_37 hl (k := 0) rfl (by decide) (by decide) rfl (fun ls hl => ?_)
  refine lv_goto (tgt := 10) hx hb dX4_setUsual_40 (by decide) ?_
  refine lv_iload_n hx hb dX4_setUsual_10 rfl (lv_at hl 0 rfl) ?_
  refine lv_iconst (v := 3) hx hb dX4_setUsual_11 (by decide) ?_
  refine lv_icmp_ge (tgt := 43) hx hb dX4_setUsual_12 (by decide) (fun cb => absurd cb (by decide)) (fun _ => ?_)
  refine lv_aload_n hx hb dX4_setUsual_15 rfl (lv_at hl 2 rfl) ?_
  refine va_get (D := D) (ci := 4) (v := .ref Rv) (C := RX4) (T := TX4) (N := 7) hx hb hts iX4 hown hK hP 0 rfl rfl 6 (by decide) f15 (fun _ h9 => h9) rfl dX4_setUsual_16 ?_
  refine lv_iload_n hx hb dX4_setUsual_19 rfl (lv_at hl 1 rfl) ?_
  refine lv_iconst (v := 3) hx hb dX4_setUsual_20 (by decide) ?_
  refine lv_imul hx hb dX4_setUsual_21 ?_
  refine lv_eqi (y := 12) (by decide) ?_
  refine lv_iload_n hx hb dX4_setUsual_22 rfl (lv_at hl 0 rfl) ?_
  refine lv_iadd hx hb dX4_setUsual_23 ?_
  refine lv_eqi (y := 14) (by decide) ?_
  refine va_gets hx hb hZ.1 hS hown f47 (fun _ h9 => h9) dX4_setUsual_24 ?_
  refine lv_iload_n hx hb dX4_setUsual_27 rfl (lv_at hl 1 rfl) ?_
  refine ky_Si (As := [.int 4]) (rest := [.ref (g 10), .int 14, .ref Rv]) ⟨hx, hb, hml, hown, hts⟩ ⟨hK, hN⟩ hZ hP hD hS hA [] [0, 1] (wc := []) (wr := [(Rd, .inr (4, [.ref Rq, .int (fr 1), .int (fr 2), .int (fr 3), .int (fr 4), .int (fr 5), .ref Rv])), (Rv, .inl (g 0, 21, .inl F_28))]) rfl rfl rfl rfl (by decide) (k_X4_kindOf_4 l D g H.size) (va_cwS 1 hts gX4_setUsual_X4_kindOf rfl rfl rfl (by decide +kernel) ⟨(Nat.le_of_ble_eq_true rfl), (Nat.le_of_ble_eq_true rfl)⟩) rfl hl.1 rfl (Nat.le_of_ble_eq_true rfl) dX4_setUsual_28 ⟨(Nat.le_of_ble_eq_true rfl), (Nat.le_of_ble_eq_true rfl)⟩ (fun r_29 u H locs hw hP2 hD2 hS2 => ?_)
  clear hP hD hS
  obtain ⟨rfl, rfl⟩ := hw
  have hPD : PD D A [(Rd, .inr (4, [.ref Rq, .int (fr 1), .int (fr 2), .int (fr 3), .int (fr 4), .int (fr 5), .ref Rv])), (Rv, .inl (g 0, 21, .inl F_28))] H := ⟨hP2, hD2⟩
  have hS := hS2; clear hP2 hD2 hS2; have hP := hPD.1; have hD := hPD.2; clear hPD
  refine W.widen (k := 0) (n := 0) (Nat.le_of_ble_eq_true rfl) (Nat.le_of_ble_eq_true rfl) ?_
  refine lv_iconst (v := 3) hx hb dX4_setUsual_31 (by decide) ?_
  refine lv_imul hx hb dX4_setUsual_32 ?_
  refine lv_eqi (y := 6) (by decide) ?_
  refine lv_iload_n hx hb dX4_setUsual_33 rfl (lv_at hl 0 rfl) ?_
  refine lv_iadd hx hb dX4_setUsual_34 ?_
  refine lv_eqi (y := 8) (by decide) ?_
  refine va_ti (v := .int 1) hx hb hZ.2.1 hS (by unfold vp_in; decide) rfl dX4_setUsual_35 ?_
  refine va_iast hx hb hK hP hD hS 1 0 rfl rfl (by unfold vp_in; decide) dX4_setUsual_36 (fun H locs hP2 hD2 hS2 => ?_)
  clear hP hD hS
  have hPD : PD D A [(Rd, .inr (4, [.ref Rq, .int (fr 1), .int (fr 2), .int (fr 3), .int (fr 4), .int (fr 5), .ref Rv])), (Rv, .inl (g 0, 21, .inl (upd F_28 14 1)))] H := ⟨hP2, hD2⟩
  have hS := hS2; clear hP2 hD2 hS2; have hP := hPD.1; have hD := hPD.2; clear hPD
  have hF_30 : vOK (upd F_28 14 1) := vOK_upd (hF_28) (k := 14) (n := 1) (Nat.le_trans (show 1 ≤ 9 by omega) (Nat.le_of_ble_eq_true rfl))
  generalize upd F_28 14 1 = F_30 at hP hD hF_30
  refine lv_iinc (v := 3) (lv' := [(2, .int 3), (1, .int 4), (0, .ref Rd)]) hx hb dX4_setUsual_37 hl (k := 0) rfl (by decide) (by decide) rfl (fun ls hl => ?_)
  refine lv_goto (tgt := 10) hx hb dX4_setUsual_40 (by decide) ?_
  refine lv_iload_n hx hb dX4_setUsual_10 rfl (lv_at hl 0 rfl) ?_
  refine lv_iconst (v := 3) hx hb dX4_setUsual_11 (by decide) ?_
  refine lv_icmp_ge (tgt := 43) hx hb dX4_setUsual_12 (by decide) (fun _ => ?_) (fun cb => absurd (by decide) cb)
  refine lv_iinc (v := 5) (lv' := [(1, .int 5), (2, .int 3), (0, .ref Rd)]) hx hb dX4_setUsual_43 hl (k := 1) rfl (by decide) (by decide) rfl (fun ls hl => ?_)
  refine lv_goto (tgt := 2) hx hb dX4_setUsual_46 (by decide) ?_
  refine lv_iload_n hx hb dX4_setUsual_2 rfl (lv_at hl 0 rfl) ?_
  refine lv_bipush (v := 7) hx hb dX4_setUsual_3 (by decide) ?_
  refine lv_icmp_ge (tgt := 49) hx hb dX4_setUsual_5 (by decide) (fun cb => absurd cb (by decide)) (fun _ => ?_)
  refine lv_iconst (v := 0) hx hb dX4_setUsual_8 (by decide) ?_
  refine lv_istore_n (lv' := [(2, .int 0), (1, .int 5), (0, .ref Rd)]) hx hb dX4_setUsual_9 rfl hl (by decide) rfl (fun ls hl => ?_)
  refine lv_iload_n hx hb dX4_setUsual_10 rfl (lv_at hl 0 rfl) ?_
  refine lv_iconst (v := 3) hx hb dX4_setUsual_11 (by decide) ?_
  refine lv_icmp_ge (tgt := 43) hx hb dX4_setUsual_12 (by decide) (fun cb => absurd cb (by decide)) (fun _ => ?_)
  refine lv_aload_n hx hb dX4_setUsual_15 rfl (lv_at hl 2 rfl) ?_
  refine va_get (D := D) (ci := 4) (v := .ref Rv) (C := RX4) (T := TX4) (N := 7) hx hb hts iX4 hown hK hP 0 rfl rfl 6 (by decide) f15 (fun _ h9 => h9) rfl dX4_setUsual_16 ?_
  refine lv_iload_n hx hb dX4_setUsual_19 rfl (lv_at hl 1 rfl) ?_
  refine lv_iconst (v := 3) hx hb dX4_setUsual_20 (by decide) ?_
  refine lv_imul hx hb dX4_setUsual_21 ?_
  refine lv_eqi (y := 15) (by decide) ?_
  refine lv_iload_n hx hb dX4_setUsual_22 rfl (lv_at hl 0 rfl) ?_
  refine lv_iadd hx hb dX4_setUsual_23 ?_
  refine lv_eqi (y := 15) (by decide) ?_
  refine va_gets hx hb hZ.1 hS hown f47 (fun _ h9 => h9) dX4_setUsual_24 ?_
  refine lv_iload_n hx hb dX4_setUsual_27 rfl (lv_at hl 1 rfl) ?_
  refine ky_Si (As := [.int 5]) (rest := [.ref (g 10), .int 15, .ref Rv]) ⟨hx, hb, hml, hown, hts⟩ ⟨hK, hN⟩ hZ hP hD hS hA [] [0, 1] (wc := []) (wr := [(Rd, .inr (4, [.ref Rq, .int (fr 1), .int (fr 2), .int (fr 3), .int (fr 4), .int (fr 5), .ref Rv])), (Rv, .inl (g 0, 21, .inl F_30))]) rfl rfl rfl rfl (by decide) (k_X4_kindOf_5 l D g H.size) (va_cwS 1 hts gX4_setUsual_X4_kindOf rfl rfl rfl (by decide +kernel) ⟨(Nat.le_of_ble_eq_true rfl), (Nat.le_of_ble_eq_true rfl)⟩) rfl hl.1 rfl (Nat.le_of_ble_eq_true rfl) dX4_setUsual_28 ⟨(Nat.le_of_ble_eq_true rfl), (Nat.le_of_ble_eq_true rfl)⟩ (fun r_31 u H locs hw hP2 hD2 hS2 => ?_)
  clear hP hD hS
  obtain ⟨rfl, rfl⟩ := hw
  have hPD : PD D A [(Rd, .inr (4, [.ref Rq, .int (fr 1), .int (fr 2), .int (fr 3), .int (fr 4), .int (fr 5), .ref Rv])), (Rv, .inl (g 0, 21, .inl F_30))] H := ⟨hP2, hD2⟩
  have hS := hS2; clear hP2 hD2 hS2; have hP := hPD.1; have hD := hPD.2; clear hPD
  refine W.widen (k := 0) (n := 0) (Nat.le_of_ble_eq_true rfl) (Nat.le_of_ble_eq_true rfl) ?_
  refine lv_iconst (v := 3) hx hb dX4_setUsual_31 (by decide) ?_
  refine lv_imul hx hb dX4_setUsual_32 ?_
  refine lv_eqi (y := 6) (by decide) ?_
  refine lv_iload_n hx hb dX4_setUsual_33 rfl (lv_at hl 0 rfl) ?_
  refine lv_iadd hx hb dX4_setUsual_34 ?_
  refine lv_eqi (y := 6) (by decide) ?_
  refine va_ti (v := .int 1) hx hb hZ.2.1 hS (by unfold vp_in; decide) rfl dX4_setUsual_35 ?_
  refine va_iast hx hb hK hP hD hS 1 0 rfl rfl (by unfold vp_in; decide) dX4_setUsual_36 (fun H locs hP2 hD2 hS2 => ?_)
  clear hP hD hS
  have hPD : PD D A [(Rd, .inr (4, [.ref Rq, .int (fr 1), .int (fr 2), .int (fr 3), .int (fr 4), .int (fr 5), .ref Rv])), (Rv, .inl (g 0, 21, .inl (upd F_30 15 1)))] H := ⟨hP2, hD2⟩
  have hS := hS2; clear hP2 hD2 hS2; have hP := hPD.1; have hD := hPD.2; clear hPD
  have hF_32 : vOK (upd F_30 15 1) := vOK_upd (hF_30) (k := 15) (n := 1) (Nat.le_trans (show 1 ≤ 9 by omega) (Nat.le_of_ble_eq_true rfl))
  generalize upd F_30 15 1 = F_32 at hP hD hF_32
  refine lv_iinc (v := 1) (lv' := [(2, .int 1), (1, .int 5), (0, .ref Rd)]) hx hb dX4_setUsual_37 hl (k := 0) rfl (by decide) (by decide) rfl (fun ls hl => ?_)
  refine lv_goto (tgt := 10) hx hb dX4_setUsual_40 (by decide) ?_
  refine lv_iload_n hx hb dX4_setUsual_10 rfl (lv_at hl 0 rfl) ?_
  refine lv_iconst (v := 3) hx hb dX4_setUsual_11 (by decide) ?_
  refine lv_icmp_ge (tgt := 43) hx hb dX4_setUsual_12 (by decide) (fun cb => absurd cb (by decide)) (fun _ => ?_)
  refine lv_aload_n hx hb dX4_setUsual_15 rfl (lv_at hl 2 rfl) ?_
  refine va_get (D := D) (ci := 4) (v := .ref Rv) (C := RX4) (T := TX4) (N := 7) hx hb hts iX4 hown hK hP 0 rfl rfl 6 (by decide) f15 (fun _ h9 => h9) rfl dX4_setUsual_16 ?_
  refine lv_iload_n hx hb dX4_setUsual_19 rfl (lv_at hl 1 rfl) ?_
  refine lv_iconst (v := 3) hx hb dX4_setUsual_20 (by decide) ?_
  refine lv_imul hx hb dX4_setUsual_21 ?_
  refine lv_eqi (y := 15) (by decide) ?_
  refine lv_iload_n hx hb dX4_setUsual_22 rfl (lv_at hl 0 rfl) ?_
  refine lv_iadd hx hb dX4_setUsual_23 ?_
  refine lv_eqi (y := 16) (by decide) ?_
  refine va_gets hx hb hZ.1 hS hown f47 (fun _ h9 => h9) dX4_setUsual_24 ?_
  refine lv_iload_n hx hb dX4_setUsual_27 rfl (lv_at hl 1 rfl) ?_
  refine ky_Si (As := [.int 5]) (rest := [.ref (g 10), .int 16, .ref Rv]) ⟨hx, hb, hml, hown, hts⟩ ⟨hK, hN⟩ hZ hP hD hS hA [] [0, 1] (wc := []) (wr := [(Rd, .inr (4, [.ref Rq, .int (fr 1), .int (fr 2), .int (fr 3), .int (fr 4), .int (fr 5), .ref Rv])), (Rv, .inl (g 0, 21, .inl F_32))]) rfl rfl rfl rfl (by decide) (k_X4_kindOf_5 l D g H.size) (va_cwS 1 hts gX4_setUsual_X4_kindOf rfl rfl rfl (by decide +kernel) ⟨(Nat.le_of_ble_eq_true rfl), (Nat.le_of_ble_eq_true rfl)⟩) rfl hl.1 rfl (Nat.le_of_ble_eq_true rfl) dX4_setUsual_28 ⟨(Nat.le_of_ble_eq_true rfl), (Nat.le_of_ble_eq_true rfl)⟩ (fun r_33 u H locs hw hP2 hD2 hS2 => ?_)
  clear hP hD hS
  obtain ⟨rfl, rfl⟩ := hw
  have hPD : PD D A [(Rd, .inr (4, [.ref Rq, .int (fr 1), .int (fr 2), .int (fr 3), .int (fr 4), .int (fr 5), .ref Rv])), (Rv, .inl (g 0, 21, .inl F_32))] H := ⟨hP2, hD2⟩
  have hS := hS2; clear hP2 hD2 hS2; have hP := hPD.1; have hD := hPD.2; clear hPD
  refine W.widen (k := 0) (n := 0) (Nat.le_of_ble_eq_true rfl) (Nat.le_of_ble_eq_true rfl) ?_
  refine lv_iconst (v := 3) hx hb dX4_setUsual_31 (by decide) ?_
  refine lv_imul hx hb dX4_setUsual_32 ?_
  refine lv_eqi (y := 6) (by decide) ?_
  refine lv_iload_n hx hb dX4_setUsual_33 rfl (lv_at hl 0 rfl) ?_
  refine lv_iadd hx hb dX4_setUsual_34 ?_
  refine lv_eqi (y := 7) (by decide) ?_
  refine va_ti (v := .int 0) hx hb hZ.2.1 hS (by unfold vp_in; decide) rfl dX4_setUsual_35 ?_
  refine va_iast hx hb hK hP hD hS 1 0 rfl rfl (by unfold vp_in; decide) dX4_setUsual_36 (fun H locs hP2 hD2 hS2 => ?_)
  clear hP hD hS
  have hPD : PD D A [(Rd, .inr (4, [.ref Rq, .int (fr 1), .int (fr 2), .int (fr 3), .int (fr 4), .int (fr 5), .ref Rv])), (Rv, .inl (g 0, 21, .inl (upd F_32 16 0)))] H := ⟨hP2, hD2⟩
  have hS := hS2; clear hP2 hD2 hS2; have hP := hPD.1; have hD := hPD.2; clear hPD
  have hF_34 : vOK (upd F_32 16 0) := vOK_upd (hF_32) (k := 16) (n := 0) (Nat.le_trans (show 0 ≤ 20 by omega) (Nat.le_of_ble_eq_true rfl))
  generalize upd F_32 16 0 = F_34 at hP hD hF_34
  refine lv_iinc (v := 2) (lv' := [(2, .int 2), (1, .int 5), (0, .ref Rd)]) hx hb dX4_setUsual_37 hl (k := 0) rfl (by decide) (by decide) rfl (fun ls hl => ?_)
  refine lv_goto (tgt := 10) hx hb dX4_setUsual_40 (by decide) ?_
  refine lv_iload_n hx hb dX4_setUsual_10 rfl (lv_at hl 0 rfl) ?_
  refine lv_iconst (v := 3) hx hb dX4_setUsual_11 (by decide) ?_
  refine lv_icmp_ge (tgt := 43) hx hb dX4_setUsual_12 (by decide) (fun cb => absurd cb (by decide)) (fun _ => ?_)
  refine lv_aload_n hx hb dX4_setUsual_15 rfl (lv_at hl 2 rfl) ?_
  refine va_get (D := D) (ci := 4) (v := .ref Rv) (C := RX4) (T := TX4) (N := 7) hx hb hts iX4 hown hK hP 0 rfl rfl 6 (by decide) f15 (fun _ h9 => h9) rfl dX4_setUsual_16 ?_
  refine lv_iload_n hx hb dX4_setUsual_19 rfl (lv_at hl 1 rfl) ?_
  refine lv_iconst (v := 3) hx hb dX4_setUsual_20 (by decide) ?_
  refine lv_imul hx hb dX4_setUsual_21 ?_
  refine lv_eqi (y := 15) (by decide) ?_
  refine lv_iload_n hx hb dX4_setUsual_22 rfl (lv_at hl 0 rfl) ?_
  refine lv_iadd hx hb dX4_setUsual_23 ?_
  refine lv_eqi (y := 17) (by decide) ?_
  refine va_gets hx hb hZ.1 hS hown f47 (fun _ h9 => h9) dX4_setUsual_24 ?_
  refine lv_iload_n hx hb dX4_setUsual_27 rfl (lv_at hl 1 rfl) ?_
  refine ky_Si (As := [.int 5]) (rest := [.ref (g 10), .int 17, .ref Rv]) ⟨hx, hb, hml, hown, hts⟩ ⟨hK, hN⟩ hZ hP hD hS hA [] [0, 1] (wc := []) (wr := [(Rd, .inr (4, [.ref Rq, .int (fr 1), .int (fr 2), .int (fr 3), .int (fr 4), .int (fr 5), .ref Rv])), (Rv, .inl (g 0, 21, .inl F_34))]) rfl rfl rfl rfl (by decide) (k_X4_kindOf_5 l D g H.size) (va_cwS 1 hts gX4_setUsual_X4_kindOf rfl rfl rfl (by decide +kernel) ⟨(Nat.le_of_ble_eq_true rfl), (Nat.le_of_ble_eq_true rfl)⟩) rfl hl.1 rfl (Nat.le_of_ble_eq_true rfl) dX4_setUsual_28 ⟨(Nat.le_of_ble_eq_true rfl), (Nat.le_of_ble_eq_true rfl)⟩ (fun r_35 u H locs hw hP2 hD2 hS2 => ?_)
  clear hP hD hS
  obtain ⟨rfl, rfl⟩ := hw
  have hPD : PD D A [(Rd, .inr (4, [.ref Rq, .int (fr 1), .int (fr 2), .int (fr 3), .int (fr 4), .int (fr 5), .ref Rv])), (Rv, .inl (g 0, 21, .inl F_34))] H := ⟨hP2, hD2⟩
  have hS := hS2; clear hP2 hD2 hS2; have hP := hPD.1; have hD := hPD.2; clear hPD
  refine W.widen (k := 0) (n := 0) (Nat.le_of_ble_eq_true rfl) (Nat.le_of_ble_eq_true rfl) ?_
  refine lv_iconst (v := 3) hx hb dX4_setUsual_31 (by decide) ?_
  refine lv_imul hx hb dX4_setUsual_32 ?_
  refine lv_eqi (y := 6) (by decide) ?_
  refine lv_iload_n hx hb dX4_setUsual_33 rfl (lv_at hl 0 rfl) ?_
  refine lv_iadd hx hb dX4_setUsual_34 ?_
  refine lv_eqi (y := 8) (by decide) ?_
  refine va_ti (v := .int 1) hx hb hZ.2.1 hS (by unfold vp_in; decide) rfl dX4_setUsual_35 ?_
  refine va_iast hx hb hK hP hD hS 1 0 rfl rfl (by unfold vp_in; decide) dX4_setUsual_36 (fun H locs hP2 hD2 hS2 => ?_)
  clear hP hD hS
  have hPD : PD D A [(Rd, .inr (4, [.ref Rq, .int (fr 1), .int (fr 2), .int (fr 3), .int (fr 4), .int (fr 5), .ref Rv])), (Rv, .inl (g 0, 21, .inl (upd F_34 17 1)))] H := ⟨hP2, hD2⟩
  have hS := hS2; clear hP2 hD2 hS2; have hP := hPD.1; have hD := hPD.2; clear hPD
  have hF_36 : vOK (upd F_34 17 1) := vOK_upd (hF_34) (k := 17) (n := 1) (Nat.le_trans (show 1 ≤ 9 by omega) (Nat.le_of_ble_eq_true rfl))
  generalize upd F_34 17 1 = F_36 at hP hD hF_36
  refine lv_iinc (v := 3) (lv' := [(2, .int 3), (1, .int 5), (0, .ref Rd)]) hx hb dX4_setUsual_37 hl (k := 0) rfl (by decide) (by decide) rfl (fun ls hl => ?_)
  refine lv_goto (tgt := 10) hx hb dX4_setUsual_40 (by decide) ?_
  refine lv_iload_n hx hb dX4_setUsual_10 rfl (lv_at hl 0 rfl) ?_
  refine lv_iconst (v := 3) hx hb dX4_setUsual_11 (by decide) ?_
  refine lv_icmp_ge (tgt := 43) hx hb dX4_setUsual_12 (by decide) (fun _ => ?_) (fun cb => absurd (by decide) cb)
  refine lv_iinc (v := 6) (lv' := [(1, .int 6), (2, .int 3), (0, .ref Rd)]) hx hb dX4_setUsual_43 hl (k := 1) rfl (by decide) (by decide) rfl (fun ls hl => ?_)
  refine lv_goto (tgt := 2) hx hb dX4_setUsual_46 (by decide) ?_
  refine lv_iload_n hx hb dX4_setUsual_2 rfl (lv_at hl 0 rfl) ?_
  refine lv_bipush (v := 7) hx hb dX4_setUsual_3 (by decide) ?_
  refine lv_icmp_ge (tgt := 49) hx hb dX4_setUsual_5 (by decide) (fun cb => absurd cb (by decide)) (fun _ => ?_)
  refine lv_iconst (v := 0) hx hb dX4_setUsual_8 (by decide) ?_
  refine lv_istore_n (lv' := [(2, .int 0), (1, .int 6), (0, .ref Rd)]) hx hb dX4_setUsual_9 rfl hl (by decide) rfl (fun ls hl => ?_)
  refine lv_iload_n hx hb dX4_setUsual_10 rfl (lv_at hl 0 rfl) ?_
  refine lv_iconst (v := 3) hx hb dX4_setUsual_11 (by decide) ?_
  refine lv_icmp_ge (tgt := 43) hx hb dX4_setUsual_12 (by decide) (fun cb => absurd cb (by decide)) (fun _ => ?_)
  refine lv_aload_n hx hb dX4_setUsual_15 rfl (lv_at hl 2 rfl) ?_
  refine va_get (D := D) (ci := 4) (v := .ref Rv) (C := RX4) (T := TX4) (N := 7) hx hb hts iX4 hown hK hP 0 rfl rfl 6 (by decide) f15 (fun _ h9 => h9) rfl dX4_setUsual_16 ?_
  refine lv_iload_n hx hb dX4_setUsual_19 rfl (lv_at hl 1 rfl) ?_
  refine lv_iconst (v := 3) hx hb dX4_setUsual_20 (by decide) ?_
  refine lv_imul hx hb dX4_setUsual_21 ?_
  refine lv_eqi (y := 18) (by decide) ?_
  refine lv_iload_n hx hb dX4_setUsual_22 rfl (lv_at hl 0 rfl) ?_
  refine lv_iadd hx hb dX4_setUsual_23 ?_
  refine lv_eqi (y := 18) (by decide) ?_
  refine va_gets hx hb hZ.1 hS hown f47 (fun _ h9 => h9) dX4_setUsual_24 ?_
  refine lv_iload_n hx hb dX4_setUsual_27 rfl (lv_at hl 1 rfl) ?_
  refine ky_Si (As := [.int 6]) (rest := [.ref (g 10), .int 18, .ref Rv]) ⟨hx, hb, hml, hown, hts⟩ ⟨hK, hN⟩ hZ hP hD hS hA [] [0, 1] (wc := []) (wr := [(Rd, .inr (4, [.ref Rq, .int (fr 1), .int (fr 2), .int (fr 3), .int (fr 4), .int (fr 5), .ref Rv])), (Rv, .inl (g 0, 21, .inl F_36))]) rfl rfl rfl rfl (by decide) (k_X4_kindOf_6 l D g H.size) (va_cwS 1 hts gX4_setUsual_X4_kindOf rfl rfl rfl (by decide +kernel) ⟨(Nat.le_of_ble_eq_true rfl), (Nat.le_of_ble_eq_true rfl)⟩) rfl hl.1 rfl (Nat.le_of_ble_eq_true rfl) dX4_setUsual_28 ⟨(Nat.le_of_ble_eq_true rfl), (Nat.le_of_ble_eq_true rfl)⟩ (fun r_37 u H locs hw hP2 hD2 hS2 => ?_)
  clear hP hD hS
  obtain ⟨rfl, rfl⟩ := hw
  have hPD : PD D A [(Rd, .inr (4, [.ref Rq, .int (fr 1), .int (fr 2), .int (fr 3), .int (fr 4), .int (fr 5), .ref Rv])), (Rv, .inl (g 0, 21, .inl F_36))] H := ⟨hP2, hD2⟩
  have hS := hS2; clear hP2 hD2 hS2; have hP := hPD.1; have hD := hPD.2; clear hPD
  refine W.widen (k := 0) (n := 0) (Nat.le_of_ble_eq_true rfl) (Nat.le_of_ble_eq_true rfl) ?_
  refine lv_iconst (v := 3) hx hb dX4_setUsual_31 (by decide) ?_
  refine lv_imul hx hb dX4_setUsual_32 ?_
  refine lv_eqi (y := 6) (by decide) ?_
  refine lv_iload_n hx hb dX4_setUsual_33 rfl (lv_at hl 0 rfl) ?_
  refine lv_iadd hx hb dX4_setUsual_34 ?_
  refine lv_eqi (y := 6) (by decide) ?_
  refine va_ti (v := .int 1) hx hb hZ.2.1 hS (by unfold vp_in; decide) rfl dX4_setUsual_35 ?_
  refine va_iast hx hb hK hP hD hS 1 0 rfl rfl (by unfold vp_in; decide) dX4_setUsual_36 (fun H locs hP2 hD2 hS2 => ?_)
  clear hP hD hS
  have hPD : PD D A [(Rd, .inr (4, [.ref Rq, .int (fr 1), .int (fr 2), .int (fr 3), .int (fr 4), .int (fr 5), .ref Rv])), (Rv, .inl (g 0, 21, .inl (upd F_36 18 1)))] H := ⟨hP2, hD2⟩
  have hS := hS2; clear hP2 hD2 hS2; have hP := hPD.1; have hD := hPD.2; clear hPD
  have hF_38 : vOK (upd F_36 18 1) := vOK_upd (hF_36) (k := 18) (n := 1) (Nat.le_trans (show 1 ≤ 9 by omega) (Nat.le_of_ble_eq_true rfl))
  generalize upd F_36 18 1 = F_38 at hP hD hF_38
  refine lv_iinc (v := 1) (lv' := [(2, .int 1), (1, .int 6), (0, .ref Rd)]) hx hb dX4_setUsual_37 hl (k := 0) rfl (by decide) (by decide) rfl (fun ls hl => ?_)
  refine lv_goto (tgt := 10) hx hb dX4_setUsual_40 (by decide) ?_
  refine lv_iload_n hx hb dX4_setUsual_10 rfl (lv_at hl 0 rfl) ?_
  refine lv_iconst (v := 3) hx hb dX4_setUsual_11 (by decide) ?_
  refine lv_icmp_ge (tgt := 43) hx hb dX4_setUsual_12 (by decide) (fun cb => absurd cb (by decide)) (fun _ => ?_)
  refine lv_aload_n hx hb dX4_setUsual_15 rfl (lv_at hl 2 rfl) ?_
  refine va_get (D := D) (ci := 4) (v := .ref Rv) (C := RX4) (T := TX4) (N := 7) hx hb hts iX4 hown hK hP 0 rfl rfl 6 (by decide) f15 (fun _ h9 => h9) rfl dX4_setUsual_16 ?_
  refine lv_iload_n hx hb dX4_setUsual_19 rfl (lv_at hl 1 rfl) ?_
  refine lv_iconst (v := 3) hx hb dX4_setUsual_20 (by decide) ?_
  refine lv_imul hx hb dX4_setUsual_21 ?_
  refine lv_eqi (y := 18) (by decide) ?_
  refine lv_iload_n hx hb dX4_setUsual_22 rfl (lv_at hl 0 rfl) ?_
  refine lv_iadd hx hb dX4_setUsual_23 ?_
  refine lv_eqi (y := 19) (by decide) ?_
  refine va_gets hx hb hZ.1 hS hown f47 (fun _ h9 => h9) dX4_setUsual_24 ?_
  refine lv_iload_n hx hb dX4_setUsual_27 rfl (lv_at hl 1 rfl) ?_
  refine ky_Si (As := [.int 6]) (rest := [.ref (g 10), .int 19, .ref Rv]) ⟨hx, hb, hml, hown, hts⟩ ⟨hK, hN⟩ hZ hP hD hS hA [] [0, 1] (wc := []) (wr := [(Rd, .inr (4, [.ref Rq, .int (fr 1), .int (fr 2), .int (fr 3), .int (fr 4), .int (fr 5), .ref Rv])), (Rv, .inl (g 0, 21, .inl F_38))]) rfl rfl rfl rfl (by decide) (k_X4_kindOf_6 l D g H.size) (va_cwS 1 hts gX4_setUsual_X4_kindOf rfl rfl rfl (by decide +kernel) ⟨(Nat.le_of_ble_eq_true rfl), (Nat.le_of_ble_eq_true rfl)⟩) rfl hl.1 rfl (Nat.le_of_ble_eq_true rfl) dX4_setUsual_28 ⟨(Nat.le_of_ble_eq_true rfl), (Nat.le_of_ble_eq_true rfl)⟩ (fun r_39 u H locs hw hP2 hD2 hS2 => ?_)
  clear hP hD hS
  obtain ⟨rfl, rfl⟩ := hw
  have hPD : PD D A [(Rd, .inr (4, [.ref Rq, .int (fr 1), .int (fr 2), .int (fr 3), .int (fr 4), .int (fr 5), .ref Rv])), (Rv, .inl (g 0, 21, .inl F_38))] H := ⟨hP2, hD2⟩
  have hS := hS2; clear hP2 hD2 hS2; have hP := hPD.1; have hD := hPD.2; clear hPD
  refine W.widen (k := 0) (n := 0) (Nat.le_of_ble_eq_true rfl) (Nat.le_of_ble_eq_true rfl) ?_
  refine lv_iconst (v := 3) hx hb dX4_setUsual_31 (by decide) ?_
  refine lv_imul hx hb dX4_setUsual_32 ?_
  refine lv_eqi (y := 6) (by decide) ?_
  refine lv_iload_n hx hb dX4_setUsual_33 rfl (lv_at hl 0 rfl) ?_
  refine lv_iadd hx hb dX4_setUsual_34 ?_
  refine lv_eqi (y := 7) (by decide) ?_
  refine va_ti (v := .int 0) hx hb hZ.2.1 hS (by unfold vp_in; decide) rfl dX4_setUsual_35 ?_
  refine va_iast hx hb hK hP hD hS 1 0 rfl rfl (by unfold vp_in; decide) dX4_setUsual_36 (fun H locs hP2 hD2 hS2 => ?_)
  clear hP hD hS
  have hPD : PD D A [(Rd, .inr (4, [.ref Rq, .int (fr 1), .int (fr 2), .int (fr 3), .int (fr 4), .int (fr 5), .ref Rv])), (Rv, .inl (g 0, 21, .inl (upd F_38 19 0)))] H := ⟨hP2, hD2⟩
  have hS := hS2; clear hP2 hD2 hS2; have hP := hPD.1; have hD := hPD.2; clear hPD
  have hF_40 : vOK (upd F_38 19 0) := vOK_upd (hF_38) (k := 19) (n := 0) (Nat.le_trans (show 0 ≤ 20 by omega) (Nat.le_of_ble_eq_true rfl))
  generalize upd F_38 19 0 = F_40 at hP hD hF_40
  refine lv_iinc (v := 2) (lv' := [(2, .int 2), (1, .int 6), (0, .ref Rd)]) hx hb dX4_setUsual_37 hl (k := 0) rfl (by decide) (by decide) rfl (fun ls hl => ?_)
  refine lv_goto (tgt := 10) hx hb dX4_setUsual_40 (by decide) ?_
  refine lv_iload_n hx hb dX4_setUsual_10 rfl (lv_at hl 0 rfl) ?_
  refine lv_iconst (v := 3) hx hb dX4_setUsual_11 (by decide) ?_
  refine lv_icmp_ge (tgt := 43) hx hb dX4_setUsual_12 (by decide) (fun cb => absurd cb (by decide)) (fun _ => ?_)
  refine lv_aload_n hx hb dX4_setUsual_15 rfl (lv_at hl 2 rfl) ?_
  refine va_get (D := D) (ci := 4) (v := .ref Rv) (C := RX4) (T := TX4) (N := 7) hx hb hts iX4 hown hK hP 0 rfl rfl 6 (by decide) f15 (fun _ h9 => h9) rfl dX4_setUsual_16 ?_
  refine lv_iload_n hx hb dX4_setUsual_19 rfl (lv_at hl 1 rfl) ?_
  refine lv_iconst (v := 3) hx hb dX4_setUsual_20 (by decide) ?_
  refine lv_imul hx hb dX4_setUsual_21 ?_
  refine lv_eqi (y := 18) (by decide) ?_
  refine lv_iload_n hx hb dX4_setUsual_22 rfl (lv_at hl 0 rfl) ?_
  refine lv_iadd hx hb dX4_setUsual_23 ?_
  refine lv_eqi (y := 20) (by decide) ?_
  refine va_gets hx hb hZ.1 hS hown f47 (fun _ h9 => h9) dX4_setUsual_24 ?_
  refine lv_iload_n hx hb dX4_setUsual_27 rfl (lv_at hl 1 rfl) ?_
  refine ky_Si (As := [.int 6]) (rest := [.ref (g 10), .int 20, .ref Rv]) ⟨hx, hb, hml, hown, hts⟩ ⟨hK, hN⟩ hZ hP hD hS hA [] [0, 1] (wc := []) (wr := [(Rd, .inr (4, [.ref Rq, .int (fr 1), .int (fr 2), .int (fr 3), .int (fr 4), .int (fr 5), .ref Rv])), (Rv, .inl (g 0, 21, .inl F_40))]) rfl rfl rfl rfl (by decide) (k_X4_kindOf_6 l D g H.size) (va_cwS 1 hts gX4_setUsual_X4_kindOf rfl rfl rfl (by decide +kernel) ⟨(Nat.le_of_ble_eq_true rfl), (Nat.le_of_ble_eq_true rfl)⟩) rfl hl.1 rfl (Nat.le_of_ble_eq_true rfl) dX4_setUsual_28 ⟨(Nat.le_of_ble_eq_true rfl), (Nat.le_of_ble_eq_true rfl)⟩ (fun r_41 u H locs hw hP2 hD2 hS2 => ?_)
  clear hP hD hS
  obtain ⟨rfl, rfl⟩ := hw
  have hPD : PD D A [(Rd, .inr (4, [.ref Rq, .int (fr 1), .int (fr 2), .int (fr 3), .int (fr 4), .int (fr 5), .ref Rv])), (Rv, .inl (g 0, 21, .inl F_40))] H := ⟨hP2, hD2⟩
  have hS := hS2; clear hP2 hD2 hS2; have hP := hPD.1; have hD := hPD.2; clear hPD
  refine W.widen (k := 0) (n := 0) (Nat.le_of_ble_eq_true rfl) (Nat.le_of_ble_eq_true rfl) ?_
  refine lv_iconst (v := 3) hx hb dX4_setUsual_31 (by decide) ?_
  refine lv_imul hx hb dX4_setUsual_32 ?_
  refine lv_eqi (y := 6) (by decide) ?_
  refine lv_iload_n hx hb dX4_setUsual_33 rfl (lv_at hl 0 rfl) ?_
  refine lv_iadd hx hb dX4_setUsual_34 ?_
  refine lv_eqi (y := 8) (by decide) ?_
  refine va_ti (v := .int 1) hx hb hZ.2.1 hS (by unfold vp_in; decide) rfl dX4_setUsual_35 ?_
  refine va_iast hx hb hK hP hD hS 1 0 rfl rfl (by unfold vp_in; decide) dX4_setUsual_36 (fun H locs hP2 hD2 hS2 => ?_)
  clear hP hD hS
  have hPD : PD D A [(Rd, .inr (4, [.ref Rq, .int (fr 1), .int (fr 2), .int (fr 3), .int (fr 4), .int (fr 5), .ref Rv])), (Rv, .inl (g 0, 21, .inl (upd F_40 20 1)))] H := ⟨hP2, hD2⟩
  have hS := hS2; clear hP2 hD2 hS2; have hP := hPD.1; have hD := hPD.2; clear hPD
  have hF_42 : vOK (upd F_40 20 1) := vOK_upd (hF_40) (k := 20) (n := 1) (Nat.le_trans (show 1 ≤ 9 by omega) (Nat.le_of_ble_eq_true rfl))
  generalize upd F_40 20 1 = F_42 at hP hD hF_42
  refine lv_iinc (v := 3) (lv' := [(2, .int 3), (1, .int 6), (0, .ref Rd)]) hx hb dX4_setUsual_37 hl (k := 0) rfl (by decide) (by decide) rfl (fun ls hl => ?_)
  refine lv_goto (tgt := 10) hx hb dX4_setUsual_40 (by decide) ?_
  refine lv_iload_n hx hb dX4_setUsual_10 rfl (lv_at hl 0 rfl) ?_
  refine lv_iconst (v := 3) hx hb dX4_setUsual_11 (by decide) ?_
  refine lv_icmp_ge (tgt := 43) hx hb dX4_setUsual_12 (by decide) (fun _ => ?_) (fun cb => absurd (by decide) cb)
  refine lv_iinc (v := 7) (lv' := [(1, .int 7), (2, .int 3), (0, .ref Rd)]) hx hb dX4_setUsual_43 hl (k := 1) rfl (by decide) (by decide) rfl (fun ls hl => ?_)
  refine lv_goto (tgt := 2) hx hb dX4_setUsual_46 (by decide) ?_
  refine lv_iload_n hx hb dX4_setUsual_2 rfl (lv_at hl 0 rfl) ?_
  refine lv_bipush (v := 7) hx hb dX4_setUsual_3 (by decide) ?_
  refine lv_icmp_ge (tgt := 49) hx hb dX4_setUsual_5 (by decide) (fun _ => ?_) (fun cb => absurd (by decide) cb)
  have hP9 := hP; have hD9 := hD
  subst hQ
  refine W.widen (k := 0) (n := 0) (Nat.le_of_ble_eq_true rfl) (Nat.le_of_ble_eq_true rfl) ?_
  exact W.vret hx hb hr (fun tS htS _ => ⟨⟨_, rfl, ⟨F_42, rfl, (hF_42)⟩, by rw [htS]; exact hP9, hD9⟩, hS.F htS⟩) hS.2.2 dX4_setUsual_49
