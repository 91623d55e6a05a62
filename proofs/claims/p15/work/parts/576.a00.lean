set_option maxHeartbeats 4000000 in
set_option maxRecDepth 100000 in
theorem w_X7_usual_00 (l : Launch) (D : va_G) (g : Nat → ClassId) (sz : Nat) : Met l yX7_usual wsX7_usual ({ frames := 0, cells := 0, slots := 0, locals := 0 }) (va_Pc [.int 0, .int 0] (pre D g sz [])) (va_Qi (fun (r : Int32) (u : va_W) => u = [] ∧ r = 1) (wd D (va_A [] sz)) (va_A [] sz)) 0 0 (va_A [] sz) := by
  refine Met.ofW (cc := cX7_usual) (maxL := 2) (ret := (some .int)) (by decide) rfl ?_
  intro p e s m args below meth c s₁ B hml hv
  obtain ⟨rfl, hsz, hP, ⟨hK, hN⟩, hD0, hZ⟩ := hv
  have hx := B.exec
  have hb := B.bytes
  have hr := B.returns
  have hts := atoms_spec (ws := wsX7_usual) B.pre
  have hown : s.vm.findClass RX7 = some m.cls := findClass_of_methodNamed B.named
  have hlocks := B.notSynchronized
  clear B
  subst hsz
  have hD := hD0.self (sz := s.heap.size)
  clear hD0
  generalize hAe : va_A [] s.heap.size = A at hD hZ ⊢
  have hA : ∀ q : Nat, s.heap.size ≤ q → A q := fun q h => by rw [← hAe]; exact Or.inr h
  have hS : va_S A s.heap s.heap [] := va_S.rf
  have hl := lv_entry ([.int 0, .int 0]) (n := 2) (Nat.le_of_ble_eq_true rfl)
  rw [lg_entry_eq]
  generalize (lg_sl ([.int 0, .int 0]) ++ List.replicate (2 - (lg_sl ([.int 0, .int 0])).length) Slot.unset).toArray = ls at hl ⊢
  have hl : lv_has ls 2 [(0, .int 0), (1, .int 0)] := hl
  generalize hQ : MQ below _ _ s _ _ _ = Q
  generalize hH : s.heap = H at hP ⊢
  have hS : va_S A s.heap H [] := by rw [← hH]; exact hS
  clear hH
  refine lv_iload_n hx hb dX7_usual_0 rfl (lv_at hl 0 rfl) ?_
  refine lv_if_ne (tgt := 14) hx hb dX7_usual_1 (by decide) (fun cb => absurd (by decide) cb) (fun _ => ?_)
  refine lv_iload_n hx hb dX7_usual_4 rfl (lv_at hl 1 rfl) ?_
  refine lv_if_ne (tgt := 12) hx hb dX7_usual_5 (by decide) (fun cb => absurd (by decide) cb) (fun _ => ?_)
  refine lv_iconst (v := 1) hx hb dX7_usual_8 (by decide) ?_
  refine lv_goto (tgt := 13) hx hb dX7_usual_9 (by decide) ?_
  have hP9 := hP; have hD9 := hD
  subst hQ
  refine W.widen (k := 0) (n := 0) (Nat.le_of_ble_eq_true rfl) (Nat.le_of_ble_eq_true rfl) ?_
  exact W.iret (v := 1) hx hb hr (fun tS htS _ => ⟨⟨_, _, rfl, ⟨rfl, rfl⟩, by rw [htS]; exact hP9, hD9⟩, hS.F htS⟩) hS.2.2 dX7_usual_13

set_option maxHeartbeats 4000000 in
set_option maxRecDepth 100000 in
theorem w_X7_usual_01 (l : Launch) (D : va_G) (g : Nat → ClassId) (sz : Nat) : Met l yX7_usual wsX7_usual ({ frames := 0, cells := 0, slots := 0, locals := 0 }) (va_Pc [.int 0, .int 1] (pre D g sz [])) (va_Qi (fun (r : Int32) (u : va_W) => u = [] ∧ r = 0) (wd D (va_A [] sz)) (va_A [] sz)) 0 0 (va_A [] sz) := by
  refine Met.ofW (cc := cX7_usual) (maxL := 2) (ret := (some .int)) (by decide) rfl ?_
  intro p e s m args below meth c s₁ B hml hv
  obtain ⟨rfl, hsz, hP, ⟨hK, hN⟩, hD0, hZ⟩ := hv
  have hx := B.exec
  have hb := B.bytes
  have hr := B.returns
  have hts := atoms_spec (ws := wsX7_usual) B.pre
  have hown : s.vm.findClass RX7 = some m.cls := findClass_of_methodNamed B.named
  have hlocks := B.notSynchronized
  clear B
  subst hsz
  have hD := hD0.self (sz := s.heap.size)
  clear hD0
  generalize hAe : va_A [] s.heap.size = A at hD hZ ⊢
  have hA : ∀ q : Nat, s.heap.size ≤ q → A q := fun q h => by rw [← hAe]; exact Or.inr h
  have hS : va_S A s.heap s.heap [] := va_S.rf
  have hl := lv_entry ([.int 0, .int 1]) (n := 2) (Nat.le_of_ble_eq_true rfl)
  rw [lg_entry_eq]
  generalize (lg_sl ([.int 0, .int 1]) ++ List.replicate (2 - (lg_sl ([.int 0, .int 1])).length) Slot.unset).toArray = ls at hl ⊢
  have hl : lv_has ls 2 [(0, .int 0), (1, .int 1)] := hl
  generalize hQ : MQ below _ _ s _ _ _ = Q
  generalize hH : s.heap = H at hP ⊢
  have hS : va_S A s.heap H [] := by rw [← hH]; exact hS
  clear hH
  refine lv_iload_n hx hb dX7_usual_0 rfl (lv_at hl 0 rfl) ?_
  refine lv_if_ne (tgt := 14) hx hb dX7_usual_1 (by decide) (fun cb => absurd (by decide) cb) (fun _ => ?_)
  refine lv_iload_n hx hb dX7_usual_4 rfl (lv_at hl 1 rfl) ?_
  refine lv_if_ne (tgt := 12) hx hb dX7_usual_5 (by decide) (fun _ => ?_) (fun cb => absurd cb (by decide))
  refine lv_iconst (v := 0) hx hb dX7_usual_12 (by decide) ?_
  have hP9 := hP; have hD9 := hD
  subst hQ
  refine W.widen (k := 0) (n := 0) (Nat.le_of_ble_eq_true rfl) (Nat.le_of_ble_eq_true rfl) ?_
  exact W.iret (v := 0) hx hb hr (fun tS htS _ => ⟨⟨_, _, rfl, ⟨rfl, rfl⟩, by rw [htS]; exact hP9, hD9⟩, hS.F htS⟩) hS.2.2 dX7_usual_13

set_option maxHeartbeats 4000000 in
set_option maxRecDepth 100000 in
theorem w_X7_usual_02 (l : Launch) (D : va_G) (g : Nat → ClassId) (sz : Nat) : Met l yX7_usual wsX7_usual ({ frames := 0, cells := 0, slots := 0, locals := 0 }) (va_Pc [.int 0, .int 2] (pre D g sz [])) (va_Qi (fun (r : Int32) (u : va_W) => u = [] ∧ r = 0) (wd D (va_A [] sz)) (va_A [] sz)) 0 0 (va_A [] sz) := by
  refine Met.ofW (cc := cX7_usual) (maxL := 2) (ret := (some .int)) (by decide) rfl ?_
  intro p e s m args below meth c s₁ B hml hv
  obtain ⟨rfl, hsz, hP, ⟨hK, hN⟩, hD0, hZ⟩ := hv
  have hx := B.exec
  have hb := B.bytes
  have hr := B.returns
  have hts := atoms_spec (ws := wsX7_usual) B.pre
  have hown : s.vm.findClass RX7 = some m.cls := findClass_of_methodNamed B.named
  have hlocks := B.notSynchronized
  clear B
  subst hsz
  have hD := hD0.self (sz := s.heap.size)
  clear hD0
  generalize hAe : va_A [] s.heap.size = A at hD hZ ⊢
  have hA : ∀ q : Nat, s.heap.size ≤ q → A q := fun q h => by rw [← hAe]; exact Or.inr h
  have hS : va_S A s.heap s.heap [] := va_S.rf
  have hl := lv_entry ([.int 0, .int 2]) (n := 2) (Nat.le_of_ble_eq_true rfl)
  rw [lg_entry_eq]
  generalize (lg_sl ([.int 0, .int 2]) ++ List.replicate (2 - (lg_sl ([.int 0, .int 2])).length) Slot.unset).toArray = ls at hl ⊢
  have hl : lv_has ls 2 [(0, .int 0), (1, .int 2)] := hl
  generalize hQ : MQ below _ _ s _ _ _ = Q
  generalize hH : s.heap = H at hP ⊢
  have hS : va_S A s.heap H [] := by rw [← hH]; exact hS
  clear hH
  refine lv_iload_n hx hb dX7_usual_0 rfl (lv_at hl 0 rfl) ?_
  refine lv_if_ne (tgt := 14) hx hb dX7_usual_1 (by decide) (fun cb => absurd (by decide) cb) (fun _ => ?_)
  refine lv_iload_n hx hb dX7_usual_4 rfl (lv_at hl 1 rfl) ?_
  refine lv_if_ne (tgt := 12) hx hb dX7_usual_5 (by decide) (fun _ => ?_) (fun cb => absurd cb (by decide))
  refine lv_iconst (v := 0) hx hb dX7_usual_12 (by decide) ?_
  have hP9 := hP; have hD9 := hD
  subst hQ
  refine W.widen (k := 0) (n := 0) (Nat.le_of_ble_eq_true rfl) (Nat.le_of_ble_eq_true rfl) ?_
  exact W.iret (v := 0) hx hb hr (fun tS htS _ => ⟨⟨_, _, rfl, ⟨rfl, rfl⟩, by rw [htS]; exact hP9, hD9⟩, hS.F htS⟩) hS.2.2 dX7_usual_13

set_option maxHeartbeats 4000000 in
set_option maxRecDepth 100000 in
theorem w_X7_usual_10 (l : Launch) (D : va_G) (g : Nat → ClassId) (sz : Nat) : Met l yX7_usual wsX7_usual ({ frames := 0, cells := 0, slots := 0, locals := 0 }) (va_Pc [.int 1, .int 0] (pre D g sz [])) (va_Qi (fun (r : Int32) (u : va_W) => u = [] ∧ r = 1) (wd D (va_A [] sz)) (va_A [] sz)) 0 0 (va_A [] sz) := by
  refine Met.ofW (cc := cX7_usual) (maxL := 2) (ret := (some .int)) (by decide) rfl ?_
  intro p e s m args below meth c s₁ B hml hv
  obtain ⟨rfl, hsz, hP, ⟨hK, hN⟩, hD0, hZ⟩ := hv
  have hx := B.exec
  have hb := B.bytes
  have hr := B.returns
  have hts := atoms_spec (ws := wsX7_usual) B.pre
  have hown : s.vm.findClass RX7 = some m.cls := findClass_of_methodNamed B.named
  have hlocks := B.notSynchronized
  clear B
  subst hsz
  have hD := hD0.self (sz := s.heap.size)
  clear hD0
  generalize hAe : va_A [] s.heap.size = A at hD hZ ⊢
  have hA : ∀ q : Nat, s.heap.size ≤ q → A q := fun q h => by rw [← hAe]; exact Or.inr h
  have hS : va_S A s.heap s.heap [] := va_S.rf
  have hl := lv_entry ([.int 1, .int 0]) (n := 2) (Nat.le_of_ble_eq_true rfl)
  rw [lg_entry_eq]
  generalize (lg_sl ([.int 1, .int 0]) ++ List.replicate (2 - (lg_sl ([.int 1, .int 0])).length) Slot.unset).toArray = ls at hl ⊢
  have hl : lv_has ls 2 [(0, .int 1), (1, .int 0)] := hl
  generalize hQ : MQ below _ _ s _ _ _ = Q
  generalize hH : s.heap = H at hP ⊢
  have hS : va_S A s.heap H [] := by rw [← hH]; exact hS
  clear hH
  refine lv_iload_n hx hb dX7_usual_0 rfl (lv_at hl 0 rfl) ?_
  refine lv_if_ne (tgt := 14) hx hb dX7_usual_1 (by decide) (fun _ => ?_) (fun cb => absurd cb (by decide))
  refine lv_iload_n hx hb dX7_usual_14 rfl (lv_at hl 0 rfl) ?_
  refine lv_iconst (v := 1) hx hb dX7_usual_15 (by decide) ?_
  refine lv_icmp_ne (tgt := 31) hx hb dX7_usual_16 (by decide) (fun cb => absurd (by decide) cb) (fun _ => ?_)
  refine lv_iload_n hx hb dX7_usual_19 rfl (lv_at hl 1 rfl) ?_
  refine lv_iconst (v := 1) hx hb dX7_usual_20 (by decide) ?_
  refine lv_icmp_ne (tgt := 29) hx hb dX7_usual_21 (by decide) (fun _ => ?_) (fun cb => absurd cb (by decide))
  refine lv_iconst (v := 1) hx hb dX7_usual_29 (by decide) ?_
  have hP9 := hP; have hD9 := hD
  subst hQ
  refine W.widen (k := 0) (n := 0) (Nat.le_of_ble_eq_true rfl) (Nat.le_of_ble_eq_true rfl) ?_
  exact W.iret (v := 1) hx hb hr (fun tS htS _ => ⟨⟨_, _, rfl, ⟨rfl, rfl⟩, by rw [htS]; exact hP9, hD9⟩, hS.F htS⟩) hS.2.2 dX7_usual_30

set_option maxHeartbeats 4000000 in
set_option maxRecDepth 100000 in
theorem w_X7_usual_11 (l : Launch) (D : va_G) (g : Nat → ClassId) (sz : Nat) : Met l yX7_usual wsX7_usual ({ frames := 0, cells := 0, slots := 0, locals := 0 }) (va_Pc [.int 1, .int 1] (pre D g sz [])) (va_Qi (fun (r : Int32) (u : va_W) => u = [] ∧ r = 12) (wd D (va_A [] sz)) (va_A [] sz)) 0 0 (va_A [] sz) := by
  refine Met.ofW (cc := cX7_usual) (maxL := 2) (ret := (some .int)) (by decide) rfl ?_
  intro p e s m args below meth c s₁ B hml hv
  obtain ⟨rfl, hsz, hP, ⟨hK, hN⟩, hD0, hZ⟩ := hv
  have hx := B.exec
  have hb := B.bytes
  have hr := B.returns
  have hts := atoms_spec (ws := wsX7_usual) B.pre
  have hown : s.vm.findClass RX7 = some m.cls := findClass_of_methodNamed B.named
  have hlocks := B.notSynchronized
  clear B
  subst hsz
  have hD := hD0.self (sz := s.heap.size)
  clear hD0
  generalize hAe : va_A [] s.heap.size = A at hD hZ ⊢
  have hA : ∀ q : Nat, s.heap.size ≤ q → A q := fun q h => by rw [← hAe]; exact Or.inr h
  have hS : va_S A s.heap s.heap [] := va_S.rf
  have hl := lv_entry ([.int 1, .int 1]) (n := 2) (Nat.le_of_ble_eq_true rfl)
  rw [lg_entry_eq]
  generalize (lg_sl ([.int 1, .int 1]) ++ List.replicate (2 - (lg_sl ([.int 1, .int 1])).length) Slot.unset).toArray = ls at hl ⊢
  have hl : lv_has ls 2 [(0, .int 1), (1, .int 1)] := hl
  generalize hQ : MQ below _ _ s _ _ _ = Q
  generalize hH : s.heap = H at hP ⊢
  have hS : va_S A s.heap H [] := by rw [← hH]; exact hS
  clear hH
  refine lv_iload_n hx hb dX7_usual_0 rfl (lv_at hl 0 rfl) ?_
  refine lv_if_ne (tgt := 14) hx hb dX7_usual_1 (by decide) (fun _ => ?_) (fun cb => absurd cb (by decide))
  refine lv_iload_n hx hb dX7_usual_14 rfl (lv_at hl 0 rfl) ?_
  refine lv_iconst (v := 1) hx hb dX7_usual_15 (by decide) ?_
  refine lv_icmp_ne (tgt := 31) hx hb dX7_usual_16 (by decide) (fun cb => absurd (by decide) cb) (fun _ => ?_)
  refine lv_iload_n hx hb dX7_usual_19 rfl (lv_at hl 1 rfl) ?_
  refine lv_iconst (v := 1) hx hb dX7_usual_20 (by decide) ?_
  refine lv_icmp_ne (tgt := 29) hx hb dX7_usual_21 (by decide) (fun cb => absurd (by decide) cb) (fun _ => ?_)
  refine lv_bipush (v := 12) hx hb dX7_usual_24 (by decide) ?_
  refine lv_goto (tgt := 30) hx hb dX7_usual_26 (by decide) ?_
  have hP9 := hP; have hD9 := hD
  subst hQ
  refine W.widen (k := 0) (n := 0) (Nat.le_of_ble_eq_true rfl) (Nat.le_of_ble_eq_true rfl) ?_
  exact W.iret (v := 12) hx hb hr (fun tS htS _ => ⟨⟨_, _, rfl, ⟨rfl, rfl⟩, by rw [htS]; exact hP9, hD9⟩, hS.F htS⟩) hS.2.2 dX7_usual_30

set_option maxHeartbeats 4000000 in
set_option maxRecDepth 100000 in
theorem w_X7_usual_12 (l : Launch) (D : va_G) (g : Nat → ClassId) (sz : Nat) : Met l yX7_usual wsX7_usual ({ frames := 0, cells := 0, slots := 0, locals := 0 }) (va_Pc [.int 1, .int 2] (pre D g sz [])) (va_Qi (fun (r : Int32) (u : va_W) => u = [] ∧ r = 1) (wd D (va_A [] sz)) (va_A [] sz)) 0 0 (va_A [] sz) := by
  refine Met.ofW (cc := cX7_usual) (maxL := 2) (ret := (some .int)) (by decide) rfl ?_
  intro p e s m args below meth c s₁ B hml hv
  obtain ⟨rfl, hsz, hP, ⟨hK, hN⟩, hD0, hZ⟩ := hv
  have hx := B.exec
  have hb := B.bytes
  have hr := B.returns
  have hts := atoms_spec (ws := wsX7_usual) B.pre
  have hown : s.vm.findClass RX7 = some m.cls := findClass_of_methodNamed B.named
  have hlocks := B.notSynchronized
  clear B
  subst hsz
  have hD := hD0.self (sz := s.heap.size)
  clear hD0
  generalize hAe : va_A [] s.heap.size = A at hD hZ ⊢
  have hA : ∀ q : Nat, s.heap.size ≤ q → A q := fun q h => by rw [← hAe]; exact Or.inr h
  have hS : va_S A s.heap s.heap [] := va_S.rf
  have hl := lv_entry ([.int 1, .int 2]) (n := 2) (Nat.le_of_ble_eq_true rfl)
  rw [lg_entry_eq]
  generalize (lg_sl ([.int 1, .int 2]) ++ List.replicate (2 - (lg_sl ([.int 1, .int 2])).length) Slot.unset).toArray = ls at hl ⊢
  have hl : lv_has ls 2 [(0, .int 1), (1, .int 2)] := hl
  generalize hQ : MQ below _ _ s _ _ _ = Q
  generalize hH : s.heap = H at hP ⊢
  have hS : va_S A s.heap H [] := by rw [← hH]; exact hS
  clear hH
  refine lv_iload_n hx hb dX7_usual_0 rfl (lv_at hl 0 rfl) ?_
  refine lv_if_ne (tgt := 14) hx hb dX7_usual_1 (by decide) (fun _ => ?_) (fun cb => absurd cb (by decide))
  refine lv_iload_n hx hb dX7_usual_14 rfl (lv_at hl 0 rfl) ?_
  refine lv_iconst (v := 1) hx hb dX7_usual_15 (by decide) ?_
  refine lv_icmp_ne (tgt := 31) hx hb dX7_usual_16 (by decide) (fun cb => absurd (by decide) cb) (fun _ => ?_)
  refine lv_iload_n hx hb dX7_usual_19 rfl (lv_at hl 1 rfl) ?_
  refine lv_iconst (v := 1) hx hb dX7_usual_20 (by decide) ?_
  refine lv_icmp_ne (tgt := 29) hx hb dX7_usual_21 (by decide) (fun _ => ?_) (fun cb => absurd cb (by decide))
  refine lv_iconst (v := 1) hx hb dX7_usual_29 (by decide) ?_
  have hP9 := hP; have hD9 := hD
  subst hQ
  refine W.widen (k := 0) (n := 0) (Nat.le_of_ble_eq_true rfl) (Nat.le_of_ble_eq_true rfl) ?_
  exact W.iret (v := 1) hx hb hr (fun tS htS _ => ⟨⟨_, _, rfl, ⟨rfl, rfl⟩, by rw [htS]; exact hP9, hD9⟩, hS.F htS⟩) hS.2.2 dX7_usual_30

set_option maxHeartbeats 4000000 in
set_option maxRecDepth 100000 in
theorem w_X7_usual_20 (l : Launch) (D : va_G) (g : Nat → ClassId) (sz : Nat) : Met l yX7_usual wsX7_usual ({ frames := 0, cells := 0, slots := 0, locals := 0 }) (va_Pc [.int 2, .int 0] (pre D g sz [])) (va_Qi (fun (r : Int32) (u : va_W) => u = [] ∧ r = 1) (wd D (va_A [] sz)) (va_A [] sz)) 0 0 (va_A [] sz) := by
  refine Met.ofW (cc := cX7_usual) (maxL := 2) (ret := (some .int)) (by decide) rfl ?_
  intro p e s m args below meth c s₁ B hml hv
  obtain ⟨rfl, hsz, hP, ⟨hK, hN⟩, hD0, hZ⟩ := hv
  have hx := B.exec
  have hb := B.bytes
  have hr := B.returns
  have hts := atoms_spec (ws := wsX7_usual) B.pre
  have hown : s.vm.findClass RX7 = some m.cls := findClass_of_methodNamed B.named
  have hlocks := B.notSynchronized
  clear B
  subst hsz
  have hD := hD0.self (sz := s.heap.size)
  clear hD0
  generalize hAe : va_A [] s.heap.size = A at hD hZ ⊢
  have hA : ∀ q : Nat, s.heap.size ≤ q → A q := fun q h => by rw [← hAe]; exact Or.inr h
  have hS : va_S A s.heap s.heap [] := va_S.rf
  have hl := lv_entry ([.int 2, .int 0]) (n := 2) (Nat.le_of_ble_eq_true rfl)
  rw [lg_entry_eq]
  generalize (lg_sl ([.int 2, .int 0]) ++ List.replicate (2 - (lg_sl ([.int 2, .int 0])).length) Slot.unset).toArray = ls at hl ⊢
  have hl : lv_has ls 2 [(0, .int 2), (1, .int 0)] := hl
  generalize hQ : MQ below _ _ s _ _ _ = Q
  generalize hH : s.heap = H at hP ⊢
  have hS : va_S A s.heap H [] := by rw [← hH]; exact hS
  clear hH
  refine lv_iload_n hx hb dX7_usual_0 rfl (lv_at hl 0 rfl) ?_
  refine lv_if_ne (tgt := 14) hx hb dX7_usual_1 (by decide) (fun _ => ?_) (fun cb => absurd cb (by decide))
  refine lv_iload_n hx hb dX7_usual_14 rfl (lv_at hl 0 rfl) ?_
  refine lv_iconst (v := 1) hx hb dX7_usual_15 (by decide) ?_
  refine lv_icmp_ne (tgt := 31) hx hb dX7_usual_16 (by decide) (fun _ => ?_) (fun cb => absurd cb (by decide))
  refine lv_iload_n hx hb dX7_usual_31 rfl (lv_at hl 1 rfl) ?_
  refine lv_iconst (v := 1) hx hb dX7_usual_32 (by decide) ?_
  refine lv_icmp_ne (tgt := 40) hx hb dX7_usual_33 (by decide) (fun _ => ?_) (fun cb => absurd cb (by decide))
  refine lv_iconst (v := 1) hx hb dX7_usual_40 (by decide) ?_
  have hP9 := hP; have hD9 := hD
  subst hQ
  refine W.widen (k := 0) (n := 0) (Nat.le_of_ble_eq_true rfl) (Nat.le_of_ble_eq_true rfl) ?_
  exact W.iret (v := 1) hx hb hr (fun tS htS _ => ⟨⟨_, _, rfl, ⟨rfl, rfl⟩, by rw [htS]; exact hP9, hD9⟩, hS.F htS⟩) hS.2.2 dX7_usual_41

set_option maxHeartbeats 4000000 in
set_option maxRecDepth 100000 in
theorem w_X7_usual_21 (l : Launch) (D : va_G) (g : Nat → ClassId) (sz : Nat) : Met l yX7_usual wsX7_usual ({ frames := 0, cells := 0, slots := 0, locals := 0 }) (va_Pc [.int 2, .int 1] (pre D g sz [])) (va_Qi (fun (r : Int32) (u : va_W) => u = [] ∧ r = 0) (wd D (va_A [] sz)) (va_A [] sz)) 0 0 (va_A [] sz) := by
  refine Met.ofW (cc := cX7_usual) (maxL := 2) (ret := (some .int)) (by decide) rfl ?_
  intro p e s m args below meth c s₁ B hml hv
  obtain ⟨rfl, hsz, hP, ⟨hK, hN⟩, hD0, hZ⟩ := hv
  have hx := B.exec
  have hb := B.bytes
  have hr := B.returns
  have hts := atoms_spec (ws := wsX7_usual) B.pre
  have hown : s.vm.findClass RX7 = some m.cls := findClass_of_methodNamed B.named
  have hlocks := B.notSynchronized
  clear B
  subst hsz
  have hD := hD0.self (sz := s.heap.size)
  clear hD0
  generalize hAe : va_A [] s.heap.size = A at hD hZ ⊢
  have hA : ∀ q : Nat, s.heap.size ≤ q → A q := fun q h => by rw [← hAe]; exact Or.inr h
  have hS : va_S A s.heap s.heap [] := va_S.rf
  have hl := lv_entry ([.int 2, .int 1]) (n := 2) (Nat.le_of_ble_eq_true rfl)
  rw [lg_entry_eq]
  generalize (lg_sl ([.int 2, .int 1]) ++ List.replicate (2 - (lg_sl ([.int 2, .int 1])).length) Slot.unset).toArray = ls at hl ⊢
  have hl : lv_has ls 2 [(0, .int 2), (1, .int 1)] := hl
  generalize hQ : MQ below _ _ s _ _ _ = Q
  generalize hH : s.heap = H at hP ⊢
  have hS : va_S A s.heap H [] := by rw [← hH]; exact hS
  clear hH
  refine lv_iload_n hx hb dX7_usual_0 rfl (lv_at hl 0 rfl) ?_
  refine lv_if_ne (tgt := 14) hx hb dX7_usual_1 (by decide) (fun _ => ?_) (fun cb => absurd cb (by decide))
  refine lv_iload_n hx hb dX7_usual_14 rfl (lv_at hl 0 rfl) ?_
  refine lv_iconst (v := 1) hx hb dX7_usual_15 (by decide) ?_
  refine lv_icmp_ne (tgt := 31) hx hb dX7_usual_16 (by decide) (fun _ => ?_) (fun cb => absurd cb (by decide))
  refine lv_iload_n hx hb dX7_usual_31 rfl (lv_at hl 1 rfl) ?_
  refine lv_iconst (v := 1) hx hb dX7_usual_32 (by decide) ?_
  refine lv_icmp_ne (tgt := 40) hx hb dX7_usual_33 (by decide) (fun cb => absurd (by decide) cb) (fun _ => ?_)
  refine lv_iconst (v := 0) hx hb dX7_usual_36 (by decide) ?_
  refine lv_goto (tgt := 41) hx hb dX7_usual_37 (by decide) ?_
  have hP9 := hP; have hD9 := hD
  subst hQ
  refine W.widen (k := 0) (n := 0) (Nat.le_of_ble_eq_true rfl) (Nat.le_of_ble_eq_true rfl) ?_
  exact W.iret (v := 0) hx hb hr (fun tS htS _ => ⟨⟨_, _, rfl, ⟨rfl, rfl⟩, by rw [htS]; exact hP9, hD9⟩, hS.F htS⟩) hS.2.2 dX7_usual_41

set_option maxHeartbeats 4000000 in
set_option maxRecDepth 100000 in
theorem w_X7_usual_22 (l : Launch) (D : va_G) (g : Nat → ClassId) (sz : Nat) : Met l yX7_usual wsX7_usual ({ frames := 0, cells := 0, slots := 0, locals := 0 }) (va_Pc [.int 2, .int 2] (pre D g sz [])) (va_Qi (fun (r : Int32) (u : va_W) => u = [] ∧ r = 1) (wd D (va_A [] sz)) (va_A [] sz)) 0 0 (va_A [] sz) := by
  refine Met.ofW (cc := cX7_usual) (maxL := 2) (ret := (some .int)) (by decide) rfl ?_
  intro p e s m args below meth c s₁ B hml hv
  obtain ⟨rfl, hsz, hP, ⟨hK, hN⟩, hD0, hZ⟩ := hv
  have hx := B.exec
  have hb := B.bytes
  have hr := B.returns
  have hts := atoms_spec (ws := wsX7_usual) B.pre
  have hown : s.vm.findClass RX7 = some m.cls := findClass_of_methodNamed B.named
  have hlocks := B.notSynchronized
  clear B
  subst hsz
  have hD := hD0.self (sz := s.heap.size)
  clear hD0
  generalize hAe : va_A [] s.heap.size = A at hD hZ ⊢
  have hA : ∀ q : Nat, s.heap.size ≤ q → A q := fun q h => by rw [← hAe]; exact Or.inr h
  have hS : va_S A s.heap s.heap [] := va_S.rf
  have hl := lv_entry ([.int 2, .int 2]) (n := 2) (Nat.le_of_ble_eq_true rfl)
  rw [lg_entry_eq]
  generalize (lg_sl ([.int 2, .int 2]) ++ List.replicate (2 - (lg_sl ([.int 2, .int 2])).length) Slot.unset).toArray = ls at hl ⊢
  have hl : lv_has ls 2 [(0, .int 2), (1, .int 2)] := hl
  generalize hQ : MQ below _ _ s _ _ _ = Q
  generalize hH : s.heap = H at hP ⊢
  have hS : va_S A s.heap H [] := by rw [← hH]; exact hS
  clear hH
  refine lv_iload_n hx hb dX7_usual_0 rfl (lv_at hl 0 rfl) ?_
  refine lv_if_ne (tgt := 14) hx hb dX7_usual_1 (by decide) (fun _ => ?_) (fun cb => absurd cb (by decide))
  refine lv_iload_n hx hb dX7_usual_14 rfl (lv_at hl 0 rfl) ?_
  refine lv_iconst (v := 1) hx hb dX7_usual_15 (by decide) ?_
  refine lv_icmp_ne (tgt := 31) hx hb dX7_usual_16 (by decide) (fun _ => ?_) (fun cb => absurd cb (by decide))
  refine lv_iload_n hx hb dX7_usual_31 rfl (lv_at hl 1 rfl) ?_
  refine lv_iconst (v := 1) hx hb dX7_usual_32 (by decide) ?_
  refine lv_icmp_ne (tgt := 40) hx hb dX7_usual_33 (by decide) (fun _ => ?_) (fun cb => absurd cb (by decide))
  refine lv_iconst (v := 1) hx hb dX7_usual_40 (by decide) ?_
  have hP9 := hP; have hD9 := hD
  subst hQ
  refine W.widen (k := 0) (n := 0) (Nat.le_of_ble_eq_true rfl) (Nat.le_of_ble_eq_true rfl) ?_
  exact W.iret (v := 1) hx hb hr (fun tS htS _ => ⟨⟨_, _, rfl, ⟨rfl, rfl⟩, by rw [htS]; exact hP9, hD9⟩, hS.F htS⟩) hS.2.2 dX7_usual_41

set_option maxHeartbeats 4000000 in
set_option maxRecDepth 100000 in
theorem w_X7_laysUsual_0 (l : Launch) (D : va_G) (g : Nat → ClassId) (sz : Nat) (Mm : Nat) (Mrr : Nat) (zth : Int32) (Mt : Nat) (ztp : Int32) (zma : Int32) (zwr : Int32) (Mrh : Nat) (Mrc : Nat) (zrh : Int32) (zrc : Int32) (Mn : Nat) (Mf : Nat) (Mr : Nat) (Mh : Nat) (zhp : Int32) (zcc : Int32) (Ma : Nat) (Mas : Nat) (Msn : Nat) (Mac : Nat) (Mat : Nat) (frr : Nat → Int32) (h0 : n1 frr) : Met l yX7_laysUsual wsX7_laysUsual ({ frames := 1, cells := 0, slots := 0, locals := 21 }) (va_Pc [.ref Mm, .int 0, .ref Mrr, .int 0] (pre D g sz [(Mm, .inr (7, [.int zth, .ref Mt, .int ztp, .int zma, .int zwr, .ref Mrr, .ref Mrh, .ref Mrc, .int zrh, .int zrc, .ref Mn, .ref Mf, .ref Mr, .ref Mh, .int zhp, .int zcc, .ref Ma, .ref Mas, .ref Msn, .ref Mac, .ref Mat])), (Mrr, .inl (g 0, 3, .inl frr))])) (va_Qv (fun (u : va_W) => ∃ (frrx : Nat → Int32), u = [(Mm, .inr (7, [.int zth, .ref Mt, .int ztp, .int zma, .int zwr, .ref Mrr, .ref Mrh, .ref Mrc, .int zrh, .int zrc, .ref Mn, .ref Mf, .ref Mr, .ref Mh, .int zhp, .int zcc, .ref Ma, .ref Mas, .ref Msn, .ref Mac, .ref Mat])), (Mrr, .inl (g 0, 3, .inl frrx))] ∧ (n1 frrx) ∧ (frrx = us3 0 0 frr)) (wd D (va_A [(Mm, .inr (7, [.int zth, .ref Mt, .int ztp, .int zma, .int zwr, .ref Mrr, .ref Mrh, .ref Mrc, .int zrh, .int zrc, .ref Mn, .ref Mf, .ref Mr, .ref Mh, .int zhp, .int zcc, .ref Ma, .ref Mas, .ref Msn, .ref Mac, .ref Mat])), (Mrr, .inl (g 0, 3, .inl frr))] sz)) (va_A [(Mm, .inr (7, [.int zth, .ref Mt, .int ztp, .int zma, .int zwr, .ref Mrr, .ref Mrh, .ref Mrc, .int zrh, .int zrc, .ref Mn, .ref Mf, .ref Mr, .ref Mh, .int zhp, .int zcc, .ref Ma, .ref Mas, .ref Msn, .ref Mac, .ref Mat])), (Mrr, .inl (g 0, 3, .inl frr))] sz)) 0 0 (va_A [(Mm, .inr (7, [.int zth, .ref Mt, .int ztp, .int zma, .int zwr, .ref Mrr, .ref Mrh, .ref Mrc, .int zrh, .int zrc, .ref Mn, .ref Mf, .ref Mr, .ref Mh, .int zhp, .int zcc, .ref Ma, .ref Mas, .ref Msn, .ref Mac, .ref Mat])), (Mrr, .inl (g 0, 3, .inl frr))] sz) := by
  refine Met.ofW (cc := cX7_laysUsual) (maxL := 5) (ret := none) (by decide) rfl ?_
  intro p e s m args below meth c s₁ B hml hv
  obtain ⟨rfl, hsz, hP, ⟨hK, hN⟩, hD0, hZ⟩ := hv
  have hx := B.exec
  have hb := B.bytes
  have hr := B.returns
  have hts := atoms_spec (ws := wsX7_laysUsual) B.pre
  have hown : s.vm.findClass RX7 = some m.cls := findClass_of_methodNamed B.named
  have hlocks := B.notSynchronized
  clear B
  subst hsz
  have hD := hD0.self (sz := s.heap.size)
  clear hD0
  generalize hAe : va_A [(Mm, .inr (7, [.int zth, .ref Mt, .int ztp, .int zma, .int zwr, .ref Mrr, .ref Mrh, .ref Mrc, .int zrh, .int zrc, .ref Mn, .ref Mf, .ref Mr, .ref Mh, .int zhp, .int zcc, .ref Ma, .ref Mas, .ref Msn, .ref Mac, .ref Mat])), (Mrr, .inl (g 0, 3, .inl frr))] s.heap.size = A at hD hZ ⊢
  have hA : ∀ q : Nat, s.heap.size ≤ q → A q := fun q h => by rw [← hAe]; exact Or.inr h
  have hS : va_S A s.heap s.heap [] := va_S.rf
  have hl := lv_entry ([.ref Mm, .int 0, .ref Mrr, .int 0]) (n := 5) (Nat.le_of_ble_eq_true rfl)
  rw [lg_entry_eq]
  generalize (lg_sl ([.ref Mm, .int 0, .ref Mrr, .int 0]) ++ List.replicate (5 - (lg_sl ([.ref Mm, .int 0, .ref Mrr, .int 0])).length) Slot.unset).toArray = ls at hl ⊢
  have hl : lv_has ls 5 [(0, .ref Mm), (1, .int 0), (2, .ref Mrr), (3, .int 0)] := hl
  generalize hQ : MQ below _ _ s _ _ _ = Q
  generalize hH : s.heap = H at hP ⊢
  have hS : va_S A s.heap H [] := by rw [← hH]; exact hS
  clear hH
  refine lv_iconst (v := 0) hx hb dX7_laysUsual_0 (by decide) ?_
  refine lv_istore (lv' := [(4, .int 0), (0, .ref Mm), (1, .int 0), (2, .ref Mrr), (3, .int 0)]) hx hb dX7_laysUsual_1 hl (by decide) rfl (fun ls hl => ?_)
  refine lv_iload hx hb dX7_laysUsual_3 (lv_at hl 0 rfl) ?_
  refine lv_iconst (v := 3) hx hb dX7_laysUsual_5 (by decide) ?_
  refine lv_icmp_ge (tgt := 27) hx hb dX7_laysUsual_6 (by decide) (fun cb => absurd cb (by decide)) (fun _ => ?_)
  refine lv_aload_n hx hb dX7_laysUsual_9 rfl (lv_at hl 3 rfl) ?_
  refine lv_iload_n hx hb dX7_laysUsual_10 rfl (lv_at hl 4 rfl) ?_
  refine lv_iload hx hb dX7_laysUsual_11 (lv_at hl 0 rfl) ?_
  refine lv_iadd hx hb dX7_laysUsual_13 ?_
  refine lv_eqi (y := 0) (by decide) ?_
  refine lv_iload_n hx hb dX7_laysUsual_14 rfl (lv_at hl 2 rfl) ?_
  refine lv_iload hx hb dX7_laysUsual_15 (lv_at hl 0 rfl) ?_
  refine ky_Si (As := [.int 0, .int 0]) (rest := [.int 0, .ref Mrr]) ⟨hx, hb, hml, hown, hts⟩ ⟨hK, hN⟩ hZ hP hD hS hA [] [0, 1] (wc := []) (wr := [(Mm, .inr (7, [.int zth, .ref Mt, .int ztp, .int zma, .int zwr, .ref Mrr, .ref Mrh, .ref Mrc, .int zrh, .int zrc, .ref Mn, .ref Mf, .ref Mr, .ref Mh, .int zhp, .int zcc, .ref Ma, .ref Mas, .ref Msn, .ref Mac, .ref Mat])), (Mrr, .inl (g 0, 3, .inl frr))]) rfl rfl rfl rfl (by decide) (w_X7_usual_00 l D g H.size) (va_cwS 2 hts gX7_laysUsual_X7_usual rfl rfl rfl (by decide +kernel) ⟨(Nat.le_of_ble_eq_true rfl), (Nat.le_of_ble_eq_true rfl)⟩) rfl hl.1 rfl (Nat.le_of_ble_eq_true rfl) dX7_laysUsual_17 ⟨(Nat.le_of_ble_eq_true rfl), (Nat.le_of_ble_eq_true rfl)⟩ (fun r_1 u H locs hw hP2 hD2 hS2 => ?_)
  clear hP hD hS
  obtain ⟨rfl, rfl⟩ := hw
  have hPD : PD D A [(Mm, .inr (7, [.int zth, .ref Mt, .int ztp, .int zma, .int zwr, .ref Mrr, .ref Mrh, .ref Mrc, .int zrh, .int zrc, .ref Mn, .ref Mf, .ref Mr, .ref Mh, .int zhp, .int zcc, .ref Ma, .ref Mas, .ref Msn, .ref Mac, .ref Mat])), (Mrr, .inl (g 0, 3, .inl frr))] H := ⟨hP2, hD2⟩
  have hS := hS2; clear hP2 hD2 hS2; have hP := hPD.1; have hD := hPD.2; clear hPD
  refine W.widen (k := 0) (n := 0) (Nat.le_of_ble_eq_true rfl) (Nat.le_of_ble_eq_true rfl) ?_
  refine va_iast hx hb hK hP hD hS 1 0 rfl rfl (by unfold vp_in; decide) dX7_laysUsual_20 (fun H locs hP2 hD2 hS2 => ?_)
  clear hP hD hS
  have hPD : PD D A [(Mm, .inr (7, [.int zth, .ref Mt, .int ztp, .int zma, .int zwr, .ref Mrr, .ref Mrh, .ref Mrc, .int zrh, .int zrc, .ref Mn, .ref Mf, .ref Mr, .ref Mh, .int zhp, .int zcc, .ref Ma, .ref Mas, .ref Msn, .ref Mac, .ref Mat])), (Mrr, .inl (g 0, 3, .inl (upd frr 0 1)))] H := ⟨hP2, hD2⟩
  have hS := hS2; clear hP2 hD2 hS2; have hP := hPD.1; have hD := hPD.2; clear hPD
  refine lv_iinc (v := 1) (lv' := [(4, .int 1), (0, .ref Mm), (1, .int 0), (2, .ref Mrr), (3, .int 0)]) hx hb dX7_laysUsual_21 hl (k := 0) rfl (by decide) (by decide) rfl (fun ls hl => ?_)
  refine lv_goto (tgt := 3) hx hb dX7_laysUsual_24 (by decide) ?_
  refine lv_iload hx hb dX7_laysUsual_3 (lv_at hl 0 rfl) ?_
  refine lv_iconst (v := 3) hx hb dX7_laysUsual_5 (by decide) ?_
  refine lv_icmp_ge (tgt := 27) hx hb dX7_laysUsual_6 (by decide) (fun cb => absurd cb (by decide)) (fun _ => ?_)
  refine lv_aload_n hx hb dX7_laysUsual_9 rfl (lv_at hl 3 rfl) ?_
  refine lv_iload_n hx hb dX7_laysUsual_10 rfl (lv_at hl 4 rfl) ?_
  refine lv_iload hx hb dX7_laysUsual_11 (lv_at hl 0 rfl) ?_
  refine lv_iadd hx hb dX7_laysUsual_13 ?_
  refine lv_eqi (y := 1) (by decide) ?_
  refine lv_iload_n hx hb dX7_laysUsual_14 rfl (lv_at hl 2 rfl) ?_
  refine lv_iload hx hb dX7_laysUsual_15 (lv_at hl 0 rfl) ?_
  refine ky_Si (As := [.int 0, .int 1]) (rest := [.int 1, .ref Mrr]) ⟨hx, hb, hml, hown, hts⟩ ⟨hK, hN⟩ hZ hP hD hS hA [] [0, 1] (wc := []) (wr := [(Mm, .inr (7, [.int zth, .ref Mt, .int ztp, .int zma, .int zwr, .ref Mrr, .ref Mrh, .ref Mrc, .int zrh, .int zrc, .ref Mn, .ref Mf, .ref Mr, .ref Mh, .int zhp, .int zcc, .ref Ma, .ref Mas, .ref Msn, .ref Mac, .ref Mat])), (Mrr, .inl (g 0, 3, .inl (upd frr 0 1)))]) rfl rfl rfl rfl (by decide) (w_X7_usual_01 l D g H.size) (va_cwS 2 hts gX7_laysUsual_X7_usual rfl rfl rfl (by decide +kernel) ⟨(Nat.le_of_ble_eq_true rfl), (Nat.le_of_ble_eq_true rfl)⟩) rfl hl.1 rfl (Nat.le_of_ble_eq_true rfl) dX7_laysUsual_17 ⟨(Nat.le_of_ble_eq_true rfl), (Nat.le_of_ble_eq_true rfl)⟩ (fun r_2 u H locs hw hP2 hD2 hS2 => ?_)
  clear hP hD hS
  obtain ⟨rfl, rfl⟩ := hw
  have hPD : PD D A [(Mm, .inr (7, [.int zth, .ref Mt, .int ztp, .int zma, .int zwr, .ref Mrr, .ref Mrh, .ref Mrc, .int zrh, .int zrc, .ref Mn, .ref Mf, .ref Mr, .ref Mh, .int zhp, .int zcc, .ref Ma, .ref Mas, .ref Msn, .ref Mac, .ref Mat])), (Mrr, .inl (g 0, 3, .inl (upd frr 0 1)))] H := ⟨hP2, hD2⟩
  have hS := hS2; clear hP2 hD2 hS2; have hP := hPD.1; have hD := hPD.2; clear hPD
  refine W.widen (k := 0) (n := 0) (Nat.le_of_ble_eq_true rfl) (Nat.le_of_ble_eq_true rfl) ?_
  refine va_iast hx hb hK hP hD hS 1 0 rfl rfl (by unfold vp_in; decide) dX7_laysUsual_20 (fun H locs hP2 hD2 hS2 => ?_)
  clear hP hD hS
  have hPD : PD D A [(Mm, .inr (7, [.int zth, .ref Mt, .int ztp, .int zma, .int zwr, .ref Mrr, .ref Mrh, .ref Mrc, .int zrh, .int zrc, .ref Mn, .ref Mf, .ref Mr, .ref Mh, .int zhp, .int zcc, .ref Ma, .ref Mas, .ref Msn, .ref Mac, .ref Mat])), (Mrr, .inl (g 0, 3, .inl (upd (upd frr 0 1) 1 0)))] H := ⟨hP2, hD2⟩
  have hS := hS2; clear hP2 hD2 hS2; have hP := hPD.1; have hD := hPD.2; clear hPD
  refine lv_iinc (v := 2) (lv' := [(4, .int 2), (0, .ref Mm), (1, .int 0), (2, .ref Mrr), (3, .int 0)]) hx hb dX7_laysUsual_21 hl (k := 0) rfl (by decide) (by decide) rfl (fun ls hl => ?_)
  refine lv_goto (tgt := 3) hx hb dX7_laysUsual_24 (by decide) ?_
  refine lv_iload hx hb dX7_laysUsual_3 (lv_at hl 0 rfl) ?_
  refine lv_iconst (v := 3) hx hb dX7_laysUsual_5 (by decide) ?_
  refine lv_icmp_ge (tgt := 27) hx hb dX7_laysUsual_6 (by decide) (fun cb => absurd cb (by decide)) (fun _ => ?_)
  refine lv_aload_n hx hb dX7_laysUsual_9 rfl (lv_at hl 3 rfl) ?_
  refine lv_iload_n hx hb dX7_laysUsual_10 rfl (lv_at hl 4 rfl) ?_
  refine lv_iload hx hb dX7_laysUsual_11 (lv_at hl 0 rfl) ?_
  refine lv_iadd hx hb dX7_laysUsual_13 ?_
  refine lv_eqi (y := 2) (by decide) ?_
  refine lv_iload_n hx hb dX7_laysUsual_14 rfl (lv_at hl 2 rfl) ?_
  refine lv_iload hx hb dX7_laysUsual_15 (lv_at hl 0 rfl) ?_
  refine ky_Si (As := [.int 0, .int 2]) (rest := [.int 2, .ref Mrr]) ⟨hx, hb, hml, hown, hts⟩ ⟨hK, hN⟩ hZ hP hD hS hA [] [0, 1] (wc := []) (wr := [(Mm, .inr (7, [.int zth, .ref Mt, .int ztp, .int zma, .int zwr, .ref Mrr, .ref Mrh, .ref Mrc, .int zrh, .int zrc, .ref Mn, .ref Mf, .ref Mr, .ref Mh, .int zhp, .int zcc, .ref Ma, .ref Mas, .ref Msn, .ref Mac, .ref Mat])), (Mrr, .inl (g 0, 3, .inl (upd (upd frr 0 1) 1 0)))]) rfl rfl rfl rfl (by decide) (w_X7_usual_02 l D g H.size) (va_cwS 2 hts gX7_laysUsual_X7_usual rfl rfl rfl (by decide +kernel) ⟨(Nat.le_of_ble_eq_true rfl), (Nat.le_of_ble_eq_true rfl)⟩) rfl hl.1 rfl (Nat.le_of_ble_eq_true rfl) dX7_laysUsual_17 ⟨(Nat.le_of_ble_eq_true rfl), (Nat.le_of_ble_eq_true rfl)⟩ (fun r_3 u H locs hw hP2 hD2 hS2 => ?_)
  clear hP hD hS
  obtain ⟨rfl, rfl⟩ := hw
  have hPD : PD D A [(Mm, .inr (7, [.int zth, .ref Mt, .int ztp, .int zma, .int zwr, .ref Mrr, .ref Mrh, .ref Mrc, .int zrh, .int zrc, .ref Mn, .ref Mf, .ref Mr, .ref Mh, .int zhp, .int zcc, .ref Ma, .ref Mas, .ref Msn, .ref Mac, .ref Mat])), (Mrr, .inl (g 0, 3, .inl (upd (upd frr 0 1) 1 0)))] H := ⟨hP2, hD2⟩
  have hS := hS2; clear hP2 hD2 hS2; have hP := hPD.1; have hD := hPD.2; clear hPD
  refine W.widen (k := 0) (n := 0) (Nat.le_of_ble_eq_true rfl) (Nat.le_of_ble_eq_true rfl) ?_
  refine va_iast hx hb hK hP hD hS 1 0 rfl rfl (by unfold vp_in; decide) dX7_laysUsual_20 (fun H locs hP2 hD2 hS2 => ?_)
  clear hP hD hS
  have hPD : PD D A [(Mm, .inr (7, [.int zth, .ref Mt, .int ztp, .int zma, .int zwr, .ref Mrr, .ref Mrh, .ref Mrc, .int zrh, .int zrc, .ref Mn, .ref Mf, .ref Mr, .ref Mh, .int zhp, .int zcc, .ref Ma, .ref Mas, .ref Msn, .ref Mac, .ref Mat])), (Mrr, .inl (g 0, 3, .inl (upd (upd (upd frr 0 1) 1 0) 2 0)))] H := ⟨hP2, hD2⟩
  have hS := hS2; clear hP2 hD2 hS2; have hP := hPD.1; have hD := hPD.2; clear hPD
  refine lv_iinc (v := 3) (lv' := [(4, .int 3), (0, .ref Mm), (1, .int 0), (2, .ref Mrr), (3, .int 0)]) hx hb dX7_laysUsual_21 hl (k := 0) rfl (by decide) (by decide) rfl (fun ls hl => ?_)
  refine lv_goto (tgt := 3) hx hb dX7_laysUsual_24 (by decide) ?_
  refine lv_iload hx hb dX7_laysUsual_3 (lv_at hl 0 rfl) ?_
  refine lv_iconst (v := 3) hx hb dX7_laysUsual_5 (by decide) ?_
  refine lv_icmp_ge (tgt := 27) hx hb dX7_laysUsual_6 (by decide) (fun _ => ?_) (fun cb => absurd (by decide) cb)
  have hP9 := hP; have hD9 := hD
  subst hQ
  refine W.widen (k := 0) (n := 0) (Nat.le_of_ble_eq_true rfl) (Nat.le_of_ble_eq_true rfl) ?_
  exact W.vret hx hb hr (fun tS htS _ => ⟨⟨_, rfl, ⟨(upd (upd (upd frr 0 1) 1 0) 2 0), rfl, (n1_upd (n1_upd (n1_upd (h0) (n := 1) (show 1 ≤ 99 by omega)) (n := 0) (show 0 ≤ 99 by omega)) (n := 0) (show 0 ≤ 99 by omega)), rfl⟩, by rw [htS]; exact hP9, hD9⟩, hS.F htS⟩) hS.2.2 dX7_laysUsual_27

set_option maxHeartbeats 4000000 in
set_option maxRecDepth 100000 in
theorem w_X7_laysUsual_1 (l : Launch) (D : va_G) (g : Nat → ClassId) (sz : Nat) (Mm : Nat) (Mrh : Nat) (ix : Nat) (zth : Int32) (Mt : Nat) (ztp : Int32) (zma : Int32) (zwr : Int32) (Mrr : Nat) (Mrc : Nat) (zrh : Int32) (zrc : Int32) (Mn : Nat) (Mf : Nat) (Mr : Nat) (Mh : Nat) (zhp : Int32) (zcc : Int32) (Ma : Nat) (Mas : Nat) (Msn : Nat) (Mac : Nat) (Mat : Nat) (frh : Nat → Int32) (h0 : ix ≤ 6) (h1 : n1 frh) : Met l yX7_laysUsual wsX7_laysUsual ({ frames := 1, cells := 0, slots := 0, locals := 21 }) (va_Pc [.ref Mm, .int 1, .ref Mrh, .int (nI ix)] (pre D g sz [(Mm, .inr (7, [.int zth, .ref Mt, .int ztp, .int zma, .int zwr, .ref Mrr, .ref Mrh, .ref Mrc, .int zrh, .int zrc, .ref Mn, .ref Mf, .ref Mr, .ref Mh, .int zhp, .int zcc, .ref Ma, .ref Mas, .ref Msn, .ref Mac, .ref Mat])), (Mrh, .inl (g 0, 9, .inl frh))])) (va_Qv (fun (u : va_W) => ∃ (frhx : Nat → Int32), u = [(Mm, .inr (7, [.int zth, .ref Mt, .int ztp, .int zma, .int zwr, .ref Mrr, .ref Mrh, .ref Mrc, .int zrh, .int zrc, .ref Mn, .ref Mf, .ref Mr, .ref Mh, .int zhp, .int zcc, .ref Ma, .ref Mas, .ref Msn, .ref Mac, .ref Mat])), (Mrh, .inl (g 0, 9, .inl frhx))] ∧ (n1 frhx) ∧ (frhx = us3 1 ix frh)) (wd D (va_A [(Mm, .inr (7, [.int zth, .ref Mt, .int ztp, .int zma, .int zwr, .ref Mrr, .ref Mrh, .ref Mrc, .int zrh, .int zrc, .ref Mn, .ref Mf, .ref Mr, .ref Mh, .int zhp, .int zcc, .ref Ma, .ref Mas, .ref Msn, .ref Mac, .ref Mat])), (Mrh, .inl (g 0, 9, .inl frh))] sz)) (va_A [(Mm, .inr (7, [.int zth, .ref Mt, .int ztp, .int zma, .int zwr, .ref Mrr, .ref Mrh, .ref Mrc, .int zrh, .int zrc, .ref Mn, .ref Mf, .ref Mr, .ref Mh, .int zhp, .int zcc, .ref Ma, .ref Mas, .ref Msn, .ref Mac, .ref Mat])), (Mrh, .inl (g 0, 9, .inl frh))] sz)) 0 0 (va_A [(Mm, .inr (7, [.int zth, .ref Mt, .int ztp, .int zma, .int zwr, .ref Mrr, .ref Mrh, .ref Mrc, .int zrh, .int zrc, .ref Mn, .ref Mf, .ref Mr, .ref Mh, .int zhp, .int zcc, .ref Ma, .ref Mas, .ref Msn, .ref Mac, .ref Mat])), (Mrh, .inl (g 0, 9, .inl frh))] sz) := by
  refine Met.ofW (cc := cX7_laysUsual) (maxL := 5) (ret := none) (by decide) rfl ?_
  intro p e s m args below meth c s₁ B hml hv
  obtain ⟨rfl, hsz, hP, ⟨hK, hN⟩, hD0, hZ⟩ := hv
  have hx := B.exec
  have hb := B.bytes
  have hr := B.returns
  have hts := atoms_spec (ws := wsX7_laysUsual) B.pre
  have hown : s.vm.findClass RX7 = some m.cls := findClass_of_methodNamed B.named
  have hlocks := B.notSynchronized
  clear B
  subst hsz
  have hD := hD0.self (sz := s.heap.size)
  clear hD0
  generalize hAe : va_A [(Mm, .inr (7, [.int zth, .ref Mt, .int ztp, .int zma, .int zwr, .ref Mrr, .ref Mrh, .ref Mrc, .int zrh, .int zrc, .ref Mn, .ref Mf, .ref Mr, .ref Mh, .int zhp, .int zcc, .ref Ma, .ref Mas, .ref Msn, .ref Mac, .ref Mat])), (Mrh, .inl (g 0, 9, .inl frh))] s.heap.size = A at hD hZ ⊢
  have hA : ∀ q : Nat, s.heap.size ≤ q → A q := fun q h => by rw [← hAe]; exact Or.inr h
  have hS : va_S A s.heap s.heap [] := va_S.rf
  have hl := lv_entry ([.ref Mm, .int 1, .ref Mrh, .int (nI ix)]) (n := 5) (Nat.le_of_ble_eq_true rfl)
  rw [lg_entry_eq]
  generalize (lg_sl ([.ref Mm, .int 1, .ref Mrh, .int (nI ix)]) ++ List.replicate (5 - (lg_sl ([.ref Mm, .int 1, .ref Mrh, .int (nI ix)])).length) Slot.unset).toArray = ls at hl ⊢
  have hl : lv_has ls 5 [(0, .ref Mm), (1, .int 1), (2, .ref Mrh), (3, .int (nI ix))] := hl
  generalize hQ : MQ below _ _ s _ _ _ = Q
  generalize hH : s.heap = H at hP ⊢
  have hS : va_S A s.heap H [] := by rw [← hH]; exact hS
  clear hH
  refine lv_iconst (v := 0) hx hb dX7_laysUsual_0 (by decide) ?_
  refine lv_istore (lv' := [(4, .int 0), (0, .ref Mm), (1, .int 1), (2, .ref Mrh), (3, .int (nI ix))]) hx hb dX7_laysUsual_1 hl (by decide) rfl (fun ls hl => ?_)
  refine lv_iload hx hb dX7_laysUsual_3 (lv_at hl 0 rfl) ?_
  refine lv_iconst (v := 3) hx hb dX7_laysUsual_5 (by decide) ?_
  refine lv_icmp_ge (tgt := 27) hx hb dX7_laysUsual_6 (by decide) (fun cb => absurd cb (by decide)) (fun _ => ?_)
  refine lv_aload_n hx hb dX7_laysUsual_9 rfl (lv_at hl 3 rfl) ?_
  refine lv_iload_n hx hb dX7_laysUsual_10 rfl (lv_at hl 4 rfl) ?_
  refine lv_iload hx hb dX7_laysUsual_11 (lv_at hl 0 rfl) ?_
  refine lv_iadd hx hb dX7_laysUsual_13 ?_
  refine lv_eqi (y := (nI (ix + 0))) (nI_add (ix) (0)) ?_
  refine lv_iload_n hx hb dX7_laysUsual_14 rfl (lv_at hl 2 rfl) ?_
  refine lv_iload hx hb dX7_laysUsual_15 (lv_at hl 0 rfl) ?_
  refine ky_Si (As := [.int 1, .int 0]) (rest := [.int (nI (ix + 0)), .ref Mrh]) ⟨hx, hb, hml, hown, hts⟩ ⟨hK, hN⟩ hZ hP hD hS hA [] [0, 1] (wc := []) (wr := [(Mm, .inr (7, [.int zth, .ref Mt, .int ztp, .int zma, .int zwr, .ref Mrr, .ref Mrh, .ref Mrc, .int zrh, .int zrc, .ref Mn, .ref Mf, .ref Mr, .ref Mh, .int zhp, .int zcc, .ref Ma, .ref Mas, .ref Msn, .ref Mac, .ref Mat])), (Mrh, .inl (g 0, 9, .inl frh))]) rfl rfl rfl rfl (by decide) (w_X7_usual_10 l D g H.size) (va_cwS 2 hts gX7_laysUsual_X7_usual rfl rfl rfl (by decide +kernel) ⟨(Nat.le_of_ble_eq_true rfl), (Nat.le_of_ble_eq_true rfl)⟩) rfl hl.1 rfl (Nat.le_of_ble_eq_true rfl) dX7_laysUsual_17 ⟨(Nat.le_of_ble_eq_true rfl), (Nat.le_of_ble_eq_true rfl)⟩ (fun r_1 u H locs hw hP2 hD2 hS2 => ?_)
  clear hP hD hS
  obtain ⟨rfl, rfl⟩ := hw
  have hPD : PD D A [(Mm, .inr (7, [.int zth, .ref Mt, .int ztp, .int zma, .int zwr, .ref Mrr, .ref Mrh, .ref Mrc, .int zrh, .int zrc, .ref Mn, .ref Mf, .ref Mr, .ref Mh, .int zhp, .int zcc, .ref Ma, .ref Mas, .ref Msn, .ref Mac, .ref Mat])), (Mrh, .inl (g 0, 9, .inl frh))] H := ⟨hP2, hD2⟩
  have hS := hS2; clear hP2 hD2 hS2; have hP := hPD.1; have hD := hPD.2; clear hPD
  refine W.widen (k := 0) (n := 0) (Nat.le_of_ble_eq_true rfl) (Nat.le_of_ble_eq_true rfl) ?_
  refine va_iast hx hb hK hP hD hS 1 0 rfl rfl (vp_in_nI (show ix + 0 < 9 by omega) (by decide)) dX7_laysUsual_20 (fun H locs hP2 hD2 hS2 => ?_)
  clear hP hD hS
  have hPD : PD D A [(Mm, .inr (7, [.int zth, .ref Mt, .int ztp, .int zma, .int zwr, .ref Mrr, .ref Mrh, .ref Mrc, .int zrh, .int zrc, .ref Mn, .ref Mf, .ref Mr, .ref Mh, .int zhp, .int zcc, .ref Ma, .ref Mas, .ref Msn, .ref Mac, .ref Mat])), (Mrh, .inl (g 0, 9, .inl (upd frh (nI (ix + 0)).toNatClampNeg 1)))] H := ⟨hP2, hD2⟩
  have hS := hS2; clear hP2 hD2 hS2; have hP := hPD.1; have hD := hPD.2; clear hPD
  rw [nI_clamp (show ix + 0 < 2 ^ 31 by omega)] at hP hD
  have hPD : PD D A [(Mm, .inr (7, [.int zth, .ref Mt, .int ztp, .int zma, .int zwr, .ref Mrr, .ref Mrh, .ref Mrc, .int zrh, .int zrc, .ref Mn, .ref Mf, .ref Mr, .ref Mh, .int zhp, .int zcc, .ref Ma, .ref Mas, .ref Msn, .ref Mac, .ref Mat])), (Mrh, .inl (g 0, 9, .inl (upd frh (ix + 0) 1)))] H := ⟨hP, hD⟩
  clear hP hD; have hP := hPD.1; have hD := hPD.2; clear hPD
  refine lv_iinc (v := 1) (lv' := [(4, .int 1), (0, .ref Mm), (1, .int 1), (2, .ref Mrh), (3, .int (nI ix))]) hx hb dX7_laysUsual_21 hl (k := 0) rfl (by decide) (by decide) rfl (fun ls hl => ?_)
  refine lv_goto (tgt := 3) hx hb dX7_laysUsual_24 (by decide) ?_
  refine lv_iload hx hb dX7_laysUsual_3 (lv_at hl 0 rfl) ?_
  refine lv_iconst (v := 3) hx hb dX7_laysUsual_5 (by decide) ?_
  refine lv_icmp_ge (tgt := 27) hx hb dX7_laysUsual_6 (by decide) (fun cb => absurd cb (by decide)) (fun _ => ?_)
  refine lv_aload_n hx hb dX7_laysUsual_9 rfl (lv_at hl 3 rfl) ?_
  refine lv_iload_n hx hb dX7_laysUsual_10 rfl (lv_at hl 4 rfl) ?_
  refine lv_iload hx hb dX7_laysUsual_11 (lv_at hl 0 rfl) ?_
  refine lv_iadd hx hb dX7_laysUsual_13 ?_
  refine lv_eqi (y := (nI (ix + 1))) (nI_add (ix) (1)) ?_
  refine lv_iload_n hx hb dX7_laysUsual_14 rfl (lv_at hl 2 rfl) ?_
  refine lv_iload hx hb dX7_laysUsual_15 (lv_at hl 0 rfl) ?_
  refine ky_Si (As := [.int 1, .int 1]) (rest := [.int (nI (ix + 1)), .ref Mrh]) ⟨hx, hb, hml, hown, hts⟩ ⟨hK, hN⟩ hZ hP hD hS hA [] [0, 1] (wc := []) (wr := [(Mm, .inr (7, [.int zth, .ref Mt, .int ztp, .int zma, .int zwr, .ref Mrr, .ref Mrh, .ref Mrc, .int zrh, .int zrc, .ref Mn, .ref Mf, .ref Mr, .ref Mh, .int zhp, .int zcc, .ref Ma, .ref Mas, .ref Msn, .ref Mac, .ref Mat])), (Mrh, .inl (g 0, 9, .inl (upd frh (ix + 0) 1)))]) rfl rfl rfl rfl (by decide) (w_X7_usual_11 l D g H.size) (va_cwS 2 hts gX7_laysUsual_X7_usual rfl rfl rfl (by decide +kernel) ⟨(Nat.le_of_ble_eq_true rfl), (Nat.le_of_ble_eq_true rfl)⟩) rfl hl.1 rfl (Nat.le_of_ble_eq_true rfl) dX7_laysUsual_17 ⟨(Nat.le_of_ble_eq_true rfl), (Nat.le_of_ble_eq_true rfl)⟩ (fun r_2 u H locs hw hP2 hD2 hS2 => ?_)
  clear hP hD hS
  obtain ⟨rfl, rfl⟩ := hw
  have hPD : PD D A [(Mm, .inr (7, [.int zth, .ref Mt, .int ztp, .int zma, .int zwr, .ref Mrr, .ref Mrh, .ref Mrc, .int zrh, .int zrc, .ref Mn, .ref Mf, .ref Mr, .ref Mh, .int zhp, .int zcc, .ref Ma, .ref Mas, .ref Msn, .ref Mac, .ref Mat])), (Mrh, .inl (g 0, 9, .inl (upd frh (ix + 0) 1)))] H := ⟨hP2, hD2⟩
  have hS := hS2; clear hP2 hD2 hS2; have hP := hPD.1; have hD := hPD.2; clear hPD
  refine W.widen (k := 0) (n := 0) (Nat.le_of_ble_eq_true rfl) (Nat.le_of_ble_eq_true rfl) ?_
  refine va_iast hx hb hK hP hD hS 1 0 rfl rfl (vp_in_nI (show ix + 1 < 9 by omega) (by decide)) dX7_laysUsual_20 (fun H locs hP2 hD2 hS2 => ?_)
  clear hP hD hS
  have hPD : PD D A [(Mm, .inr (7, [.int zth, .ref Mt, .int ztp, .int zma, .int zwr, .ref Mrr, .ref Mrh, .ref Mrc, .int zrh, .int zrc, .ref Mn, .ref Mf, .ref Mr, .ref Mh, .int zhp, .int zcc, .ref Ma, .ref Mas, .ref Msn, .ref Mac, .ref Mat])), (Mrh, .inl (g 0, 9, .inl (upd (upd frh (ix + 0) 1) (nI (ix + 1)).toNatClampNeg 12)))] H := ⟨hP2, hD2⟩
  have hS := hS2; clear hP2 hD2 hS2; have hP := hPD.1; have hD := hPD.2; clear hPD
  rw [nI_clamp (show ix + 1 < 2 ^ 31 by omega)] at hP hD
  have hPD : PD D A [(Mm, .inr (7, [.int zth, .ref Mt, .int ztp, .int zma, .int zwr, .ref Mrr, .ref Mrh, .ref Mrc, .int zrh, .int zrc, .ref Mn, .ref Mf, .ref Mr, .ref Mh, .int zhp, .int zcc, .ref Ma, .ref Mas, .ref Msn, .ref Mac, .ref Mat])), (Mrh, .inl (g 0, 9, .inl (upd (upd frh (ix + 0) 1) (ix + 1) 12)))] H := ⟨hP, hD⟩
  clear hP hD; have hP := hPD.1; have hD := hPD.2; clear hPD
  refine lv_iinc (v := 2) (lv' := [(4, .int 2), (0, .ref Mm), (1, .int 1), (2, .ref Mrh), (3, .int (nI ix))]) hx hb dX7_laysUsual_21 hl (k := 0) rfl (by decide) (by decide) rfl (fun ls hl => ?_)
  refine lv_goto (tgt := 3) hx hb dX7_laysUsual_24 (by decide) ?_
  refine lv_iload hx hb dX7_laysUsual_3 (lv_at hl 0 rfl) ?_
  refine lv_iconst (v := 3) hx hb dX7_laysUsual_5 (by decide) ?_
  refine lv_icmp_ge (tgt := 27) hx hb dX7_laysUsual_6 (by decide) (fun cb => absurd cb (by decide)) (fun _ => ?_)
  refine lv_aload_n hx hb dX7_laysUsual_9 rfl (lv_at hl 3 rfl) ?_
  refine lv_iload_n hx hb dX7_laysUsual_10 rfl (lv_at hl 4 rfl) ?_
  refine lv_iload hx hb dX7_laysUsual_11 (lv_at hl 0 rfl) ?_
  refine lv_iadd hx hb dX7_laysUsual_13 ?_
  refine lv_eqi (y := (nI (ix + 2))) (nI_add (ix) (2)) ?_
  refine lv_iload_n hx hb dX7_laysUsual_14 rfl (lv_at hl 2 rfl) ?_
  refine lv_iload hx hb dX7_laysUsual_15 (lv_at hl 0 rfl) ?_
  refine ky_Si (As := [.int 1, .int 2]) (rest := [.int (nI (ix + 2)), .ref Mrh]) ⟨hx, hb, hml, hown, hts⟩ ⟨hK, hN⟩ hZ hP hD hS hA [] [0, 1] (wc := []) (wr := [(Mm, .inr (7, [.int zth, .ref Mt, .int ztp, .int zma, .int zwr, .ref Mrr, .ref Mrh, .ref Mrc, .int zrh, .int zrc, .ref Mn, .ref Mf, .ref Mr, .ref Mh, .int zhp, .int zcc, .ref Ma, .ref Mas, .ref Msn, .ref Mac, .ref Mat])), (Mrh, .inl (g 0, 9, .inl (upd (upd frh (ix + 0) 1) (ix + 1) 12)))]) rfl rfl rfl rfl (by decide) (w_X7_usual_12 l D g H.size) (va_cwS 2 hts gX7_laysUsual_X7_usual rfl rfl rfl (by decide +kernel) ⟨(Nat.le_of_ble_eq_true rfl), (Nat.le_of_ble_eq_true rfl)⟩) rfl hl.1 rfl (Nat.le_of_ble_eq_true rfl) dX7_laysUsual_17 ⟨(Nat.le_of_ble_eq_true rfl), (Nat.le_of_ble_eq_true rfl)⟩ (fun r_3 u H locs hw hP2 hD2 hS2 => ?_)
  clear hP hD hS
  obtain ⟨rfl, rfl⟩ := hw
  have hPD : PD D A [(Mm, .inr (7, [.int zth, .ref Mt, .int ztp, .int zma, .int zwr, .ref Mrr, .ref Mrh, .ref Mrc, .int zrh, .int zrc, .ref Mn, .ref Mf, .ref Mr, .ref Mh, .int zhp, .int zcc, .ref Ma, .ref Mas, .ref Msn, .ref Mac, .ref Mat])), (Mrh, .inl (g 0, 9, .inl (upd (upd frh (ix + 0) 1) (ix + 1) 12)))] H := ⟨hP2, hD2⟩
  have hS := hS2; clear hP2 hD2 hS2; have hP := hPD.1; have hD := hPD.2; clear hPD
  refine W.widen (k := 0) (n := 0) (Nat.le_of_ble_eq_true rfl) (Nat.le_of_ble_eq_true rfl) ?_
  refine va_iast hx hb hK hP hD hS 1 0 rfl rfl (vp_in_nI (show ix + 2 < 9 by omega) (by decide)) dX7_laysUsual_20 (fun H locs hP2 hD2 hS2 => ?_)
  clear hP hD hS
  have hPD : PD D A [(Mm, .inr (7, [.int zth, .ref Mt, .int ztp, .int zma, .int zwr, .ref Mrr, .ref Mrh, .ref Mrc, .int zrh, .int zrc, .ref Mn, .ref Mf, .ref Mr, .ref Mh, .int zhp, .int zcc, .ref Ma, .ref Mas, .ref Msn, .ref Mac, .ref Mat])), (Mrh, .inl (g 0, 9, .inl (upd (upd (upd frh (ix + 0) 1) (ix + 1) 12) (nI (ix + 2)).toNatClampNeg 1)))] H := ⟨hP2, hD2⟩
  have hS := hS2; clear hP2 hD2 hS2; have hP := hPD.1; have hD := hPD.2; clear hPD
  rw [nI_clamp (show ix + 2 < 2 ^ 31 by omega)] at hP hD
  have hPD : PD D A [(Mm, .inr (7, [.int zth, .ref Mt, .int ztp, .int zma, .int zwr, .ref Mrr, .ref Mrh, .ref Mrc, .int zrh, .int zrc, .ref Mn, .ref Mf, .ref Mr, .ref Mh, .int zhp, .int zcc, .ref Ma, .ref Mas, .ref Msn, .ref Mac, .ref Mat])), (Mrh, .inl (g 0, 9, .inl (upd (upd (upd frh (ix + 0) 1) (ix + 1) 12) (ix + 2) 1)))] H := ⟨hP, hD⟩
  clear hP hD; have hP := hPD.1; have hD := hPD.2; clear hPD
  refine lv_iinc (v := 3) (lv' := [(4, .int 3), (0, .ref Mm), (1, .int 1), (2, .ref Mrh), (3, .int (nI ix))]) hx hb dX7_laysUsual_21 hl (k := 0) rfl (by decide) (by decide) rfl (fun ls hl => ?_)
  refine lv_goto (tgt := 3) hx hb dX7_laysUsual_24 (by decide) ?_
  refine lv_iload hx hb dX7_laysUsual_3 (lv_at hl 0 rfl) ?_
  refine lv_iconst (v := 3) hx hb dX7_laysUsual_5 (by decide) ?_
  refine lv_icmp_ge (tgt := 27) hx hb dX7_laysUsual_6 (by decide) (fun _ => ?_) (fun cb => absurd (by decide) cb)
  have hP9 := hP; have hD9 := hD
  subst hQ
  refine W.widen (k := 0) (n := 0) (Nat.le_of_ble_eq_true rfl) (Nat.le_of_ble_eq_true rfl) ?_
  exact W.vret hx hb hr (fun tS htS _ => ⟨⟨_, rfl, ⟨(upd (upd (upd frh (ix + 0) 1) (ix + 1) 12) (ix + 2) 1), rfl, (n1_upd (n1_upd (n1_upd (h1) (n := 1) (show 1 ≤ 99 by omega)) (n := 12) (show 12 ≤ 99 by omega)) (n := 1) (show 1 ≤ 99 by omega)), rfl⟩, by rw [htS]; exact hP9, hD9⟩, hS.F htS⟩) hS.2.2 dX7_laysUsual_27

set_option maxHeartbeats 4000000 in
set_option maxRecDepth 100000 in
theorem w_X7_laysUsual_2 (l : Launch) (D : va_G) (g : Nat → ClassId) (sz : Nat) (Mm : Nat) (Mrc : Nat) (ix : Nat) (zth : Int32) (Mt : Nat) (ztp : Int32) (zma : Int32) (zwr : Int32) (Mrr : Nat) (Mrh : Nat) (zrh : Int32) (zrc : Int32) (Mn : Nat) (Mf : Nat) (Mr : Nat) (Mh : Nat) (zhp : Int32) (zcc : Int32) (Ma : Nat) (Mas : Nat) (Msn : Nat) (Mac : Nat) (Mat : Nat) (frc : Nat → Int32) (h0 : ix ≤ 6) (h1 : n1 frc) : Met l yX7_laysUsual wsX7_laysUsual ({ frames := 1, cells := 0, slots := 0, locals := 21 }) (va_Pc [.ref Mm, .int 2, .ref Mrc, .int (nI ix)] (pre D g sz [(Mm, .inr (7, [.int zth, .ref Mt, .int ztp, .int zma, .int zwr, .ref Mrr, .ref Mrh, .ref Mrc, .int zrh, .int zrc, .ref Mn, .ref Mf, .ref Mr, .ref Mh, .int zhp, .int zcc, .ref Ma, .ref Mas, .ref Msn, .ref Mac, .ref Mat])), (Mrc, .inl (g 0, 9, .inl frc))])) (va_Qv (fun (u : va_W) => ∃ (frcx : Nat → Int32), u = [(Mm, .inr (7, [.int zth, .ref Mt, .int ztp, .int zma, .int zwr, .ref Mrr, .ref Mrh, .ref Mrc, .int zrh, .int zrc, .ref Mn, .ref Mf, .ref Mr, .ref Mh, .int zhp, .int zcc, .ref Ma, .ref Mas, .ref Msn, .ref Mac, .ref Mat])), (Mrc, .inl (g 0, 9, .inl frcx))] ∧ (n1 frcx) ∧ (frcx = us3 2 ix frc)) (wd D (va_A [(Mm, .inr (7, [.int zth, .ref Mt, .int ztp, .int zma, .int zwr, .ref Mrr, .ref Mrh, .ref Mrc, .int zrh, .int zrc, .ref Mn, .ref Mf, .ref Mr, .ref Mh, .int zhp, .int zcc, .ref Ma, .ref Mas, .ref Msn, .ref Mac, .ref Mat])), (Mrc, .inl (g 0, 9, .inl frc))] sz)) (va_A [(Mm, .inr (7, [.int zth, .ref Mt, .int ztp, .int zma, .int zwr, .ref Mrr, .ref Mrh, .ref Mrc, .int zrh, .int zrc, .ref Mn, .ref Mf, .ref Mr, .ref Mh, .int zhp, .int zcc, .ref Ma, .ref Mas, .ref Msn, .ref Mac, .ref Mat])), (Mrc, .inl (g 0, 9, .inl frc))] sz)) 0 0 (va_A [(Mm, .inr (7, [.int zth, .ref Mt, .int ztp, .int zma, .int zwr, .ref Mrr, .ref Mrh, .ref Mrc, .int zrh, .int zrc, .ref Mn, .ref Mf, .ref Mr, .ref Mh, .int zhp, .int zcc, .ref Ma, .ref Mas, .ref Msn, .ref Mac, .ref Mat])), (Mrc, .inl (g 0, 9, .inl frc))] sz) := by
  refine Met.ofW (cc := cX7_laysUsual) (maxL := 5) (ret := none) (by decide) rfl ?_
  intro p e s m args below meth c s₁ B hml hv
  obtain ⟨rfl, hsz, hP, ⟨hK, hN⟩, hD0, hZ⟩ := hv
  have hx := B.exec
  have hb := B.bytes
  have hr := B.returns
  have hts := atoms_spec (ws := wsX7_laysUsual) B.pre
  have hown : s.vm.findClass RX7 = some m.cls := findClass_of_methodNamed B.named
  have hlocks := B.notSynchronized
  clear B
  subst hsz
  have hD := hD0.self (sz := s.heap.size)
  clear hD0
  generalize hAe : va_A [(Mm, .inr (7, [.int zth, .ref Mt, .int ztp, .int zma, .int zwr, .ref Mrr, .ref Mrh, .ref Mrc, .int zrh, .int zrc, .ref Mn, .ref Mf, .ref Mr, .ref Mh, .int zhp, .int zcc, .ref Ma, .ref Mas, .ref Msn, .ref Mac, .ref Mat])), (Mrc, .inl (g 0, 9, .inl frc))] s.heap.size = A at hD hZ ⊢
  have hA : ∀ q : Nat, s.heap.size ≤ q → A q := fun q h => by rw [← hAe]; exact Or.inr h
  have hS : va_S A s.heap s.heap [] := va_S.rf
  have hl := lv_entry ([.ref Mm, .int 2, .ref Mrc, .int (nI ix)]) (n := 5) (Nat.le_of_ble_eq_true rfl)
  rw [lg_entry_eq]
  generalize (lg_sl ([.ref Mm, .int 2, .ref Mrc, .int (nI ix)]) ++ List.replicate (5 - (lg_sl ([.ref Mm, .int 2, .ref Mrc, .int (nI ix)])).length) Slot.unset).toArray = ls at hl ⊢
  have hl : lv_has ls 5 [(0, .ref Mm), (1, .int 2), (2, .ref Mrc), (3, .int (nI ix))] := hl
  generalize hQ : MQ below _ _ s _ _ _ = Q
  generalize hH : s.heap = H at hP ⊢
  have hS : va_S A s.heap H [] := by rw [← hH]; exact hS
  clear hH
  refine lv_iconst (v := 0) hx hb dX7_laysUsual_0 (by decide) ?_
  refine lv_istore (lv' := [(4, .int 0), (0, .ref Mm), (1, .int 2), (2, .ref Mrc), (3, .int (nI ix))]) hx hb dX7_laysUsual_1 hl (by decide) rfl (fun ls hl => ?_)
  refine lv_iload hx hb dX7_laysUsual_3 (lv_at hl 0 rfl) ?_
  refine lv_iconst (v := 3) hx hb dX7_laysUsual_5 (by decide) ?_
  refine lv_icmp_ge (tgt := 27) hx hb dX7_laysUsual_6 (by decide) (fun cb => absurd cb (by decide)) (fun _ => ?_)
  refine lv_aload_n hx hb dX7_laysUsual_9 rfl (lv_at hl 3 rfl) ?_
  refine lv_iload_n hx hb dX7_laysUsual_10 rfl (lv_at hl 4 rfl) ?_
  refine lv_iload hx hb dX7_laysUsual_11 (lv_at hl 0 rfl) ?_
  refine lv_iadd hx hb dX7_laysUsual_13 ?_
  refine lv_eqi (y := (nI (ix + 0))) (nI_add (ix) (0)) ?_
  refine lv_iload_n hx hb dX7_laysUsual_14 rfl (lv_at hl 2 rfl) ?_
  refine lv_iload hx hb dX7_laysUsual_15 (lv_at hl 0 rfl) ?_
  refine ky_Si (As := [.int 2, .int 0]) (rest := [.int (nI (ix + 0)), .ref Mrc]) ⟨hx, hb, hml, hown, hts⟩ ⟨hK, hN⟩ hZ hP hD hS hA [] [0, 1] (wc := []) (wr := [(Mm, .inr (7, [.int zth, .ref Mt, .int ztp, .int zma, .int zwr, .ref Mrr, .ref Mrh, .ref Mrc, .int zrh, .int zrc, .ref Mn, .ref Mf, .ref Mr, .ref Mh, .int zhp, .int zcc, .ref Ma, .ref Mas, .ref Msn, .ref Mac, .ref Mat])), (Mrc, .inl (g 0, 9, .inl frc))]) rfl rfl rfl rfl (by decide) (w_X7_usual_20 l D g H.size) (va_cwS 2 hts gX7_laysUsual_X7_usual rfl rfl rfl (by decide +kernel) ⟨(Nat.le_of_ble_eq_true rfl), (Nat.le_of_ble_eq_true rfl)⟩) rfl hl.1 rfl (Nat.le_of_ble_eq_true rfl) dX7_laysUsual_17 ⟨(Nat.le_of_ble_eq_true rfl), (Nat.le_of_ble_eq_true rfl)⟩ (fun r_1 u H locs hw hP2 hD2 hS2 => ?_)
  clear hP hD hS
  obtain ⟨rfl, rfl⟩ := hw
  have hPD : PD D A [(Mm, .inr (7, [.int zth, .ref Mt, .int ztp, .int zma, .int zwr, .ref Mrr, .ref Mrh, .ref Mrc, .int zrh, .int zrc, .ref Mn, .ref Mf, .ref Mr, .ref Mh, .int zhp, .int zcc, .ref Ma, .ref Mas, .ref Msn, .ref Mac, .ref Mat])), (Mrc, .inl (g 0, 9, .inl frc))] H := ⟨hP2, hD2⟩
  have hS := hS2; clear hP2 hD2 hS2; have hP := hPD.1; have hD := hPD.2; clear hPD
  refine W.widen (k := 0) (n := 0) (Nat.le_of_ble_eq_true rfl) (Nat.le_of_ble_eq_true rfl) ?_
  refine va_iast hx hb hK hP hD hS 1 0 rfl rfl (vp_in_nI (show ix + 0 < 9 by omega) (by decide)) dX7_laysUsual_20 (fun H locs hP2 hD2 hS2 => ?_)
  clear hP hD hS
  have hPD : PD D A [(Mm, .inr (7, [.int zth, .ref Mt, .int ztp, .int zma, .int zwr, .ref Mrr, .ref Mrh, .ref Mrc, .int zrh, .int zrc, .ref Mn, .ref Mf, .ref Mr, .ref Mh, .int zhp, .int zcc, .ref Ma, .ref Mas, .ref Msn, .ref Mac, .ref Mat])), (Mrc, .inl (g 0, 9, .inl (upd frc (nI (ix + 0)).toNatClampNeg 1)))] H := ⟨hP2, hD2⟩
  have hS := hS2; clear hP2 hD2 hS2; have hP := hPD.1; have hD := hPD.2; clear hPD
  rw [nI_clamp (show ix + 0 < 2 ^ 31 by omega)] at hP hD
  have hPD : PD D A [(Mm, .inr (7, [.int zth, .ref Mt, .int ztp, .int zma, .int zwr, .ref Mrr, .ref Mrh, .ref Mrc, .int zrh, .int zrc, .ref Mn, .ref Mf, .ref Mr, .ref Mh, .int zhp, .int zcc, .ref Ma, .ref Mas, .ref Msn, .ref Mac, .ref Mat])), (Mrc, .inl (g 0, 9, .inl (upd frc (ix + 0) 1)))] H := ⟨hP, hD⟩
  clear hP hD; have hP := hPD.1; have hD := hPD.2; clear hPD
  refine lv_iinc (v := 1) (lv' := [(4, .int 1), (0, .ref Mm), (1, .int 2), (2, .ref Mrc), (3, .int (nI ix))]) hx hb dX7_laysUsual_21 hl (k := 0) rfl (by decide) (by decide) rfl (fun ls hl => ?_)
  refine lv_goto (tgt := 3) hx hb dX7_laysUsual_24 (by decide) ?_
  refine lv_iload hx hb dX7_laysUsual_3 (lv_at hl 0 rfl) ?_
  refine lv_iconst (v := 3) hx hb dX7_laysUsual_5 (by decide) ?_
  refine lv_icmp_ge (tgt := 27) hx hb dX7_laysUsual_6 (by decide) (fun cb => absurd cb (by decide)) (fun _ => ?_)
  refine lv_aload_n hx hb dX7_laysUsual_9 rfl (lv_at hl 3 rfl) ?_
  refine lv_iload_n hx hb dX7_laysUsual_10 rfl (lv_at hl 4 rfl) ?_
  refine lv_iload hx hb dX7_laysUsual_11 (lv_at hl 0 rfl) ?_
  refine lv_iadd hx hb dX7_laysUsual_13 ?_
  refine lv_eqi (y := (nI (ix + 1))) (nI_add (ix) (1)) ?_
  refine lv_iload_n hx hb dX7_laysUsual_14 rfl (lv_at hl 2 rfl) ?_
  refine lv_iload hx hb dX7_laysUsual_15 (lv_at hl 0 rfl) ?_
  refine ky_Si (As := [.int 2, .int 1]) (rest := [.int (nI (ix + 1)), .ref Mrc]) ⟨hx, hb, hml, hown, hts⟩ ⟨hK, hN⟩ hZ hP hD hS hA [] [0, 1] (wc := []) (wr := [(Mm, .inr (7, [.int zth, .ref Mt, .int ztp, .int zma, .int zwr, .ref Mrr, .ref Mrh, .ref Mrc, .int zrh, .int zrc, .ref Mn, .ref Mf, .ref Mr, .ref Mh, .int zhp, .int zcc, .ref Ma, .ref Mas, .ref Msn, .ref Mac, .ref Mat])), (Mrc, .inl (g 0, 9, .inl (upd frc (ix + 0) 1)))]) rfl rfl rfl rfl (by decide) (w_X7_usual_21 l D g H.size) (va_cwS 2 hts gX7_laysUsual_X7_usual rfl rfl rfl (by decide +kernel) ⟨(Nat.le_of_ble_eq_true rfl), (Nat.le_of_ble_eq_true rfl)⟩) rfl hl.1 rfl (Nat.le_of_ble_eq_true rfl) dX7_laysUsual_17 ⟨(Nat.le_of_ble_eq_true rfl), (Nat.le_of_ble_eq_true rfl)⟩ (fun r_2 u H locs hw hP2 hD2 hS2 => ?_)
  clear hP hD hS
  obtain ⟨rfl, rfl⟩ := hw
  have hPD : PD D A [(Mm, .inr (7, [.int zth, .ref Mt, .int ztp, .int zma, .int zwr, .ref Mrr, .ref Mrh, .ref Mrc, .int zrh, .int zrc, .ref Mn, .ref Mf, .ref Mr, .ref Mh, .int zhp, .int zcc, .ref Ma, .ref Mas, .ref Msn, .ref Mac, .ref Mat])), (Mrc, .inl (g 0, 9, .inl (upd frc (ix + 0) 1)))] H := ⟨hP2, hD2⟩
  have hS := hS2; clear hP2 hD2 hS2; have hP := hPD.1; have hD := hPD.2; clear hPD
  refine W.widen (k := 0) (n := 0) (Nat.le_of_ble_eq_true rfl) (Nat.le_of_ble_eq_true rfl) ?_
  refine va_iast hx hb hK hP hD hS 1 0 rfl rfl (vp_in_nI (show ix + 1 < 9 by omega) (by decide)) dX7_laysUsual_20 (fun H locs hP2 hD2 hS2 => ?_)
  clear hP hD hS
  have hPD : PD D A [(Mm, .inr (7, [.int zth, .ref Mt, .int ztp, .int zma, .int zwr, .ref Mrr, .ref Mrh, .ref Mrc, .int zrh, .int zrc, .ref Mn, .ref Mf, .ref Mr, .ref Mh, .int zhp, .int zcc, .ref Ma, .ref Mas, .ref Msn, .ref Mac, .ref Mat])), (Mrc, .inl (g 0, 9, .inl (upd (upd frc (ix + 0) 1) (nI (ix + 1)).toNatClampNeg 0)))] H := ⟨hP2, hD2⟩
  have hS := hS2; clear hP2 hD2 hS2; have hP := hPD.1; have hD := hPD.2; clear hPD
  rw [nI_clamp (show ix + 1 < 2 ^ 31 by omega)] at hP hD
  have hPD : PD D A [(Mm, .inr (7, [.int zth, .ref Mt, .int ztp, .int zma, .int zwr, .ref Mrr, .ref Mrh, .ref Mrc, .int zrh, .int zrc, .ref Mn, .ref Mf, .ref Mr, .ref Mh, .int zhp, .int zcc, .ref Ma, .ref Mas, .ref Msn, .ref Mac, .ref Mat])), (Mrc, .inl (g 0, 9, .inl (upd (upd frc (ix + 0) 1) (ix + 1) 0)))] H := ⟨hP, hD⟩
  clear hP hD; have hP := hPD.1; have hD := hPD.2; clear hPD
  refine lv_iinc (v := 2) (lv' := [(4, .int 2), (0, .ref Mm), (1, .int 2), (2, .ref Mrc), (3, .int (nI ix))]) hx hb dX7_laysUsual_21 hl (k := 0) rfl (by decide) (by decide) rfl (fun ls hl => ?_)
  refine lv_goto (tgt := 3) hx hb dX7_laysUsual_24 (by decide) ?_
  refine lv_iload hx hb dX7_laysUsual_3 (lv_at hl 0 rfl) ?_
  refine lv_iconst (v := 3) hx hb dX7_laysUsual_5 (by decide) ?_
  refine lv_icmp_ge (tgt := 27) hx hb dX7_laysUsual_6 (by decide) (fun cb => absurd cb (by decide)) (fun _ => ?_)
  refine lv_aload_n hx hb dX7_laysUsual_9 rfl (lv_at hl 3 rfl) ?_
  refine lv_iload_n hx hb dX7_laysUsual_10 rfl (lv_at hl 4 rfl) ?_
  refine lv_iload hx hb dX7_laysUsual_11 (lv_at hl 0 rfl) ?_
  refine lv_iadd hx hb dX7_laysUsual_13 ?_
  refine lv_eqi (y := (nI (ix + 2))) (nI_add (ix) (2)) ?_
  refine lv_iload_n hx hb dX7_laysUsual_14 rfl (lv_at hl 2 rfl) ?_
  refine lv_iload hx hb dX7_laysUsual_15 (lv_at hl 0 rfl) ?_
  refine ky_Si (As := [.int 2, .int 2]) (rest := [.int (nI (ix + 2)), .ref Mrc]) ⟨hx, hb, hml, hown, hts⟩ ⟨hK, hN⟩ hZ hP hD hS hA [] [0, 1] (wc := []) (wr := [(Mm, .inr (7, [.int zth, .ref Mt, .int ztp, .int zma, .int zwr, .ref Mrr, .ref Mrh, .ref Mrc, .int zrh, .int zrc, .ref Mn, .ref Mf, .ref Mr, .ref Mh, .int zhp, .int zcc, .ref Ma, .ref Mas, .ref Msn, .ref Mac, .ref Mat])), (Mrc, .inl (g 0, 9, .inl (upd (upd frc (ix + 0) 1) (ix + 1) 0)))]) rfl rfl rfl rfl (by decide) (w_X7_usual_22 l D g H.size) (va_cwS 2 hts gX7_laysUsual_X7_usual rfl rfl rfl (by decide +kernel) ⟨(Nat.le_of_ble_eq_true rfl), (Nat.le_of_ble_eq_true rfl)⟩) rfl hl.1 rfl (Nat.le_of_ble_eq_true rfl) dX7_laysUsual_17 ⟨(Nat.le_of_ble_eq_true rfl), (Nat.le_of_ble_eq_true rfl)⟩ (fun r_3 u H locs hw hP2 hD2 hS2 => ?_)
  clear hP hD hS
  obtain ⟨rfl, rfl⟩ := hw
  have hPD : PD D A [(Mm, .inr (7, [.int zth, .ref Mt, .int ztp, .int zma, .int zwr, .ref Mrr, .ref Mrh, .ref Mrc, .int zrh, .int zrc, .ref Mn, .ref Mf, .ref Mr, .ref Mh, .int zhp, .int zcc, .ref Ma, .ref Mas, .ref Msn, .ref Mac, .ref Mat])), (Mrc, .inl (g 0, 9, .inl (upd (upd frc (ix + 0) 1) (ix + 1) 0)))] H := ⟨hP2, hD2⟩
  have hS := hS2; clear hP2 hD2 hS2; have hP := hPD.1; have hD := hPD.2; clear hPD
  refine W.widen (k := 0) (n := 0) (Nat.le_of_ble_eq_true rfl) (Nat.le_of_ble_eq_true rfl) ?_
  refine va_iast hx hb hK hP hD hS 1 0 rfl rfl (vp_in_nI (show ix + 2 < 9 by omega) (by decide)) dX7_laysUsual_20 (fun H locs hP2 hD2 hS2 => ?_)
  clear hP hD hS
  have hPD : PD D A [(Mm, .inr (7, [.int zth, .ref Mt, .int ztp, .int zma, .int zwr, .ref Mrr, .ref Mrh, .ref Mrc, .int zrh, .int zrc, .ref Mn, .ref Mf, .ref Mr, .ref Mh, .int zhp, .int zcc, .ref Ma, .ref Mas, .ref Msn, .ref Mac, .ref Mat])), (Mrc, .inl (g 0, 9, .inl (upd (upd (upd frc (ix + 0) 1) (ix + 1) 0) (nI (ix + 2)).toNatClampNeg 1)))] H := ⟨hP2, hD2⟩
  have hS := hS2; clear hP2 hD2 hS2; have hP := hPD.1; have hD := hPD.2; clear hPD
  rw [nI_clamp (show ix + 2 < 2 ^ 31 by omega)] at hP hD
  have hPD : PD D A [(Mm, .inr (7, [.int zth, .ref Mt, .int ztp, .int zma, .int zwr, .ref Mrr, .ref Mrh, .ref Mrc, .int zrh, .int zrc, .ref Mn, .ref Mf, .ref Mr, .ref Mh, .int zhp, .int zcc, .ref Ma, .ref Mas, .ref Msn, .ref Mac, .ref Mat])), (Mrc, .inl (g 0, 9, .inl (upd (upd (upd frc (ix + 0) 1) (ix + 1) 0) (ix + 2) 1)))] H := ⟨hP, hD⟩
  clear hP hD; have hP := hPD.1; have hD := hPD.2; clear hPD
  refine lv_iinc (v := 3) (lv' := [(4, .int 3), (0, .ref Mm), (1, .int 2), (2, .ref Mrc), (3, .int (nI ix))]) hx hb dX7_laysUsual_21 hl (k := 0) rfl (by decide) (by decide) rfl (fun ls hl => ?_)
  refine lv_goto (tgt := 3) hx hb dX7_laysUsual_24 (by decide) ?_
  refine lv_iload hx hb dX7_laysUsual_3 (lv_at hl 0 rfl) ?_
  refine lv_iconst (v := 3) hx hb dX7_laysUsual_5 (by decide) ?_
  refine lv_icmp_ge (tgt := 27) hx hb dX7_laysUsual_6 (by decide) (fun _ => ?_) (fun cb => absurd (by decide) cb)
  have hP9 := hP; have hD9 := hD
  subst hQ
  refine W.widen (k := 0) (n := 0) (Nat.le_of_ble_eq_true rfl) (Nat.le_of_ble_eq_true rfl) ?_
  exact W.vret hx hb hr (fun tS htS _ => ⟨⟨_, rfl, ⟨(upd (upd (upd frc (ix + 0) 1) (ix + 1) 0) (ix + 2) 1), rfl, (n1_upd (n1_upd (n1_upd (h1) (n := 1) (show 1 ≤ 99 by omega)) (n := 0) (show 0 ≤ 99 by omega)) (n := 1) (show 1 ≤ 99 by omega)), rfl⟩, by rw [htS]; exact hP9, hD9⟩, hS.F htS⟩) hS.2.2 dX7_laysUsual_27

set_option maxHeartbeats 4000000 in
set_option maxRecDepth 100000 in
theorem w_X7_number (l : Launch) (D : va_G) (g : Nat → ClassId) (sz : Nat) (Mm : Nat) (lo : Nat) (zhi : Int32) (zth : Int32) (Mt : Nat) (tp : Nat) (ma : Nat) (Mrr : Nat) (Mrh : Nat) (Mrc : Nat) (rh : Nat) (rc : Nat) (Mn : Nat) (Mf : Nat) (Mr : Nat) (Mh : Nat) (zhp : Int32) (zcc : Int32) (Ma : Nat) (Mas : Nat) (Msn : Nat) (Mac : Nat) (Mat : Nat) (fmt : Nat → Int32) (h0 : tp ≤ 160) (h1 : ma ≤ tp) (h2 : lo ≤ 1) : Met l yX7_number wsX7_number ({ frames := 2, cells := 0, slots := 0, locals := 40 }) (va_Pc [.ref Mm, .int (nI lo), .int zhi] (pre D g sz [(Mm, .inr (7, [.int zth, .ref Mt, .int (nI tp), .int (nI ma), .int (-1), .ref Mrr, .ref Mrh, .ref Mrc, .int (nI rh), .int (nI rc), .ref Mn, .ref Mf, .ref Mr, .ref Mh, .int zhp, .int zcc, .ref Ma, .ref Mas, .ref Msn, .ref Mac, .ref Mat])), (Mt, .inl (g 0, 160, .inl fmt))])) (va_Qi (fun (r : Int32) (u : va_W) => ∃ (max : Nat) (zwrx : Int32) (nx : Nat), u = [(Mm, .inr (7, [.int zth, .ref Mt, .int (nI tp), .int (nI max), .int zwrx, .ref Mrr, .ref Mrh, .ref Mrc, .int (nI rh), .int (nI rc), .ref Mn, .ref Mf, .ref Mr, .ref Mh, .int zhp, .int zcc, .ref Ma, .ref Mas, .ref Msn, .ref Mac, .ref Mat])), (Mt, .inl (g 0, 160, .inl fmt))] ∧ r = (nI nx) ∧ ((nx ≤ 99) ∧ (max ≤ tp) ∧ (ma ≤ max) ∧ (zwrx = nmF fmt tp ma (nI lo) zhi) ∧ (zwrx = -1 → max = nmE fmt tp ma) ∧ (zwrx = -1 → nI nx = nmV fmt tp ma))) (wd D (va_A [(Mm, .inr (7, [.int zth, .ref Mt, .int (nI tp), .int (nI ma), .int (-1), .ref Mrr, .ref Mrh, .ref Mrc, .int (nI rh), .int (nI rc), .ref Mn, .ref Mf, .ref Mr, .ref Mh, .int zhp, .int zcc, .ref Ma, .ref Mas, .ref Msn, .ref Mac, .ref Mat])), (Mt, .inl (g 0, 160, .inl fmt))] sz)) (va_A [(Mm, .inr (7, [.int zth, .ref Mt, .int (nI tp), .int (nI ma), .int (-1), .ref Mrr, .ref Mrh, .ref Mrc, .int (nI rh), .int (nI rc), .ref Mn, .ref Mf, .ref Mr, .ref Mh, .int zhp, .int zcc, .ref Ma, .ref Mas, .ref Msn, .ref Mac, .ref Mat])), (Mt, .inl (g 0, 160, .inl fmt))] sz)) 0 0 (va_A [(Mm, .inr (7, [.int zth, .ref Mt, .int (nI tp), .int (nI ma), .int (-1), .ref Mrr, .ref Mrh, .ref Mrc, .int (nI rh), .int (nI rc), .ref Mn, .ref Mf, .ref Mr, .ref Mh, .int zhp, .int zcc, .ref Ma, .ref Mas, .ref Msn, .ref Mac, .ref Mat])), (Mt, .inl (g 0, 160, .inl fmt))] sz) := by
  refine Met.ofW (cc := cX7_number) (maxL := 5) (ret := (some .int)) (by decide) rfl ?_
  intro p e s m args below meth c s₁ B hml hv
  obtain ⟨rfl, hsz, hP, ⟨hK, hN⟩, hD0, hZ⟩ := hv
  have hx := B.exec
  have hb := B.bytes
  have hr := B.returns
  have hts := atoms_spec (ws := wsX7_number) B.pre
  have hown : s.vm.findClass RX7 = some m.cls := findClass_of_methodNamed B.named
  have hlocks := B.notSynchronized
  clear B
  subst hsz
  have hD := hD0.self (sz := s.heap.size)
  clear hD0
  generalize hAe : va_A [(Mm, .inr (7, [.int zth, .ref Mt, .int (nI tp), .int (nI ma), .int (-1), .ref Mrr, .ref Mrh, .ref Mrc, .int (nI rh), .int (nI rc), .ref Mn, .ref Mf, .ref Mr, .ref Mh, .int zhp, .int zcc, .ref Ma, .ref Mas, .ref Msn, .ref Mac, .ref Mat])), (Mt, .inl (g 0, 160, .inl fmt))] s.heap.size = A at hD hZ ⊢
  have hA : ∀ q : Nat, s.heap.size ≤ q → A q := fun q h => by rw [← hAe]; exact Or.inr h
  have hS : va_S A s.heap s.heap [] := va_S.rf
  have f64 := hts (.fieldLink RX7 64 "HopCreditsModel" "at" "I") (List.mem_of_getElem? (i := 2) rfl)
  have f71 := hts (.fieldLink RX7 71 "HopCreditsModel" "wrong" "I") (List.mem_of_getElem? (i := 1) rfl)
  have iX7 : ∀ w ∈ u_ws RX7 TX7 21, w ∈ wsX7_number := fun w h => List.mem_cons_of_mem _ (List.mem_append_right _ (h))
  have hl := lv_entry ([.ref Mm, .int (nI lo), .int zhi]) (n := 5) (Nat.le_of_ble_eq_true rfl)
  rw [lg_entry_eq]
  generalize (lg_sl ([.ref Mm, .int (nI lo), .int zhi]) ++ List.replicate (5 - (lg_sl ([.ref Mm, .int (nI lo), .int zhi])).length) Slot.unset).toArray = ls at hl ⊢
  have hl : lv_has ls 5 [(0, .ref Mm), (1, .int (nI lo)), (2, .int zhi)] := hl
  generalize hQ : MQ below _ _ s _ _ _ = Q
  generalize hH : s.heap = H at hP ⊢
  have hS : va_S A s.heap H [] := by rw [← hH]; exact hS
  clear hH
  refine lv_aload_n hx hb dX7_number_0 rfl (lv_at hl 0 rfl) ?_
  refine va_get (D := D) (ci := 7) (v := .int (-1)) (C := RX7) (T := TX7) (N := 21) hx hb hts iX7 hown hK hP 0 rfl rfl 4 (by decide) f71 (fun _ h9 => h9) rfl dX7_number_1 ?_
  refine lv_iconst (v := (-1)) hx hb dX7_number_4 (by decide) ?_
  refine lv_icmp_ne (tgt := 18) hx hb dX7_number_5 (by decide) (fun cb => absurd (by decide) cb) (fun _ => ?_)
  refine lv_aload_n hx hb dX7_number_8 rfl (lv_at hl 0 rfl) ?_
  refine ky_Vi (As := []) (rest := []) ⟨hx, hb, hml, hown, hts⟩ ⟨hK, hN⟩ hZ hP hD hS hA [0, 1] [] (wc := [(Mm, .inr (7, [.int zth, .ref Mt, .int (nI tp), .int (nI ma), .int (-1), .ref Mrr, .ref Mrh, .ref Mrc, .int (nI rh), .int (nI rc), .ref Mn, .ref Mf, .ref Mr, .ref Mh, .int zhp, .int zcc, .ref Ma, .ref Mas, .ref Msn, .ref Mac, .ref Mat])), (Mt, .inl (g 0, 160, .inl fmt))]) (wr := []) rfl rfl rfl rfl (by decide) (r_X7_ahead l D g H.size Mm zth Mt tp ma (-1) Mrr Mrh Mrc rh rc Mn Mf Mr Mh zhp zcc Ma Mas Msn Mac Mat fmt (show tp ≤ 160 by omega) (show ma ≤ tp by omega)) (cwV 0 hts gX7_number_X7_ahead rfl rfl rfl (by decide +kernel) ⟨(Nat.le_of_ble_eq_true rfl), (Nat.le_of_ble_eq_true rfl)⟩) 0 7 rfl rfl rfl rfl hl.1 rfl (Nat.le_of_ble_eq_true rfl) dX7_number_9 ⟨(Nat.le_of_ble_eq_true rfl), (Nat.le_of_ble_eq_true rfl)⟩ (fun r_1 u H locs hw hP2 hD2 hS2 => ?_)
  clear hP hD hS
  obtain ⟨max_2, rfl, rfl, hf_3, hf_4, hf_5⟩ := hw
  have hPD : PD D A [(Mm, .inr (7, [.int zth, .ref Mt, .int (nI tp), .int (nI max_2), .int (-1), .ref Mrr, .ref Mrh, .ref Mrc, .int (nI rh), .int (nI rc), .ref Mn, .ref Mf, .ref Mr, .ref Mh, .int zhp, .int zcc, .ref Ma, .ref Mas, .ref Msn, .ref Mac, .ref Mat])), (Mt, .inl (g 0, 160, .inl fmt))] H := ⟨hP2, hD2⟩
  have hS := hS2; clear hP2 hD2 hS2; have hP := hPD.1; have hD := hPD.2; clear hPD
  refine W.widen (k := 0) (n := 0) (Nat.le_of_ble_eq_true rfl) (Nat.le_of_ble_eq_true rfl) ?_
  refine lv_topi (fun y_6 hey_6 => ?_)
  refine ky_Si (As := [.int y_6]) (rest := []) ⟨hx, hb, hml, hown, hts⟩ ⟨hK, hN⟩ hZ hP hD hS hA [] [0, 1] (wc := []) (wr := [(Mm, .inr (7, [.int zth, .ref Mt, .int (nI tp), .int (nI max_2), .int (-1), .ref Mrr, .ref Mrh, .ref Mrc, .int (nI rh), .int (nI rc), .ref Mn, .ref Mf, .ref Mr, .ref Mh, .int zhp, .int zcc, .ref Ma, .ref Mas, .ref Msn, .ref Mac, .ref Mat])), (Mt, .inl (g 0, 160, .inl fmt))]) rfl rfl rfl rfl (by decide) (k_X7_isDigit l D g H.size y_6) (va_cwS 1 hts gX7_number_X7_isDigit rfl rfl rfl (by decide +kernel) ⟨(Nat.le_of_ble_eq_true rfl), (Nat.le_of_ble_eq_true rfl)⟩) rfl hl.1 rfl (Nat.le_of_ble_eq_true rfl) dX7_number_12 ⟨(Nat.le_of_ble_eq_true rfl), (Nat.le_of_ble_eq_true rfl)⟩ (fun r_7 u H locs hw hP2 hD2 hS2 => ?_)
  clear hP hD hS
  obtain ⟨rfl, rfl⟩ := hw
  have hPD : PD D A [(Mm, .inr (7, [.int zth, .ref Mt, .int (nI tp), .int (nI max_2), .int (-1), .ref Mrr, .ref Mrh, .ref Mrc, .int (nI rh), .int (nI rc), .ref Mn, .ref Mf, .ref Mr, .ref Mh, .int zhp, .int zcc, .ref Ma, .ref Mas, .ref Msn, .ref Mac, .ref Mat])), (Mt, .inl (g 0, 160, .inl fmt))] H := ⟨hP2, hD2⟩
  have hS := hS2; clear hP2 hD2 hS2; have hP := hPD.1; have hD := hPD.2; clear hPD
  refine W.widen (k := 0) (n := 0) (Nat.le_of_ble_eq_true rfl) (Nat.le_of_ble_eq_true rfl) ?_
  refine lv_if_ne (tgt := 24) hx hb dX7_number_15 (by decide) (fun cb_8 => ?_) (fun cb_8 => ?_)
  · skip
    have hq_9 : 48 ≤ y_6 ∧ y_6 ≤ 57 := b01_1.mp cb_8
    have hPq_13 := hP; have hDq_13 := hD; have hSq_13 := hS; have hlq_13 := hl; clear hP hD hS hl
    obtain ⟨j_10, hl_11, hu_12, rfl⟩ := rg (L := 48) (U := 57) rfl rfl (show 48 < 2 ^ 31 by omega) (show 57 < 2 ^ 31 by omega) hq_9
    have hP := hPq_13; have hD := hDq_13; have hS := hSq_13; have hl := hlq_13; clear hPq_13 hDq_13 hSq_13 hlq_13
    have hlt_14 : max_2 < tp := (fun q9 => here_lt hey_6 q9) (m1_ne (show j_10 < 2 ^ 31 by omega))
    refine lv_iconst (v := 0) hx hb dX7_number_24 (by decide) ?_
    refine lv_istore_n (lv' := [(3, .int 0), (0, .ref Mm), (1, .int (nI lo)), (2, .int zhi)]) hx hb dX7_number_25 rfl hl (by decide) rfl (fun ls hl => ?_)
    refine lv_iconst (v := 0) hx hb dX7_number_26 (by decide) ?_
    refine lv_istore (lv' := [(4, .int 0), (3, .int 0), (0, .ref Mm), (1, .int (nI lo)), (2, .int zhi)]) hx hb dX7_number_27 hl (by decide) rfl (fun ls hl => ?_)
    refine lv_iload hx hb dX7_number_29 (lv_at hl 0 rfl) ?_
    refine lv_iconst (v := 2) hx hb dX7_number_31 (by decide) ?_
    refine lv_icmp_ge (tgt := 74) hx hb dX7_number_32 (by decide) (fun cb => absurd cb (by decide)) (fun _ => ?_)
    refine lv_aload_n hx hb dX7_number_35 rfl (lv_at hl 2 rfl) ?_
    refine ky_Vi (As := []) (rest := []) ⟨hx, hb, hml, hown, hts⟩ ⟨hK, hN⟩ hZ hP hD hS hA [0, 1] [] (wc := [(Mm, .inr (7, [.int zth, .ref Mt, .int (nI tp), .int (nI max_2), .int (-1), .ref Mrr, .ref Mrh, .ref Mrc, .int (nI rh), .int (nI rc), .ref Mn, .ref Mf, .ref Mr, .ref Mh, .int zhp, .int zcc, .ref Ma, .ref Mas, .ref Msn, .ref Mac, .ref Mat])), (Mt, .inl (g 0, 160, .inl fmt))]) (wr := []) rfl rfl rfl rfl (by decide) (k_X7_here l D g H.size Mm zth Mt tp max_2 (-1) Mrr Mrh Mrc rh rc Mn Mf Mr Mh zhp zcc Ma Mas Msn Mac Mat fmt (show tp ≤ 160 by omega) (show max_2 ≤ 1000 by omega)) (cwV 0 hts gX7_number_X7_here rfl rfl rfl (by decide +kernel) ⟨(Nat.le_of_ble_eq_true rfl), (Nat.le_of_ble_eq_true rfl)⟩) 0 7 rfl rfl rfl rfl hl.1 rfl (Nat.le_of_ble_eq_true rfl) dX7_number_36 ⟨(Nat.le_of_ble_eq_true rfl), (Nat.le_of_ble_eq_true rfl)⟩ (fun r_15 u H locs hw hP2 hD2 hS2 => ?_)
    clear hP hD hS
    obtain ⟨rfl, rfl⟩ := hw
    have hPD : PD D A [(Mm, .inr (7, [.int zth, .ref Mt, .int (nI tp), .int (nI max_2), .int (-1), .ref Mrr, .ref Mrh, .ref Mrc, .int (nI rh), .int (nI rc), .ref Mn, .ref Mf, .ref Mr, .ref Mh, .int zhp, .int zcc, .ref Ma, .ref Mas, .ref Msn, .ref Mac, .ref Mat])), (Mt, .inl (g 0, 160, .inl fmt))] H := ⟨hP2, hD2⟩
    have hS := hS2; clear hP2 hD2 hS2; have hP := hPD.1; have hD := hPD.2; clear hPD
    refine W.widen (k := 0) (n := 0) (Nat.le_of_ble_eq_true rfl) (Nat.le_of_ble_eq_true rfl) ?_
    refine lv_eqi (y := (nI j_10)) hey_6.symm ?_
    refine ky_Si (As := [.int (nI j_10)]) (rest := []) ⟨hx, hb, hml, hown, hts⟩ ⟨hK, hN⟩ hZ hP hD hS hA [] [0, 1] (wc := []) (wr := [(Mm, .inr (7, [.int zth, .ref Mt, .int (nI tp), .int (nI max_2), .int (-1), .ref Mrr, .ref Mrh, .ref Mrc, .int (nI rh), .int (nI rc), .ref Mn, .ref Mf, .ref Mr, .ref Mh, .int zhp, .int zcc, .ref Ma, .ref Mas, .ref Msn, .ref Mac, .ref Mat])), (Mt, .inl (g 0, 160, .inl fmt))]) rfl rfl rfl rfl (by decide) (k_X7_isDigit l D g H.size (nI j_10)) (va_cwS 1 hts gX7_number_X7_isDigit rfl rfl rfl (by decide +kernel) ⟨(Nat.le_of_ble_eq_true rfl), (Nat.le_of_ble_eq_true rfl)⟩) rfl hl.1 rfl (Nat.le_of_ble_eq_true rfl) dX7_number_39 ⟨(Nat.le_of_ble_eq_true rfl), (Nat.le_of_ble_eq_true rfl)⟩ (fun r_16 u H locs hw hP2 hD2 hS2 => ?_)
    clear hP hD hS
    obtain ⟨rfl, rfl⟩ := hw
    have hPD : PD D A [(Mm, .inr (7, [.int zth, .ref Mt, .int (nI tp), .int (nI max_2), .int (-1), .ref Mrr, .ref Mrh, .ref Mrc, .int (nI rh), .int (nI rc), .ref Mn, .ref Mf, .ref Mr, .ref Mh, .int zhp, .int zcc, .ref Ma, .ref Mas, .ref Msn, .ref Mac, .ref Mat])), (Mt, .inl (g 0, 160, .inl fmt))] H := ⟨hP2, hD2⟩
    have hS := hS2; clear hP2 hD2 hS2; have hP := hPD.1; have hD := hPD.2; clear hPD
    refine W.widen (k := 0) (n := 0) (Nat.le_of_ble_eq_true rfl) (Nat.le_of_ble_eq_true rfl) ?_
    refine lv_if_eq (tgt := 74) hx hb dX7_number_42 (by decide) (fun cb => absurd cb (b01_1.mpr ⟨nI_le (show 48 ≤ j_10 by omega) (show j_10 < 2 ^ 31 by omega), nI_le (show j_10 ≤ 57 by omega) (by decide)⟩)) (fun _ => ?_)
    refine lv_bipush (v := 10) hx hb dX7_number_45 (by decide) ?_
    refine lv_iload_n hx hb dX7_number_47 rfl (lv_at hl 1 rfl) ?_
    refine lv_imul hx hb dX7_number_48 ?_
    refine lv_eqi (y := 0) (by decide) ?_
    refine lv_aload_n hx hb dX7_number_49 rfl (lv_at hl 2 rfl) ?_
    refine ky_Vi (As := []) (rest := [.int 0]) ⟨hx, hb, hml, hown, hts⟩ ⟨hK, hN⟩ hZ hP hD hS hA [0, 1] [] (wc := [(Mm, .inr (7, [.int zth, .ref Mt, .int (nI tp), .int (nI max_2), .int (-1), .ref Mrr, .ref Mrh, .ref Mrc, .int (nI rh), .int (nI rc), .ref Mn, .ref Mf, .ref Mr, .ref Mh, .int zhp, .int zcc, .ref Ma, .ref Mas, .ref Msn, .ref Mac, .ref Mat])), (Mt, .inl (g 0, 160, .inl fmt))]) (wr := []) rfl rfl rfl rfl (by decide) (k_X7_here l D g H.size Mm zth Mt tp max_2 (-1) Mrr Mrh Mrc rh rc Mn Mf Mr Mh zhp zcc Ma Mas Msn Mac Mat fmt (show tp ≤ 160 by omega) (show max_2 ≤ 1000 by omega)) (cwV 0 hts gX7_number_X7_here rfl rfl rfl (by decide +kernel) ⟨(Nat.le_of_ble_eq_true rfl), (Nat.le_of_ble_eq_true rfl)⟩) 0 7 rfl rfl rfl rfl hl.1 rfl (Nat.le_of_ble_eq_true rfl) dX7_number_50 ⟨(Nat.le_of_ble_eq_true rfl), (Nat.le_of_ble_eq_true rfl)⟩ (fun r_17 u H locs hw hP2 hD2 hS2 => ?_)
    clear hP hD hS
    obtain ⟨rfl, rfl⟩ := hw
    have hPD : PD D A [(Mm, .inr (7, [.int zth, .ref Mt, .int (nI tp), .int (nI max_2), .int (-1), .ref Mrr, .ref Mrh, .ref Mrc, .int (nI rh), .int (nI rc), .ref Mn, .ref Mf, .ref Mr, .ref Mh, .int zhp, .int zcc, .ref Ma, .ref Mas, .ref Msn, .ref Mac, .ref Mat])), (Mt, .inl (g 0, 160, .inl fmt))] H := ⟨hP2, hD2⟩
    have hS := hS2; clear hP2 hD2 hS2; have hP := hPD.1; have hD := hPD.2; clear hPD
    refine W.widen (k := 0) (n := 0) (Nat.le_of_ble_eq_true rfl) (Nat.le_of_ble_eq_true rfl) ?_
    refine lv_eqi (y := (nI j_10)) hey_6.symm ?_
    refine lv_iadd hx hb dX7_number_53 ?_
    refine lv_eqi (y := (nI (0 + j_10))) (nI_add (0) (j_10)) ?_
    refine lv_bipush (v := 48) hx hb dX7_number_54 (by decide) ?_
    refine lv_isub hx hb dX7_number_56 ?_
    refine lv_eqi (y := (nI ((0 + j_10) - 48))) (pk_sub (show 48 ≤ 0 + j_10 by omega)) ?_
    refine lv_istore_n (lv' := [(3, .int (nI ((0 + j_10) - 48))), (4, .int 0), (0, .ref Mm), (1, .int (nI lo)), (2, .int zhi)]) hx hb dX7_number_57 rfl hl (by decide) rfl (fun ls hl => ?_)
    refine lv_aload_n hx hb dX7_number_58 rfl (lv_at hl 2 rfl) ?_
    refine lv_dup hx hb dX7_number_59 rfl ?_
    refine va_get (D := D) (ci := 7) (v := .int (nI max_2)) (C := RX7) (T := TX7) (N := 21) hx hb hts iX7 hown hK hP 0 rfl rfl 3 (by decide) f64 (fun _ h9 => h9) rfl dX7_number_60 ?_
    refine lv_iconst (v := 1) hx hb dX7_number_63 (by decide) ?_
    refine lv_iadd hx hb dX7_number_64 ?_
    refine lv_eqi (y := (nI (max_2 + 1))) (nI_add (max_2) (1)) ?_
    refine va_put (D := D) (ci := 7) (v := .int (nI (max_2 + 1))) (ty := .int) (C := RX7) (T := TX7) (N := 21) hx hb hts iX7 tyX7 tyX7_ok nmX7 hown hK hP hD hS 0 rfl rfl 3 (by decide) f64 (fun _ h9 => h9) rfl (by decide +kernel) (rfl) (rfl) (Nat.le_of_ble_eq_true rfl) dX7_number_65 (fun H locs hP2 hD2 hS2 => ?_)
    clear hP hD hS
    have hPD : PD D A [(Mm, .inr (7, [.int zth, .ref Mt, .int (nI tp), .int (nI (max_2 + 1)), .int (-1), .ref Mrr, .ref Mrh, .ref Mrc, .int (nI rh), .int (nI rc), .ref Mn, .ref Mf, .ref Mr, .ref Mh, .int zhp, .int zcc, .ref Ma, .ref Mas, .ref Msn, .ref Mac, .ref Mat])), (Mt, .inl (g 0, 160, .inl fmt))] H := ⟨hP2, hD2⟩
    have hS := hS2; clear hP2 hD2 hS2; have hP := hPD.1; have hD := hPD.2; clear hPD
    refine lv_iinc (v := 1) (lv' := [(4, .int 1), (3, .int (nI ((0 + j_10) - 48))), (0, .ref Mm), (1, .int (nI lo)), (2, .int zhi)]) hx hb dX7_number_68 hl (k := 1) rfl (by decide) (by decide) rfl (fun ls hl => ?_)
    refine lv_goto (tgt := 29) hx hb dX7_number_71 (by decide) ?_
    refine lv_iload hx hb dX7_number_29 (lv_at hl 0 rfl) ?_
    refine lv_iconst (v := 2) hx hb dX7_number_31 (by decide) ?_
    refine lv_icmp_ge (tgt := 74) hx hb dX7_number_32 (by decide) (fun cb => absurd cb (by decide)) (fun _ => ?_)
    refine lv_aload_n hx hb dX7_number_35 rfl (lv_at hl 2 rfl) ?_
    refine ky_Vi (As := []) (rest := []) ⟨hx, hb, hml, hown, hts⟩ ⟨hK, hN⟩ hZ hP hD hS hA [0, 1] [] (wc := [(Mm, .inr (7, [.int zth, .ref Mt, .int (nI tp), .int (nI (max_2 + 1)), .int (-1), .ref Mrr, .ref Mrh, .ref Mrc, .int (nI rh), .int (nI rc), .ref Mn, .ref Mf, .ref Mr, .ref Mh, .int zhp, .int zcc, .ref Ma, .ref Mas, .ref Msn, .ref Mac, .ref Mat])), (Mt, .inl (g 0, 160, .inl fmt))]) (wr := []) rfl rfl rfl rfl (by decide) (k_X7_here l D g H.size Mm zth Mt tp (max_2 + 1) (-1) Mrr Mrh Mrc rh rc Mn Mf Mr Mh zhp zcc Ma Mas Msn Mac Mat fmt (show tp ≤ 160 by omega) (show (max_2 + 1) ≤ 1000 by omega)) (cwV 0 hts gX7_number_X7_here rfl rfl rfl (by decide +kernel) ⟨(Nat.le_of_ble_eq_true rfl), (Nat.le_of_ble_eq_true rfl)⟩) 0 7 rfl rfl rfl rfl hl.1 rfl (Nat.le_of_ble_eq_true rfl) dX7_number_36 ⟨(Nat.le_of_ble_eq_true rfl), (Nat.le_of_ble_eq_true rfl)⟩ (fun r_18 u H locs hw hP2 hD2 hS2 => ?_)
    clear hP hD hS
    obtain ⟨rfl, rfl⟩ := hw
    have hPD : PD D A [(Mm, .inr (7, [.int zth, .ref Mt, .int (nI tp), .int (nI (max_2 + 1)), .int (-1), .ref Mrr, .ref Mrh, .ref Mrc, .int (nI rh), .int (nI rc), .ref Mn, .ref Mf, .ref Mr, .ref Mh, .int zhp, .int zcc, .ref Ma, .ref Mas, .ref Msn, .ref Mac, .ref Mat])), (Mt, .inl (g 0, 160, .inl fmt))] H := ⟨hP2, hD2⟩
    have hS := hS2; clear hP2 hD2 hS2; have hP := hPD.1; have hD := hPD.2; clear hPD
    refine W.widen (k := 0) (n := 0) (Nat.le_of_ble_eq_true rfl) (Nat.le_of_ble_eq_true rfl) ?_
    refine lv_topi (fun y_19 hey_19 => ?_)
    refine ky_Si (As := [.int y_19]) (rest := []) ⟨hx, hb, hml, hown, hts⟩ ⟨hK, hN⟩ hZ hP hD hS hA [] [0, 1] (wc := []) (wr := [(Mm, .inr (7, [.int zth, .ref Mt, .int (nI tp), .int (nI (max_2 + 1)), .int (-1), .ref Mrr, .ref Mrh, .ref Mrc, .int (nI rh), .int (nI rc), .ref Mn, .ref Mf, .ref Mr, .ref Mh, .int zhp, .int zcc, .ref Ma, .ref Mas, .ref Msn, .ref Mac, .ref Mat])), (Mt, .inl (g 0, 160, .inl fmt))]) rfl rfl rfl rfl (by decide) (k_X7_isDigit l D g H.size y_19) (va_cwS 1 hts gX7_number_X7_isDigit rfl rfl rfl (by decide +kernel) ⟨(Nat.le_of_ble_eq_true rfl), (Nat.le_of_ble_eq_true rfl)⟩) rfl hl.1 rfl (Nat.le_of_ble_eq_true rfl) dX7_number_39 ⟨(Nat.le_of_ble_eq_true rfl), (Nat.le_of_ble_eq_true rfl)⟩ (fun r_20 u H locs hw hP2 hD2 hS2 => ?_)
    clear hP hD hS
    obtain ⟨rfl, rfl⟩ := hw
    have hPD : PD D A [(Mm, .inr (7, [.int zth, .ref Mt, .int (nI tp), .int (nI (max_2 + 1)), .int (-1), .ref Mrr, .ref Mrh, .ref Mrc, .int (nI rh), .int (nI rc), .ref Mn, .ref Mf, .ref Mr, .ref Mh, .int zhp, .int zcc, .ref Ma, .ref Mas, .ref Msn, .ref Mac, .ref Mat])), (Mt, .inl (g 0, 160, .inl fmt))] H := ⟨hP2, hD2⟩
    have hS := hS2; clear hP2 hD2 hS2; have hP := hPD.1; have hD := hPD.2; clear hPD
    refine W.widen (k := 0) (n := 0) (Nat.le_of_ble_eq_true rfl) (Nat.le_of_ble_eq_true rfl) ?_
    refine lv_if_eq (tgt := 74) hx hb dX7_number_42 (by decide) (fun cb_21 => ?_) (fun cb_21 => ?_)
    · skip
      have hq_22 : ¬ (48 ≤ y_19 ∧ y_19 ≤ 57) := b01_0.mp cb_21
      refine lv_aload_n hx hb dX7_number_74 rfl (lv_at hl 2 rfl) ?_
      refine ky_Vi (As := []) (rest := []) ⟨hx, hb, hml, hown, hts⟩ ⟨hK, hN⟩ hZ hP hD hS hA [0, 1] [] (wc := [(Mm, .inr (7, [.int zth, .ref Mt, .int (nI tp), .int (nI (max_2 + 1)), .int (-1), .ref Mrr, .ref Mrh, .ref Mrc, .int (nI rh), .int (nI rc), .ref Mn, .ref Mf, .ref Mr, .ref Mh, .int zhp, .int zcc, .ref Ma, .ref Mas, .ref Msn, .ref Mac, .ref Mat])), (Mt, .inl (g 0, 160, .inl fmt))]) (wr := []) rfl rfl rfl rfl (by decide) (k_X7_here l D g H.size Mm zth Mt tp (max_2 + 1) (-1) Mrr Mrh Mrc rh rc Mn Mf Mr Mh zhp zcc Ma Mas Msn Mac Mat fmt (show tp ≤ 160 by omega) (show (max_2 + 1) ≤ 1000 by omega)) (cwV 0 hts gX7_number_X7_here rfl rfl rfl (by decide +kernel) ⟨(Nat.le_of_ble_eq_true rfl), (Nat.le_of_ble_eq_true rfl)⟩) 0 7 rfl rfl rfl rfl hl.1 rfl (Nat.le_of_ble_eq_true rfl) dX7_number_75 ⟨(Nat.le_of_ble_eq_true rfl), (Nat.le_of_ble_eq_true rfl)⟩ (fun r_23 u H locs hw hP2 hD2 hS2 => ?_)
      clear hP hD hS
      obtain ⟨rfl, rfl⟩ := hw
      have hPD : PD D A [(Mm, .inr (7, [.int zth, .ref Mt, .int (nI tp), .int (nI (max_2 + 1)), .int (-1), .ref Mrr, .ref Mrh, .ref Mrc, .int (nI rh), .int (nI rc), .ref Mn, .ref Mf, .ref Mr, .ref Mh, .int zhp, .int zcc, .ref Ma, .ref Mas, .ref Msn, .ref Mac, .ref Mat])), (Mt, .inl (g 0, 160, .inl fmt))] H := ⟨hP2, hD2⟩
      have hS := hS2; clear hP2 hD2 hS2; have hP := hPD.1; have hD := hPD.2; clear hPD
      refine W.widen (k := 0) (n := 0) (Nat.le_of_ble_eq_true rfl) (Nat.le_of_ble_eq_true rfl) ?_
      refine lv_eqi (y := y_19) hey_19.symm ?_
      refine ky_Si (As := [.int y_19]) (rest := []) ⟨hx, hb, hml, hown, hts⟩ ⟨hK, hN⟩ hZ hP hD hS hA [] [0, 1] (wc := []) (wr := [(Mm, .inr (7, [.int zth, .ref Mt, .int (nI tp), .int (nI (max_2 + 1)), .int (-1), .ref Mrr, .ref Mrh, .ref Mrc, .int (nI rh), .int (nI rc), .ref Mn, .ref Mf, .ref Mr, .ref Mh, .int zhp, .int zcc, .ref Ma, .ref Mas, .ref Msn, .ref Mac, .ref Mat])), (Mt, .inl (g 0, 160, .inl fmt))]) rfl rfl rfl rfl (by decide) (k_X7_isDigit l D g H.size y_19) (va_cwS 1 hts gX7_number_X7_isDigit rfl rfl rfl (by decide +kernel) ⟨(Nat.le_of_ble_eq_true rfl), (Nat.le_of_ble_eq_true rfl)⟩) rfl hl.1 rfl (Nat.le_of_ble_eq_true rfl) dX7_number_78 ⟨(Nat.le_of_ble_eq_true rfl), (Nat.le_of_ble_eq_true rfl)⟩ (fun r_24 u H locs hw hP2 hD2 hS2 => ?_)
      clear hP hD hS
      obtain ⟨rfl, rfl⟩ := hw
      have hPD : PD D A [(Mm, .inr (7, [.int zth, .ref Mt, .int (nI tp), .int (nI (max_2 + 1)), .int (-1), .ref Mrr, .ref Mrh, .ref Mrc, .int (nI rh), .int (nI rc), .ref Mn, .ref Mf, .ref Mr, .ref Mh, .int zhp, .int zcc, .ref Ma, .ref Mas, .ref Msn, .ref Mac, .ref Mat])), (Mt, .inl (g 0, 160, .inl fmt))] H := ⟨hP2, hD2⟩
      have hS := hS2; clear hP2 hD2 hS2; have hP := hPD.1; have hD := hPD.2; clear hPD
      refine W.widen (k := 0) (n := 0) (Nat.le_of_ble_eq_true rfl) (Nat.le_of_ble_eq_true rfl) ?_
      refine lv_if_eq (tgt := 91) hx hb dX7_number_81 (by decide) (fun cb_25 => ?_) (fun cb_25 => ?_)
      · skip
        have hq_26 : ¬ (48 ≤ y_19 ∧ y_19 ≤ 57) := b01_0.mp cb_25
        refine lv_iload_n hx hb dX7_number_91 rfl (lv_at hl 1 rfl) ?_
        refine lv_iload_n hx hb dX7_number_92 rfl (lv_at hl 3 rfl) ?_
        refine lv_iload_n hx hb dX7_number_93 rfl (lv_at hl 4 rfl) ?_
        refine ky_Si (As := [.int (nI ((0 + j_10) - 48)), .int (nI lo), .int zhi]) (rest := []) ⟨hx, hb, hml, hown, hts⟩ ⟨hK, hN⟩ hZ hP hD hS hA [] [0, 1] (wc := []) (wr := [(Mm, .inr (7, [.int zth, .ref Mt, .int (nI tp), .int (nI (max_2 + 1)), .int (-1), .ref Mrr, .ref Mrh, .ref Mrc, .int (nI rh), .int (nI rc), .ref Mn, .ref Mf, .ref Mr, .ref Mh, .int zhp, .int zcc, .ref Ma, .ref Mas, .ref Msn, .ref Mac, .ref Mat])), (Mt, .inl (g 0, 160, .inl fmt))]) rfl rfl rfl rfl (by decide) (k_X7_in l D g H.size (nI ((0 + j_10) - 48)) (nI lo) zhi) (va_cwS 3 hts gX7_number_X7_in rfl rfl rfl (by decide +kernel) ⟨(Nat.le_of_ble_eq_true rfl), (Nat.le_of_ble_eq_true rfl)⟩) rfl hl.1 rfl (Nat.le_of_ble_eq_true rfl) dX7_number_94 ⟨(Nat.le_of_ble_eq_true rfl), (Nat.le_of_ble_eq_true rfl)⟩ (fun r_27 u H locs hw hP2 hD2 hS2 => ?_)
        clear hP hD hS
        obtain ⟨rfl, rfl⟩ := hw
        have hPD : PD D A [(Mm, .inr (7, [.int zth, .ref Mt, .int (nI tp), .int (nI (max_2 + 1)), .int (-1), .ref Mrr, .ref Mrh, .ref Mrc, .int (nI rh), .int (nI rc), .ref Mn, .ref Mf, .ref Mr, .ref Mh, .int zhp, .int zcc, .ref Ma, .ref Mas, .ref Msn, .ref Mac, .ref Mat])), (Mt, .inl (g 0, 160, .inl fmt))] H := ⟨hP2, hD2⟩
        have hS := hS2; clear hP2 hD2 hS2; have hP := hPD.1; have hD := hPD.2; clear hPD
        refine W.widen (k := 0) (n := 0) (Nat.le_of_ble_eq_true rfl) (Nat.le_of_ble_eq_true rfl) ?_
        refine lv_if_ne (tgt := 114) hx hb dX7_number_97 (by decide) (fun cb_28 => ?_) (fun cb_28 => ?_)
        · skip
          have hq_29 : (nI lo) ≤ (nI ((0 + j_10) - 48)) ∧ (nI ((0 + j_10) - 48)) ≤ zhi := b01_1.mp cb_28
          have hq_30 := hq_29.1; have hq_31 := hq_29.2
          refine lv_iload_n hx hb dX7_number_114 rfl (lv_at hl 1 rfl) ?_
          have hP9 := hP; have hD9 := hD
          subst hQ
          refine W.widen (k := 0) (n := 0) (Nat.le_of_ble_eq_true rfl) (Nat.le_of_ble_eq_true rfl) ?_
          exact W.iret (v := (nI ((0 + j_10) - 48))) hx hb hr (fun tS htS _ => ⟨⟨_, _, rfl, ⟨(max_2 + 1), (-1), (0 + j_10) - 48, rfl, rfl, ⟨(show (0 + j_10) - 48 ≤ 99 by omega), (show (max_2 + 1) ≤ tp by omega), (show ma ≤ (max_2 + 1) by omega), (by rw [nm_b hf_5 (pd_y hey_6.symm (by omega) (by omega)).1 (fun q => (pd_n hey_19.symm hq_26) q.1), (nm_1 hf_5 (pd_y hey_6.symm (by omega) (by omega)).1 (pd_n hey_19.symm hq_26)).1, (show nmV fmt tp ma = (nI ((0 + j_10) - 48)) from ((nm_1 hf_5 (pd_y hey_6.symm (by omega) (by omega)).1 (pd_n hey_19.symm hq_26)).2.trans (by rw [(pd_y hey_6.symm (by omega) (by omega)).2]; exact vN1 (by omega)))), if_neg (fun q => q.elim (fun q => absurd hq_29.1 (Int32.not_le.mpr q)) (fun q => absurd hq_29.2 (Int32.not_le.mpr q)))]), (fun _ => (nm_1 hf_5 (pd_y hey_6.symm (by omega) (by omega)).1 (pd_n hey_19.symm hq_26)).1.symm), (fun _ => (show nmV fmt tp ma = (nI ((0 + j_10) - 48)) from ((nm_1 hf_5 (pd_y hey_6.symm (by omega) (by omega)).1 (pd_n hey_19.symm hq_26)).2.trans (by rw [(pd_y hey_6.symm (by omega) (by omega)).2]; exact vN1 (by omega)))).symm)⟩⟩, by rw [htS]; exact hP9, hD9⟩, hS.F htS⟩) hS.2.2 dX7_number_115
        · skip
          have hq_32 : ¬ ((nI lo) ≤ (nI ((0 + j_10) - 48)) ∧ (nI ((0 + j_10) - 48)) ≤ zhi) := b01_0.mp cb_28
          refine lv_aload_n hx hb dX7_number_100 rfl (lv_at hl 2 rfl) ?_
          refine lv_dup hx hb dX7_number_101 rfl ?_
          refine va_get (D := D) (ci := 7) (v := .int (nI (max_2 + 1))) (C := RX7) (T := TX7) (N := 21) hx hb hts iX7 hown hK hP 0 rfl rfl 3 (by decide) f64 (fun _ h9 => h9) rfl dX7_number_102 ?_
          refine lv_iconst (v := 1) hx hb dX7_number_105 (by decide) ?_
          refine lv_isub hx hb dX7_number_106 ?_
          refine lv_eqi (y := (nI ((max_2 + 1) - 1))) (pk_sub (show 1 ≤ max_2 + 1 by omega)) ?_
          refine va_put (D := D) (ci := 7) (v := .int (nI ((max_2 + 1) - 1))) (ty := .int) (C := RX7) (T := TX7) (N := 21) hx hb hts iX7 tyX7 tyX7_ok nmX7 hown hK hP hD hS 0 rfl rfl 3 (by decide) f64 (fun _ h9 => h9) rfl (by decide +kernel) (rfl) (rfl) (Nat.le_of_ble_eq_true rfl) dX7_number_107 (fun H locs hP2 hD2 hS2 => ?_)
          clear hP hD hS
          have hPD : PD D A [(Mm, .inr (7, [.int zth, .ref Mt, .int (nI tp), .int (nI ((max_2 + 1) - 1)), .int (-1), .ref Mrr, .ref Mrh, .ref Mrc, .int (nI rh), .int (nI rc), .ref Mn, .ref Mf, .ref Mr, .ref Mh, .int zhp, .int zcc, .ref Ma, .ref Mas, .ref Msn, .ref Mac, .ref Mat])), (Mt, .inl (g 0, 160, .inl fmt))] H := ⟨hP2, hD2⟩
          have hS := hS2; clear hP2 hD2 hS2; have hP := hPD.1; have hD := hPD.2; clear hPD
          refine lv_aload_n hx hb dX7_number_110 rfl (lv_at hl 2 rfl) ?_
          refine ky_Vv (As := []) (rest := []) ⟨hx, hb, hml, hown, hts⟩ ⟨hK, hN⟩ hZ hP hD hS hA [0] [1] (wc := [(Mm, .inr (7, [.int zth, .ref Mt, .int (nI tp), .int (nI ((max_2 + 1) - 1)), .int (-1), .ref Mrr, .ref Mrh, .ref Mrc, .int (nI rh), .int (nI rc), .ref Mn, .ref Mf, .ref Mr, .ref Mh, .int zhp, .int zcc, .ref Ma, .ref Mas, .ref Msn, .ref Mac, .ref Mat]))]) (wr := [(Mt, .inl (g 0, 160, .inl fmt))]) rfl rfl rfl rfl (by decide) (r_X7_bad l D g H.size Mm zth Mt tp ((max_2 + 1) - 1) Mrr Mrh Mrc rh rc Mn Mf Mr Mh zhp zcc Ma Mas Msn Mac Mat) (cwV 0 hts gX7_number_X7_bad rfl rfl rfl (by decide +kernel) ⟨(Nat.le_of_ble_eq_true rfl), (Nat.le_of_ble_eq_true rfl)⟩) 0 7 rfl rfl rfl rfl hl.1 rfl (Nat.le_of_ble_eq_true rfl) dX7_number_111 ⟨(Nat.le_of_ble_eq_true rfl), (Nat.le_of_ble_eq_true rfl)⟩ (fun u H locs hw hP2 hD2 hS2 => ?_)
          clear hP hD hS
          obtain rfl := hw
          have hPD : PD D A [(Mt, .inl (g 0, 160, .inl fmt)), (Mm, .inr (7, [.int zth, .ref Mt, .int (nI tp), .int (nI ((max_2 + 1) - 1)), .int (nI ((max_2 + 1) - 1)), .ref Mrr, .ref Mrh, .ref Mrc, .int (nI rh), .int (nI rc), .ref Mn, .ref Mf, .ref Mr, .ref Mh, .int zhp, .int zcc, .ref Ma, .ref Mas, .ref Msn, .ref Mac, .ref Mat]))] H := ⟨hP2, hD2⟩
          have hS := hS2; clear hP2 hD2 hS2; have hP := hPD.1; have hD := hPD.2; clear hPD
          refine W.widen (k := 0) (n := 0) (Nat.le_of_ble_eq_true rfl) (Nat.le_of_ble_eq_true rfl) ?_
          refine lv_iload_n hx hb dX7_number_114 rfl (lv_at hl 1 rfl) ?_
          have hPD9 : PD D A [(Mm, .inr (7, [.int zth, .ref Mt, .int (nI tp), .int (nI ((max_2 + 1) - 1)), .int (nI ((max_2 + 1) - 1)), .ref Mrr, .ref Mrh, .ref Mrc, .int (nI rh), .int (nI rc), .ref Mn, .ref Mf, .ref Mr, .ref Mh, .int zhp, .int zcc, .ref Ma, .ref Mas, .ref Msn, .ref Mac, .ref Mat])), (Mt, .inl (g 0, 160, .inl fmt))] H := ⟨hP.sub [1, 0] rfl, hD.sub [1, 0] (by decide) rfl⟩
          have hP9 := hPD9.1; have hD9 := hPD9.2
          subst hQ
          refine W.widen (k := 0) (n := 0) (Nat.le_of_ble_eq_true rfl) (Nat.le_of_ble_eq_true rfl) ?_
          exact W.iret (v := (nI ((0 + j_10) - 48))) hx hb hr (fun tS htS _ => ⟨⟨_, _, rfl, ⟨((max_2 + 1) - 1), (nI ((max_2 + 1) - 1)), (0 + j_10) - 48, rfl, rfl, ⟨(show (0 + j_10) - 48 ≤ 99 by omega), (show ((max_2 + 1) - 1) ≤ tp by omega), (show ma ≤ ((max_2 + 1) - 1) by omega), (by rw [nm_b hf_5 (pd_y hey_6.symm (by omega) (by omega)).1 (fun q => (pd_n hey_19.symm hq_26) q.1), (nm_1 hf_5 (pd_y hey_6.symm (by omega) (by omega)).1 (pd_n hey_19.symm hq_26)).1, (show nmV fmt tp ma = (nI ((0 + j_10) - 48)) from ((nm_1 hf_5 (pd_y hey_6.symm (by omega) (by omega)).1 (pd_n hey_19.symm hq_26)).2.trans (by rw [(pd_y hey_6.symm (by omega) (by omega)).2]; exact vN1 (by omega)))), if_pos (Classical.byContradiction (fun q => hq_32 ⟨Int32.not_lt.mp (fun z => q (Or.inl z)), Int32.not_lt.mp (fun z => q (Or.inr z))⟩))]), (fun q => absurd q (m1_ne (show (max_2 + 1) - 1 < 2 ^ 31 by omega))), (fun q => absurd q (m1_ne (show (max_2 + 1) - 1 < 2 ^ 31 by omega)))⟩⟩, by rw [htS]; exact hP9, hD9⟩, hS.F htS⟩) hS.2.2 dX7_number_115
      · skip
        have hq_34 : 48 ≤ y_19 ∧ y_19 ≤ 57 := b01_1.mp cb_25
        have hPq_38 := hP; have hDq_38 := hD; have hSq_38 := hS; have hlq_38 := hl; clear hP hD hS hl
        obtain ⟨j_35, hl_36, hu_37, rfl⟩ := rg (L := 48) (U := 57) rfl rfl (show 48 < 2 ^ 31 by omega) (show 57 < 2 ^ 31 by omega) hq_34
        have hP := hPq_38; have hD := hDq_38; have hS := hSq_38; have hl := hlq_38; clear hPq_38 hDq_38 hSq_38 hlq_38
        have hlt_39 : (max_2 + 1) < tp := (fun q9 => here_lt hey_19 q9) (m1_ne (show j_35 < 2 ^ 31 by omega))
        refine lv_aload_n hx hb dX7_number_84 rfl (lv_at hl 2 rfl) ?_
        refine ky_Vv (As := []) (rest := []) ⟨hx, hb, hml, hown, hts⟩ ⟨hK, hN⟩ hZ hP hD hS hA [0] [1] (wc := [(Mm, .inr (7, [.int zth, .ref Mt, .int (nI tp), .int (nI (max_2 + 1)), .int (-1), .ref Mrr, .ref Mrh, .ref Mrc, .int (nI rh), .int (nI rc), .ref Mn, .ref Mf, .ref Mr, .ref Mh, .int zhp, .int zcc, .ref Ma, .ref Mas, .ref Msn, .ref Mac, .ref Mat]))]) (wr := [(Mt, .inl (g 0, 160, .inl fmt))]) rfl rfl rfl rfl (by decide) (r_X7_bad l D g H.size Mm zth Mt tp (max_2 + 1) Mrr Mrh Mrc rh rc Mn Mf Mr Mh zhp zcc Ma Mas Msn Mac Mat) (cwV 0 hts gX7_number_X7_bad rfl rfl rfl (by decide +kernel) ⟨(Nat.le_of_ble_eq_true rfl), (Nat.le_of_ble_eq_true rfl)⟩) 0 7 rfl rfl rfl rfl hl.1 rfl (Nat.le_of_ble_eq_true rfl) dX7_number_85 ⟨(Nat.le_of_ble_eq_true rfl), (Nat.le_of_ble_eq_true rfl)⟩ (fun u H locs hw hP2 hD2 hS2 => ?_)
        clear hP hD hS
        obtain rfl := hw
        have hPD : PD D A [(Mt, .inl (g 0, 160, .inl fmt)), (Mm, .inr (7, [.int zth, .ref Mt, .int (nI tp), .int (nI (max_2 + 1)), .int (nI (max_2 + 1)), .ref Mrr, .ref Mrh, .ref Mrc, .int (nI rh), .int (nI rc), .ref Mn, .ref Mf, .ref Mr, .ref Mh, .int zhp, .int zcc, .ref Ma, .ref Mas, .ref Msn, .ref Mac, .ref Mat]))] H := ⟨hP2, hD2⟩
        have hS := hS2; clear hP2 hD2 hS2; have hP := hPD.1; have hD := hPD.2; clear hPD
        refine W.widen (k := 0) (n := 0) (Nat.le_of_ble_eq_true rfl) (Nat.le_of_ble_eq_true rfl) ?_
        refine lv_goto (tgt := 114) hx hb dX7_number_88 (by decide) ?_
        refine lv_iload_n hx hb dX7_number_114 rfl (lv_at hl 1 rfl) ?_
        have hPD9 : PD D A [(Mm, .inr (7, [.int zth, .ref Mt, .int (nI tp), .int (nI (max_2 + 1)), .int (nI (max_2 + 1)), .ref Mrr, .ref Mrh, .ref Mrc, .int (nI rh), .int (nI rc), .ref Mn, .ref Mf, .ref Mr, .ref Mh, .int zhp, .int zcc, .ref Ma, .ref Mas, .ref Msn, .ref Mac, .ref Mat])), (Mt, .inl (g 0, 160, .inl fmt))] H := ⟨hP.sub [1, 0] rfl, hD.sub [1, 0] (by decide) rfl⟩
        have hP9 := hPD9.1; have hD9 := hPD9.2
        subst hQ
        refine W.widen (k := 0) (n := 0) (Nat.le_of_ble_eq_true rfl) (Nat.le_of_ble_eq_true rfl) ?_
        exact W.iret (v := (nI ((0 + j_10) - 48))) hx hb hr (fun tS htS _ => ⟨⟨_, _, rfl, ⟨(max_2 + 1), (nI (max_2 + 1)), (0 + j_10) - 48, rfl, rfl, ⟨(show (0 + j_10) - 48 ≤ 99 by omega), (show (max_2 + 1) ≤ tp by omega), (show ma ≤ (max_2 + 1) by omega), (absurd hq_34 hq_22), (absurd hq_34 hq_22), (absurd hq_34 hq_22)⟩⟩, by rw [htS]; exact hP9, hD9⟩, hS.F htS⟩) hS.2.2 dX7_number_115
    · skip
      have hq_41 : 48 ≤ y_19 ∧ y_19 ≤ 57 := b01_1.mp cb_21
      have hPq_45 := hP; have hDq_45 := hD; have hSq_45 := hS; have hlq_45 := hl; clear hP hD hS hl
      obtain ⟨j_42, hl_43, hu_44, rfl⟩ := rg (L := 48) (U := 57) rfl rfl (show 48 < 2 ^ 31 by omega) (show 57 < 2 ^ 31 by omega) hq_41
      have hP := hPq_45; have hD := hDq_45; have hS := hSq_45; have hl := hlq_45; clear hPq_45 hDq_45 hSq_45 hlq_45
      have hlt_46 : (max_2 + 1) < tp := (fun q9 => here_lt hey_19 q9) (m1_ne (show j_42 < 2 ^ 31 by omega))
      refine lv_bipush (v := 10) hx hb dX7_number_45 (by decide) ?_
      refine lv_iload_n hx hb dX7_number_47 rfl (lv_at hl 1 rfl) ?_
      refine lv_imul hx hb dX7_number_48 ?_
      refine lv_eqi (y := (nI (10 * ((0 + j_10) - 48)))) (pk_mul (10) ((0 + j_10) - 48)) ?_
      refine lv_aload_n hx hb dX7_number_49 rfl (lv_at hl 2 rfl) ?_
      refine ky_Vi (As := []) (rest := [.int (nI (10 * ((0 + j_10) - 48)))]) ⟨hx, hb, hml, hown, hts⟩ ⟨hK, hN⟩ hZ hP hD hS hA [0, 1] [] (wc := [(Mm, .inr (7, [.int zth, .ref Mt, .int (nI tp), .int (nI (max_2 + 1)), .int (-1), .ref Mrr, .ref Mrh, .ref Mrc, .int (nI rh), .int (nI rc), .ref Mn, .ref Mf, .ref Mr, .ref Mh, .int zhp, .int zcc, .ref Ma, .ref Mas, .ref Msn, .ref Mac, .ref Mat])), (Mt, .inl (g 0, 160, .inl fmt))]) (wr := []) rfl rfl rfl rfl (by decide) (k_X7_here l D g H.size Mm zth Mt tp (max_2 + 1) (-1) Mrr Mrh Mrc rh rc Mn Mf Mr Mh zhp zcc Ma Mas Msn Mac Mat fmt (show tp ≤ 160 by omega) (show (max_2 + 1) ≤ 1000 by omega)) (cwV 0 hts gX7_number_X7_here rfl rfl rfl (by decide +kernel) ⟨(Nat.le_of_ble_eq_true rfl), (Nat.le_of_ble_eq_true rfl)⟩) 0 7 rfl rfl rfl rfl hl.1 rfl (Nat.le_of_ble_eq_true rfl) dX7_number_50 ⟨(Nat.le_of_ble_eq_true rfl), (Nat.le_of_ble_eq_true rfl)⟩ (fun r_47 u H locs hw hP2 hD2 hS2 => ?_)
      clear hP hD hS
      obtain ⟨rfl, rfl⟩ := hw
      have hPD : PD D A [(Mm, .inr (7, [.int zth, .ref Mt, .int (nI tp), .int (nI (max_2 + 1)), .int (-1), .ref Mrr, .ref Mrh, .ref Mrc, .int (nI rh), .int (nI rc), .ref Mn, .ref Mf, .ref Mr, .ref Mh, .int zhp, .int zcc, .ref Ma, .ref Mas, .ref Msn, .ref Mac, .ref Mat])), (Mt, .inl (g 0, 160, .inl fmt))] H := ⟨hP2, hD2⟩
      have hS := hS2; clear hP2 hD2 hS2; have hP := hPD.1; have hD := hPD.2; clear hPD
      refine W.widen (k := 0) (n := 0) (Nat.le_of_ble_eq_true rfl) (Nat.le_of_ble_eq_true rfl) ?_
      refine lv_eqi (y := (nI j_42)) hey_19.symm ?_
      refine lv_iadd hx hb dX7_number_53 ?_
      refine lv_eqi (y := (nI (10 * ((0 + j_10) - 48) + j_42))) (nI_add (10 * ((0 + j_10) - 48)) (j_42)) ?_
      refine lv_bipush (v := 48) hx hb dX7_number_54 (by decide) ?_
      refine lv_isub hx hb dX7_number_56 ?_
      refine lv_eqi (y := (nI ((10 * ((0 + j_10) - 48) + j_42) - 48))) (pk_sub (show 48 ≤ 10 * ((0 + j_10) - 48) + j_42 by omega)) ?_
      refine lv_istore_n (lv' := [(3, .int (nI ((10 * ((0 + j_10) - 48) + j_42) - 48))), (4, .int 1), (0, .ref Mm), (1, .int (nI lo)), (2, .int zhi)]) hx hb dX7_number_57 rfl hl (by decide) rfl (fun ls hl => ?_)
      refine lv_aload_n hx hb dX7_number_58 rfl (lv_at hl 2 rfl) ?_
      refine lv_dup hx hb dX7_number_59 rfl ?_
      refine va_get (D := D) (ci := 7) (v := .int (nI (max_2 + 1))) (C := RX7) (T := TX7) (N := 21) hx hb hts iX7 hown hK hP 0 rfl rfl 3 (by decide) f64 (fun _ h9 => h9) rfl dX7_number_60 ?_
      refine lv_iconst (v := 1) hx hb dX7_number_63 (by decide) ?_
      refine lv_iadd hx hb dX7_number_64 ?_
      refine lv_eqi (y := (nI (max_2 + 1 + 1))) (nI_add (max_2 + 1) (1)) ?_
      refine va_put (D := D) (ci := 7) (v := .int (nI (max_2 + 1 + 1))) (ty := .int) (C := RX7) (T := TX7) (N := 21) hx hb hts iX7 tyX7 tyX7_ok nmX7 hown hK hP hD hS 0 rfl rfl 3 (by decide) f64 (fun _ h9 => h9) rfl (by decide +kernel) (rfl) (rfl) (Nat.le_of_ble_eq_true rfl) dX7_number_65 (fun H locs hP2 hD2 hS2 => ?_)
      clear hP hD hS
      have hPD : PD D A [(Mm, .inr (7, [.int zth, .ref Mt, .int (nI tp), .int (nI (max_2 + 1 + 1)), .int (-1), .ref Mrr, .ref Mrh, .ref Mrc, .int (nI rh), .int (nI rc), .ref Mn, .ref Mf, .ref Mr, .ref Mh, .int zhp, .int zcc, .ref Ma, .ref Mas, .ref Msn, .ref Mac, .ref Mat])), (Mt, .inl (g 0, 160, .inl fmt))] H := ⟨hP2, hD2⟩
      have hS := hS2; clear hP2 hD2 hS2; have hP := hPD.1; have hD := hPD.2; clear hPD
      refine lv_iinc (v := 2) (lv' := [(4, .int 2), (3, .int (nI ((10 * ((0 + j_10) - 48) + j_42) - 48))), (0, .ref Mm), (1, .int (nI lo)), (2, .int zhi)]) hx hb dX7_number_68 hl (k := 1) rfl (by decide) (by decide) rfl (fun ls hl => ?_)
      refine lv_goto (tgt := 29) hx hb dX7_number_71 (by decide) ?_
      refine lv_iload hx hb dX7_number_29 (lv_at hl 0 rfl) ?_
      refine lv_iconst (v := 2) hx hb dX7_number_31 (by decide) ?_
      refine lv_icmp_ge (tgt := 74) hx hb dX7_number_32 (by decide) (fun _ => ?_) (fun cb => absurd (by decide) cb)
      refine lv_aload_n hx hb dX7_number_74 rfl (lv_at hl 2 rfl) ?_
      refine ky_Vi (As := []) (rest := []) ⟨hx, hb, hml, hown, hts⟩ ⟨hK, hN⟩ hZ hP hD hS hA [0, 1] [] (wc := [(Mm, .inr (7, [.int zth, .ref Mt, .int (nI tp), .int (nI (max_2 + 1 + 1)), .int (-1), .ref Mrr, .ref Mrh, .ref Mrc, .int (nI rh), .int (nI rc), .ref Mn, .ref Mf, .ref Mr, .ref Mh, .int zhp, .int zcc, .ref Ma, .ref Mas, .ref Msn, .ref Mac, .ref Mat])), (Mt, .inl (g 0, 160, .inl fmt))]) (wr := []) rfl rfl rfl rfl (by decide) (k_X7_here l D g H.size Mm zth Mt tp (max_2 + 1 + 1) (-1) Mrr Mrh Mrc rh rc Mn Mf Mr Mh zhp zcc Ma Mas Msn Mac Mat fmt (show tp ≤ 160 by omega) (show (max_2 + 1 + 1) ≤ 1000 by omega)) (cwV 0 hts gX7_number_X7_here rfl rfl rfl (by decide +kernel) ⟨(Nat.le_of_ble_eq_true rfl), (Nat.le_of_ble_eq_true rfl)⟩) 0 7 rfl rfl rfl rfl hl.1 rfl (Nat.le_of_ble_eq_true rfl) dX7_number_75 ⟨(Nat.le_of_ble_eq_true rfl), (Nat.le_of_ble_eq_true rfl)⟩ (fun r_48 u H locs hw hP2 hD2 hS2 => ?_)
      clear hP hD hS
      obtain ⟨rfl, rfl⟩ := hw
      have hPD : PD D A [(Mm, .inr (7, [.int zth, .ref Mt, .int (nI tp), .int (nI (max_2 + 1 + 1)), .int (-1), .ref Mrr, .ref Mrh, .ref Mrc, .int (nI rh), .int (nI rc), .ref Mn, .ref Mf, .ref Mr, .ref Mh, .int zhp, .int zcc, .ref Ma, .ref Mas, .ref Msn, .ref Mac, .ref Mat])), (Mt, .inl (g 0, 160, .inl fmt))] H := ⟨hP2, hD2⟩
      have hS := hS2; clear hP2 hD2 hS2; have hP := hPD.1; have hD := hPD.2; clear hPD
      refine W.widen (k := 0) (n := 0) (Nat.le_of_ble_eq_true rfl) (Nat.le_of_ble_eq_true rfl) ?_
      refine lv_topi (fun y_49 hey_49 => ?_)
      refine ky_Si (As := [.int y_49]) (rest := []) ⟨hx, hb, hml, hown, hts⟩ ⟨hK, hN⟩ hZ hP hD hS hA [] [0, 1] (wc := []) (wr := [(Mm, .inr (7, [.int zth, .ref Mt, .int (nI tp), .int (nI (max_2 + 1 + 1)), .int (-1), .ref Mrr, .ref Mrh, .ref Mrc, .int (nI rh), .int (nI rc), .ref Mn, .ref Mf, .ref Mr, .ref Mh, .int zhp, .int zcc, .ref Ma, .ref Mas, .ref Msn, .ref Mac, .ref Mat])), (Mt, .inl (g 0, 160, .inl fmt))]) rfl rfl rfl rfl (by decide) (k_X7_isDigit l D g H.size y_49) (va_cwS 1 hts gX7_number_X7_isDigit rfl rfl rfl (by decide +kernel) ⟨(Nat.le_of_ble_eq_true rfl), (Nat.le_of_ble_eq_true rfl)⟩) rfl hl.1 rfl (Nat.le_of_ble_eq_true rfl) dX7_number_78 ⟨(Nat.le_of_ble_eq_true rfl), (Nat.le_of_ble_eq_true rfl)⟩ (fun r_50 u H locs hw hP2 hD2 hS2 => ?_)
      clear hP hD hS
      obtain ⟨rfl, rfl⟩ := hw
      have hPD : PD D A [(Mm, .inr (7, [.int zth, .ref Mt, .int (nI tp), .int (nI (max_2 + 1 + 1)), .int (-1), .ref Mrr, .ref Mrh, .ref Mrc, .int (nI rh), .int (nI rc), .ref Mn, .ref Mf, .ref Mr, .ref Mh, .int zhp, .int zcc, .ref Ma, .ref Mas, .ref Msn, .ref Mac, .ref Mat])), (Mt, .inl (g 0, 160, .inl fmt))] H := ⟨hP2, hD2⟩
      have hS := hS2; clear hP2 hD2 hS2; have hP := hPD.1; have hD := hPD.2; clear hPD
      refine W.widen (k := 0) (n := 0) (Nat.le_of_ble_eq_true rfl) (Nat.le_of_ble_eq_true rfl) ?_
      refine lv_if_eq (tgt := 91) hx hb dX7_number_81 (by decide) (fun cb_51 => ?_) (fun cb_51 => ?_)
      · skip
        have hq_52 : ¬ (48 ≤ y_49 ∧ y_49 ≤ 57) := b01_0.mp cb_51
        refine lv_iload_n hx hb dX7_number_91 rfl (lv_at hl 1 rfl) ?_
        refine lv_iload_n hx hb dX7_number_92 rfl (lv_at hl 3 rfl) ?_
        refine lv_iload_n hx hb dX7_number_93 rfl (lv_at hl 4 rfl) ?_
        refine ky_Si (As := [.int (nI ((10 * ((0 + j_10) - 48) + j_42) - 48)), .int (nI lo), .int zhi]) (rest := []) ⟨hx, hb, hml, hown, hts⟩ ⟨hK, hN⟩ hZ hP hD hS hA [] [0, 1] (wc := []) (wr := [(Mm, .inr (7, [.int zth, .ref Mt, .int (nI tp), .int (nI (max_2 + 1 + 1)), .int (-1), .ref Mrr, .ref Mrh, .ref Mrc, .int (nI rh), .int (nI rc), .ref Mn, .ref Mf, .ref Mr, .ref Mh, .int zhp, .int zcc, .ref Ma, .ref Mas, .ref Msn, .ref Mac, .ref Mat])), (Mt, .inl (g 0, 160, .inl fmt))]) rfl rfl rfl rfl (by decide) (k_X7_in l D g H.size (nI ((10 * ((0 + j_10) - 48) + j_42) - 48)) (nI lo) zhi) (va_cwS 3 hts gX7_number_X7_in rfl rfl rfl (by decide +kernel) ⟨(Nat.le_of_ble_eq_true rfl), (Nat.le_of_ble_eq_true rfl)⟩) rfl hl.1 rfl (Nat.le_of_ble_eq_true rfl) dX7_number_94 ⟨(Nat.le_of_ble_eq_true rfl), (Nat.le_of_ble_eq_true rfl)⟩ (fun r_53 u H locs hw hP2 hD2 hS2 => ?_)
        clear hP hD hS
        obtain ⟨rfl, rfl⟩ := hw
        have hPD : PD D A [(Mm, .inr (7, [.int zth, .ref Mt, .int (nI tp), .int (nI (max_2 + 1 + 1)), .int (-1), .ref Mrr, .ref Mrh, .ref Mrc, .int (nI rh), .int (nI rc), .ref Mn, .ref Mf, .ref Mr, .ref Mh, .int zhp, .int zcc, .ref Ma, .ref Mas, .ref Msn, .ref Mac, .ref Mat])), (Mt, .inl (g 0, 160, .inl fmt))] H := ⟨hP2, hD2⟩
        have hS := hS2; clear hP2 hD2 hS2; have hP := hPD.1; have hD := hPD.2; clear hPD
        refine W.widen (k := 0) (n := 0) (Nat.le_of_ble_eq_true rfl) (Nat.le_of_ble_eq_true rfl) ?_
        refine lv_if_ne (tgt := 114) hx hb dX7_number_97 (by decide) (fun cb_54 => ?_) (fun cb_54 => ?_)
        · skip
          have hq_55 : (nI lo) ≤ (nI ((10 * ((0 + j_10) - 48) + j_42) - 48)) ∧ (nI ((10 * ((0 + j_10) - 48) + j_42) - 48)) ≤ zhi := b01_1.mp cb_54
          have hq_56 := hq_55.1; have hq_57 := hq_55.2
          refine lv_iload_n hx hb dX7_number_114 rfl (lv_at hl 1 rfl) ?_
          have hP9 := hP; have hD9 := hD
          subst hQ
          refine W.widen (k := 0) (n := 0) (Nat.le_of_ble_eq_true rfl) (Nat.le_of_ble_eq_true rfl) ?_
          exact W.iret (v := (nI ((10 * ((0 + j_10) - 48) + j_42) - 48))) hx hb hr (fun tS htS _ => ⟨⟨_, _, rfl, ⟨(max_2 + 1 + 1), (-1), (10 * ((0 + j_10) - 48) + j_42) - 48, rfl, rfl, ⟨(show (10 * ((0 + j_10) - 48) + j_42) - 48 ≤ 99 by omega), (show (max_2 + 1 + 1) ≤ tp by omega), (show ma ≤ (max_2 + 1 + 1) by omega), (by rw [nm_b hf_5 (pd_y hey_6.symm (by omega) (by omega)).1 (fun q => (pd_n hey_49.symm hq_52) q.2), (nm_2 hf_5 (pd_y hey_6.symm (by omega) (by omega)).1 (pd_y hey_19.symm (by omega) (by omega)).1).1, (show nmV fmt tp ma = (nI ((10 * ((0 + j_10) - 48) + j_42) - 48)) from ((nm_2 hf_5 (pd_y hey_6.symm (by omega) (by omega)).1 (pd_y hey_19.symm (by omega) (by omega)).1).2.trans (by rw [(pd_y hey_6.symm (by omega) (by omega)).2, (pd_y hey_19.symm (by omega) (by omega)).2]; exact vN2 (by omega) (by omega)))), if_neg (fun q => q.elim (fun q => absurd hq_55.1 (Int32.not_le.mpr q)) (fun q => absurd hq_55.2 (Int32.not_le.mpr q)))]), (fun _ => (nm_2 hf_5 (pd_y hey_6.symm (by omega) (by omega)).1 (pd_y hey_19.symm (by omega) (by omega)).1).1.symm), (fun _ => (show nmV fmt tp ma = (nI ((10 * ((0 + j_10) - 48) + j_42) - 48)) from ((nm_2 hf_5 (pd_y hey_6.symm (by omega) (by omega)).1 (pd_y hey_19.symm (by omega) (by omega)).1).2.trans (by rw [(pd_y hey_6.symm (by omega) (by omega)).2, (pd_y hey_19.symm (by omega) (by omega)).2]; exact vN2 (by omega) (by omega)))).symm)⟩⟩, by rw [htS]; exact hP9, hD9⟩, hS.F htS⟩) hS.2.2 dX7_number_115
        · skip
          have hq_58 : ¬ ((nI lo) ≤ (nI ((10 * ((0 + j_10) - 48) + j_42) - 48)) ∧ (nI ((10 * ((0 + j_10) - 48) + j_42) - 48)) ≤ zhi) := b01_0.mp cb_54
          refine lv_aload_n hx hb dX7_number_100 rfl (lv_at hl 2 rfl) ?_
          refine lv_dup hx hb dX7_number_101 rfl ?_
          refine va_get (D := D) (ci := 7) (v := .int (nI (max_2 + 1 + 1))) (C := RX7) (T := TX7) (N := 21) hx hb hts iX7 hown hK hP 0 rfl rfl 3 (by decide) f64 (fun _ h9 => h9) rfl dX7_number_102 ?_
          refine lv_iconst (v := 1) hx hb dX7_number_105 (by decide) ?_
          refine lv_isub hx hb dX7_number_106 ?_
          refine lv_eqi (y := (nI ((max_2 + 1 + 1) - 1))) (pk_sub (show 1 ≤ max_2 + 1 + 1 by omega)) ?_
          refine va_put (D := D) (ci := 7) (v := .int (nI ((max_2 + 1 + 1) - 1))) (ty := .int) (C := RX7) (T := TX7) (N := 21) hx hb hts iX7 tyX7 tyX7_ok nmX7 hown hK hP hD hS 0 rfl rfl 3 (by decide) f64 (fun _ h9 => h9) rfl (by decide +kernel) (rfl) (rfl) (Nat.le_of_ble_eq_true rfl) dX7_number_107 (fun H locs hP2 hD2 hS2 => ?_)
          clear hP hD hS
          have hPD : PD D A [(Mm, .inr (7, [.int zth, .ref Mt, .int (nI tp), .int (nI ((max_2 + 1 + 1) - 1)), .int (-1), .ref Mrr, .ref Mrh, .ref Mrc, .int (nI rh), .int (nI rc), .ref Mn, .ref Mf, .ref Mr, .ref Mh, .int zhp, .int zcc, .ref Ma, .ref Mas, .ref Msn, .ref Mac, .ref Mat])), (Mt, .inl (g 0, 160, .inl fmt))] H := ⟨hP2, hD2⟩
          have hS := hS2; clear hP2 hD2 hS2; have hP := hPD.1; have hD := hPD.2; clear hPD
          refine lv_aload_n hx hb dX7_number_110 rfl (lv_at hl 2 rfl) ?_
          refine ky_Vv (As := []) (rest := []) ⟨hx, hb, hml, hown, hts⟩ ⟨hK, hN⟩ hZ hP hD hS hA [0] [1] (wc := [(Mm, .inr (7, [.int zth, .ref Mt, .int (nI tp), .int (nI ((max_2 + 1 + 1) - 1)), .int (-1), .ref Mrr, .ref Mrh, .ref Mrc, .int (nI rh), .int (nI rc), .ref Mn, .ref Mf, .ref Mr, .ref Mh, .int zhp, .int zcc, .ref Ma, .ref Mas, .ref Msn, .ref Mac, .ref Mat]))]) (wr := [(Mt, .inl (g 0, 160, .inl fmt))]) rfl rfl rfl rfl (by decide) (r_X7_bad l D g H.size Mm zth Mt tp ((max_2 + 1 + 1) - 1) Mrr Mrh Mrc rh rc Mn Mf Mr Mh zhp zcc Ma Mas Msn Mac Mat) (cwV 0 hts gX7_number_X7_bad rfl rfl rfl (by decide +kernel) ⟨(Nat.le_of_ble_eq_true rfl), (Nat.le_of_ble_eq_true rfl)⟩) 0 7 rfl rfl rfl rfl hl.1 rfl (Nat.le_of_ble_eq_true rfl) dX7_number_111 ⟨(Nat.le_of_ble_eq_true rfl), (Nat.le_of_ble_eq_true rfl)⟩ (fun u H locs hw hP2 hD2 hS2 => ?_)
          clear hP hD hS
          obtain rfl := hw
          have hPD : PD D A [(Mt, .inl (g 0, 160, .inl fmt)), (Mm, .inr (7, [.int zth, .ref Mt, .int (nI tp), .int (nI ((max_2 + 1 + 1) - 1)), .int (nI ((max_2 + 1 + 1) - 1)), .ref Mrr, .ref Mrh, .ref Mrc, .int (nI rh), .int (nI rc), .ref Mn, .ref Mf, .ref Mr, .ref Mh, .int zhp, .int zcc, .ref Ma, .ref Mas, .ref Msn, .ref Mac, .ref Mat]))] H := ⟨hP2, hD2⟩
          have hS := hS2; clear hP2 hD2 hS2; have hP := hPD.1; have hD := hPD.2; clear hPD
          refine W.widen (k := 0) (n := 0) (Nat.le_of_ble_eq_true rfl) (Nat.le_of_ble_eq_true rfl) ?_
          refine lv_iload_n hx hb dX7_number_114 rfl (lv_at hl 1 rfl) ?_
          have hPD9 : PD D A [(Mm, .inr (7, [.int zth, .ref Mt, .int (nI tp), .int (nI ((max_2 + 1 + 1) - 1)), .int (nI ((max_2 + 1 + 1) - 1)), .ref Mrr, .ref Mrh, .ref Mrc, .int (nI rh), .int (nI rc), .ref Mn, .ref Mf, .ref Mr, .ref Mh, .int zhp, .int zcc, .ref Ma, .ref Mas, .ref Msn, .ref Mac, .ref Mat])), (Mt, .inl (g 0, 160, .inl fmt))] H := ⟨hP.sub [1, 0] rfl, hD.sub [1, 0] (by decide) rfl⟩
          have hP9 := hPD9.1; have hD9 := hPD9.2
          subst hQ
          refine W.widen (k := 0) (n := 0) (Nat.le_of_ble_eq_true rfl) (Nat.le_of_ble_eq_true rfl) ?_
          exact W.iret (v := (nI ((10 * ((0 + j_10) - 48) + j_42) - 48))) hx hb hr (fun tS htS _ => ⟨⟨_, _, rfl, ⟨((max_2 + 1 + 1) - 1), (nI ((max_2 + 1 + 1) - 1)), (10 * ((0 + j_10) - 48) + j_42) - 48, rfl, rfl, ⟨(show (10 * ((0 + j_10) - 48) + j_42) - 48 ≤ 99 by omega), (show ((max_2 + 1 + 1) - 1) ≤ tp by omega), (show ma ≤ ((max_2 + 1 + 1) - 1) by omega), (by rw [nm_b hf_5 (pd_y hey_6.symm (by omega) (by omega)).1 (fun q => (pd_n hey_49.symm hq_52) q.2), (nm_2 hf_5 (pd_y hey_6.symm (by omega) (by omega)).1 (pd_y hey_19.symm (by omega) (by omega)).1).1, (show nmV fmt tp ma = (nI ((10 * ((0 + j_10) - 48) + j_42) - 48)) from ((nm_2 hf_5 (pd_y hey_6.symm (by omega) (by omega)).1 (pd_y hey_19.symm (by omega) (by omega)).1).2.trans (by rw [(pd_y hey_6.symm (by omega) (by omega)).2, (pd_y hey_19.symm (by omega) (by omega)).2]; exact vN2 (by omega) (by omega)))), if_pos (Classical.byContradiction (fun q => hq_58 ⟨Int32.not_lt.mp (fun z => q (Or.inl z)), Int32.not_lt.mp (fun z => q (Or.inr z))⟩))]), (fun q => absurd q (m1_ne (show (max_2 + 1 + 1) - 1 < 2 ^ 31 by omega))), (fun q => absurd q (m1_ne (show (max_2 + 1 + 1) - 1 < 2 ^ 31 by omega)))⟩⟩, by rw [htS]; exact hP9, hD9⟩, hS.F htS⟩) hS.2.2 dX7_number_115
      · skip
        have hq_60 : 48 ≤ y_49 ∧ y_49 ≤ 57 := b01_1.mp cb_51
        have hPq_64 := hP; have hDq_64 := hD; have hSq_64 := hS; have hlq_64 := hl; clear hP hD hS hl
        obtain ⟨j_61, hl_62, hu_63, rfl⟩ := rg (L := 48) (U := 57) rfl rfl (show 48 < 2 ^ 31 by omega) (show 57 < 2 ^ 31 by omega) hq_60
        have hP := hPq_64; have hD := hDq_64; have hS := hSq_64; have hl := hlq_64; clear hPq_64 hDq_64 hSq_64 hlq_64
        have hlt_65 : (max_2 + 1 + 1) < tp := (fun q9 => here_lt hey_49 q9) (m1_ne (show j_61 < 2 ^ 31 by omega))
        refine lv_aload_n hx hb dX7_number_84 rfl (lv_at hl 2 rfl) ?_
        refine ky_Vv (As := []) (rest := []) ⟨hx, hb, hml, hown, hts⟩ ⟨hK, hN⟩ hZ hP hD hS hA [0] [1] (wc := [(Mm, .inr (7, [.int zth, .ref Mt, .int (nI tp), .int (nI (max_2 + 1 + 1)), .int (-1), .ref Mrr, .ref Mrh, .ref Mrc, .int (nI rh), .int (nI rc), .ref Mn, .ref Mf, .ref Mr, .ref Mh, .int zhp, .int zcc, .ref Ma, .ref Mas, .ref Msn, .ref Mac, .ref Mat]))]) (wr := [(Mt, .inl (g 0, 160, .inl fmt))]) rfl rfl rfl rfl (by decide) (r_X7_bad l D g H.size Mm zth Mt tp (max_2 + 1 + 1) Mrr Mrh Mrc rh rc Mn Mf Mr Mh zhp zcc Ma Mas Msn Mac Mat) (cwV 0 hts gX7_number_X7_bad rfl rfl rfl (by decide +kernel) ⟨(Nat.le_of_ble_eq_true rfl), (Nat.le_of_ble_eq_true rfl)⟩) 0 7 rfl rfl rfl rfl hl.1 rfl (Nat.le_of_ble_eq_true rfl) dX7_number_85 ⟨(Nat.le_of_ble_eq_true rfl), (Nat.le_of_ble_eq_true rfl)⟩ (fun u H locs hw hP2 hD2 hS2 => ?_)
        clear hP hD hS
        obtain rfl := hw
        have hPD : PD D A [(Mt, .inl (g 0, 160, .inl fmt)), (Mm, .inr (7, [.int zth, .ref Mt, .int (nI tp), .int (nI (max_2 + 1 + 1)), .int (nI (max_2 + 1 + 1)), .ref Mrr, .ref Mrh, .ref Mrc, .int (nI rh), .int (nI rc), .ref Mn, .ref Mf, .ref Mr, .ref Mh, .int zhp, .int zcc, .ref Ma, .ref Mas, .ref Msn, .ref Mac, .ref Mat]))] H := ⟨hP2, hD2⟩
        have hS := hS2; clear hP2 hD2 hS2; have hP := hPD.1; have hD := hPD.2; clear hPD
        refine W.widen (k := 0) (n := 0) (Nat.le_of_ble_eq_true rfl) (Nat.le_of_ble_eq_true rfl) ?_
        refine lv_goto (tgt := 114) hx hb dX7_number_88 (by decide) ?_
        refine lv_iload_n hx hb dX7_number_114 rfl (lv_at hl 1 rfl) ?_
        have hPD9 : PD D A [(Mm, .inr (7, [.int zth, .ref Mt, .int (nI tp), .int (nI (max_2 + 1 + 1)), .int (nI (max_2 + 1 + 1)), .ref Mrr, .ref Mrh, .ref Mrc, .int (nI rh), .int (nI rc), .ref Mn, .ref Mf, .ref Mr, .ref Mh, .int zhp, .int zcc, .ref Ma, .ref Mas, .ref Msn, .ref Mac, .ref Mat])), (Mt, .inl (g 0, 160, .inl fmt))] H := ⟨hP.sub [1, 0] rfl, hD.sub [1, 0] (by decide) rfl⟩
        have hP9 := hPD9.1; have hD9 := hPD9.2
        subst hQ
        refine W.widen (k := 0) (n := 0) (Nat.le_of_ble_eq_true rfl) (Nat.le_of_ble_eq_true rfl) ?_
        exact W.iret (v := (nI ((10 * ((0 + j_10) - 48) + j_42) - 48))) hx hb hr (fun tS htS _ => ⟨⟨_, _, rfl, ⟨(max_2 + 1 + 1), (nI (max_2 + 1 + 1)), (10 * ((0 + j_10) - 48) + j_42) - 48, rfl, rfl, ⟨(show (10 * ((0 + j_10) - 48) + j_42) - 48 ≤ 99 by omega), (show (max_2 + 1 + 1) ≤ tp by omega), (show ma ≤ (max_2 + 1 + 1) by omega), (nm_3 hf_5 (pd_y hey_6.symm (by omega) (by omega)).1 (pd_y hey_19.symm (by omega) (by omega)).1 (pd_y hey_49.symm (by omega) (by omega)).1).symm, (fun q => absurd q (m1_ne (show max_2 + 1 + 1 < 2 ^ 31 by omega))), (fun q => absurd q (m1_ne (show max_2 + 1 + 1 < 2 ^ 31 by omega)))⟩⟩, by rw [htS]; exact hP9, hD9⟩, hS.F htS⟩) hS.2.2 dX7_number_115
  · skip
    have hq_67 : ¬ (48 ≤ y_6 ∧ y_6 ≤ 57) := b01_0.mp cb_8
    refine lv_aload_n hx hb dX7_number_18 rfl (lv_at hl 0 rfl) ?_
    refine ky_Vv (As := []) (rest := []) ⟨hx, hb, hml, hown, hts⟩ ⟨hK, hN⟩ hZ hP hD hS hA [0] [1] (wc := [(Mm, .inr (7, [.int zth, .ref Mt, .int (nI tp), .int (nI max_2), .int (-1), .ref Mrr, .ref Mrh, .ref Mrc, .int (nI rh), .int (nI rc), .ref Mn, .ref Mf, .ref Mr, .ref Mh, .int zhp, .int zcc, .ref Ma, .ref Mas, .ref Msn, .ref Mac, .ref Mat]))]) (wr := [(Mt, .inl (g 0, 160, .inl fmt))]) rfl rfl rfl rfl (by decide) (r_X7_bad l D g H.size Mm zth Mt tp max_2 Mrr Mrh Mrc rh rc Mn Mf Mr Mh zhp zcc Ma Mas Msn Mac Mat) (cwV 0 hts gX7_number_X7_bad rfl rfl rfl (by decide +kernel) ⟨(Nat.le_of_ble_eq_true rfl), (Nat.le_of_ble_eq_true rfl)⟩) 0 7 rfl rfl rfl rfl hl.1 rfl (Nat.le_of_ble_eq_true rfl) dX7_number_19 ⟨(Nat.le_of_ble_eq_true rfl), (Nat.le_of_ble_eq_true rfl)⟩ (fun u H locs hw hP2 hD2 hS2 => ?_)
    clear hP hD hS
    obtain rfl := hw
    have hPD : PD D A [(Mt, .inl (g 0, 160, .inl fmt)), (Mm, .inr (7, [.int zth, .ref Mt, .int (nI tp), .int (nI max_2), .int (nI max_2), .ref Mrr, .ref Mrh, .ref Mrc, .int (nI rh), .int (nI rc), .ref Mn, .ref Mf, .ref Mr, .ref Mh, .int zhp, .int zcc, .ref Ma, .ref Mas, .ref Msn, .ref Mac, .ref Mat]))] H := ⟨hP2, hD2⟩
    have hS := hS2; clear hP2 hD2 hS2; have hP := hPD.1; have hD := hPD.2; clear hPD
    refine W.widen (k := 0) (n := 0) (Nat.le_of_ble_eq_true rfl) (Nat.le_of_ble_eq_true rfl) ?_
    refine lv_iload_n hx hb dX7_number_22 rfl (lv_at hl 1 rfl) ?_
    have hPD9 : PD D A [(Mm, .inr (7, [.int zth, .ref Mt, .int (nI tp), .int (nI max_2), .int (nI max_2), .ref Mrr, .ref Mrh, .ref Mrc, .int (nI rh), .int (nI rc), .ref Mn, .ref Mf, .ref Mr, .ref Mh, .int zhp, .int zcc, .ref Ma, .ref Mas, .ref Msn, .ref Mac, .ref Mat])), (Mt, .inl (g 0, 160, .inl fmt))] H := ⟨hP.sub [1, 0] rfl, hD.sub [1, 0] (by decide) rfl⟩
    have hP9 := hPD9.1; have hD9 := hPD9.2
    subst hQ
    refine W.widen (k := 0) (n := 0) (Nat.le_of_ble_eq_true rfl) (Nat.le_of_ble_eq_true rfl) ?_
    exact W.iret (v := (nI lo)) hx hb hr (fun tS htS _ => ⟨⟨_, _, rfl, ⟨max_2, (nI max_2), lo, rfl, rfl, ⟨(show lo ≤ 99 by omega), (show max_2 ≤ tp by omega), (show ma ≤ max_2 by omega), (nm_0 hf_5 (pd_n hey_6.symm hq_67)).symm, (fun q => absurd q (m1_ne (show max_2 < 2 ^ 31 by omega))), (fun q => absurd q (m1_ne (show max_2 < 2 ^ 31 by omega)))⟩⟩, by rw [htS]; exact hP9, hD9⟩, hS.F htS⟩) hS.2.2 dX7_number_23
