set_option maxHeartbeats 4000000 in
set_option maxRecDepth 100000 in
theorem r_X7_has_51 (l : Launch) (D : va_G) (g : Nat → ClassId) (sz : Nat) : Met l yX7_has wsX7_has ({ frames := 0, cells := 0, slots := 0, locals := 0 }) (va_Pc [.int 5, .int 1] (pre D g sz [])) (va_Qi (fun (r : Int32) (u : va_W) => u = [] ∧ r = 0) (wd D (va_A [] sz)) (va_A [] sz)) 0 0 (va_A [] sz) := by
  refine Met.ofW (cc := cX7_has) (maxL := 2) (ret := (some .boolean)) (by decide) rfl ?_
  intro p e s m args below meth c s₁ B hml hv
  obtain ⟨rfl, hsz, hP, ⟨hK, hN⟩, hD0, hZ⟩ := hv
  have hx := B.exec
  have hb := B.bytes
  have hr := B.returns
  have hts := atoms_spec (ws := wsX7_has) B.pre
  have hown : s.vm.findClass RX7 = some m.cls := findClass_of_methodNamed B.named
  have hlocks := B.notSynchronized
  clear B
  subst hsz
  have hD := hD0.self (sz := s.heap.size)
  clear hD0
  generalize hAe : va_A [] s.heap.size = A at hD hZ ⊢
  have hA : ∀ q : Nat, s.heap.size ≤ q → A q := fun q h => by rw [← hAe]; exact Or.inr h
  have hS : va_S A s.heap s.heap [] := va_S.rf
  have hl := lv_entry ([.int 5, .int 1]) (n := 2) (Nat.le_of_ble_eq_true rfl)
  rw [lg_entry_eq]
  generalize (lg_sl ([.int 5, .int 1]) ++ List.replicate (2 - (lg_sl ([.int 5, .int 1])).length) Slot.unset).toArray = ls at hl ⊢
  have hl : lv_has ls 2 [(0, .int 5), (1, .int 1)] := hl
  generalize hQ : MQ below _ _ s _ _ _ = Q
  generalize hH : s.heap = H at hP ⊢
  have hS : va_S A s.heap H [] := by rw [← hH]; exact hS
  clear hH
  refine lv_iload_n hx hb dX7_has_0 rfl (lv_at hl 0 rfl) ?_
  refine lv_iload_n hx hb dX7_has_1 rfl (lv_at hl 1 rfl) ?_
  refine lv_ishr hx hb dX7_has_2 ?_
  refine lv_eqi (y := 2) (by decide) ?_
  refine lv_iconst (v := 1) hx hb dX7_has_3 (by decide) ?_
  refine lv_iand hx hb dX7_has_4 ?_
  refine lv_eqi (y := 0) (by decide) ?_
  refine lv_iconst (v := 1) hx hb dX7_has_5 (by decide) ?_
  refine lv_icmp_ne (tgt := 13) hx hb dX7_has_6 (by decide) (fun _ => ?_) (fun cb => absurd cb (by decide))
  refine lv_iconst (v := 0) hx hb dX7_has_13 (by decide) ?_
  have hP9 := hP; have hD9 := hD
  subst hQ
  refine W.widen (k := 0) (n := 0) (Nat.le_of_ble_eq_true rfl) (Nat.le_of_ble_eq_true rfl) ?_
  exact W.zret (v := 0) (ty := .boolean) hx hb hr (rfl) (fun tS htS _ => ⟨⟨_, _, rfl, ⟨rfl, rfl⟩, by rw [htS]; exact hP9, hD9⟩, hS.F htS⟩) hS.2.2 dX7_has_14

set_option maxHeartbeats 4000000 in
set_option maxRecDepth 100000 in
theorem r_X7_has_52 (l : Launch) (D : va_G) (g : Nat → ClassId) (sz : Nat) : Met l yX7_has wsX7_has ({ frames := 0, cells := 0, slots := 0, locals := 0 }) (va_Pc [.int 5, .int 2] (pre D g sz [])) (va_Qi (fun (r : Int32) (u : va_W) => u = [] ∧ r = 1) (wd D (va_A [] sz)) (va_A [] sz)) 0 0 (va_A [] sz) := by
  refine Met.ofW (cc := cX7_has) (maxL := 2) (ret := (some .boolean)) (by decide) rfl ?_
  intro p e s m args below meth c s₁ B hml hv
  obtain ⟨rfl, hsz, hP, ⟨hK, hN⟩, hD0, hZ⟩ := hv
  have hx := B.exec
  have hb := B.bytes
  have hr := B.returns
  have hts := atoms_spec (ws := wsX7_has) B.pre
  have hown : s.vm.findClass RX7 = some m.cls := findClass_of_methodNamed B.named
  have hlocks := B.notSynchronized
  clear B
  subst hsz
  have hD := hD0.self (sz := s.heap.size)
  clear hD0
  generalize hAe : va_A [] s.heap.size = A at hD hZ ⊢
  have hA : ∀ q : Nat, s.heap.size ≤ q → A q := fun q h => by rw [← hAe]; exact Or.inr h
  have hS : va_S A s.heap s.heap [] := va_S.rf
  have hl := lv_entry ([.int 5, .int 2]) (n := 2) (Nat.le_of_ble_eq_true rfl)
  rw [lg_entry_eq]
  generalize (lg_sl ([.int 5, .int 2]) ++ List.replicate (2 - (lg_sl ([.int 5, .int 2])).length) Slot.unset).toArray = ls at hl ⊢
  have hl : lv_has ls 2 [(0, .int 5), (1, .int 2)] := hl
  generalize hQ : MQ below _ _ s _ _ _ = Q
  generalize hH : s.heap = H at hP ⊢
  have hS : va_S A s.heap H [] := by rw [← hH]; exact hS
  clear hH
  refine lv_iload_n hx hb dX7_has_0 rfl (lv_at hl 0 rfl) ?_
  refine lv_iload_n hx hb dX7_has_1 rfl (lv_at hl 1 rfl) ?_
  refine lv_ishr hx hb dX7_has_2 ?_
  refine lv_eqi (y := 1) (by decide) ?_
  refine lv_iconst (v := 1) hx hb dX7_has_3 (by decide) ?_
  refine lv_iand hx hb dX7_has_4 ?_
  refine lv_eqi (y := 1) (by decide) ?_
  refine lv_iconst (v := 1) hx hb dX7_has_5 (by decide) ?_
  refine lv_icmp_ne (tgt := 13) hx hb dX7_has_6 (by decide) (fun cb => absurd (by decide) cb) (fun _ => ?_)
  refine lv_iconst (v := 1) hx hb dX7_has_9 (by decide) ?_
  refine lv_goto (tgt := 14) hx hb dX7_has_10 (by decide) ?_
  have hP9 := hP; have hD9 := hD
  subst hQ
  refine W.widen (k := 0) (n := 0) (Nat.le_of_ble_eq_true rfl) (Nat.le_of_ble_eq_true rfl) ?_
  exact W.zret (v := 1) (ty := .boolean) hx hb hr (rfl) (fun tS htS _ => ⟨⟨_, _, rfl, ⟨rfl, rfl⟩, by rw [htS]; exact hP9, hD9⟩, hS.F htS⟩) hS.2.2 dX7_has_14

set_option maxHeartbeats 4000000 in
set_option maxRecDepth 100000 in
theorem r_X7_has_60 (l : Launch) (D : va_G) (g : Nat → ClassId) (sz : Nat) : Met l yX7_has wsX7_has ({ frames := 0, cells := 0, slots := 0, locals := 0 }) (va_Pc [.int 6, .int 0] (pre D g sz [])) (va_Qi (fun (r : Int32) (u : va_W) => u = [] ∧ r = 0) (wd D (va_A [] sz)) (va_A [] sz)) 0 0 (va_A [] sz) := by
  refine Met.ofW (cc := cX7_has) (maxL := 2) (ret := (some .boolean)) (by decide) rfl ?_
  intro p e s m args below meth c s₁ B hml hv
  obtain ⟨rfl, hsz, hP, ⟨hK, hN⟩, hD0, hZ⟩ := hv
  have hx := B.exec
  have hb := B.bytes
  have hr := B.returns
  have hts := atoms_spec (ws := wsX7_has) B.pre
  have hown : s.vm.findClass RX7 = some m.cls := findClass_of_methodNamed B.named
  have hlocks := B.notSynchronized
  clear B
  subst hsz
  have hD := hD0.self (sz := s.heap.size)
  clear hD0
  generalize hAe : va_A [] s.heap.size = A at hD hZ ⊢
  have hA : ∀ q : Nat, s.heap.size ≤ q → A q := fun q h => by rw [← hAe]; exact Or.inr h
  have hS : va_S A s.heap s.heap [] := va_S.rf
  have hl := lv_entry ([.int 6, .int 0]) (n := 2) (Nat.le_of_ble_eq_true rfl)
  rw [lg_entry_eq]
  generalize (lg_sl ([.int 6, .int 0]) ++ List.replicate (2 - (lg_sl ([.int 6, .int 0])).length) Slot.unset).toArray = ls at hl ⊢
  have hl : lv_has ls 2 [(0, .int 6), (1, .int 0)] := hl
  generalize hQ : MQ below _ _ s _ _ _ = Q
  generalize hH : s.heap = H at hP ⊢
  have hS : va_S A s.heap H [] := by rw [← hH]; exact hS
  clear hH
  refine lv_iload_n hx hb dX7_has_0 rfl (lv_at hl 0 rfl) ?_
  refine lv_iload_n hx hb dX7_has_1 rfl (lv_at hl 1 rfl) ?_
  refine lv_ishr hx hb dX7_has_2 ?_
  refine lv_eqi (y := 6) (by decide) ?_
  refine lv_iconst (v := 1) hx hb dX7_has_3 (by decide) ?_
  refine lv_iand hx hb dX7_has_4 ?_
  refine lv_eqi (y := 0) (by decide) ?_
  refine lv_iconst (v := 1) hx hb dX7_has_5 (by decide) ?_
  refine lv_icmp_ne (tgt := 13) hx hb dX7_has_6 (by decide) (fun _ => ?_) (fun cb => absurd cb (by decide))
  refine lv_iconst (v := 0) hx hb dX7_has_13 (by decide) ?_
  have hP9 := hP; have hD9 := hD
  subst hQ
  refine W.widen (k := 0) (n := 0) (Nat.le_of_ble_eq_true rfl) (Nat.le_of_ble_eq_true rfl) ?_
  exact W.zret (v := 0) (ty := .boolean) hx hb hr (rfl) (fun tS htS _ => ⟨⟨_, _, rfl, ⟨rfl, rfl⟩, by rw [htS]; exact hP9, hD9⟩, hS.F htS⟩) hS.2.2 dX7_has_14

set_option maxHeartbeats 4000000 in
set_option maxRecDepth 100000 in
theorem r_X7_has_61 (l : Launch) (D : va_G) (g : Nat → ClassId) (sz : Nat) : Met l yX7_has wsX7_has ({ frames := 0, cells := 0, slots := 0, locals := 0 }) (va_Pc [.int 6, .int 1] (pre D g sz [])) (va_Qi (fun (r : Int32) (u : va_W) => u = [] ∧ r = 1) (wd D (va_A [] sz)) (va_A [] sz)) 0 0 (va_A [] sz) := by
  refine Met.ofW (cc := cX7_has) (maxL := 2) (ret := (some .boolean)) (by decide) rfl ?_
  intro p e s m args below meth c s₁ B hml hv
  obtain ⟨rfl, hsz, hP, ⟨hK, hN⟩, hD0, hZ⟩ := hv
  have hx := B.exec
  have hb := B.bytes
  have hr := B.returns
  have hts := atoms_spec (ws := wsX7_has) B.pre
  have hown : s.vm.findClass RX7 = some m.cls := findClass_of_methodNamed B.named
  have hlocks := B.notSynchronized
  clear B
  subst hsz
  have hD := hD0.self (sz := s.heap.size)
  clear hD0
  generalize hAe : va_A [] s.heap.size = A at hD hZ ⊢
  have hA : ∀ q : Nat, s.heap.size ≤ q → A q := fun q h => by rw [← hAe]; exact Or.inr h
  have hS : va_S A s.heap s.heap [] := va_S.rf
  have hl := lv_entry ([.int 6, .int 1]) (n := 2) (Nat.le_of_ble_eq_true rfl)
  rw [lg_entry_eq]
  generalize (lg_sl ([.int 6, .int 1]) ++ List.replicate (2 - (lg_sl ([.int 6, .int 1])).length) Slot.unset).toArray = ls at hl ⊢
  have hl : lv_has ls 2 [(0, .int 6), (1, .int 1)] := hl
  generalize hQ : MQ below _ _ s _ _ _ = Q
  generalize hH : s.heap = H at hP ⊢
  have hS : va_S A s.heap H [] := by rw [← hH]; exact hS
  clear hH
  refine lv_iload_n hx hb dX7_has_0 rfl (lv_at hl 0 rfl) ?_
  refine lv_iload_n hx hb dX7_has_1 rfl (lv_at hl 1 rfl) ?_
  refine lv_ishr hx hb dX7_has_2 ?_
  refine lv_eqi (y := 3) (by decide) ?_
  refine lv_iconst (v := 1) hx hb dX7_has_3 (by decide) ?_
  refine lv_iand hx hb dX7_has_4 ?_
  refine lv_eqi (y := 1) (by decide) ?_
  refine lv_iconst (v := 1) hx hb dX7_has_5 (by decide) ?_
  refine lv_icmp_ne (tgt := 13) hx hb dX7_has_6 (by decide) (fun cb => absurd (by decide) cb) (fun _ => ?_)
  refine lv_iconst (v := 1) hx hb dX7_has_9 (by decide) ?_
  refine lv_goto (tgt := 14) hx hb dX7_has_10 (by decide) ?_
  have hP9 := hP; have hD9 := hD
  subst hQ
  refine W.widen (k := 0) (n := 0) (Nat.le_of_ble_eq_true rfl) (Nat.le_of_ble_eq_true rfl) ?_
  exact W.zret (v := 1) (ty := .boolean) hx hb hr (rfl) (fun tS htS _ => ⟨⟨_, _, rfl, ⟨rfl, rfl⟩, by rw [htS]; exact hP9, hD9⟩, hS.F htS⟩) hS.2.2 dX7_has_14

set_option maxHeartbeats 4000000 in
set_option maxRecDepth 100000 in
theorem r_X7_has_62 (l : Launch) (D : va_G) (g : Nat → ClassId) (sz : Nat) : Met l yX7_has wsX7_has ({ frames := 0, cells := 0, slots := 0, locals := 0 }) (va_Pc [.int 6, .int 2] (pre D g sz [])) (va_Qi (fun (r : Int32) (u : va_W) => u = [] ∧ r = 1) (wd D (va_A [] sz)) (va_A [] sz)) 0 0 (va_A [] sz) := by
  refine Met.ofW (cc := cX7_has) (maxL := 2) (ret := (some .boolean)) (by decide) rfl ?_
  intro p e s m args below meth c s₁ B hml hv
  obtain ⟨rfl, hsz, hP, ⟨hK, hN⟩, hD0, hZ⟩ := hv
  have hx := B.exec
  have hb := B.bytes
  have hr := B.returns
  have hts := atoms_spec (ws := wsX7_has) B.pre
  have hown : s.vm.findClass RX7 = some m.cls := findClass_of_methodNamed B.named
  have hlocks := B.notSynchronized
  clear B
  subst hsz
  have hD := hD0.self (sz := s.heap.size)
  clear hD0
  generalize hAe : va_A [] s.heap.size = A at hD hZ ⊢
  have hA : ∀ q : Nat, s.heap.size ≤ q → A q := fun q h => by rw [← hAe]; exact Or.inr h
  have hS : va_S A s.heap s.heap [] := va_S.rf
  have hl := lv_entry ([.int 6, .int 2]) (n := 2) (Nat.le_of_ble_eq_true rfl)
  rw [lg_entry_eq]
  generalize (lg_sl ([.int 6, .int 2]) ++ List.replicate (2 - (lg_sl ([.int 6, .int 2])).length) Slot.unset).toArray = ls at hl ⊢
  have hl : lv_has ls 2 [(0, .int 6), (1, .int 2)] := hl
  generalize hQ : MQ below _ _ s _ _ _ = Q
  generalize hH : s.heap = H at hP ⊢
  have hS : va_S A s.heap H [] := by rw [← hH]; exact hS
  clear hH
  refine lv_iload_n hx hb dX7_has_0 rfl (lv_at hl 0 rfl) ?_
  refine lv_iload_n hx hb dX7_has_1 rfl (lv_at hl 1 rfl) ?_
  refine lv_ishr hx hb dX7_has_2 ?_
  refine lv_eqi (y := 1) (by decide) ?_
  refine lv_iconst (v := 1) hx hb dX7_has_3 (by decide) ?_
  refine lv_iand hx hb dX7_has_4 ?_
  refine lv_eqi (y := 1) (by decide) ?_
  refine lv_iconst (v := 1) hx hb dX7_has_5 (by decide) ?_
  refine lv_icmp_ne (tgt := 13) hx hb dX7_has_6 (by decide) (fun cb => absurd (by decide) cb) (fun _ => ?_)
  refine lv_iconst (v := 1) hx hb dX7_has_9 (by decide) ?_
  refine lv_goto (tgt := 14) hx hb dX7_has_10 (by decide) ?_
  have hP9 := hP; have hD9 := hD
  subst hQ
  refine W.widen (k := 0) (n := 0) (Nat.le_of_ble_eq_true rfl) (Nat.le_of_ble_eq_true rfl) ?_
  exact W.zret (v := 1) (ty := .boolean) hx hb hr (rfl) (fun tS htS _ => ⟨⟨_, _, rfl, ⟨rfl, rfl⟩, by rw [htS]; exact hP9, hD9⟩, hS.F htS⟩) hS.2.2 dX7_has_14

set_option maxHeartbeats 4000000 in
set_option maxRecDepth 100000 in
theorem r_X7_has_70 (l : Launch) (D : va_G) (g : Nat → ClassId) (sz : Nat) : Met l yX7_has wsX7_has ({ frames := 0, cells := 0, slots := 0, locals := 0 }) (va_Pc [.int 7, .int 0] (pre D g sz [])) (va_Qi (fun (r : Int32) (u : va_W) => u = [] ∧ r = 1) (wd D (va_A [] sz)) (va_A [] sz)) 0 0 (va_A [] sz) := by
  refine Met.ofW (cc := cX7_has) (maxL := 2) (ret := (some .boolean)) (by decide) rfl ?_
  intro p e s m args below meth c s₁ B hml hv
  obtain ⟨rfl, hsz, hP, ⟨hK, hN⟩, hD0, hZ⟩ := hv
  have hx := B.exec
  have hb := B.bytes
  have hr := B.returns
  have hts := atoms_spec (ws := wsX7_has) B.pre
  have hown : s.vm.findClass RX7 = some m.cls := findClass_of_methodNamed B.named
  have hlocks := B.notSynchronized
  clear B
  subst hsz
  have hD := hD0.self (sz := s.heap.size)
  clear hD0
  generalize hAe : va_A [] s.heap.size = A at hD hZ ⊢
  have hA : ∀ q : Nat, s.heap.size ≤ q → A q := fun q h => by rw [← hAe]; exact Or.inr h
  have hS : va_S A s.heap s.heap [] := va_S.rf
  have hl := lv_entry ([.int 7, .int 0]) (n := 2) (Nat.le_of_ble_eq_true rfl)
  rw [lg_entry_eq]
  generalize (lg_sl ([.int 7, .int 0]) ++ List.replicate (2 - (lg_sl ([.int 7, .int 0])).length) Slot.unset).toArray = ls at hl ⊢
  have hl : lv_has ls 2 [(0, .int 7), (1, .int 0)] := hl
  generalize hQ : MQ below _ _ s _ _ _ = Q
  generalize hH : s.heap = H at hP ⊢
  have hS : va_S A s.heap H [] := by rw [← hH]; exact hS
  clear hH
  refine lv_iload_n hx hb dX7_has_0 rfl (lv_at hl 0 rfl) ?_
  refine lv_iload_n hx hb dX7_has_1 rfl (lv_at hl 1 rfl) ?_
  refine lv_ishr hx hb dX7_has_2 ?_
  refine lv_eqi (y := 7) (by decide) ?_
  refine lv_iconst (v := 1) hx hb dX7_has_3 (by decide) ?_
  refine lv_iand hx hb dX7_has_4 ?_
  refine lv_eqi (y := 1) (by decide) ?_
  refine lv_iconst (v := 1) hx hb dX7_has_5 (by decide) ?_
  refine lv_icmp_ne (tgt := 13) hx hb dX7_has_6 (by decide) (fun cb => absurd (by decide) cb) (fun _ => ?_)
  refine lv_iconst (v := 1) hx hb dX7_has_9 (by decide) ?_
  refine lv_goto (tgt := 14) hx hb dX7_has_10 (by decide) ?_
  have hP9 := hP; have hD9 := hD
  subst hQ
  refine W.widen (k := 0) (n := 0) (Nat.le_of_ble_eq_true rfl) (Nat.le_of_ble_eq_true rfl) ?_
  exact W.zret (v := 1) (ty := .boolean) hx hb hr (rfl) (fun tS htS _ => ⟨⟨_, _, rfl, ⟨rfl, rfl⟩, by rw [htS]; exact hP9, hD9⟩, hS.F htS⟩) hS.2.2 dX7_has_14

set_option maxHeartbeats 4000000 in
set_option maxRecDepth 100000 in
theorem r_X7_has_71 (l : Launch) (D : va_G) (g : Nat → ClassId) (sz : Nat) : Met l yX7_has wsX7_has ({ frames := 0, cells := 0, slots := 0, locals := 0 }) (va_Pc [.int 7, .int 1] (pre D g sz [])) (va_Qi (fun (r : Int32) (u : va_W) => u = [] ∧ r = 1) (wd D (va_A [] sz)) (va_A [] sz)) 0 0 (va_A [] sz) := by
  refine Met.ofW (cc := cX7_has) (maxL := 2) (ret := (some .boolean)) (by decide) rfl ?_
  intro p e s m args below meth c s₁ B hml hv
  obtain ⟨rfl, hsz, hP, ⟨hK, hN⟩, hD0, hZ⟩ := hv
  have hx := B.exec
  have hb := B.bytes
  have hr := B.returns
  have hts := atoms_spec (ws := wsX7_has) B.pre
  have hown : s.vm.findClass RX7 = some m.cls := findClass_of_methodNamed B.named
  have hlocks := B.notSynchronized
  clear B
  subst hsz
  have hD := hD0.self (sz := s.heap.size)
  clear hD0
  generalize hAe : va_A [] s.heap.size = A at hD hZ ⊢
  have hA : ∀ q : Nat, s.heap.size ≤ q → A q := fun q h => by rw [← hAe]; exact Or.inr h
  have hS : va_S A s.heap s.heap [] := va_S.rf
  have hl := lv_entry ([.int 7, .int 1]) (n := 2) (Nat.le_of_ble_eq_true rfl)
  rw [lg_entry_eq]
  generalize (lg_sl ([.int 7, .int 1]) ++ List.replicate (2 - (lg_sl ([.int 7, .int 1])).length) Slot.unset).toArray = ls at hl ⊢
  have hl : lv_has ls 2 [(0, .int 7), (1, .int 1)] := hl
  generalize hQ : MQ below _ _ s _ _ _ = Q
  generalize hH : s.heap = H at hP ⊢
  have hS : va_S A s.heap H [] := by rw [← hH]; exact hS
  clear hH
  refine lv_iload_n hx hb dX7_has_0 rfl (lv_at hl 0 rfl) ?_
  refine lv_iload_n hx hb dX7_has_1 rfl (lv_at hl 1 rfl) ?_
  refine lv_ishr hx hb dX7_has_2 ?_
  refine lv_eqi (y := 3) (by decide) ?_
  refine lv_iconst (v := 1) hx hb dX7_has_3 (by decide) ?_
  refine lv_iand hx hb dX7_has_4 ?_
  refine lv_eqi (y := 1) (by decide) ?_
  refine lv_iconst (v := 1) hx hb dX7_has_5 (by decide) ?_
  refine lv_icmp_ne (tgt := 13) hx hb dX7_has_6 (by decide) (fun cb => absurd (by decide) cb) (fun _ => ?_)
  refine lv_iconst (v := 1) hx hb dX7_has_9 (by decide) ?_
  refine lv_goto (tgt := 14) hx hb dX7_has_10 (by decide) ?_
  have hP9 := hP; have hD9 := hD
  subst hQ
  refine W.widen (k := 0) (n := 0) (Nat.le_of_ble_eq_true rfl) (Nat.le_of_ble_eq_true rfl) ?_
  exact W.zret (v := 1) (ty := .boolean) hx hb hr (rfl) (fun tS htS _ => ⟨⟨_, _, rfl, ⟨rfl, rfl⟩, by rw [htS]; exact hP9, hD9⟩, hS.F htS⟩) hS.2.2 dX7_has_14

set_option maxHeartbeats 4000000 in
set_option maxRecDepth 100000 in
theorem r_X7_has_72 (l : Launch) (D : va_G) (g : Nat → ClassId) (sz : Nat) : Met l yX7_has wsX7_has ({ frames := 0, cells := 0, slots := 0, locals := 0 }) (va_Pc [.int 7, .int 2] (pre D g sz [])) (va_Qi (fun (r : Int32) (u : va_W) => u = [] ∧ r = 1) (wd D (va_A [] sz)) (va_A [] sz)) 0 0 (va_A [] sz) := by
  refine Met.ofW (cc := cX7_has) (maxL := 2) (ret := (some .boolean)) (by decide) rfl ?_
  intro p e s m args below meth c s₁ B hml hv
  obtain ⟨rfl, hsz, hP, ⟨hK, hN⟩, hD0, hZ⟩ := hv
  have hx := B.exec
  have hb := B.bytes
  have hr := B.returns
  have hts := atoms_spec (ws := wsX7_has) B.pre
  have hown : s.vm.findClass RX7 = some m.cls := findClass_of_methodNamed B.named
  have hlocks := B.notSynchronized
  clear B
  subst hsz
  have hD := hD0.self (sz := s.heap.size)
  clear hD0
  generalize hAe : va_A [] s.heap.size = A at hD hZ ⊢
  have hA : ∀ q : Nat, s.heap.size ≤ q → A q := fun q h => by rw [← hAe]; exact Or.inr h
  have hS : va_S A s.heap s.heap [] := va_S.rf
  have hl := lv_entry ([.int 7, .int 2]) (n := 2) (Nat.le_of_ble_eq_true rfl)
  rw [lg_entry_eq]
  generalize (lg_sl ([.int 7, .int 2]) ++ List.replicate (2 - (lg_sl ([.int 7, .int 2])).length) Slot.unset).toArray = ls at hl ⊢
  have hl : lv_has ls 2 [(0, .int 7), (1, .int 2)] := hl
  generalize hQ : MQ below _ _ s _ _ _ = Q
  generalize hH : s.heap = H at hP ⊢
  have hS : va_S A s.heap H [] := by rw [← hH]; exact hS
  clear hH
  refine lv_iload_n hx hb dX7_has_0 rfl (lv_at hl 0 rfl) ?_
  refine lv_iload_n hx hb dX7_has_1 rfl (lv_at hl 1 rfl) ?_
  refine lv_ishr hx hb dX7_has_2 ?_
  refine lv_eqi (y := 1) (by decide) ?_
  refine lv_iconst (v := 1) hx hb dX7_has_3 (by decide) ?_
  refine lv_iand hx hb dX7_has_4 ?_
  refine lv_eqi (y := 1) (by decide) ?_
  refine lv_iconst (v := 1) hx hb dX7_has_5 (by decide) ?_
  refine lv_icmp_ne (tgt := 13) hx hb dX7_has_6 (by decide) (fun cb => absurd (by decide) cb) (fun _ => ?_)
  refine lv_iconst (v := 1) hx hb dX7_has_9 (by decide) ?_
  refine lv_goto (tgt := 14) hx hb dX7_has_10 (by decide) ?_
  have hP9 := hP; have hD9 := hD
  subst hQ
  refine W.widen (k := 0) (n := 0) (Nat.le_of_ble_eq_true rfl) (Nat.le_of_ble_eq_true rfl) ?_
  exact W.zret (v := 1) (ty := .boolean) hx hb hr (rfl) (fun tS htS _ => ⟨⟨_, _, rfl, ⟨rfl, rfl⟩, by rw [htS]; exact hP9, hD9⟩, hS.F htS⟩) hS.2.2 dX7_has_14

set_option maxHeartbeats 4000000 in
set_option maxRecDepth 100000 in
theorem r_X7_items_0 (l : Launch) (D : va_G) (g : Nat → ClassId) (sz : Nat) (Mm : Nat) (Mrr : Nat) (zth : Int32) (Mt : Nat) (tp : Nat) (ma : Nat) (Mrh : Nat) (Mrc : Nat) (rh : Nat) (rc : Nat) (Mn : Nat) (Mf : Nat) (Mr : Nat) (Mh : Nat) (zhp : Int32) (zcc : Int32) (Ma : Nat) (Mas : Nat) (Msn : Nat) (Mac : Nat) (Mat : Nat) (fmt : Nat → Int32) (frr : Nat → Int32) (h0 : tp ≤ 160) (h1 : ma ≤ tp) (h2 : n1 frr) : Met l yX7_items wsX7_items ({ frames := 3, cells := 0, slots := 0, locals := 64 }) (va_Pc [.ref Mm, .int 0, .ref Mrr, .int 0] (pre D g sz [(Mm, .inr (7, [.int zth, .ref Mt, .int (nI tp), .int (nI ma), .int (-1), .ref Mrr, .ref Mrh, .ref Mrc, .int (nI rh), .int (nI rc), .ref Mn, .ref Mf, .ref Mr, .ref Mh, .int zhp, .int zcc, .ref Ma, .ref Mas, .ref Msn, .ref Mac, .ref Mat])), (Mt, .inl (g 0, 160, .inl fmt)), (Mrr, .inl (g 0, 3, .inl frr))])) (va_Qv (fun (u : va_W) => ∃ (max : Nat) (zwrx : Int32) (frrx : Nat → Int32), u = [(Mm, .inr (7, [.int zth, .ref Mt, .int (nI tp), .int (nI max), .int zwrx, .ref Mrr, .ref Mrh, .ref Mrc, .int (nI rh), .int (nI rc), .ref Mn, .ref Mf, .ref Mr, .ref Mh, .int zhp, .int zcc, .ref Ma, .ref Mas, .ref Msn, .ref Mac, .ref Mat])), (Mt, .inl (g 0, 160, .inl fmt)), (Mrr, .inl (g 0, 3, .inl frrx))] ∧ ((n1 frrx) ∧ (max ≤ tp) ∧ (ma ≤ max) ∧ (zwrx = (itR fmt tp 0 4 0 ma).1) ∧ (zwrx = -1 → max = (itR fmt tp 0 4 0 ma).2))) (wd D (va_A [(Mm, .inr (7, [.int zth, .ref Mt, .int (nI tp), .int (nI ma), .int (-1), .ref Mrr, .ref Mrh, .ref Mrc, .int (nI rh), .int (nI rc), .ref Mn, .ref Mf, .ref Mr, .ref Mh, .int zhp, .int zcc, .ref Ma, .ref Mas, .ref Msn, .ref Mac, .ref Mat])), (Mt, .inl (g 0, 160, .inl fmt)), (Mrr, .inl (g 0, 3, .inl frr))] sz)) (va_A [(Mm, .inr (7, [.int zth, .ref Mt, .int (nI tp), .int (nI ma), .int (-1), .ref Mrr, .ref Mrh, .ref Mrc, .int (nI rh), .int (nI rc), .ref Mn, .ref Mf, .ref Mr, .ref Mh, .int zhp, .int zcc, .ref Ma, .ref Mas, .ref Msn, .ref Mac, .ref Mat])), (Mt, .inl (g 0, 160, .inl fmt)), (Mrr, .inl (g 0, 3, .inl frr))] sz)) 0 0 (va_A [(Mm, .inr (7, [.int zth, .ref Mt, .int (nI tp), .int (nI ma), .int (-1), .ref Mrr, .ref Mrh, .ref Mrc, .int (nI rh), .int (nI rc), .ref Mn, .ref Mf, .ref Mr, .ref Mh, .int zhp, .int zcc, .ref Ma, .ref Mas, .ref Msn, .ref Mac, .ref Mat])), (Mt, .inl (g 0, 160, .inl fmt)), (Mrr, .inl (g 0, 3, .inl frr))] sz) := by
  refine Met.ofW (cc := cX7_items) (maxL := 6) (ret := none) (by decide) rfl ?_
  intro p e s m args below meth c s₁ B hml hv
  obtain ⟨rfl, hsz, hP, ⟨hK, hN⟩, hD0, hZ⟩ := hv
  have hx := B.exec
  have hb := B.bytes
  have hr := B.returns
  have hts := atoms_spec (ws := wsX7_items) B.pre
  have hown : s.vm.findClass RX7 = some m.cls := findClass_of_methodNamed B.named
  have hlocks := B.notSynchronized
  clear B
  subst hsz
  have hD := hD0.self (sz := s.heap.size)
  clear hD0
  generalize hAe : va_A [(Mm, .inr (7, [.int zth, .ref Mt, .int (nI tp), .int (nI ma), .int (-1), .ref Mrr, .ref Mrh, .ref Mrc, .int (nI rh), .int (nI rc), .ref Mn, .ref Mf, .ref Mr, .ref Mh, .int zhp, .int zcc, .ref Ma, .ref Mas, .ref Msn, .ref Mac, .ref Mat])), (Mt, .inl (g 0, 160, .inl fmt)), (Mrr, .inl (g 0, 3, .inl frr))] s.heap.size = A at hD hZ ⊢
  have hA : ∀ q : Nat, s.heap.size ≤ q → A q := fun q h => by rw [← hAe]; exact Or.inr h
  have hS : va_S A s.heap s.heap [] := va_S.rf
  have f64 := hts (.fieldLink RX7 64 "HopCreditsModel" "at" "I") (List.mem_of_getElem? (i := 2) rfl)
  have f71 := hts (.fieldLink RX7 71 "HopCreditsModel" "wrong" "I") (List.mem_of_getElem? (i := 1) rfl)
  have iX7 : ∀ w ∈ u_ws RX7 TX7 21, w ∈ wsX7_items := fun w h => List.mem_cons_of_mem _ (List.mem_append_right _ (h))
  have hl := lv_entry ([.ref Mm, .int 0, .ref Mrr, .int 0]) (n := 6) (Nat.le_of_ble_eq_true rfl)
  rw [lg_entry_eq]
  generalize (lg_sl ([.ref Mm, .int 0, .ref Mrr, .int 0]) ++ List.replicate (6 - (lg_sl ([.ref Mm, .int 0, .ref Mrr, .int 0])).length) Slot.unset).toArray = ls at hl ⊢
  have hl : lv_has ls 6 [(0, .ref Mm), (1, .int 0), (2, .ref Mrr), (3, .int 0)] := hl
  generalize hQ : MQ below _ _ s _ _ _ = Q
  generalize hH : s.heap = H at hP ⊢
  have hS : va_S A s.heap H [] := by rw [← hH]; exact hS
  clear hH
  refine lv_aload_n hx hb dX7_items_0 rfl (lv_at hl 0 rfl) ?_
  refine lv_iload_n hx hb dX7_items_1 rfl (lv_at hl 1 rfl) ?_
  refine lv_aload_n hx hb dX7_items_2 rfl (lv_at hl 2 rfl) ?_
  refine lv_iload_n hx hb dX7_items_3 rfl (lv_at hl 3 rfl) ?_
  refine ky_Vv (As := [.int 0, .ref Mrr, .int 0]) (rest := []) ⟨hx, hb, hml, hown, hts⟩ ⟨hK, hN⟩ hZ hP hD hS hA [0, 2] [1] (wc := [(Mm, .inr (7, [.int zth, .ref Mt, .int (nI tp), .int (nI ma), .int (-1), .ref Mrr, .ref Mrh, .ref Mrc, .int (nI rh), .int (nI rc), .ref Mn, .ref Mf, .ref Mr, .ref Mh, .int zhp, .int zcc, .ref Ma, .ref Mas, .ref Msn, .ref Mac, .ref Mat])), (Mrr, .inl (g 0, 3, .inl frr))]) (wr := [(Mt, .inl (g 0, 160, .inl fmt))]) rfl rfl rfl rfl (by decide) (k_X7_laysUsual_0 l D g H.size Mm Mrr zth Mt (nI tp) (nI ma) (-1) Mrh Mrc (nI rh) (nI rc) Mn Mf Mr Mh zhp zcc Ma Mas Msn Mac Mat frr (h2)) (cwV 3 hts gX7_items_X7_laysUsual rfl rfl rfl (by decide +kernel) ⟨(Nat.le_of_ble_eq_true rfl), (Nat.le_of_ble_eq_true rfl)⟩) 0 7 rfl rfl rfl rfl hl.1 rfl (Nat.le_of_ble_eq_true rfl) dX7_items_4 ⟨(Nat.le_of_ble_eq_true rfl), (Nat.le_of_ble_eq_true rfl)⟩ (fun u H locs hw hP2 hD2 hS2 => ?_)
  clear hP hD hS
  obtain ⟨frrx_2, rfl, hf_3⟩ := hw
  have hPD : PD D A [(Mt, .inl (g 0, 160, .inl fmt)), (Mm, .inr (7, [.int zth, .ref Mt, .int (nI tp), .int (nI ma), .int (-1), .ref Mrr, .ref Mrh, .ref Mrc, .int (nI rh), .int (nI rc), .ref Mn, .ref Mf, .ref Mr, .ref Mh, .int zhp, .int zcc, .ref Ma, .ref Mas, .ref Msn, .ref Mac, .ref Mat])), (Mrr, .inl (g 0, 3, .inl frrx_2))] H := ⟨hP2, hD2⟩
  have hS := hS2; clear hP2 hD2 hS2; have hP := hPD.1; have hD := hPD.2; clear hPD
  refine W.widen (k := 0) (n := 0) (Nat.le_of_ble_eq_true rfl) (Nat.le_of_ble_eq_true rfl) ?_
  refine lv_iconst (v := 0) hx hb dX7_items_7 (by decide) ?_
  refine lv_istore (lv' := [(4, .int 0), (0, .ref Mm), (1, .int 0), (2, .ref Mrr), (3, .int 0)]) hx hb dX7_items_8 hl (by decide) rfl (fun ls hl => ?_)
  refine lv_iload_n hx hb dX7_items_10 rfl (lv_at hl 2 rfl) ?_
  refine lv_aload_n hx hb dX7_items_11 rfl (lv_at hl 1 rfl) ?_
  refine ky_Vi (As := []) (rest := [.int 0]) ⟨hx, hb, hml, hown, hts⟩ ⟨hK, hN⟩ hZ hP hD hS hA [1, 0] [2] (wc := [(Mm, .inr (7, [.int zth, .ref Mt, .int (nI tp), .int (nI ma), .int (-1), .ref Mrr, .ref Mrh, .ref Mrc, .int (nI rh), .int (nI rc), .ref Mn, .ref Mf, .ref Mr, .ref Mh, .int zhp, .int zcc, .ref Ma, .ref Mas, .ref Msn, .ref Mac, .ref Mat])), (Mt, .inl (g 0, 160, .inl fmt))]) (wr := [(Mrr, .inl (g 0, 3, .inl frrx_2))]) rfl rfl rfl rfl (by decide) (r_X7_ahead l D g H.size Mm zth Mt tp ma (-1) Mrr Mrh Mrc rh rc Mn Mf Mr Mh zhp zcc Ma Mas Msn Mac Mat fmt (show tp ≤ 160 by omega) (show ma ≤ tp by omega)) (cwV 0 hts gX7_items_X7_ahead rfl rfl rfl (by decide +kernel) ⟨(Nat.le_of_ble_eq_true rfl), (Nat.le_of_ble_eq_true rfl)⟩) 1 7 rfl rfl rfl rfl hl.1 rfl (Nat.le_of_ble_eq_true rfl) dX7_items_12 ⟨(Nat.le_of_ble_eq_true rfl), (Nat.le_of_ble_eq_true rfl)⟩ (fun r_4 u H locs hw hP2 hD2 hS2 => ?_)
  clear hP hD hS
  obtain ⟨max_5, rfl, rfl, hf_6, hf_7, hf_8⟩ := hw
  have hPD : PD D A [(Mrr, .inl (g 0, 3, .inl frrx_2)), (Mm, .inr (7, [.int zth, .ref Mt, .int (nI tp), .int (nI max_5), .int (-1), .ref Mrr, .ref Mrh, .ref Mrc, .int (nI rh), .int (nI rc), .ref Mn, .ref Mf, .ref Mr, .ref Mh, .int zhp, .int zcc, .ref Ma, .ref Mas, .ref Msn, .ref Mac, .ref Mat])), (Mt, .inl (g 0, 160, .inl fmt))] H := ⟨hP2, hD2⟩
  have hS := hS2; clear hP2 hD2 hS2; have hP := hPD.1; have hD := hPD.2; clear hPD
  refine W.widen (k := 0) (n := 0) (Nat.le_of_ble_eq_true rfl) (Nat.le_of_ble_eq_true rfl) ?_
  refine lv_topi (fun y_9 hey_9 => ?_)
  refine ky_Si (As := [.int 0, .int y_9]) (rest := []) ⟨hx, hb, hml, hown, hts⟩ ⟨hK, hN⟩ hZ hP hD hS hA [] [0, 1, 2] (wc := []) (wr := [(Mrr, .inl (g 0, 3, .inl frrx_2)), (Mm, .inr (7, [.int zth, .ref Mt, .int (nI tp), .int (nI max_5), .int (-1), .ref Mrr, .ref Mrh, .ref Mrc, .int (nI rh), .int (nI rc), .ref Mn, .ref Mf, .ref Mr, .ref Mh, .int zhp, .int zcc, .ref Ma, .ref Mas, .ref Msn, .ref Mac, .ref Mat])), (Mt, .inl (g 0, 160, .inl fmt))]) rfl rfl rfl rfl (by decide) (r_X7_itemBy_0 l D g H.size y_9) (va_cwS 2 hts gX7_items_X7_itemBy rfl rfl rfl (by decide +kernel) ⟨(Nat.le_of_ble_eq_true rfl), (Nat.le_of_ble_eq_true rfl)⟩) rfl hl.1 rfl (Nat.le_of_ble_eq_true rfl) dX7_items_15 ⟨(Nat.le_of_ble_eq_true rfl), (Nat.le_of_ble_eq_true rfl)⟩ (fun r_10 u H locs hw hP2 hD2 hS2 => ?_)
  clear hP hD hS
  obtain ⟨rfl, rfl⟩ := hw
  have hPD : PD D A [(Mrr, .inl (g 0, 3, .inl frrx_2)), (Mm, .inr (7, [.int zth, .ref Mt, .int (nI tp), .int (nI max_5), .int (-1), .ref Mrr, .ref Mrh, .ref Mrc, .int (nI rh), .int (nI rc), .ref Mn, .ref Mf, .ref Mr, .ref Mh, .int zhp, .int zcc, .ref Ma, .ref Mas, .ref Msn, .ref Mac, .ref Mat])), (Mt, .inl (g 0, 160, .inl fmt))] H := ⟨hP2, hD2⟩
  have hS := hS2; clear hP2 hD2 hS2; have hP := hPD.1; have hD := hPD.2; clear hPD
  refine W.widen (k := 0) (n := 0) (Nat.le_of_ble_eq_true rfl) (Nat.le_of_ble_eq_true rfl) ?_
  rcases itK_c 0 y_9 with qi_11 | qi_11 | qi_11 | qi_11
  · skip
    refine lv_eqi (y := (-1)) (qi_11) ?_
    refine lv_istore (lv' := [(5, .int (-1)), (4, .int 0), (0, .ref Mm), (1, .int 0), (2, .ref Mrr), (3, .int 0)]) hx hb dX7_items_18 hl (by decide) rfl (fun ls hl => ?_)
    refine lv_aload_n hx hb dX7_items_20 rfl (lv_at hl 2 rfl) ?_
    refine va_get (D := D) (ci := 7) (v := .int (-1)) (C := RX7) (T := TX7) (N := 21) hx hb hts iX7 hown hK hP 1 rfl rfl 4 (by decide) f71 (fun _ h9 => h9) rfl dX7_items_21 ?_
    refine lv_iconst (v := (-1)) hx hb dX7_items_24 (by decide) ?_
    refine lv_icmp_ne (tgt := 98) hx hb dX7_items_25 (by decide) (fun cb => absurd (by decide) cb) (fun _ => ?_)
    refine lv_iload hx hb dX7_items_28 (lv_at hl 0 rfl) ?_
    refine lv_iconst (v := (-1)) hx hb dX7_items_30 (by decide) ?_
    refine lv_icmp_eq (tgt := 98) hx hb dX7_items_31 (by decide) (fun _ => ?_) (fun cb => absurd (by decide) cb)
    have hPD9 : PD D A [(Mm, .inr (7, [.int zth, .ref Mt, .int (nI tp), .int (nI max_5), .int (-1), .ref Mrr, .ref Mrh, .ref Mrc, .int (nI rh), .int (nI rc), .ref Mn, .ref Mf, .ref Mr, .ref Mh, .int zhp, .int zcc, .ref Ma, .ref Mas, .ref Msn, .ref Mac, .ref Mat])), (Mt, .inl (g 0, 160, .inl fmt)), (Mrr, .inl (g 0, 3, .inl frrx_2))] H := ⟨hP.sub [1, 2, 0] rfl, hD.sub [1, 2, 0] (by decide) rfl⟩
    have hP9 := hPD9.1; have hD9 := hPD9.2
    subst hQ
    refine W.widen (k := 0) (n := 0) (Nat.le_of_ble_eq_true rfl) (Nat.le_of_ble_eq_true rfl) ?_
    exact W.vret hx hb hr (fun tS htS _ => ⟨⟨_, rfl, ⟨max_5, (-1), frrx_2, rfl, ⟨(hf_3), (show max_5 ≤ tp by omega), (show ma ≤ max_5 by omega), (congrArg Prod.fst (iv_m (f := 3) (m := 0) hf_8 hey_9.symm qi_11)).symm, (fun _ => (congrArg Prod.snd (iv_m (f := 3) (m := 0) hf_8 hey_9.symm qi_11)).symm)⟩⟩, by rw [htS]; exact hP9, hD9⟩, hS.F htS⟩) hS.2.2 dX7_items_98
  · skip
    refine lv_eqi (y := 0) (qi_11) ?_
    have hil_12 := iv_lt (k := 0) (q := 0) hey_9.symm qi_11 (by decide); have hil_12a := hil_12.1
    refine lv_istore (lv' := [(5, .int 0), (4, .int 0), (0, .ref Mm), (1, .int 0), (2, .ref Mrr), (3, .int 0)]) hx hb dX7_items_18 hl (by decide) rfl (fun ls hl => ?_)
    refine lv_aload_n hx hb dX7_items_20 rfl (lv_at hl 2 rfl) ?_
    refine va_get (D := D) (ci := 7) (v := .int (-1)) (C := RX7) (T := TX7) (N := 21) hx hb hts iX7 hown hK hP 1 rfl rfl 4 (by decide) f71 (fun _ h9 => h9) rfl dX7_items_21 ?_
    refine lv_iconst (v := (-1)) hx hb dX7_items_24 (by decide) ?_
    refine lv_icmp_ne (tgt := 98) hx hb dX7_items_25 (by decide) (fun cb => absurd (by decide) cb) (fun _ => ?_)
    refine lv_iload hx hb dX7_items_28 (lv_at hl 0 rfl) ?_
    refine lv_iconst (v := (-1)) hx hb dX7_items_30 (by decide) ?_
    refine lv_icmp_eq (tgt := 98) hx hb dX7_items_31 (by decide) (fun cb => absurd cb (by decide)) (fun _ => ?_)
    refine lv_iload hx hb dX7_items_34 (lv_at hl 1 rfl) ?_
    refine lv_iload hx hb dX7_items_36 (lv_at hl 0 rfl) ?_
    refine ky_Si (As := [.int 0, .int 0]) (rest := []) ⟨hx, hb, hml, hown, hts⟩ ⟨hK, hN⟩ hZ hP hD hS hA [] [0, 1, 2] (wc := []) (wr := [(Mrr, .inl (g 0, 3, .inl frrx_2)), (Mm, .inr (7, [.int zth, .ref Mt, .int (nI tp), .int (nI max_5), .int (-1), .ref Mrr, .ref Mrh, .ref Mrc, .int (nI rh), .int (nI rc), .ref Mn, .ref Mf, .ref Mr, .ref Mh, .int zhp, .int zcc, .ref Ma, .ref Mas, .ref Msn, .ref Mac, .ref Mat])), (Mt, .inl (g 0, 160, .inl fmt))]) rfl rfl rfl rfl (by decide) (r_X7_has_00 l D g H.size) (va_cwS 2 hts gX7_items_X7_has rfl rfl rfl (by decide +kernel) ⟨(Nat.le_of_ble_eq_true rfl), (Nat.le_of_ble_eq_true rfl)⟩) rfl hl.1 rfl (Nat.le_of_ble_eq_true rfl) dX7_items_38 ⟨(Nat.le_of_ble_eq_true rfl), (Nat.le_of_ble_eq_true rfl)⟩ (fun r_13 u H locs hw hP2 hD2 hS2 => ?_)
    clear hP hD hS
    obtain ⟨rfl, rfl⟩ := hw
    have hPD : PD D A [(Mrr, .inl (g 0, 3, .inl frrx_2)), (Mm, .inr (7, [.int zth, .ref Mt, .int (nI tp), .int (nI max_5), .int (-1), .ref Mrr, .ref Mrh, .ref Mrc, .int (nI rh), .int (nI rc), .ref Mn, .ref Mf, .ref Mr, .ref Mh, .int zhp, .int zcc, .ref Ma, .ref Mas, .ref Msn, .ref Mac, .ref Mat])), (Mt, .inl (g 0, 160, .inl fmt))] H := ⟨hP2, hD2⟩
    have hS := hS2; clear hP2 hD2 hS2; have hP := hPD.1; have hD := hPD.2; clear hPD
    refine W.widen (k := 0) (n := 0) (Nat.le_of_ble_eq_true rfl) (Nat.le_of_ble_eq_true rfl) ?_
    refine lv_if_ne (tgt := 98) hx hb dX7_items_41 (by decide) (fun cb => absurd (by decide) cb) (fun _ => ?_)
    refine lv_iload hx hb dX7_items_44 (lv_at hl 1 rfl) ?_
    refine lv_iconst (v := 1) hx hb dX7_items_46 (by decide) ?_
    refine lv_iload hx hb dX7_items_47 (lv_at hl 0 rfl) ?_
    refine lv_ishl hx hb dX7_items_49 ?_
    refine lv_eqi (y := 1) (by decide) ?_
    refine lv_ior hx hb dX7_items_50 ?_
    refine lv_eqi (y := 1) (by decide) ?_
    refine lv_istore (lv' := [(4, .int 1), (5, .int 0), (0, .ref Mm), (1, .int 0), (2, .ref Mrr), (3, .int 0)]) hx hb dX7_items_51 hl (by decide) rfl (fun ls hl => ?_)
    refine lv_aload_n hx hb dX7_items_53 rfl (lv_at hl 2 rfl) ?_
    refine lv_dup hx hb dX7_items_54 rfl ?_
    refine va_get (D := D) (ci := 7) (v := .int (nI max_5)) (C := RX7) (T := TX7) (N := 21) hx hb hts iX7 hown hK hP 1 rfl rfl 3 (by decide) f64 (fun _ h9 => h9) rfl dX7_items_55 ?_
    refine lv_iconst (v := 1) hx hb dX7_items_58 (by decide) ?_
    refine lv_iadd hx hb dX7_items_59 ?_
    refine lv_eqi (y := (nI (max_5 + 1))) (nI_add (max_5) (1)) ?_
    refine va_put (D := D) (ci := 7) (v := .int (nI (max_5 + 1))) (ty := .int) (C := RX7) (T := TX7) (N := 21) hx hb hts iX7 tyX7 tyX7_ok nmX7 hown hK hP hD hS 1 rfl rfl 3 (by decide) f64 (fun _ h9 => h9) rfl (by decide +kernel) (rfl) (rfl) (Nat.le_of_ble_eq_true rfl) dX7_items_60 (fun H locs hP2 hD2 hS2 => ?_)
    clear hP hD hS
    have hPD : PD D A [(Mrr, .inl (g 0, 3, .inl frrx_2)), (Mm, .inr (7, [.int zth, .ref Mt, .int (nI tp), .int (nI (max_5 + 1)), .int (-1), .ref Mrr, .ref Mrh, .ref Mrc, .int (nI rh), .int (nI rc), .ref Mn, .ref Mf, .ref Mr, .ref Mh, .int zhp, .int zcc, .ref Ma, .ref Mas, .ref Msn, .ref Mac, .ref Mat])), (Mt, .inl (g 0, 160, .inl fmt))] H := ⟨hP2, hD2⟩
    have hS := hS2; clear hP2 hD2 hS2; have hP := hPD.1; have hD := hPD.2; clear hPD
    refine lv_aload_n hx hb dX7_items_63 rfl (lv_at hl 4 rfl) ?_
    refine lv_iload_n hx hb dX7_items_64 rfl (lv_at hl 5 rfl) ?_
    refine lv_iload hx hb dX7_items_65 (lv_at hl 1 rfl) ?_
    refine lv_iadd hx hb dX7_items_67 ?_
    refine lv_eqi (y := 0) (by decide) ?_
    refine lv_aload_n hx hb dX7_items_68 rfl (lv_at hl 2 rfl) ?_
    refine lv_iload_n hx hb dX7_items_69 rfl (lv_at hl 3 rfl) ?_
    refine lv_iload hx hb dX7_items_70 (lv_at hl 1 rfl) ?_
    refine ky_Si (As := [.int 0, .int 0]) (rest := [.ref Mm, .int 0, .ref Mrr]) ⟨hx, hb, hml, hown, hts⟩ ⟨hK, hN⟩ hZ hP hD hS hA [] [0, 1, 2] (wc := []) (wr := [(Mrr, .inl (g 0, 3, .inl frrx_2)), (Mm, .inr (7, [.int zth, .ref Mt, .int (nI tp), .int (nI (max_5 + 1)), .int (-1), .ref Mrr, .ref Mrh, .ref Mrc, .int (nI rh), .int (nI rc), .ref Mn, .ref Mf, .ref Mr, .ref Mh, .int zhp, .int zcc, .ref Ma, .ref Mas, .ref Msn, .ref Mac, .ref Mat])), (Mt, .inl (g 0, 160, .inl fmt))]) rfl rfl rfl rfl (by decide) (r_X7_lowest_00 l D g H.size) (va_cwS 2 hts gX7_items_X7_lowest rfl rfl rfl (by decide +kernel) ⟨(Nat.le_of_ble_eq_true rfl), (Nat.le_of_ble_eq_true rfl)⟩) rfl hl.1 rfl (Nat.le_of_ble_eq_true rfl) dX7_items_72 ⟨(Nat.le_of_ble_eq_true rfl), (Nat.le_of_ble_eq_true rfl)⟩ (fun r_14 u H locs hw hP2 hD2 hS2 => ?_)
    clear hP hD hS
    obtain ⟨rfl, rfl⟩ := hw
    have hPD : PD D A [(Mrr, .inl (g 0, 3, .inl frrx_2)), (Mm, .inr (7, [.int zth, .ref Mt, .int (nI tp), .int (nI (max_5 + 1)), .int (-1), .ref Mrr, .ref Mrh, .ref Mrc, .int (nI rh), .int (nI rc), .ref Mn, .ref Mf, .ref Mr, .ref Mh, .int zhp, .int zcc, .ref Ma, .ref Mas, .ref Msn, .ref Mac, .ref Mat])), (Mt, .inl (g 0, 160, .inl fmt))] H := ⟨hP2, hD2⟩
    have hS := hS2; clear hP2 hD2 hS2; have hP := hPD.1; have hD := hPD.2; clear hPD
    refine W.widen (k := 0) (n := 0) (Nat.le_of_ble_eq_true rfl) (Nat.le_of_ble_eq_true rfl) ?_
    refine lv_iload_n hx hb dX7_items_75 rfl (lv_at hl 3 rfl) ?_
    refine lv_iload hx hb dX7_items_76 (lv_at hl 1 rfl) ?_
    refine ky_Si (As := [.int 0, .int 0]) (rest := [.int 1, .ref Mm, .int 0, .ref Mrr]) ⟨hx, hb, hml, hown, hts⟩ ⟨hK, hN⟩ hZ hP hD hS hA [] [0, 1, 2] (wc := []) (wr := [(Mrr, .inl (g 0, 3, .inl frrx_2)), (Mm, .inr (7, [.int zth, .ref Mt, .int (nI tp), .int (nI (max_5 + 1)), .int (-1), .ref Mrr, .ref Mrh, .ref Mrc, .int (nI rh), .int (nI rc), .ref Mn, .ref Mf, .ref Mr, .ref Mh, .int zhp, .int zcc, .ref Ma, .ref Mas, .ref Msn, .ref Mac, .ref Mat])), (Mt, .inl (g 0, 160, .inl fmt))]) rfl rfl rfl rfl (by decide) (r_X7_highest_00 l D g H.size) (va_cwS 2 hts gX7_items_X7_highest rfl rfl rfl (by decide +kernel) ⟨(Nat.le_of_ble_eq_true rfl), (Nat.le_of_ble_eq_true rfl)⟩) rfl hl.1 rfl (Nat.le_of_ble_eq_true rfl) dX7_items_78 ⟨(Nat.le_of_ble_eq_true rfl), (Nat.le_of_ble_eq_true rfl)⟩ (fun r_15 u H locs hw hP2 hD2 hS2 => ?_)
    clear hP hD hS
    obtain ⟨rfl, rfl⟩ := hw
    have hPD : PD D A [(Mrr, .inl (g 0, 3, .inl frrx_2)), (Mm, .inr (7, [.int zth, .ref Mt, .int (nI tp), .int (nI (max_5 + 1)), .int (-1), .ref Mrr, .ref Mrh, .ref Mrc, .int (nI rh), .int (nI rc), .ref Mn, .ref Mf, .ref Mr, .ref Mh, .int zhp, .int zcc, .ref Ma, .ref Mas, .ref Msn, .ref Mac, .ref Mat])), (Mt, .inl (g 0, 160, .inl fmt))] H := ⟨hP2, hD2⟩
    have hS := hS2; clear hP2 hD2 hS2; have hP := hPD.1; have hD := hPD.2; clear hPD
    refine W.widen (k := 0) (n := 0) (Nat.le_of_ble_eq_true rfl) (Nat.le_of_ble_eq_true rfl) ?_
    refine ky_Vi (As := [.int 1, .int 4]) (rest := [.int 0, .ref Mrr]) ⟨hx, hb, hml, hown, hts⟩ ⟨hK, hN⟩ hZ hP hD hS hA [1, 2] [0] (wc := [(Mm, .inr (7, [.int zth, .ref Mt, .int (nI tp), .int (nI (max_5 + 1)), .int (-1), .ref Mrr, .ref Mrh, .ref Mrc, .int (nI rh), .int (nI rc), .ref Mn, .ref Mf, .ref Mr, .ref Mh, .int zhp, .int zcc, .ref Ma, .ref Mas, .ref Msn, .ref Mac, .ref Mat])), (Mt, .inl (g 0, 160, .inl fmt))]) (wr := [(Mrr, .inl (g 0, 3, .inl frrx_2))]) rfl rfl rfl rfl (by decide) (r_X7_number l D g H.size Mm 1 4 zth Mt tp (max_5 + 1) Mrr Mrh Mrc rh rc Mn Mf Mr Mh zhp zcc Ma Mas Msn Mac Mat fmt (show tp ≤ 160 by omega) (show (max_5 + 1) ≤ tp by omega) (show 1 ≤ 1 by omega)) (cwV 2 hts gX7_items_X7_number rfl rfl rfl (by decide +kernel) ⟨(Nat.le_of_ble_eq_true rfl), (Nat.le_of_ble_eq_true rfl)⟩) 1 7 rfl rfl rfl rfl hl.1 rfl (Nat.le_of_ble_eq_true rfl) dX7_items_81 ⟨(Nat.le_of_ble_eq_true rfl), (Nat.le_of_ble_eq_true rfl)⟩ (fun r_16 u H locs hw hP2 hD2 hS2 => ?_)
    clear hP hD hS
    obtain ⟨max_17, zwrx_18, nx_19, rfl, rfl, hf_20⟩ := hw
    have hg_21 := hf_20.1
    have hg_22 := hf_20.2.1
    have hg_23 := hf_20.2.2.1
    have hPD : PD D A [(Mrr, .inl (g 0, 3, .inl frrx_2)), (Mm, .inr (7, [.int zth, .ref Mt, .int (nI tp), .int (nI max_17), .int zwrx_18, .ref Mrr, .ref Mrh, .ref Mrc, .int (nI rh), .int (nI rc), .ref Mn, .ref Mf, .ref Mr, .ref Mh, .int zhp, .int zcc, .ref Ma, .ref Mas, .ref Msn, .ref Mac, .ref Mat])), (Mt, .inl (g 0, 160, .inl fmt))] H := ⟨hP2, hD2⟩
    have hS := hS2; clear hP2 hD2 hS2; have hP := hPD.1; have hD := hPD.2; clear hPD
    refine W.widen (k := 0) (n := 0) (Nat.le_of_ble_eq_true rfl) (Nat.le_of_ble_eq_true rfl) ?_
    refine va_iast hx hb hK hP hD hS 0 0 rfl rfl (by unfold vp_in; decide) dX7_items_84 (fun H locs hP2 hD2 hS2 => ?_)
    clear hP hD hS
    have hPD : PD D A [(Mrr, .inl (g 0, 3, .inl (upd frrx_2 0 (nI nx_19)))), (Mm, .inr (7, [.int zth, .ref Mt, .int (nI tp), .int (nI max_17), .int zwrx_18, .ref Mrr, .ref Mrh, .ref Mrc, .int (nI rh), .int (nI rc), .ref Mn, .ref Mf, .ref Mr, .ref Mh, .int zhp, .int zcc, .ref Ma, .ref Mas, .ref Msn, .ref Mac, .ref Mat])), (Mt, .inl (g 0, 160, .inl fmt))] H := ⟨hP2, hD2⟩
    have hS := hS2; clear hP2 hD2 hS2; have hP := hPD.1; have hD := hPD.2; clear hPD
    have hF_24 : n1 (upd frrx_2 0 (nI nx_19)) := n1_upd (hf_3) (n := nx_19) (show nx_19 ≤ 99 by omega)
    generalize upd frrx_2 0 (nI nx_19) = F_24 at hP hD hF_24
    by_cases cw_25 : zwrx_18 = -1
    · skip
      have hPq_26 := hP; have hDq_26 := hD; have hSq_26 := hS; have hlq_26 := hl; clear hP hD hS hl
      subst cw_25
      have hP := hPq_26; have hD := hDq_26; have hS := hSq_26; have hl := hlq_26; clear hPq_26 hDq_26 hSq_26 hlq_26
      have hne_28 := hf_20.2.2.2.2 rfl
      have hR_27 : itR fmt tp 0 4 0 ma = itR fmt tp 0 3 1 max_17 := (itR_go (f := 3) (m := 0) (q := 0) hf_8 hil_12.1 hil_12.2 (by decide) (by decide) hf_20.2.2.2.1.symm).trans (by rw [hne_28])
      refine lv_iload_n hx hb dX7_items_85 rfl (lv_at hl 3 rfl) ?_
      refine lv_aload_n hx hb dX7_items_86 rfl (lv_at hl 2 rfl) ?_
      refine ky_Vi (As := []) (rest := [.int 0]) ⟨hx, hb, hml, hown, hts⟩ ⟨hK, hN⟩ hZ hP hD hS hA [1, 2] [0] (wc := [(Mm, .inr (7, [.int zth, .ref Mt, .int (nI tp), .int (nI max_17), .int (-1), .ref Mrr, .ref Mrh, .ref Mrc, .int (nI rh), .int (nI rc), .ref Mn, .ref Mf, .ref Mr, .ref Mh, .int zhp, .int zcc, .ref Ma, .ref Mas, .ref Msn, .ref Mac, .ref Mat])), (Mt, .inl (g 0, 160, .inl fmt))]) (wr := [(Mrr, .inl (g 0, 3, .inl F_24))]) rfl rfl rfl rfl (by decide) (r_X7_ahead l D g H.size Mm zth Mt tp max_17 (-1) Mrr Mrh Mrc rh rc Mn Mf Mr Mh zhp zcc Ma Mas Msn Mac Mat fmt (show tp ≤ 160 by omega) (show max_17 ≤ tp by omega)) (cwV 0 hts gX7_items_X7_ahead rfl rfl rfl (by decide +kernel) ⟨(Nat.le_of_ble_eq_true rfl), (Nat.le_of_ble_eq_true rfl)⟩) 1 7 rfl rfl rfl rfl hl.1 rfl (Nat.le_of_ble_eq_true rfl) dX7_items_87 ⟨(Nat.le_of_ble_eq_true rfl), (Nat.le_of_ble_eq_true rfl)⟩ (fun r_29 u H locs hw hP2 hD2 hS2 => ?_)
      clear hP hD hS
      obtain ⟨max_30, rfl, rfl, hf_31, hf_32, hf_33⟩ := hw
      have hPD : PD D A [(Mrr, .inl (g 0, 3, .inl F_24)), (Mm, .inr (7, [.int zth, .ref Mt, .int (nI tp), .int (nI max_30), .int (-1), .ref Mrr, .ref Mrh, .ref Mrc, .int (nI rh), .int (nI rc), .ref Mn, .ref Mf, .ref Mr, .ref Mh, .int zhp, .int zcc, .ref Ma, .ref Mas, .ref Msn, .ref Mac, .ref Mat])), (Mt, .inl (g 0, 160, .inl fmt))] H := ⟨hP2, hD2⟩
      have hS := hS2; clear hP2 hD2 hS2; have hP := hPD.1; have hD := hPD.2; clear hPD
      refine W.widen (k := 0) (n := 0) (Nat.le_of_ble_eq_true rfl) (Nat.le_of_ble_eq_true rfl) ?_
      refine lv_topi (fun y_34 hey_34 => ?_)
      refine ky_Si (As := [.int 0, .int y_34]) (rest := []) ⟨hx, hb, hml, hown, hts⟩ ⟨hK, hN⟩ hZ hP hD hS hA [] [0, 1, 2] (wc := []) (wr := [(Mrr, .inl (g 0, 3, .inl F_24)), (Mm, .inr (7, [.int zth, .ref Mt, .int (nI tp), .int (nI max_30), .int (-1), .ref Mrr, .ref Mrh, .ref Mrc, .int (nI rh), .int (nI rc), .ref Mn, .ref Mf, .ref Mr, .ref Mh, .int zhp, .int zcc, .ref Ma, .ref Mas, .ref Msn, .ref Mac, .ref Mat])), (Mt, .inl (g 0, 160, .inl fmt))]) rfl rfl rfl rfl (by decide) (r_X7_itemBy_0 l D g H.size y_34) (va_cwS 2 hts gX7_items_X7_itemBy rfl rfl rfl (by decide +kernel) ⟨(Nat.le_of_ble_eq_true rfl), (Nat.le_of_ble_eq_true rfl)⟩) rfl hl.1 rfl (Nat.le_of_ble_eq_true rfl) dX7_items_90 ⟨(Nat.le_of_ble_eq_true rfl), (Nat.le_of_ble_eq_true rfl)⟩ (fun r_35 u H locs hw hP2 hD2 hS2 => ?_)
      clear hP hD hS
      obtain ⟨rfl, rfl⟩ := hw
      have hPD : PD D A [(Mrr, .inl (g 0, 3, .inl F_24)), (Mm, .inr (7, [.int zth, .ref Mt, .int (nI tp), .int (nI max_30), .int (-1), .ref Mrr, .ref Mrh, .ref Mrc, .int (nI rh), .int (nI rc), .ref Mn, .ref Mf, .ref Mr, .ref Mh, .int zhp, .int zcc, .ref Ma, .ref Mas, .ref Msn, .ref Mac, .ref Mat])), (Mt, .inl (g 0, 160, .inl fmt))] H := ⟨hP2, hD2⟩
      have hS := hS2; clear hP2 hD2 hS2; have hP := hPD.1; have hD := hPD.2; clear hPD
      refine W.widen (k := 0) (n := 0) (Nat.le_of_ble_eq_true rfl) (Nat.le_of_ble_eq_true rfl) ?_
      rcases itK_c 0 y_34 with qi_36 | qi_36 | qi_36 | qi_36
      · skip
        refine lv_eqi (y := (-1)) (qi_36) ?_
        refine lv_istore (lv' := [(5, .int (-1)), (4, .int 1), (0, .ref Mm), (1, .int 0), (2, .ref Mrr), (3, .int 0)]) hx hb dX7_items_93 hl (by decide) rfl (fun ls hl => ?_)
        refine lv_goto (tgt := 20) hx hb dX7_items_95 (by decide) ?_
        refine lv_aload_n hx hb dX7_items_20 rfl (lv_at hl 2 rfl) ?_
        refine va_get (D := D) (ci := 7) (v := .int (-1)) (C := RX7) (T := TX7) (N := 21) hx hb hts iX7 hown hK hP 1 rfl rfl 4 (by decide) f71 (fun _ h9 => h9) rfl dX7_items_21 ?_
        refine lv_iconst (v := (-1)) hx hb dX7_items_24 (by decide) ?_
        refine lv_icmp_ne (tgt := 98) hx hb dX7_items_25 (by decide) (fun cb => absurd (by decide) cb) (fun _ => ?_)
        refine lv_iload hx hb dX7_items_28 (lv_at hl 0 rfl) ?_
        refine lv_iconst (v := (-1)) hx hb dX7_items_30 (by decide) ?_
        refine lv_icmp_eq (tgt := 98) hx hb dX7_items_31 (by decide) (fun _ => ?_) (fun cb => absurd (by decide) cb)
        have hPD9 : PD D A [(Mm, .inr (7, [.int zth, .ref Mt, .int (nI tp), .int (nI max_30), .int (-1), .ref Mrr, .ref Mrh, .ref Mrc, .int (nI rh), .int (nI rc), .ref Mn, .ref Mf, .ref Mr, .ref Mh, .int zhp, .int zcc, .ref Ma, .ref Mas, .ref Msn, .ref Mac, .ref Mat])), (Mt, .inl (g 0, 160, .inl fmt)), (Mrr, .inl (g 0, 3, .inl F_24))] H := ⟨hP.sub [1, 2, 0] rfl, hD.sub [1, 2, 0] (by decide) rfl⟩
        have hP9 := hPD9.1; have hD9 := hPD9.2
        subst hQ
        refine W.widen (k := 0) (n := 0) (Nat.le_of_ble_eq_true rfl) (Nat.le_of_ble_eq_true rfl) ?_
        exact W.vret hx hb hr (fun tS htS _ => ⟨⟨_, rfl, ⟨max_30, (-1), F_24, rfl, ⟨(hF_24), (show max_30 ≤ tp by omega), (show ma ≤ max_30 by omega), (congrArg Prod.fst (hR_27.trans (iv_m (f := 2) (m := 1) hf_33 hey_34.symm qi_36))).symm, (fun _ => (congrArg Prod.snd (hR_27.trans (iv_m (f := 2) (m := 1) hf_33 hey_34.symm qi_36))).symm)⟩⟩, by rw [htS]; exact hP9, hD9⟩, hS.F htS⟩) hS.2.2 dX7_items_98
      · skip
        refine lv_eqi (y := 0) (qi_36) ?_
        have hil_37 := iv_lt (k := 0) (q := 0) hey_34.symm qi_36 (by decide); have hil_37a := hil_37.1
        refine lv_istore (lv' := [(5, .int 0), (4, .int 1), (0, .ref Mm), (1, .int 0), (2, .ref Mrr), (3, .int 0)]) hx hb dX7_items_93 hl (by decide) rfl (fun ls hl => ?_)
        refine lv_goto (tgt := 20) hx hb dX7_items_95 (by decide) ?_
        refine lv_aload_n hx hb dX7_items_20 rfl (lv_at hl 2 rfl) ?_
        refine va_get (D := D) (ci := 7) (v := .int (-1)) (C := RX7) (T := TX7) (N := 21) hx hb hts iX7 hown hK hP 1 rfl rfl 4 (by decide) f71 (fun _ h9 => h9) rfl dX7_items_21 ?_
        refine lv_iconst (v := (-1)) hx hb dX7_items_24 (by decide) ?_
        refine lv_icmp_ne (tgt := 98) hx hb dX7_items_25 (by decide) (fun cb => absurd (by decide) cb) (fun _ => ?_)
        refine lv_iload hx hb dX7_items_28 (lv_at hl 0 rfl) ?_
        refine lv_iconst (v := (-1)) hx hb dX7_items_30 (by decide) ?_
        refine lv_icmp_eq (tgt := 98) hx hb dX7_items_31 (by decide) (fun cb => absurd cb (by decide)) (fun _ => ?_)
        refine lv_iload hx hb dX7_items_34 (lv_at hl 1 rfl) ?_
        refine lv_iload hx hb dX7_items_36 (lv_at hl 0 rfl) ?_
        refine ky_Si (As := [.int 1, .int 0]) (rest := []) ⟨hx, hb, hml, hown, hts⟩ ⟨hK, hN⟩ hZ hP hD hS hA [] [0, 1, 2] (wc := []) (wr := [(Mrr, .inl (g 0, 3, .inl F_24)), (Mm, .inr (7, [.int zth, .ref Mt, .int (nI tp), .int (nI max_30), .int (-1), .ref Mrr, .ref Mrh, .ref Mrc, .int (nI rh), .int (nI rc), .ref Mn, .ref Mf, .ref Mr, .ref Mh, .int zhp, .int zcc, .ref Ma, .ref Mas, .ref Msn, .ref Mac, .ref Mat])), (Mt, .inl (g 0, 160, .inl fmt))]) rfl rfl rfl rfl (by decide) (r_X7_has_10 l D g H.size) (va_cwS 2 hts gX7_items_X7_has rfl rfl rfl (by decide +kernel) ⟨(Nat.le_of_ble_eq_true rfl), (Nat.le_of_ble_eq_true rfl)⟩) rfl hl.1 rfl (Nat.le_of_ble_eq_true rfl) dX7_items_38 ⟨(Nat.le_of_ble_eq_true rfl), (Nat.le_of_ble_eq_true rfl)⟩ (fun r_38 u H locs hw hP2 hD2 hS2 => ?_)
        clear hP hD hS
        obtain ⟨rfl, rfl⟩ := hw
        have hPD : PD D A [(Mrr, .inl (g 0, 3, .inl F_24)), (Mm, .inr (7, [.int zth, .ref Mt, .int (nI tp), .int (nI max_30), .int (-1), .ref Mrr, .ref Mrh, .ref Mrc, .int (nI rh), .int (nI rc), .ref Mn, .ref Mf, .ref Mr, .ref Mh, .int zhp, .int zcc, .ref Ma, .ref Mas, .ref Msn, .ref Mac, .ref Mat])), (Mt, .inl (g 0, 160, .inl fmt))] H := ⟨hP2, hD2⟩
        have hS := hS2; clear hP2 hD2 hS2; have hP := hPD.1; have hD := hPD.2; clear hPD
        refine W.widen (k := 0) (n := 0) (Nat.le_of_ble_eq_true rfl) (Nat.le_of_ble_eq_true rfl) ?_
        refine lv_if_ne (tgt := 98) hx hb dX7_items_41 (by decide) (fun _ => ?_) (fun cb => absurd cb (by decide))
        have hPD9 : PD D A [(Mm, .inr (7, [.int zth, .ref Mt, .int (nI tp), .int (nI max_30), .int (-1), .ref Mrr, .ref Mrh, .ref Mrc, .int (nI rh), .int (nI rc), .ref Mn, .ref Mf, .ref Mr, .ref Mh, .int zhp, .int zcc, .ref Ma, .ref Mas, .ref Msn, .ref Mac, .ref Mat])), (Mt, .inl (g 0, 160, .inl fmt)), (Mrr, .inl (g 0, 3, .inl F_24))] H := ⟨hP.sub [1, 2, 0] rfl, hD.sub [1, 2, 0] (by decide) rfl⟩
        have hP9 := hPD9.1; have hD9 := hPD9.2
        subst hQ
        refine W.widen (k := 0) (n := 0) (Nat.le_of_ble_eq_true rfl) (Nat.le_of_ble_eq_true rfl) ?_
        exact W.vret hx hb hr (fun tS htS _ => ⟨⟨_, rfl, ⟨max_30, (-1), F_24, rfl, ⟨(hF_24), (show max_30 ≤ tp by omega), (show ma ≤ max_30 by omega), (congrArg Prod.fst (hR_27.trans (itR_again (f := 2) (m := 1) (q := 0) hf_33 hil_37.2 (by decide) (by decide)))).symm, (fun _ => (congrArg Prod.snd (hR_27.trans (itR_again (f := 2) (m := 1) (q := 0) hf_33 hil_37.2 (by decide) (by decide)))).symm)⟩⟩, by rw [htS]; exact hP9, hD9⟩, hS.F htS⟩) hS.2.2 dX7_items_98
      · skip
        refine lv_eqi (y := 1) (qi_36) ?_
        have hil_39 := iv_lt (k := 0) (q := 1) hey_34.symm qi_36 (by decide); have hil_39a := hil_39.1
        refine lv_istore (lv' := [(5, .int 1), (4, .int 1), (0, .ref Mm), (1, .int 0), (2, .ref Mrr), (3, .int 0)]) hx hb dX7_items_93 hl (by decide) rfl (fun ls hl => ?_)
        refine lv_goto (tgt := 20) hx hb dX7_items_95 (by decide) ?_
        refine lv_aload_n hx hb dX7_items_20 rfl (lv_at hl 2 rfl) ?_
        refine va_get (D := D) (ci := 7) (v := .int (-1)) (C := RX7) (T := TX7) (N := 21) hx hb hts iX7 hown hK hP 1 rfl rfl 4 (by decide) f71 (fun _ h9 => h9) rfl dX7_items_21 ?_
        refine lv_iconst (v := (-1)) hx hb dX7_items_24 (by decide) ?_
        refine lv_icmp_ne (tgt := 98) hx hb dX7_items_25 (by decide) (fun cb => absurd (by decide) cb) (fun _ => ?_)
        refine lv_iload hx hb dX7_items_28 (lv_at hl 0 rfl) ?_
        refine lv_iconst (v := (-1)) hx hb dX7_items_30 (by decide) ?_
        refine lv_icmp_eq (tgt := 98) hx hb dX7_items_31 (by decide) (fun cb => absurd cb (by decide)) (fun _ => ?_)
        refine lv_iload hx hb dX7_items_34 (lv_at hl 1 rfl) ?_
        refine lv_iload hx hb dX7_items_36 (lv_at hl 0 rfl) ?_
        refine ky_Si (As := [.int 1, .int 1]) (rest := []) ⟨hx, hb, hml, hown, hts⟩ ⟨hK, hN⟩ hZ hP hD hS hA [] [0, 1, 2] (wc := []) (wr := [(Mrr, .inl (g 0, 3, .inl F_24)), (Mm, .inr (7, [.int zth, .ref Mt, .int (nI tp), .int (nI max_30), .int (-1), .ref Mrr, .ref Mrh, .ref Mrc, .int (nI rh), .int (nI rc), .ref Mn, .ref Mf, .ref Mr, .ref Mh, .int zhp, .int zcc, .ref Ma, .ref Mas, .ref Msn, .ref Mac, .ref Mat])), (Mt, .inl (g 0, 160, .inl fmt))]) rfl rfl rfl rfl (by decide) (r_X7_has_11 l D g H.size) (va_cwS 2 hts gX7_items_X7_has rfl rfl rfl (by decide +kernel) ⟨(Nat.le_of_ble_eq_true rfl), (Nat.le_of_ble_eq_true rfl)⟩) rfl hl.1 rfl (Nat.le_of_ble_eq_true rfl) dX7_items_38 ⟨(Nat.le_of_ble_eq_true rfl), (Nat.le_of_ble_eq_true rfl)⟩ (fun r_40 u H locs hw hP2 hD2 hS2 => ?_)
        clear hP hD hS
        obtain ⟨rfl, rfl⟩ := hw
        have hPD : PD D A [(Mrr, .inl (g 0, 3, .inl F_24)), (Mm, .inr (7, [.int zth, .ref Mt, .int (nI tp), .int (nI max_30), .int (-1), .ref Mrr, .ref Mrh, .ref Mrc, .int (nI rh), .int (nI rc), .ref Mn, .ref Mf, .ref Mr, .ref Mh, .int zhp, .int zcc, .ref Ma, .ref Mas, .ref Msn, .ref Mac, .ref Mat])), (Mt, .inl (g 0, 160, .inl fmt))] H := ⟨hP2, hD2⟩
        have hS := hS2; clear hP2 hD2 hS2; have hP := hPD.1; have hD := hPD.2; clear hPD
        refine W.widen (k := 0) (n := 0) (Nat.le_of_ble_eq_true rfl) (Nat.le_of_ble_eq_true rfl) ?_
        refine lv_if_ne (tgt := 98) hx hb dX7_items_41 (by decide) (fun cb => absurd (by decide) cb) (fun _ => ?_)
        refine lv_iload hx hb dX7_items_44 (lv_at hl 1 rfl) ?_
        refine lv_iconst (v := 1) hx hb dX7_items_46 (by decide) ?_
        refine lv_iload hx hb dX7_items_47 (lv_at hl 0 rfl) ?_
        refine lv_ishl hx hb dX7_items_49 ?_
        refine lv_eqi (y := 2) (by decide) ?_
        refine lv_ior hx hb dX7_items_50 ?_
        refine lv_eqi (y := 3) (by decide) ?_
        refine lv_istore (lv' := [(4, .int 3), (5, .int 1), (0, .ref Mm), (1, .int 0), (2, .ref Mrr), (3, .int 0)]) hx hb dX7_items_51 hl (by decide) rfl (fun ls hl => ?_)
        refine lv_aload_n hx hb dX7_items_53 rfl (lv_at hl 2 rfl) ?_
        refine lv_dup hx hb dX7_items_54 rfl ?_
        refine va_get (D := D) (ci := 7) (v := .int (nI max_30)) (C := RX7) (T := TX7) (N := 21) hx hb hts iX7 hown hK hP 1 rfl rfl 3 (by decide) f64 (fun _ h9 => h9) rfl dX7_items_55 ?_
        refine lv_iconst (v := 1) hx hb dX7_items_58 (by decide) ?_
        refine lv_iadd hx hb dX7_items_59 ?_
        refine lv_eqi (y := (nI (max_30 + 1))) (nI_add (max_30) (1)) ?_
        refine va_put (D := D) (ci := 7) (v := .int (nI (max_30 + 1))) (ty := .int) (C := RX7) (T := TX7) (N := 21) hx hb hts iX7 tyX7 tyX7_ok nmX7 hown hK hP hD hS 1 rfl rfl 3 (by decide) f64 (fun _ h9 => h9) rfl (by decide +kernel) (rfl) (rfl) (Nat.le_of_ble_eq_true rfl) dX7_items_60 (fun H locs hP2 hD2 hS2 => ?_)
        clear hP hD hS
        have hPD : PD D A [(Mrr, .inl (g 0, 3, .inl F_24)), (Mm, .inr (7, [.int zth, .ref Mt, .int (nI tp), .int (nI (max_30 + 1)), .int (-1), .ref Mrr, .ref Mrh, .ref Mrc, .int (nI rh), .int (nI rc), .ref Mn, .ref Mf, .ref Mr, .ref Mh, .int zhp, .int zcc, .ref Ma, .ref Mas, .ref Msn, .ref Mac, .ref Mat])), (Mt, .inl (g 0, 160, .inl fmt))] H := ⟨hP2, hD2⟩
        have hS := hS2; clear hP2 hD2 hS2; have hP := hPD.1; have hD := hPD.2; clear hPD
        refine lv_aload_n hx hb dX7_items_63 rfl (lv_at hl 4 rfl) ?_
        refine lv_iload_n hx hb dX7_items_64 rfl (lv_at hl 5 rfl) ?_
        refine lv_iload hx hb dX7_items_65 (lv_at hl 1 rfl) ?_
        refine lv_iadd hx hb dX7_items_67 ?_
        refine lv_eqi (y := 1) (by decide) ?_
        refine lv_aload_n hx hb dX7_items_68 rfl (lv_at hl 2 rfl) ?_
        refine lv_iload_n hx hb dX7_items_69 rfl (lv_at hl 3 rfl) ?_
        refine lv_iload hx hb dX7_items_70 (lv_at hl 1 rfl) ?_
        refine ky_Si (As := [.int 0, .int 1]) (rest := [.ref Mm, .int 1, .ref Mrr]) ⟨hx, hb, hml, hown, hts⟩ ⟨hK, hN⟩ hZ hP hD hS hA [] [0, 1, 2] (wc := []) (wr := [(Mrr, .inl (g 0, 3, .inl F_24)), (Mm, .inr (7, [.int zth, .ref Mt, .int (nI tp), .int (nI (max_30 + 1)), .int (-1), .ref Mrr, .ref Mrh, .ref Mrc, .int (nI rh), .int (nI rc), .ref Mn, .ref Mf, .ref Mr, .ref Mh, .int zhp, .int zcc, .ref Ma, .ref Mas, .ref Msn, .ref Mac, .ref Mat])), (Mt, .inl (g 0, 160, .inl fmt))]) rfl rfl rfl rfl (by decide) (r_X7_lowest_01 l D g H.size) (va_cwS 2 hts gX7_items_X7_lowest rfl rfl rfl (by decide +kernel) ⟨(Nat.le_of_ble_eq_true rfl), (Nat.le_of_ble_eq_true rfl)⟩) rfl hl.1 rfl (Nat.le_of_ble_eq_true rfl) dX7_items_72 ⟨(Nat.le_of_ble_eq_true rfl), (Nat.le_of_ble_eq_true rfl)⟩ (fun r_41 u H locs hw hP2 hD2 hS2 => ?_)
        clear hP hD hS
        obtain ⟨rfl, rfl⟩ := hw
        have hPD : PD D A [(Mrr, .inl (g 0, 3, .inl F_24)), (Mm, .inr (7, [.int zth, .ref Mt, .int (nI tp), .int (nI (max_30 + 1)), .int (-1), .ref Mrr, .ref Mrh, .ref Mrc, .int (nI rh), .int (nI rc), .ref Mn, .ref Mf, .ref Mr, .ref Mh, .int zhp, .int zcc, .ref Ma, .ref Mas, .ref Msn, .ref Mac, .ref Mat])), (Mt, .inl (g 0, 160, .inl fmt))] H := ⟨hP2, hD2⟩
        have hS := hS2; clear hP2 hD2 hS2; have hP := hPD.1; have hD := hPD.2; clear hPD
        refine W.widen (k := 0) (n := 0) (Nat.le_of_ble_eq_true rfl) (Nat.le_of_ble_eq_true rfl) ?_
        refine lv_iload_n hx hb dX7_items_75 rfl (lv_at hl 3 rfl) ?_
        refine lv_iload hx hb dX7_items_76 (lv_at hl 1 rfl) ?_
        refine ky_Si (As := [.int 0, .int 1]) (rest := [.int 0, .ref Mm, .int 1, .ref Mrr]) ⟨hx, hb, hml, hown, hts⟩ ⟨hK, hN⟩ hZ hP hD hS hA [] [0, 1, 2] (wc := []) (wr := [(Mrr, .inl (g 0, 3, .inl F_24)), (Mm, .inr (7, [.int zth, .ref Mt, .int (nI tp), .int (nI (max_30 + 1)), .int (-1), .ref Mrr, .ref Mrh, .ref Mrc, .int (nI rh), .int (nI rc), .ref Mn, .ref Mf, .ref Mr, .ref Mh, .int zhp, .int zcc, .ref Ma, .ref Mas, .ref Msn, .ref Mac, .ref Mat])), (Mt, .inl (g 0, 160, .inl fmt))]) rfl rfl rfl rfl (by decide) (r_X7_highest_01 l D g H.size) (va_cwS 2 hts gX7_items_X7_highest rfl rfl rfl (by decide +kernel) ⟨(Nat.le_of_ble_eq_true rfl), (Nat.le_of_ble_eq_true rfl)⟩) rfl hl.1 rfl (Nat.le_of_ble_eq_true rfl) dX7_items_78 ⟨(Nat.le_of_ble_eq_true rfl), (Nat.le_of_ble_eq_true rfl)⟩ (fun r_42 u H locs hw hP2 hD2 hS2 => ?_)
        clear hP hD hS
        obtain ⟨rfl, rfl⟩ := hw
        have hPD : PD D A [(Mrr, .inl (g 0, 3, .inl F_24)), (Mm, .inr (7, [.int zth, .ref Mt, .int (nI tp), .int (nI (max_30 + 1)), .int (-1), .ref Mrr, .ref Mrh, .ref Mrc, .int (nI rh), .int (nI rc), .ref Mn, .ref Mf, .ref Mr, .ref Mh, .int zhp, .int zcc, .ref Ma, .ref Mas, .ref Msn, .ref Mac, .ref Mat])), (Mt, .inl (g 0, 160, .inl fmt))] H := ⟨hP2, hD2⟩
        have hS := hS2; clear hP2 hD2 hS2; have hP := hPD.1; have hD := hPD.2; clear hPD
        refine W.widen (k := 0) (n := 0) (Nat.le_of_ble_eq_true rfl) (Nat.le_of_ble_eq_true rfl) ?_
        refine ky_Vi (As := [.int 0, .int 20]) (rest := [.int 1, .ref Mrr]) ⟨hx, hb, hml, hown, hts⟩ ⟨hK, hN⟩ hZ hP hD hS hA [1, 2] [0] (wc := [(Mm, .inr (7, [.int zth, .ref Mt, .int (nI tp), .int (nI (max_30 + 1)), .int (-1), .ref Mrr, .ref Mrh, .ref Mrc, .int (nI rh), .int (nI rc), .ref Mn, .ref Mf, .ref Mr, .ref Mh, .int zhp, .int zcc, .ref Ma, .ref Mas, .ref Msn, .ref Mac, .ref Mat])), (Mt, .inl (g 0, 160, .inl fmt))]) (wr := [(Mrr, .inl (g 0, 3, .inl F_24))]) rfl rfl rfl rfl (by decide) (r_X7_number l D g H.size Mm 0 20 zth Mt tp (max_30 + 1) Mrr Mrh Mrc rh rc Mn Mf Mr Mh zhp zcc Ma Mas Msn Mac Mat fmt (show tp ≤ 160 by omega) (show (max_30 + 1) ≤ tp by omega) (show 0 ≤ 1 by omega)) (cwV 2 hts gX7_items_X7_number rfl rfl rfl (by decide +kernel) ⟨(Nat.le_of_ble_eq_true rfl), (Nat.le_of_ble_eq_true rfl)⟩) 1 7 rfl rfl rfl rfl hl.1 rfl (Nat.le_of_ble_eq_true rfl) dX7_items_81 ⟨(Nat.le_of_ble_eq_true rfl), (Nat.le_of_ble_eq_true rfl)⟩ (fun r_43 u H locs hw hP2 hD2 hS2 => ?_)
        clear hP hD hS
        obtain ⟨max_44, zwrx_45, nx_46, rfl, rfl, hf_47⟩ := hw
        have hg_48 := hf_47.1
        have hg_49 := hf_47.2.1
        have hg_50 := hf_47.2.2.1
        have hPD : PD D A [(Mrr, .inl (g 0, 3, .inl F_24)), (Mm, .inr (7, [.int zth, .ref Mt, .int (nI tp), .int (nI max_44), .int zwrx_45, .ref Mrr, .ref Mrh, .ref Mrc, .int (nI rh), .int (nI rc), .ref Mn, .ref Mf, .ref Mr, .ref Mh, .int zhp, .int zcc, .ref Ma, .ref Mas, .ref Msn, .ref Mac, .ref Mat])), (Mt, .inl (g 0, 160, .inl fmt))] H := ⟨hP2, hD2⟩
        have hS := hS2; clear hP2 hD2 hS2; have hP := hPD.1; have hD := hPD.2; clear hPD
        refine W.widen (k := 0) (n := 0) (Nat.le_of_ble_eq_true rfl) (Nat.le_of_ble_eq_true rfl) ?_
        refine va_iast hx hb hK hP hD hS 0 0 rfl rfl (by unfold vp_in; decide) dX7_items_84 (fun H locs hP2 hD2 hS2 => ?_)
        clear hP hD hS
        have hPD : PD D A [(Mrr, .inl (g 0, 3, .inl (upd F_24 1 (nI nx_46)))), (Mm, .inr (7, [.int zth, .ref Mt, .int (nI tp), .int (nI max_44), .int zwrx_45, .ref Mrr, .ref Mrh, .ref Mrc, .int (nI rh), .int (nI rc), .ref Mn, .ref Mf, .ref Mr, .ref Mh, .int zhp, .int zcc, .ref Ma, .ref Mas, .ref Msn, .ref Mac, .ref Mat])), (Mt, .inl (g 0, 160, .inl fmt))] H := ⟨hP2, hD2⟩
        have hS := hS2; clear hP2 hD2 hS2; have hP := hPD.1; have hD := hPD.2; clear hPD
        have hF_51 : n1 (upd F_24 1 (nI nx_46)) := n1_upd (hF_24) (n := nx_46) (show nx_46 ≤ 99 by omega)
        generalize upd F_24 1 (nI nx_46) = F_51 at hP hD hF_51
        by_cases cw_52 : zwrx_45 = -1
        · skip
          have hPq_53 := hP; have hDq_53 := hD; have hSq_53 := hS; have hlq_53 := hl; clear hP hD hS hl
          subst cw_52
          have hP := hPq_53; have hD := hDq_53; have hS := hSq_53; have hl := hlq_53; clear hPq_53 hDq_53 hSq_53 hlq_53
          have hne_55 := hf_47.2.2.2.2 rfl
          have hR_54 : itR fmt tp 0 4 0 ma = itR fmt tp 0 2 3 max_44 := hR_27.trans ((itR_go (f := 2) (m := 1) (q := 1) hf_33 hil_39.1 hil_39.2 (by decide) (by decide) hf_47.2.2.2.1.symm).trans (by rw [hne_55]))
          refine lv_iload_n hx hb dX7_items_85 rfl (lv_at hl 3 rfl) ?_
          refine lv_aload_n hx hb dX7_items_86 rfl (lv_at hl 2 rfl) ?_
          refine ky_Vi (As := []) (rest := [.int 0]) ⟨hx, hb, hml, hown, hts⟩ ⟨hK, hN⟩ hZ hP hD hS hA [1, 2] [0] (wc := [(Mm, .inr (7, [.int zth, .ref Mt, .int (nI tp), .int (nI max_44), .int (-1), .ref Mrr, .ref Mrh, .ref Mrc, .int (nI rh), .int (nI rc), .ref Mn, .ref Mf, .ref Mr, .ref Mh, .int zhp, .int zcc, .ref Ma, .ref Mas, .ref Msn, .ref Mac, .ref Mat])), (Mt, .inl (g 0, 160, .inl fmt))]) (wr := [(Mrr, .inl (g 0, 3, .inl F_51))]) rfl rfl rfl rfl (by decide) (r_X7_ahead l D g H.size Mm zth Mt tp max_44 (-1) Mrr Mrh Mrc rh rc Mn Mf Mr Mh zhp zcc Ma Mas Msn Mac Mat fmt (show tp ≤ 160 by omega) (show max_44 ≤ tp by omega)) (cwV 0 hts gX7_items_X7_ahead rfl rfl rfl (by decide +kernel) ⟨(Nat.le_of_ble_eq_true rfl), (Nat.le_of_ble_eq_true rfl)⟩) 1 7 rfl rfl rfl rfl hl.1 rfl (Nat.le_of_ble_eq_true rfl) dX7_items_87 ⟨(Nat.le_of_ble_eq_true rfl), (Nat.le_of_ble_eq_true rfl)⟩ (fun r_56 u H locs hw hP2 hD2 hS2 => ?_)
          clear hP hD hS
          obtain ⟨max_57, rfl, rfl, hf_58, hf_59, hf_60⟩ := hw
          have hPD : PD D A [(Mrr, .inl (g 0, 3, .inl F_51)), (Mm, .inr (7, [.int zth, .ref Mt, .int (nI tp), .int (nI max_57), .int (-1), .ref Mrr, .ref Mrh, .ref Mrc, .int (nI rh), .int (nI rc), .ref Mn, .ref Mf, .ref Mr, .ref Mh, .int zhp, .int zcc, .ref Ma, .ref Mas, .ref Msn, .ref Mac, .ref Mat])), (Mt, .inl (g 0, 160, .inl fmt))] H := ⟨hP2, hD2⟩
          have hS := hS2; clear hP2 hD2 hS2; have hP := hPD.1; have hD := hPD.2; clear hPD
          refine W.widen (k := 0) (n := 0) (Nat.le_of_ble_eq_true rfl) (Nat.le_of_ble_eq_true rfl) ?_
          refine lv_topi (fun y_61 hey_61 => ?_)
          refine ky_Si (As := [.int 0, .int y_61]) (rest := []) ⟨hx, hb, hml, hown, hts⟩ ⟨hK, hN⟩ hZ hP hD hS hA [] [0, 1, 2] (wc := []) (wr := [(Mrr, .inl (g 0, 3, .inl F_51)), (Mm, .inr (7, [.int zth, .ref Mt, .int (nI tp), .int (nI max_57), .int (-1), .ref Mrr, .ref Mrh, .ref Mrc, .int (nI rh), .int (nI rc), .ref Mn, .ref Mf, .ref Mr, .ref Mh, .int zhp, .int zcc, .ref Ma, .ref Mas, .ref Msn, .ref Mac, .ref Mat])), (Mt, .inl (g 0, 160, .inl fmt))]) rfl rfl rfl rfl (by decide) (r_X7_itemBy_0 l D g H.size y_61) (va_cwS 2 hts gX7_items_X7_itemBy rfl rfl rfl (by decide +kernel) ⟨(Nat.le_of_ble_eq_true rfl), (Nat.le_of_ble_eq_true rfl)⟩) rfl hl.1 rfl (Nat.le_of_ble_eq_true rfl) dX7_items_90 ⟨(Nat.le_of_ble_eq_true rfl), (Nat.le_of_ble_eq_true rfl)⟩ (fun r_62 u H locs hw hP2 hD2 hS2 => ?_)
          clear hP hD hS
          obtain ⟨rfl, rfl⟩ := hw
          have hPD : PD D A [(Mrr, .inl (g 0, 3, .inl F_51)), (Mm, .inr (7, [.int zth, .ref Mt, .int (nI tp), .int (nI max_57), .int (-1), .ref Mrr, .ref Mrh, .ref Mrc, .int (nI rh), .int (nI rc), .ref Mn, .ref Mf, .ref Mr, .ref Mh, .int zhp, .int zcc, .ref Ma, .ref Mas, .ref Msn, .ref Mac, .ref Mat])), (Mt, .inl (g 0, 160, .inl fmt))] H := ⟨hP2, hD2⟩
          have hS := hS2; clear hP2 hD2 hS2; have hP := hPD.1; have hD := hPD.2; clear hPD
          refine W.widen (k := 0) (n := 0) (Nat.le_of_ble_eq_true rfl) (Nat.le_of_ble_eq_true rfl) ?_
          rcases itK_c 0 y_61 with qi_63 | qi_63 | qi_63 | qi_63
          · skip
            refine lv_eqi (y := (-1)) (qi_63) ?_
            refine lv_istore (lv' := [(5, .int (-1)), (4, .int 3), (0, .ref Mm), (1, .int 0), (2, .ref Mrr), (3, .int 0)]) hx hb dX7_items_93 hl (by decide) rfl (fun ls hl => ?_)
            refine lv_goto (tgt := 20) hx hb dX7_items_95 (by decide) ?_
            refine lv_aload_n hx hb dX7_items_20 rfl (lv_at hl 2 rfl) ?_
            refine va_get (D := D) (ci := 7) (v := .int (-1)) (C := RX7) (T := TX7) (N := 21) hx hb hts iX7 hown hK hP 1 rfl rfl 4 (by decide) f71 (fun _ h9 => h9) rfl dX7_items_21 ?_
            refine lv_iconst (v := (-1)) hx hb dX7_items_24 (by decide) ?_
            refine lv_icmp_ne (tgt := 98) hx hb dX7_items_25 (by decide) (fun cb => absurd (by decide) cb) (fun _ => ?_)
            refine lv_iload hx hb dX7_items_28 (lv_at hl 0 rfl) ?_
            refine lv_iconst (v := (-1)) hx hb dX7_items_30 (by decide) ?_
            refine lv_icmp_eq (tgt := 98) hx hb dX7_items_31 (by decide) (fun _ => ?_) (fun cb => absurd (by decide) cb)
            have hPD9 : PD D A [(Mm, .inr (7, [.int zth, .ref Mt, .int (nI tp), .int (nI max_57), .int (-1), .ref Mrr, .ref Mrh, .ref Mrc, .int (nI rh), .int (nI rc), .ref Mn, .ref Mf, .ref Mr, .ref Mh, .int zhp, .int zcc, .ref Ma, .ref Mas, .ref Msn, .ref Mac, .ref Mat])), (Mt, .inl (g 0, 160, .inl fmt)), (Mrr, .inl (g 0, 3, .inl F_51))] H := ⟨hP.sub [1, 2, 0] rfl, hD.sub [1, 2, 0] (by decide) rfl⟩
            have hP9 := hPD9.1; have hD9 := hPD9.2
            subst hQ
            refine W.widen (k := 0) (n := 0) (Nat.le_of_ble_eq_true rfl) (Nat.le_of_ble_eq_true rfl) ?_
            exact W.vret hx hb hr (fun tS htS _ => ⟨⟨_, rfl, ⟨max_57, (-1), F_51, rfl, ⟨(hF_51), (show max_57 ≤ tp by omega), (show ma ≤ max_57 by omega), (congrArg Prod.fst (hR_54.trans (iv_m (f := 1) (m := 3) hf_60 hey_61.symm qi_63))).symm, (fun _ => (congrArg Prod.snd (hR_54.trans (iv_m (f := 1) (m := 3) hf_60 hey_61.symm qi_63))).symm)⟩⟩, by rw [htS]; exact hP9, hD9⟩, hS.F htS⟩) hS.2.2 dX7_items_98
          · skip
            refine lv_eqi (y := 0) (qi_63) ?_
            have hil_64 := iv_lt (k := 0) (q := 0) hey_61.symm qi_63 (by decide); have hil_64a := hil_64.1
            refine lv_istore (lv' := [(5, .int 0), (4, .int 3), (0, .ref Mm), (1, .int 0), (2, .ref Mrr), (3, .int 0)]) hx hb dX7_items_93 hl (by decide) rfl (fun ls hl => ?_)
            refine lv_goto (tgt := 20) hx hb dX7_items_95 (by decide) ?_
            refine lv_aload_n hx hb dX7_items_20 rfl (lv_at hl 2 rfl) ?_
            refine va_get (D := D) (ci := 7) (v := .int (-1)) (C := RX7) (T := TX7) (N := 21) hx hb hts iX7 hown hK hP 1 rfl rfl 4 (by decide) f71 (fun _ h9 => h9) rfl dX7_items_21 ?_
            refine lv_iconst (v := (-1)) hx hb dX7_items_24 (by decide) ?_
            refine lv_icmp_ne (tgt := 98) hx hb dX7_items_25 (by decide) (fun cb => absurd (by decide) cb) (fun _ => ?_)
            refine lv_iload hx hb dX7_items_28 (lv_at hl 0 rfl) ?_
            refine lv_iconst (v := (-1)) hx hb dX7_items_30 (by decide) ?_
            refine lv_icmp_eq (tgt := 98) hx hb dX7_items_31 (by decide) (fun cb => absurd cb (by decide)) (fun _ => ?_)
            refine lv_iload hx hb dX7_items_34 (lv_at hl 1 rfl) ?_
            refine lv_iload hx hb dX7_items_36 (lv_at hl 0 rfl) ?_
            refine ky_Si (As := [.int 3, .int 0]) (rest := []) ⟨hx, hb, hml, hown, hts⟩ ⟨hK, hN⟩ hZ hP hD hS hA [] [0, 1, 2] (wc := []) (wr := [(Mrr, .inl (g 0, 3, .inl F_51)), (Mm, .inr (7, [.int zth, .ref Mt, .int (nI tp), .int (nI max_57), .int (-1), .ref Mrr, .ref Mrh, .ref Mrc, .int (nI rh), .int (nI rc), .ref Mn, .ref Mf, .ref Mr, .ref Mh, .int zhp, .int zcc, .ref Ma, .ref Mas, .ref Msn, .ref Mac, .ref Mat])), (Mt, .inl (g 0, 160, .inl fmt))]) rfl rfl rfl rfl (by decide) (r_X7_has_30 l D g H.size) (va_cwS 2 hts gX7_items_X7_has rfl rfl rfl (by decide +kernel) ⟨(Nat.le_of_ble_eq_true rfl), (Nat.le_of_ble_eq_true rfl)⟩) rfl hl.1 rfl (Nat.le_of_ble_eq_true rfl) dX7_items_38 ⟨(Nat.le_of_ble_eq_true rfl), (Nat.le_of_ble_eq_true rfl)⟩ (fun r_65 u H locs hw hP2 hD2 hS2 => ?_)
            clear hP hD hS
            obtain ⟨rfl, rfl⟩ := hw
            have hPD : PD D A [(Mrr, .inl (g 0, 3, .inl F_51)), (Mm, .inr (7, [.int zth, .ref Mt, .int (nI tp), .int (nI max_57), .int (-1), .ref Mrr, .ref Mrh, .ref Mrc, .int (nI rh), .int (nI rc), .ref Mn, .ref Mf, .ref Mr, .ref Mh, .int zhp, .int zcc, .ref Ma, .ref Mas, .ref Msn, .ref Mac, .ref Mat])), (Mt, .inl (g 0, 160, .inl fmt))] H := ⟨hP2, hD2⟩
            have hS := hS2; clear hP2 hD2 hS2; have hP := hPD.1; have hD := hPD.2; clear hPD
            refine W.widen (k := 0) (n := 0) (Nat.le_of_ble_eq_true rfl) (Nat.le_of_ble_eq_true rfl) ?_
            refine lv_if_ne (tgt := 98) hx hb dX7_items_41 (by decide) (fun _ => ?_) (fun cb => absurd cb (by decide))
            have hPD9 : PD D A [(Mm, .inr (7, [.int zth, .ref Mt, .int (nI tp), .int (nI max_57), .int (-1), .ref Mrr, .ref Mrh, .ref Mrc, .int (nI rh), .int (nI rc), .ref Mn, .ref Mf, .ref Mr, .ref Mh, .int zhp, .int zcc, .ref Ma, .ref Mas, .ref Msn, .ref Mac, .ref Mat])), (Mt, .inl (g 0, 160, .inl fmt)), (Mrr, .inl (g 0, 3, .inl F_51))] H := ⟨hP.sub [1, 2, 0] rfl, hD.sub [1, 2, 0] (by decide) rfl⟩
            have hP9 := hPD9.1; have hD9 := hPD9.2
            subst hQ
            refine W.widen (k := 0) (n := 0) (Nat.le_of_ble_eq_true rfl) (Nat.le_of_ble_eq_true rfl) ?_
            exact W.vret hx hb hr (fun tS htS _ => ⟨⟨_, rfl, ⟨max_57, (-1), F_51, rfl, ⟨(hF_51), (show max_57 ≤ tp by omega), (show ma ≤ max_57 by omega), (congrArg Prod.fst (hR_54.trans (itR_again (f := 1) (m := 3) (q := 0) hf_60 hil_64.2 (by decide) (by decide)))).symm, (fun _ => (congrArg Prod.snd (hR_54.trans (itR_again (f := 1) (m := 3) (q := 0) hf_60 hil_64.2 (by decide) (by decide)))).symm)⟩⟩, by rw [htS]; exact hP9, hD9⟩, hS.F htS⟩) hS.2.2 dX7_items_98
          · skip
            refine lv_eqi (y := 1) (qi_63) ?_
            have hil_66 := iv_lt (k := 0) (q := 1) hey_61.symm qi_63 (by decide); have hil_66a := hil_66.1
            refine lv_istore (lv' := [(5, .int 1), (4, .int 3), (0, .ref Mm), (1, .int 0), (2, .ref Mrr), (3, .int 0)]) hx hb dX7_items_93 hl (by decide) rfl (fun ls hl => ?_)
            refine lv_goto (tgt := 20) hx hb dX7_items_95 (by decide) ?_
            refine lv_aload_n hx hb dX7_items_20 rfl (lv_at hl 2 rfl) ?_
            refine va_get (D := D) (ci := 7) (v := .int (-1)) (C := RX7) (T := TX7) (N := 21) hx hb hts iX7 hown hK hP 1 rfl rfl 4 (by decide) f71 (fun _ h9 => h9) rfl dX7_items_21 ?_
            refine lv_iconst (v := (-1)) hx hb dX7_items_24 (by decide) ?_
            refine lv_icmp_ne (tgt := 98) hx hb dX7_items_25 (by decide) (fun cb => absurd (by decide) cb) (fun _ => ?_)
            refine lv_iload hx hb dX7_items_28 (lv_at hl 0 rfl) ?_
            refine lv_iconst (v := (-1)) hx hb dX7_items_30 (by decide) ?_
            refine lv_icmp_eq (tgt := 98) hx hb dX7_items_31 (by decide) (fun cb => absurd cb (by decide)) (fun _ => ?_)
            refine lv_iload hx hb dX7_items_34 (lv_at hl 1 rfl) ?_
            refine lv_iload hx hb dX7_items_36 (lv_at hl 0 rfl) ?_
            refine ky_Si (As := [.int 3, .int 1]) (rest := []) ⟨hx, hb, hml, hown, hts⟩ ⟨hK, hN⟩ hZ hP hD hS hA [] [0, 1, 2] (wc := []) (wr := [(Mrr, .inl (g 0, 3, .inl F_51)), (Mm, .inr (7, [.int zth, .ref Mt, .int (nI tp), .int (nI max_57), .int (-1), .ref Mrr, .ref Mrh, .ref Mrc, .int (nI rh), .int (nI rc), .ref Mn, .ref Mf, .ref Mr, .ref Mh, .int zhp, .int zcc, .ref Ma, .ref Mas, .ref Msn, .ref Mac, .ref Mat])), (Mt, .inl (g 0, 160, .inl fmt))]) rfl rfl rfl rfl (by decide) (r_X7_has_31 l D g H.size) (va_cwS 2 hts gX7_items_X7_has rfl rfl rfl (by decide +kernel) ⟨(Nat.le_of_ble_eq_true rfl), (Nat.le_of_ble_eq_true rfl)⟩) rfl hl.1 rfl (Nat.le_of_ble_eq_true rfl) dX7_items_38 ⟨(Nat.le_of_ble_eq_true rfl), (Nat.le_of_ble_eq_true rfl)⟩ (fun r_67 u H locs hw hP2 hD2 hS2 => ?_)
            clear hP hD hS
            obtain ⟨rfl, rfl⟩ := hw
            have hPD : PD D A [(Mrr, .inl (g 0, 3, .inl F_51)), (Mm, .inr (7, [.int zth, .ref Mt, .int (nI tp), .int (nI max_57), .int (-1), .ref Mrr, .ref Mrh, .ref Mrc, .int (nI rh), .int (nI rc), .ref Mn, .ref Mf, .ref Mr, .ref Mh, .int zhp, .int zcc, .ref Ma, .ref Mas, .ref Msn, .ref Mac, .ref Mat])), (Mt, .inl (g 0, 160, .inl fmt))] H := ⟨hP2, hD2⟩
            have hS := hS2; clear hP2 hD2 hS2; have hP := hPD.1; have hD := hPD.2; clear hPD
            refine W.widen (k := 0) (n := 0) (Nat.le_of_ble_eq_true rfl) (Nat.le_of_ble_eq_true rfl) ?_
            refine lv_if_ne (tgt := 98) hx hb dX7_items_41 (by decide) (fun _ => ?_) (fun cb => absurd cb (by decide))
            have hPD9 : PD D A [(Mm, .inr (7, [.int zth, .ref Mt, .int (nI tp), .int (nI max_57), .int (-1), .ref Mrr, .ref Mrh, .ref Mrc, .int (nI rh), .int (nI rc), .ref Mn, .ref Mf, .ref Mr, .ref Mh, .int zhp, .int zcc, .ref Ma, .ref Mas, .ref Msn, .ref Mac, .ref Mat])), (Mt, .inl (g 0, 160, .inl fmt)), (Mrr, .inl (g 0, 3, .inl F_51))] H := ⟨hP.sub [1, 2, 0] rfl, hD.sub [1, 2, 0] (by decide) rfl⟩
            have hP9 := hPD9.1; have hD9 := hPD9.2
            subst hQ
            refine W.widen (k := 0) (n := 0) (Nat.le_of_ble_eq_true rfl) (Nat.le_of_ble_eq_true rfl) ?_
            exact W.vret hx hb hr (fun tS htS _ => ⟨⟨_, rfl, ⟨max_57, (-1), F_51, rfl, ⟨(hF_51), (show max_57 ≤ tp by omega), (show ma ≤ max_57 by omega), (congrArg Prod.fst (hR_54.trans (itR_again (f := 1) (m := 3) (q := 1) hf_60 hil_66.2 (by decide) (by decide)))).symm, (fun _ => (congrArg Prod.snd (hR_54.trans (itR_again (f := 1) (m := 3) (q := 1) hf_60 hil_66.2 (by decide) (by decide)))).symm)⟩⟩, by rw [htS]; exact hP9, hD9⟩, hS.F htS⟩) hS.2.2 dX7_items_98
          · skip
            refine lv_eqi (y := 2) (qi_63) ?_
            have hil_68 := iv_lt (k := 0) (q := 2) hey_61.symm qi_63 (by decide); have hil_68a := hil_68.1
            refine lv_istore (lv' := [(5, .int 2), (4, .int 3), (0, .ref Mm), (1, .int 0), (2, .ref Mrr), (3, .int 0)]) hx hb dX7_items_93 hl (by decide) rfl (fun ls hl => ?_)
            refine lv_goto (tgt := 20) hx hb dX7_items_95 (by decide) ?_
            refine lv_aload_n hx hb dX7_items_20 rfl (lv_at hl 2 rfl) ?_
            refine va_get (D := D) (ci := 7) (v := .int (-1)) (C := RX7) (T := TX7) (N := 21) hx hb hts iX7 hown hK hP 1 rfl rfl 4 (by decide) f71 (fun _ h9 => h9) rfl dX7_items_21 ?_
            refine lv_iconst (v := (-1)) hx hb dX7_items_24 (by decide) ?_
            refine lv_icmp_ne (tgt := 98) hx hb dX7_items_25 (by decide) (fun cb => absurd (by decide) cb) (fun _ => ?_)
            refine lv_iload hx hb dX7_items_28 (lv_at hl 0 rfl) ?_
            refine lv_iconst (v := (-1)) hx hb dX7_items_30 (by decide) ?_
            refine lv_icmp_eq (tgt := 98) hx hb dX7_items_31 (by decide) (fun cb => absurd cb (by decide)) (fun _ => ?_)
            refine lv_iload hx hb dX7_items_34 (lv_at hl 1 rfl) ?_
            refine lv_iload hx hb dX7_items_36 (lv_at hl 0 rfl) ?_
            refine ky_Si (As := [.int 3, .int 2]) (rest := []) ⟨hx, hb, hml, hown, hts⟩ ⟨hK, hN⟩ hZ hP hD hS hA [] [0, 1, 2] (wc := []) (wr := [(Mrr, .inl (g 0, 3, .inl F_51)), (Mm, .inr (7, [.int zth, .ref Mt, .int (nI tp), .int (nI max_57), .int (-1), .ref Mrr, .ref Mrh, .ref Mrc, .int (nI rh), .int (nI rc), .ref Mn, .ref Mf, .ref Mr, .ref Mh, .int zhp, .int zcc, .ref Ma, .ref Mas, .ref Msn, .ref Mac, .ref Mat])), (Mt, .inl (g 0, 160, .inl fmt))]) rfl rfl rfl rfl (by decide) (r_X7_has_32 l D g H.size) (va_cwS 2 hts gX7_items_X7_has rfl rfl rfl (by decide +kernel) ⟨(Nat.le_of_ble_eq_true rfl), (Nat.le_of_ble_eq_true rfl)⟩) rfl hl.1 rfl (Nat.le_of_ble_eq_true rfl) dX7_items_38 ⟨(Nat.le_of_ble_eq_true rfl), (Nat.le_of_ble_eq_true rfl)⟩ (fun r_69 u H locs hw hP2 hD2 hS2 => ?_)
            clear hP hD hS
            obtain ⟨rfl, rfl⟩ := hw
            have hPD : PD D A [(Mrr, .inl (g 0, 3, .inl F_51)), (Mm, .inr (7, [.int zth, .ref Mt, .int (nI tp), .int (nI max_57), .int (-1), .ref Mrr, .ref Mrh, .ref Mrc, .int (nI rh), .int (nI rc), .ref Mn, .ref Mf, .ref Mr, .ref Mh, .int zhp, .int zcc, .ref Ma, .ref Mas, .ref Msn, .ref Mac, .ref Mat])), (Mt, .inl (g 0, 160, .inl fmt))] H := ⟨hP2, hD2⟩
            have hS := hS2; clear hP2 hD2 hS2; have hP := hPD.1; have hD := hPD.2; clear hPD
            refine W.widen (k := 0) (n := 0) (Nat.le_of_ble_eq_true rfl) (Nat.le_of_ble_eq_true rfl) ?_
            refine lv_if_ne (tgt := 98) hx hb dX7_items_41 (by decide) (fun cb => absurd (by decide) cb) (fun _ => ?_)
            refine lv_iload hx hb dX7_items_44 (lv_at hl 1 rfl) ?_
            refine lv_iconst (v := 1) hx hb dX7_items_46 (by decide) ?_
            refine lv_iload hx hb dX7_items_47 (lv_at hl 0 rfl) ?_
            refine lv_ishl hx hb dX7_items_49 ?_
            refine lv_eqi (y := 4) (by decide) ?_
            refine lv_ior hx hb dX7_items_50 ?_
            refine lv_eqi (y := 7) (by decide) ?_
            refine lv_istore (lv' := [(4, .int 7), (5, .int 2), (0, .ref Mm), (1, .int 0), (2, .ref Mrr), (3, .int 0)]) hx hb dX7_items_51 hl (by decide) rfl (fun ls hl => ?_)
            refine lv_aload_n hx hb dX7_items_53 rfl (lv_at hl 2 rfl) ?_
            refine lv_dup hx hb dX7_items_54 rfl ?_
            refine va_get (D := D) (ci := 7) (v := .int (nI max_57)) (C := RX7) (T := TX7) (N := 21) hx hb hts iX7 hown hK hP 1 rfl rfl 3 (by decide) f64 (fun _ h9 => h9) rfl dX7_items_55 ?_
            refine lv_iconst (v := 1) hx hb dX7_items_58 (by decide) ?_
            refine lv_iadd hx hb dX7_items_59 ?_
            refine lv_eqi (y := (nI (max_57 + 1))) (nI_add (max_57) (1)) ?_
            refine va_put (D := D) (ci := 7) (v := .int (nI (max_57 + 1))) (ty := .int) (C := RX7) (T := TX7) (N := 21) hx hb hts iX7 tyX7 tyX7_ok nmX7 hown hK hP hD hS 1 rfl rfl 3 (by decide) f64 (fun _ h9 => h9) rfl (by decide +kernel) (rfl) (rfl) (Nat.le_of_ble_eq_true rfl) dX7_items_60 (fun H locs hP2 hD2 hS2 => ?_)
            clear hP hD hS
            have hPD : PD D A [(Mrr, .inl (g 0, 3, .inl F_51)), (Mm, .inr (7, [.int zth, .ref Mt, .int (nI tp), .int (nI (max_57 + 1)), .int (-1), .ref Mrr, .ref Mrh, .ref Mrc, .int (nI rh), .int (nI rc), .ref Mn, .ref Mf, .ref Mr, .ref Mh, .int zhp, .int zcc, .ref Ma, .ref Mas, .ref Msn, .ref Mac, .ref Mat])), (Mt, .inl (g 0, 160, .inl fmt))] H := ⟨hP2, hD2⟩
            have hS := hS2; clear hP2 hD2 hS2; have hP := hPD.1; have hD := hPD.2; clear hPD
            refine lv_aload_n hx hb dX7_items_63 rfl (lv_at hl 4 rfl) ?_
            refine lv_iload_n hx hb dX7_items_64 rfl (lv_at hl 5 rfl) ?_
            refine lv_iload hx hb dX7_items_65 (lv_at hl 1 rfl) ?_
            refine lv_iadd hx hb dX7_items_67 ?_
            refine lv_eqi (y := 2) (by decide) ?_
            refine lv_aload_n hx hb dX7_items_68 rfl (lv_at hl 2 rfl) ?_
            refine lv_iload_n hx hb dX7_items_69 rfl (lv_at hl 3 rfl) ?_
            refine lv_iload hx hb dX7_items_70 (lv_at hl 1 rfl) ?_
            refine ky_Si (As := [.int 0, .int 2]) (rest := [.ref Mm, .int 2, .ref Mrr]) ⟨hx, hb, hml, hown, hts⟩ ⟨hK, hN⟩ hZ hP hD hS hA [] [0, 1, 2] (wc := []) (wr := [(Mrr, .inl (g 0, 3, .inl F_51)), (Mm, .inr (7, [.int zth, .ref Mt, .int (nI tp), .int (nI (max_57 + 1)), .int (-1), .ref Mrr, .ref Mrh, .ref Mrc, .int (nI rh), .int (nI rc), .ref Mn, .ref Mf, .ref Mr, .ref Mh, .int zhp, .int zcc, .ref Ma, .ref Mas, .ref Msn, .ref Mac, .ref Mat])), (Mt, .inl (g 0, 160, .inl fmt))]) rfl rfl rfl rfl (by decide) (r_X7_lowest_02 l D g H.size) (va_cwS 2 hts gX7_items_X7_lowest rfl rfl rfl (by decide +kernel) ⟨(Nat.le_of_ble_eq_true rfl), (Nat.le_of_ble_eq_true rfl)⟩) rfl hl.1 rfl (Nat.le_of_ble_eq_true rfl) dX7_items_72 ⟨(Nat.le_of_ble_eq_true rfl), (Nat.le_of_ble_eq_true rfl)⟩ (fun r_70 u H locs hw hP2 hD2 hS2 => ?_)
            clear hP hD hS
            obtain ⟨rfl, rfl⟩ := hw
            have hPD : PD D A [(Mrr, .inl (g 0, 3, .inl F_51)), (Mm, .inr (7, [.int zth, .ref Mt, .int (nI tp), .int (nI (max_57 + 1)), .int (-1), .ref Mrr, .ref Mrh, .ref Mrc, .int (nI rh), .int (nI rc), .ref Mn, .ref Mf, .ref Mr, .ref Mh, .int zhp, .int zcc, .ref Ma, .ref Mas, .ref Msn, .ref Mac, .ref Mat])), (Mt, .inl (g 0, 160, .inl fmt))] H := ⟨hP2, hD2⟩
            have hS := hS2; clear hP2 hD2 hS2; have hP := hPD.1; have hD := hPD.2; clear hPD
            refine W.widen (k := 0) (n := 0) (Nat.le_of_ble_eq_true rfl) (Nat.le_of_ble_eq_true rfl) ?_
            refine lv_iload_n hx hb dX7_items_75 rfl (lv_at hl 3 rfl) ?_
            refine lv_iload hx hb dX7_items_76 (lv_at hl 1 rfl) ?_
            refine ky_Si (As := [.int 0, .int 2]) (rest := [.int 0, .ref Mm, .int 2, .ref Mrr]) ⟨hx, hb, hml, hown, hts⟩ ⟨hK, hN⟩ hZ hP hD hS hA [] [0, 1, 2] (wc := []) (wr := [(Mrr, .inl (g 0, 3, .inl F_51)), (Mm, .inr (7, [.int zth, .ref Mt, .int (nI tp), .int (nI (max_57 + 1)), .int (-1), .ref Mrr, .ref Mrh, .ref Mrc, .int (nI rh), .int (nI rc), .ref Mn, .ref Mf, .ref Mr, .ref Mh, .int zhp, .int zcc, .ref Ma, .ref Mas, .ref Msn, .ref Mac, .ref Mat])), (Mt, .inl (g 0, 160, .inl fmt))]) rfl rfl rfl rfl (by decide) (r_X7_highest_02 l D g H.size) (va_cwS 2 hts gX7_items_X7_highest rfl rfl rfl (by decide +kernel) ⟨(Nat.le_of_ble_eq_true rfl), (Nat.le_of_ble_eq_true rfl)⟩) rfl hl.1 rfl (Nat.le_of_ble_eq_true rfl) dX7_items_78 ⟨(Nat.le_of_ble_eq_true rfl), (Nat.le_of_ble_eq_true rfl)⟩ (fun r_71 u H locs hw hP2 hD2 hS2 => ?_)
            clear hP hD hS
            obtain ⟨rfl, rfl⟩ := hw
            have hPD : PD D A [(Mrr, .inl (g 0, 3, .inl F_51)), (Mm, .inr (7, [.int zth, .ref Mt, .int (nI tp), .int (nI (max_57 + 1)), .int (-1), .ref Mrr, .ref Mrh, .ref Mrc, .int (nI rh), .int (nI rc), .ref Mn, .ref Mf, .ref Mr, .ref Mh, .int zhp, .int zcc, .ref Ma, .ref Mas, .ref Msn, .ref Mac, .ref Mat])), (Mt, .inl (g 0, 160, .inl fmt))] H := ⟨hP2, hD2⟩
            have hS := hS2; clear hP2 hD2 hS2; have hP := hPD.1; have hD := hPD.2; clear hPD
            refine W.widen (k := 0) (n := 0) (Nat.le_of_ble_eq_true rfl) (Nat.le_of_ble_eq_true rfl) ?_
            refine ky_Vi (As := [.int 0, .int 9]) (rest := [.int 2, .ref Mrr]) ⟨hx, hb, hml, hown, hts⟩ ⟨hK, hN⟩ hZ hP hD hS hA [1, 2] [0] (wc := [(Mm, .inr (7, [.int zth, .ref Mt, .int (nI tp), .int (nI (max_57 + 1)), .int (-1), .ref Mrr, .ref Mrh, .ref Mrc, .int (nI rh), .int (nI rc), .ref Mn, .ref Mf, .ref Mr, .ref Mh, .int zhp, .int zcc, .ref Ma, .ref Mas, .ref Msn, .ref Mac, .ref Mat])), (Mt, .inl (g 0, 160, .inl fmt))]) (wr := [(Mrr, .inl (g 0, 3, .inl F_51))]) rfl rfl rfl rfl (by decide) (r_X7_number l D g H.size Mm 0 9 zth Mt tp (max_57 + 1) Mrr Mrh Mrc rh rc Mn Mf Mr Mh zhp zcc Ma Mas Msn Mac Mat fmt (show tp ≤ 160 by omega) (show (max_57 + 1) ≤ tp by omega) (show 0 ≤ 1 by omega)) (cwV 2 hts gX7_items_X7_number rfl rfl rfl (by decide +kernel) ⟨(Nat.le_of_ble_eq_true rfl), (Nat.le_of_ble_eq_true rfl)⟩) 1 7 rfl rfl rfl rfl hl.1 rfl (Nat.le_of_ble_eq_true rfl) dX7_items_81 ⟨(Nat.le_of_ble_eq_true rfl), (Nat.le_of_ble_eq_true rfl)⟩ (fun r_72 u H locs hw hP2 hD2 hS2 => ?_)
            clear hP hD hS
            obtain ⟨max_73, zwrx_74, nx_75, rfl, rfl, hf_76⟩ := hw
            have hg_77 := hf_76.1
            have hg_78 := hf_76.2.1
            have hg_79 := hf_76.2.2.1
            have hPD : PD D A [(Mrr, .inl (g 0, 3, .inl F_51)), (Mm, .inr (7, [.int zth, .ref Mt, .int (nI tp), .int (nI max_73), .int zwrx_74, .ref Mrr, .ref Mrh, .ref Mrc, .int (nI rh), .int (nI rc), .ref Mn, .ref Mf, .ref Mr, .ref Mh, .int zhp, .int zcc, .ref Ma, .ref Mas, .ref Msn, .ref Mac, .ref Mat])), (Mt, .inl (g 0, 160, .inl fmt))] H := ⟨hP2, hD2⟩
            have hS := hS2; clear hP2 hD2 hS2; have hP := hPD.1; have hD := hPD.2; clear hPD
            refine W.widen (k := 0) (n := 0) (Nat.le_of_ble_eq_true rfl) (Nat.le_of_ble_eq_true rfl) ?_
            refine va_iast hx hb hK hP hD hS 0 0 rfl rfl (by unfold vp_in; decide) dX7_items_84 (fun H locs hP2 hD2 hS2 => ?_)
            clear hP hD hS
            have hPD : PD D A [(Mrr, .inl (g 0, 3, .inl (upd F_51 2 (nI nx_75)))), (Mm, .inr (7, [.int zth, .ref Mt, .int (nI tp), .int (nI max_73), .int zwrx_74, .ref Mrr, .ref Mrh, .ref Mrc, .int (nI rh), .int (nI rc), .ref Mn, .ref Mf, .ref Mr, .ref Mh, .int zhp, .int zcc, .ref Ma, .ref Mas, .ref Msn, .ref Mac, .ref Mat])), (Mt, .inl (g 0, 160, .inl fmt))] H := ⟨hP2, hD2⟩
            have hS := hS2; clear hP2 hD2 hS2; have hP := hPD.1; have hD := hPD.2; clear hPD
            have hF_80 : n1 (upd F_51 2 (nI nx_75)) := n1_upd (hF_51) (n := nx_75) (show nx_75 ≤ 99 by omega)
            generalize upd F_51 2 (nI nx_75) = F_80 at hP hD hF_80
            by_cases cw_81 : zwrx_74 = -1
            · skip
              have hPq_82 := hP; have hDq_82 := hD; have hSq_82 := hS; have hlq_82 := hl; clear hP hD hS hl
              subst cw_81
              have hP := hPq_82; have hD := hDq_82; have hS := hSq_82; have hl := hlq_82; clear hPq_82 hDq_82 hSq_82 hlq_82
              have hne_84 := hf_76.2.2.2.2 rfl
              have hR_83 : itR fmt tp 0 4 0 ma = itR fmt tp 0 1 7 max_73 := hR_54.trans ((itR_go (f := 1) (m := 3) (q := 2) hf_60 hil_68.1 hil_68.2 (by decide) (by decide) hf_76.2.2.2.1.symm).trans (by rw [hne_84]))
              refine lv_iload_n hx hb dX7_items_85 rfl (lv_at hl 3 rfl) ?_
              refine lv_aload_n hx hb dX7_items_86 rfl (lv_at hl 2 rfl) ?_
              refine ky_Vi (As := []) (rest := [.int 0]) ⟨hx, hb, hml, hown, hts⟩ ⟨hK, hN⟩ hZ hP hD hS hA [1, 2] [0] (wc := [(Mm, .inr (7, [.int zth, .ref Mt, .int (nI tp), .int (nI max_73), .int (-1), .ref Mrr, .ref Mrh, .ref Mrc, .int (nI rh), .int (nI rc), .ref Mn, .ref Mf, .ref Mr, .ref Mh, .int zhp, .int zcc, .ref Ma, .ref Mas, .ref Msn, .ref Mac, .ref Mat])), (Mt, .inl (g 0, 160, .inl fmt))]) (wr := [(Mrr, .inl (g 0, 3, .inl F_80))]) rfl rfl rfl rfl (by decide) (r_X7_ahead l D g H.size Mm zth Mt tp max_73 (-1) Mrr Mrh Mrc rh rc Mn Mf Mr Mh zhp zcc Ma Mas Msn Mac Mat fmt (show tp ≤ 160 by omega) (show max_73 ≤ tp by omega)) (cwV 0 hts gX7_items_X7_ahead rfl rfl rfl (by decide +kernel) ⟨(Nat.le_of_ble_eq_true rfl), (Nat.le_of_ble_eq_true rfl)⟩) 1 7 rfl rfl rfl rfl hl.1 rfl (Nat.le_of_ble_eq_true rfl) dX7_items_87 ⟨(Nat.le_of_ble_eq_true rfl), (Nat.le_of_ble_eq_true rfl)⟩ (fun r_85 u H locs hw hP2 hD2 hS2 => ?_)
              clear hP hD hS
              obtain ⟨max_86, rfl, rfl, hf_87, hf_88, hf_89⟩ := hw
              have hPD : PD D A [(Mrr, .inl (g 0, 3, .inl F_80)), (Mm, .inr (7, [.int zth, .ref Mt, .int (nI tp), .int (nI max_86), .int (-1), .ref Mrr, .ref Mrh, .ref Mrc, .int (nI rh), .int (nI rc), .ref Mn, .ref Mf, .ref Mr, .ref Mh, .int zhp, .int zcc, .ref Ma, .ref Mas, .ref Msn, .ref Mac, .ref Mat])), (Mt, .inl (g 0, 160, .inl fmt))] H := ⟨hP2, hD2⟩
              have hS := hS2; clear hP2 hD2 hS2; have hP := hPD.1; have hD := hPD.2; clear hPD
              refine W.widen (k := 0) (n := 0) (Nat.le_of_ble_eq_true rfl) (Nat.le_of_ble_eq_true rfl) ?_
              refine lv_topi (fun y_90 hey_90 => ?_)
              refine ky_Si (As := [.int 0, .int y_90]) (rest := []) ⟨hx, hb, hml, hown, hts⟩ ⟨hK, hN⟩ hZ hP hD hS hA [] [0, 1, 2] (wc := []) (wr := [(Mrr, .inl (g 0, 3, .inl F_80)), (Mm, .inr (7, [.int zth, .ref Mt, .int (nI tp), .int (nI max_86), .int (-1), .ref Mrr, .ref Mrh, .ref Mrc, .int (nI rh), .int (nI rc), .ref Mn, .ref Mf, .ref Mr, .ref Mh, .int zhp, .int zcc, .ref Ma, .ref Mas, .ref Msn, .ref Mac, .ref Mat])), (Mt, .inl (g 0, 160, .inl fmt))]) rfl rfl rfl rfl (by decide) (r_X7_itemBy_0 l D g H.size y_90) (va_cwS 2 hts gX7_items_X7_itemBy rfl rfl rfl (by decide +kernel) ⟨(Nat.le_of_ble_eq_true rfl), (Nat.le_of_ble_eq_true rfl)⟩) rfl hl.1 rfl (Nat.le_of_ble_eq_true rfl) dX7_items_90 ⟨(Nat.le_of_ble_eq_true rfl), (Nat.le_of_ble_eq_true rfl)⟩ (fun r_91 u H locs hw hP2 hD2 hS2 => ?_)
              clear hP hD hS
              obtain ⟨rfl, rfl⟩ := hw
              have hPD : PD D A [(Mrr, .inl (g 0, 3, .inl F_80)), (Mm, .inr (7, [.int zth, .ref Mt, .int (nI tp), .int (nI max_86), .int (-1), .ref Mrr, .ref Mrh, .ref Mrc, .int (nI rh), .int (nI rc), .ref Mn, .ref Mf, .ref Mr, .ref Mh, .int zhp, .int zcc, .ref Ma, .ref Mas, .ref Msn, .ref Mac, .ref Mat])), (Mt, .inl (g 0, 160, .inl fmt))] H := ⟨hP2, hD2⟩
              have hS := hS2; clear hP2 hD2 hS2; have hP := hPD.1; have hD := hPD.2; clear hPD
              refine W.widen (k := 0) (n := 0) (Nat.le_of_ble_eq_true rfl) (Nat.le_of_ble_eq_true rfl) ?_
              rcases itK_c 0 y_90 with qi_92 | qi_92 | qi_92 | qi_92
              · skip
                refine lv_eqi (y := (-1)) (qi_92) ?_
                refine lv_istore (lv' := [(5, .int (-1)), (4, .int 7), (0, .ref Mm), (1, .int 0), (2, .ref Mrr), (3, .int 0)]) hx hb dX7_items_93 hl (by decide) rfl (fun ls hl => ?_)
                refine lv_goto (tgt := 20) hx hb dX7_items_95 (by decide) ?_
                refine lv_aload_n hx hb dX7_items_20 rfl (lv_at hl 2 rfl) ?_
                refine va_get (D := D) (ci := 7) (v := .int (-1)) (C := RX7) (T := TX7) (N := 21) hx hb hts iX7 hown hK hP 1 rfl rfl 4 (by decide) f71 (fun _ h9 => h9) rfl dX7_items_21 ?_
                refine lv_iconst (v := (-1)) hx hb dX7_items_24 (by decide) ?_
                refine lv_icmp_ne (tgt := 98) hx hb dX7_items_25 (by decide) (fun cb => absurd (by decide) cb) (fun _ => ?_)
                refine lv_iload hx hb dX7_items_28 (lv_at hl 0 rfl) ?_
                refine lv_iconst (v := (-1)) hx hb dX7_items_30 (by decide) ?_
                refine lv_icmp_eq (tgt := 98) hx hb dX7_items_31 (by decide) (fun _ => ?_) (fun cb => absurd (by decide) cb)
                have hPD9 : PD D A [(Mm, .inr (7, [.int zth, .ref Mt, .int (nI tp), .int (nI max_86), .int (-1), .ref Mrr, .ref Mrh, .ref Mrc, .int (nI rh), .int (nI rc), .ref Mn, .ref Mf, .ref Mr, .ref Mh, .int zhp, .int zcc, .ref Ma, .ref Mas, .ref Msn, .ref Mac, .ref Mat])), (Mt, .inl (g 0, 160, .inl fmt)), (Mrr, .inl (g 0, 3, .inl F_80))] H := ⟨hP.sub [1, 2, 0] rfl, hD.sub [1, 2, 0] (by decide) rfl⟩
                have hP9 := hPD9.1; have hD9 := hPD9.2
                subst hQ
                refine W.widen (k := 0) (n := 0) (Nat.le_of_ble_eq_true rfl) (Nat.le_of_ble_eq_true rfl) ?_
                exact W.vret hx hb hr (fun tS htS _ => ⟨⟨_, rfl, ⟨max_86, (-1), F_80, rfl, ⟨(hF_80), (show max_86 ≤ tp by omega), (show ma ≤ max_86 by omega), (congrArg Prod.fst (hR_83.trans (iv_m (f := 0) (m := 7) hf_89 hey_90.symm qi_92))).symm, (fun _ => (congrArg Prod.snd (hR_83.trans (iv_m (f := 0) (m := 7) hf_89 hey_90.symm qi_92))).symm)⟩⟩, by rw [htS]; exact hP9, hD9⟩, hS.F htS⟩) hS.2.2 dX7_items_98
              · skip
                refine lv_eqi (y := 0) (qi_92) ?_
                have hil_93 := iv_lt (k := 0) (q := 0) hey_90.symm qi_92 (by decide); have hil_93a := hil_93.1
                refine lv_istore (lv' := [(5, .int 0), (4, .int 7), (0, .ref Mm), (1, .int 0), (2, .ref Mrr), (3, .int 0)]) hx hb dX7_items_93 hl (by decide) rfl (fun ls hl => ?_)
                refine lv_goto (tgt := 20) hx hb dX7_items_95 (by decide) ?_
                refine lv_aload_n hx hb dX7_items_20 rfl (lv_at hl 2 rfl) ?_
                refine va_get (D := D) (ci := 7) (v := .int (-1)) (C := RX7) (T := TX7) (N := 21) hx hb hts iX7 hown hK hP 1 rfl rfl 4 (by decide) f71 (fun _ h9 => h9) rfl dX7_items_21 ?_
                refine lv_iconst (v := (-1)) hx hb dX7_items_24 (by decide) ?_
                refine lv_icmp_ne (tgt := 98) hx hb dX7_items_25 (by decide) (fun cb => absurd (by decide) cb) (fun _ => ?_)
                refine lv_iload hx hb dX7_items_28 (lv_at hl 0 rfl) ?_
                refine lv_iconst (v := (-1)) hx hb dX7_items_30 (by decide) ?_
                refine lv_icmp_eq (tgt := 98) hx hb dX7_items_31 (by decide) (fun cb => absurd cb (by decide)) (fun _ => ?_)
                refine lv_iload hx hb dX7_items_34 (lv_at hl 1 rfl) ?_
                refine lv_iload hx hb dX7_items_36 (lv_at hl 0 rfl) ?_
                refine ky_Si (As := [.int 7, .int 0]) (rest := []) ⟨hx, hb, hml, hown, hts⟩ ⟨hK, hN⟩ hZ hP hD hS hA [] [0, 1, 2] (wc := []) (wr := [(Mrr, .inl (g 0, 3, .inl F_80)), (Mm, .inr (7, [.int zth, .ref Mt, .int (nI tp), .int (nI max_86), .int (-1), .ref Mrr, .ref Mrh, .ref Mrc, .int (nI rh), .int (nI rc), .ref Mn, .ref Mf, .ref Mr, .ref Mh, .int zhp, .int zcc, .ref Ma, .ref Mas, .ref Msn, .ref Mac, .ref Mat])), (Mt, .inl (g 0, 160, .inl fmt))]) rfl rfl rfl rfl (by decide) (r_X7_has_70 l D g H.size) (va_cwS 2 hts gX7_items_X7_has rfl rfl rfl (by decide +kernel) ⟨(Nat.le_of_ble_eq_true rfl), (Nat.le_of_ble_eq_true rfl)⟩) rfl hl.1 rfl (Nat.le_of_ble_eq_true rfl) dX7_items_38 ⟨(Nat.le_of_ble_eq_true rfl), (Nat.le_of_ble_eq_true rfl)⟩ (fun r_94 u H locs hw hP2 hD2 hS2 => ?_)
                clear hP hD hS
                obtain ⟨rfl, rfl⟩ := hw
                have hPD : PD D A [(Mrr, .inl (g 0, 3, .inl F_80)), (Mm, .inr (7, [.int zth, .ref Mt, .int (nI tp), .int (nI max_86), .int (-1), .ref Mrr, .ref Mrh, .ref Mrc, .int (nI rh), .int (nI rc), .ref Mn, .ref Mf, .ref Mr, .ref Mh, .int zhp, .int zcc, .ref Ma, .ref Mas, .ref Msn, .ref Mac, .ref Mat])), (Mt, .inl (g 0, 160, .inl fmt))] H := ⟨hP2, hD2⟩
                have hS := hS2; clear hP2 hD2 hS2; have hP := hPD.1; have hD := hPD.2; clear hPD
                refine W.widen (k := 0) (n := 0) (Nat.le_of_ble_eq_true rfl) (Nat.le_of_ble_eq_true rfl) ?_
                refine lv_if_ne (tgt := 98) hx hb dX7_items_41 (by decide) (fun _ => ?_) (fun cb => absurd cb (by decide))
                have hPD9 : PD D A [(Mm, .inr (7, [.int zth, .ref Mt, .int (nI tp), .int (nI max_86), .int (-1), .ref Mrr, .ref Mrh, .ref Mrc, .int (nI rh), .int (nI rc), .ref Mn, .ref Mf, .ref Mr, .ref Mh, .int zhp, .int zcc, .ref Ma, .ref Mas, .ref Msn, .ref Mac, .ref Mat])), (Mt, .inl (g 0, 160, .inl fmt)), (Mrr, .inl (g 0, 3, .inl F_80))] H := ⟨hP.sub [1, 2, 0] rfl, hD.sub [1, 2, 0] (by decide) rfl⟩
                have hP9 := hPD9.1; have hD9 := hPD9.2
                subst hQ
                refine W.widen (k := 0) (n := 0) (Nat.le_of_ble_eq_true rfl) (Nat.le_of_ble_eq_true rfl) ?_
                exact W.vret hx hb hr (fun tS htS _ => ⟨⟨_, rfl, ⟨max_86, (-1), F_80, rfl, ⟨(hF_80), (show max_86 ≤ tp by omega), (show ma ≤ max_86 by omega), (congrArg Prod.fst (hR_83.trans (itR_again (f := 0) (m := 7) (q := 0) hf_89 hil_93.2 (by decide) (by decide)))).symm, (fun _ => (congrArg Prod.snd (hR_83.trans (itR_again (f := 0) (m := 7) (q := 0) hf_89 hil_93.2 (by decide) (by decide)))).symm)⟩⟩, by rw [htS]; exact hP9, hD9⟩, hS.F htS⟩) hS.2.2 dX7_items_98
              · skip
                refine lv_eqi (y := 1) (qi_92) ?_
                have hil_95 := iv_lt (k := 0) (q := 1) hey_90.symm qi_92 (by decide); have hil_95a := hil_95.1
                refine lv_istore (lv' := [(5, .int 1), (4, .int 7), (0, .ref Mm), (1, .int 0), (2, .ref Mrr), (3, .int 0)]) hx hb dX7_items_93 hl (by decide) rfl (fun ls hl => ?_)
                refine lv_goto (tgt := 20) hx hb dX7_items_95 (by decide) ?_
                refine lv_aload_n hx hb dX7_items_20 rfl (lv_at hl 2 rfl) ?_
                refine va_get (D := D) (ci := 7) (v := .int (-1)) (C := RX7) (T := TX7) (N := 21) hx hb hts iX7 hown hK hP 1 rfl rfl 4 (by decide) f71 (fun _ h9 => h9) rfl dX7_items_21 ?_
                refine lv_iconst (v := (-1)) hx hb dX7_items_24 (by decide) ?_
                refine lv_icmp_ne (tgt := 98) hx hb dX7_items_25 (by decide) (fun cb => absurd (by decide) cb) (fun _ => ?_)
                refine lv_iload hx hb dX7_items_28 (lv_at hl 0 rfl) ?_
                refine lv_iconst (v := (-1)) hx hb dX7_items_30 (by decide) ?_
                refine lv_icmp_eq (tgt := 98) hx hb dX7_items_31 (by decide) (fun cb => absurd cb (by decide)) (fun _ => ?_)
                refine lv_iload hx hb dX7_items_34 (lv_at hl 1 rfl) ?_
                refine lv_iload hx hb dX7_items_36 (lv_at hl 0 rfl) ?_
                refine ky_Si (As := [.int 7, .int 1]) (rest := []) ⟨hx, hb, hml, hown, hts⟩ ⟨hK, hN⟩ hZ hP hD hS hA [] [0, 1, 2] (wc := []) (wr := [(Mrr, .inl (g 0, 3, .inl F_80)), (Mm, .inr (7, [.int zth, .ref Mt, .int (nI tp), .int (nI max_86), .int (-1), .ref Mrr, .ref Mrh, .ref Mrc, .int (nI rh), .int (nI rc), .ref Mn, .ref Mf, .ref Mr, .ref Mh, .int zhp, .int zcc, .ref Ma, .ref Mas, .ref Msn, .ref Mac, .ref Mat])), (Mt, .inl (g 0, 160, .inl fmt))]) rfl rfl rfl rfl (by decide) (r_X7_has_71 l D g H.size) (va_cwS 2 hts gX7_items_X7_has rfl rfl rfl (by decide +kernel) ⟨(Nat.le_of_ble_eq_true rfl), (Nat.le_of_ble_eq_true rfl)⟩) rfl hl.1 rfl (Nat.le_of_ble_eq_true rfl) dX7_items_38 ⟨(Nat.le_of_ble_eq_true rfl), (Nat.le_of_ble_eq_true rfl)⟩ (fun r_96 u H locs hw hP2 hD2 hS2 => ?_)
                clear hP hD hS
                obtain ⟨rfl, rfl⟩ := hw
                have hPD : PD D A [(Mrr, .inl (g 0, 3, .inl F_80)), (Mm, .inr (7, [.int zth, .ref Mt, .int (nI tp), .int (nI max_86), .int (-1), .ref Mrr, .ref Mrh, .ref Mrc, .int (nI rh), .int (nI rc), .ref Mn, .ref Mf, .ref Mr, .ref Mh, .int zhp, .int zcc, .ref Ma, .ref Mas, .ref Msn, .ref Mac, .ref Mat])), (Mt, .inl (g 0, 160, .inl fmt))] H := ⟨hP2, hD2⟩
                have hS := hS2; clear hP2 hD2 hS2; have hP := hPD.1; have hD := hPD.2; clear hPD
                refine W.widen (k := 0) (n := 0) (Nat.le_of_ble_eq_true rfl) (Nat.le_of_ble_eq_true rfl) ?_
                refine lv_if_ne (tgt := 98) hx hb dX7_items_41 (by decide) (fun _ => ?_) (fun cb => absurd cb (by decide))
                have hPD9 : PD D A [(Mm, .inr (7, [.int zth, .ref Mt, .int (nI tp), .int (nI max_86), .int (-1), .ref Mrr, .ref Mrh, .ref Mrc, .int (nI rh), .int (nI rc), .ref Mn, .ref Mf, .ref Mr, .ref Mh, .int zhp, .int zcc, .ref Ma, .ref Mas, .ref Msn, .ref Mac, .ref Mat])), (Mt, .inl (g 0, 160, .inl fmt)), (Mrr, .inl (g 0, 3, .inl F_80))] H := ⟨hP.sub [1, 2, 0] rfl, hD.sub [1, 2, 0] (by decide) rfl⟩
                have hP9 := hPD9.1; have hD9 := hPD9.2
                subst hQ
                refine W.widen (k := 0) (n := 0) (Nat.le_of_ble_eq_true rfl) (Nat.le_of_ble_eq_true rfl) ?_
                exact W.vret hx hb hr (fun tS htS _ => ⟨⟨_, rfl, ⟨max_86, (-1), F_80, rfl, ⟨(hF_80), (show max_86 ≤ tp by omega), (show ma ≤ max_86 by omega), (congrArg Prod.fst (hR_83.trans (itR_again (f := 0) (m := 7) (q := 1) hf_89 hil_95.2 (by decide) (by decide)))).symm, (fun _ => (congrArg Prod.snd (hR_83.trans (itR_again (f := 0) (m := 7) (q := 1) hf_89 hil_95.2 (by decide) (by decide)))).symm)⟩⟩, by rw [htS]; exact hP9, hD9⟩, hS.F htS⟩) hS.2.2 dX7_items_98
              · skip
                refine lv_eqi (y := 2) (qi_92) ?_
                have hil_97 := iv_lt (k := 0) (q := 2) hey_90.symm qi_92 (by decide); have hil_97a := hil_97.1
                refine lv_istore (lv' := [(5, .int 2), (4, .int 7), (0, .ref Mm), (1, .int 0), (2, .ref Mrr), (3, .int 0)]) hx hb dX7_items_93 hl (by decide) rfl (fun ls hl => ?_)
                refine lv_goto (tgt := 20) hx hb dX7_items_95 (by decide) ?_
                refine lv_aload_n hx hb dX7_items_20 rfl (lv_at hl 2 rfl) ?_
                refine va_get (D := D) (ci := 7) (v := .int (-1)) (C := RX7) (T := TX7) (N := 21) hx hb hts iX7 hown hK hP 1 rfl rfl 4 (by decide) f71 (fun _ h9 => h9) rfl dX7_items_21 ?_
                refine lv_iconst (v := (-1)) hx hb dX7_items_24 (by decide) ?_
                refine lv_icmp_ne (tgt := 98) hx hb dX7_items_25 (by decide) (fun cb => absurd (by decide) cb) (fun _ => ?_)
                refine lv_iload hx hb dX7_items_28 (lv_at hl 0 rfl) ?_
                refine lv_iconst (v := (-1)) hx hb dX7_items_30 (by decide) ?_
                refine lv_icmp_eq (tgt := 98) hx hb dX7_items_31 (by decide) (fun cb => absurd cb (by decide)) (fun _ => ?_)
                refine lv_iload hx hb dX7_items_34 (lv_at hl 1 rfl) ?_
                refine lv_iload hx hb dX7_items_36 (lv_at hl 0 rfl) ?_
                refine ky_Si (As := [.int 7, .int 2]) (rest := []) ⟨hx, hb, hml, hown, hts⟩ ⟨hK, hN⟩ hZ hP hD hS hA [] [0, 1, 2] (wc := []) (wr := [(Mrr, .inl (g 0, 3, .inl F_80)), (Mm, .inr (7, [.int zth, .ref Mt, .int (nI tp), .int (nI max_86), .int (-1), .ref Mrr, .ref Mrh, .ref Mrc, .int (nI rh), .int (nI rc), .ref Mn, .ref Mf, .ref Mr, .ref Mh, .int zhp, .int zcc, .ref Ma, .ref Mas, .ref Msn, .ref Mac, .ref Mat])), (Mt, .inl (g 0, 160, .inl fmt))]) rfl rfl rfl rfl (by decide) (r_X7_has_72 l D g H.size) (va_cwS 2 hts gX7_items_X7_has rfl rfl rfl (by decide +kernel) ⟨(Nat.le_of_ble_eq_true rfl), (Nat.le_of_ble_eq_true rfl)⟩) rfl hl.1 rfl (Nat.le_of_ble_eq_true rfl) dX7_items_38 ⟨(Nat.le_of_ble_eq_true rfl), (Nat.le_of_ble_eq_true rfl)⟩ (fun r_98 u H locs hw hP2 hD2 hS2 => ?_)
                clear hP hD hS
                obtain ⟨rfl, rfl⟩ := hw
                have hPD : PD D A [(Mrr, .inl (g 0, 3, .inl F_80)), (Mm, .inr (7, [.int zth, .ref Mt, .int (nI tp), .int (nI max_86), .int (-1), .ref Mrr, .ref Mrh, .ref Mrc, .int (nI rh), .int (nI rc), .ref Mn, .ref Mf, .ref Mr, .ref Mh, .int zhp, .int zcc, .ref Ma, .ref Mas, .ref Msn, .ref Mac, .ref Mat])), (Mt, .inl (g 0, 160, .inl fmt))] H := ⟨hP2, hD2⟩
                have hS := hS2; clear hP2 hD2 hS2; have hP := hPD.1; have hD := hPD.2; clear hPD
                refine W.widen (k := 0) (n := 0) (Nat.le_of_ble_eq_true rfl) (Nat.le_of_ble_eq_true rfl) ?_
                refine lv_if_ne (tgt := 98) hx hb dX7_items_41 (by decide) (fun _ => ?_) (fun cb => absurd cb (by decide))
                have hPD9 : PD D A [(Mm, .inr (7, [.int zth, .ref Mt, .int (nI tp), .int (nI max_86), .int (-1), .ref Mrr, .ref Mrh, .ref Mrc, .int (nI rh), .int (nI rc), .ref Mn, .ref Mf, .ref Mr, .ref Mh, .int zhp, .int zcc, .ref Ma, .ref Mas, .ref Msn, .ref Mac, .ref Mat])), (Mt, .inl (g 0, 160, .inl fmt)), (Mrr, .inl (g 0, 3, .inl F_80))] H := ⟨hP.sub [1, 2, 0] rfl, hD.sub [1, 2, 0] (by decide) rfl⟩
                have hP9 := hPD9.1; have hD9 := hPD9.2
                subst hQ
                refine W.widen (k := 0) (n := 0) (Nat.le_of_ble_eq_true rfl) (Nat.le_of_ble_eq_true rfl) ?_
                exact W.vret hx hb hr (fun tS htS _ => ⟨⟨_, rfl, ⟨max_86, (-1), F_80, rfl, ⟨(hF_80), (show max_86 ≤ tp by omega), (show ma ≤ max_86 by omega), (congrArg Prod.fst (hR_83.trans (itR_again (f := 0) (m := 7) (q := 2) hf_89 hil_97.2 (by decide) (by decide)))).symm, (fun _ => (congrArg Prod.snd (hR_83.trans (itR_again (f := 0) (m := 7) (q := 2) hf_89 hil_97.2 (by decide) (by decide)))).symm)⟩⟩, by rw [htS]; exact hP9, hD9⟩, hS.F htS⟩) hS.2.2 dX7_items_98
            · skip
              refine lv_iload_n hx hb dX7_items_85 rfl (lv_at hl 3 rfl) ?_
              refine lv_aload_n hx hb dX7_items_86 rfl (lv_at hl 2 rfl) ?_
              refine ky_Vi (As := []) (rest := [.int 0]) ⟨hx, hb, hml, hown, hts⟩ ⟨hK, hN⟩ hZ hP hD hS hA [1, 2] [0] (wc := [(Mm, .inr (7, [.int zth, .ref Mt, .int (nI tp), .int (nI max_73), .int zwrx_74, .ref Mrr, .ref Mrh, .ref Mrc, .int (nI rh), .int (nI rc), .ref Mn, .ref Mf, .ref Mr, .ref Mh, .int zhp, .int zcc, .ref Ma, .ref Mas, .ref Msn, .ref Mac, .ref Mat])), (Mt, .inl (g 0, 160, .inl fmt))]) (wr := [(Mrr, .inl (g 0, 3, .inl F_80))]) rfl rfl rfl rfl (by decide) (r_X7_ahead l D g H.size Mm zth Mt tp max_73 zwrx_74 Mrr Mrh Mrc rh rc Mn Mf Mr Mh zhp zcc Ma Mas Msn Mac Mat fmt (show tp ≤ 160 by omega) (show max_73 ≤ tp by omega)) (cwV 0 hts gX7_items_X7_ahead rfl rfl rfl (by decide +kernel) ⟨(Nat.le_of_ble_eq_true rfl), (Nat.le_of_ble_eq_true rfl)⟩) 1 7 rfl rfl rfl rfl hl.1 rfl (Nat.le_of_ble_eq_true rfl) dX7_items_87 ⟨(Nat.le_of_ble_eq_true rfl), (Nat.le_of_ble_eq_true rfl)⟩ (fun r_99 u H locs hw hP2 hD2 hS2 => ?_)
              clear hP hD hS
              obtain ⟨max_100, rfl, rfl, hf_101, hf_102, hf_103⟩ := hw
              have hPD : PD D A [(Mrr, .inl (g 0, 3, .inl F_80)), (Mm, .inr (7, [.int zth, .ref Mt, .int (nI tp), .int (nI max_100), .int zwrx_74, .ref Mrr, .ref Mrh, .ref Mrc, .int (nI rh), .int (nI rc), .ref Mn, .ref Mf, .ref Mr, .ref Mh, .int zhp, .int zcc, .ref Ma, .ref Mas, .ref Msn, .ref Mac, .ref Mat])), (Mt, .inl (g 0, 160, .inl fmt))] H := ⟨hP2, hD2⟩
              have hS := hS2; clear hP2 hD2 hS2; have hP := hPD.1; have hD := hPD.2; clear hPD
              refine W.widen (k := 0) (n := 0) (Nat.le_of_ble_eq_true rfl) (Nat.le_of_ble_eq_true rfl) ?_
              refine lv_topi (fun y_104 hey_104 => ?_)
              refine ky_Si (As := [.int 0, .int y_104]) (rest := []) ⟨hx, hb, hml, hown, hts⟩ ⟨hK, hN⟩ hZ hP hD hS hA [] [0, 1, 2] (wc := []) (wr := [(Mrr, .inl (g 0, 3, .inl F_80)), (Mm, .inr (7, [.int zth, .ref Mt, .int (nI tp), .int (nI max_100), .int zwrx_74, .ref Mrr, .ref Mrh, .ref Mrc, .int (nI rh), .int (nI rc), .ref Mn, .ref Mf, .ref Mr, .ref Mh, .int zhp, .int zcc, .ref Ma, .ref Mas, .ref Msn, .ref Mac, .ref Mat])), (Mt, .inl (g 0, 160, .inl fmt))]) rfl rfl rfl rfl (by decide) (r_X7_itemBy_0 l D g H.size y_104) (va_cwS 2 hts gX7_items_X7_itemBy rfl rfl rfl (by decide +kernel) ⟨(Nat.le_of_ble_eq_true rfl), (Nat.le_of_ble_eq_true rfl)⟩) rfl hl.1 rfl (Nat.le_of_ble_eq_true rfl) dX7_items_90 ⟨(Nat.le_of_ble_eq_true rfl), (Nat.le_of_ble_eq_true rfl)⟩ (fun r_105 u H locs hw hP2 hD2 hS2 => ?_)
              clear hP hD hS
              obtain ⟨rfl, rfl⟩ := hw
              have hPD : PD D A [(Mrr, .inl (g 0, 3, .inl F_80)), (Mm, .inr (7, [.int zth, .ref Mt, .int (nI tp), .int (nI max_100), .int zwrx_74, .ref Mrr, .ref Mrh, .ref Mrc, .int (nI rh), .int (nI rc), .ref Mn, .ref Mf, .ref Mr, .ref Mh, .int zhp, .int zcc, .ref Ma, .ref Mas, .ref Msn, .ref Mac, .ref Mat])), (Mt, .inl (g 0, 160, .inl fmt))] H := ⟨hP2, hD2⟩
              have hS := hS2; clear hP2 hD2 hS2; have hP := hPD.1; have hD := hPD.2; clear hPD
              refine W.widen (k := 0) (n := 0) (Nat.le_of_ble_eq_true rfl) (Nat.le_of_ble_eq_true rfl) ?_
              refine lv_istore (lv' := [(5, .int (itK 0 y_104)), (4, .int 7), (0, .ref Mm), (1, .int 0), (2, .ref Mrr), (3, .int 0)]) hx hb dX7_items_93 hl (by decide) rfl (fun ls hl => ?_)
              refine lv_goto (tgt := 20) hx hb dX7_items_95 (by decide) ?_
              refine lv_aload_n hx hb dX7_items_20 rfl (lv_at hl 2 rfl) ?_
              refine va_get (D := D) (ci := 7) (v := .int zwrx_74) (C := RX7) (T := TX7) (N := 21) hx hb hts iX7 hown hK hP 1 rfl rfl 4 (by decide) f71 (fun _ h9 => h9) rfl dX7_items_21 ?_
              refine lv_iconst (v := (-1)) hx hb dX7_items_24 (by decide) ?_
              refine lv_icmp_ne (tgt := 98) hx hb dX7_items_25 (by decide) (fun _ => ?_) (fun cb => absurd cb (cw_81))
              have hPD9 : PD D A [(Mm, .inr (7, [.int zth, .ref Mt, .int (nI tp), .int (nI max_100), .int zwrx_74, .ref Mrr, .ref Mrh, .ref Mrc, .int (nI rh), .int (nI rc), .ref Mn, .ref Mf, .ref Mr, .ref Mh, .int zhp, .int zcc, .ref Ma, .ref Mas, .ref Msn, .ref Mac, .ref Mat])), (Mt, .inl (g 0, 160, .inl fmt)), (Mrr, .inl (g 0, 3, .inl F_80))] H := ⟨hP.sub [1, 2, 0] rfl, hD.sub [1, 2, 0] (by decide) rfl⟩
              have hP9 := hPD9.1; have hD9 := hPD9.2
              subst hQ
              refine W.widen (k := 0) (n := 0) (Nat.le_of_ble_eq_true rfl) (Nat.le_of_ble_eq_true rfl) ?_
              exact W.vret hx hb hr (fun tS htS _ => ⟨⟨_, rfl, ⟨max_100, zwrx_74, F_80, rfl, ⟨(hF_80), (show max_100 ≤ tp by omega), (show ma ≤ max_100 by omega), ((congrArg Prod.fst hR_54).trans ((itR_w (f := 1) (m := 3) (q := 2) hf_60 hil_68.1 hil_68.2 (by decide) (by decide) (fun q => cw_81 (hf_76.2.2.2.1.trans q))).trans hf_76.2.2.2.1.symm)).symm, (fun q => absurd q cw_81)⟩⟩, by rw [htS]; exact hP9, hD9⟩, hS.F htS⟩) hS.2.2 dX7_items_98
        · skip
          refine lv_iload_n hx hb dX7_items_85 rfl (lv_at hl 3 rfl) ?_
          refine lv_aload_n hx hb dX7_items_86 rfl (lv_at hl 2 rfl) ?_
          refine ky_Vi (As := []) (rest := [.int 0]) ⟨hx, hb, hml, hown, hts⟩ ⟨hK, hN⟩ hZ hP hD hS hA [1, 2] [0] (wc := [(Mm, .inr (7, [.int zth, .ref Mt, .int (nI tp), .int (nI max_44), .int zwrx_45, .ref Mrr, .ref Mrh, .ref Mrc, .int (nI rh), .int (nI rc), .ref Mn, .ref Mf, .ref Mr, .ref Mh, .int zhp, .int zcc, .ref Ma, .ref Mas, .ref Msn, .ref Mac, .ref Mat])), (Mt, .inl (g 0, 160, .inl fmt))]) (wr := [(Mrr, .inl (g 0, 3, .inl F_51))]) rfl rfl rfl rfl (by decide) (r_X7_ahead l D g H.size Mm zth Mt tp max_44 zwrx_45 Mrr Mrh Mrc rh rc Mn Mf Mr Mh zhp zcc Ma Mas Msn Mac Mat fmt (show tp ≤ 160 by omega) (show max_44 ≤ tp by omega)) (cwV 0 hts gX7_items_X7_ahead rfl rfl rfl (by decide +kernel) ⟨(Nat.le_of_ble_eq_true rfl), (Nat.le_of_ble_eq_true rfl)⟩) 1 7 rfl rfl rfl rfl hl.1 rfl (Nat.le_of_ble_eq_true rfl) dX7_items_87 ⟨(Nat.le_of_ble_eq_true rfl), (Nat.le_of_ble_eq_true rfl)⟩ (fun r_106 u H locs hw hP2 hD2 hS2 => ?_)
          clear hP hD hS
          obtain ⟨max_107, rfl, rfl, hf_108, hf_109, hf_110⟩ := hw
          have hPD : PD D A [(Mrr, .inl (g 0, 3, .inl F_51)), (Mm, .inr (7, [.int zth, .ref Mt, .int (nI tp), .int (nI max_107), .int zwrx_45, .ref Mrr, .ref Mrh, .ref Mrc, .int (nI rh), .int (nI rc), .ref Mn, .ref Mf, .ref Mr, .ref Mh, .int zhp, .int zcc, .ref Ma, .ref Mas, .ref Msn, .ref Mac, .ref Mat])), (Mt, .inl (g 0, 160, .inl fmt))] H := ⟨hP2, hD2⟩
          have hS := hS2; clear hP2 hD2 hS2; have hP := hPD.1; have hD := hPD.2; clear hPD
          refine W.widen (k := 0) (n := 0) (Nat.le_of_ble_eq_true rfl) (Nat.le_of_ble_eq_true rfl) ?_
          refine lv_topi (fun y_111 hey_111 => ?_)
          refine ky_Si (As := [.int 0, .int y_111]) (rest := []) ⟨hx, hb, hml, hown, hts⟩ ⟨hK, hN⟩ hZ hP hD hS hA [] [0, 1, 2] (wc := []) (wr := [(Mrr, .inl (g 0, 3, .inl F_51)), (Mm, .inr (7, [.int zth, .ref Mt, .int (nI tp), .int (nI max_107), .int zwrx_45, .ref Mrr, .ref Mrh, .ref Mrc, .int (nI rh), .int (nI rc), .ref Mn, .ref Mf, .ref Mr, .ref Mh, .int zhp, .int zcc, .ref Ma, .ref Mas, .ref Msn, .ref Mac, .ref Mat])), (Mt, .inl (g 0, 160, .inl fmt))]) rfl rfl rfl rfl (by decide) (r_X7_itemBy_0 l D g H.size y_111) (va_cwS 2 hts gX7_items_X7_itemBy rfl rfl rfl (by decide +kernel) ⟨(Nat.le_of_ble_eq_true rfl), (Nat.le_of_ble_eq_true rfl)⟩) rfl hl.1 rfl (Nat.le_of_ble_eq_true rfl) dX7_items_90 ⟨(Nat.le_of_ble_eq_true rfl), (Nat.le_of_ble_eq_true rfl)⟩ (fun r_112 u H locs hw hP2 hD2 hS2 => ?_)
          clear hP hD hS
          obtain ⟨rfl, rfl⟩ := hw
          have hPD : PD D A [(Mrr, .inl (g 0, 3, .inl F_51)), (Mm, .inr (7, [.int zth, .ref Mt, .int (nI tp), .int (nI max_107), .int zwrx_45, .ref Mrr, .ref Mrh, .ref Mrc, .int (nI rh), .int (nI rc), .ref Mn, .ref Mf, .ref Mr, .ref Mh, .int zhp, .int zcc, .ref Ma, .ref Mas, .ref Msn, .ref Mac, .ref Mat])), (Mt, .inl (g 0, 160, .inl fmt))] H := ⟨hP2, hD2⟩
          have hS := hS2; clear hP2 hD2 hS2; have hP := hPD.1; have hD := hPD.2; clear hPD
          refine W.widen (k := 0) (n := 0) (Nat.le_of_ble_eq_true rfl) (Nat.le_of_ble_eq_true rfl) ?_
          refine lv_istore (lv' := [(5, .int (itK 0 y_111)), (4, .int 3), (0, .ref Mm), (1, .int 0), (2, .ref Mrr), (3, .int 0)]) hx hb dX7_items_93 hl (by decide) rfl (fun ls hl => ?_)
          refine lv_goto (tgt := 20) hx hb dX7_items_95 (by decide) ?_
          refine lv_aload_n hx hb dX7_items_20 rfl (lv_at hl 2 rfl) ?_
          refine va_get (D := D) (ci := 7) (v := .int zwrx_45) (C := RX7) (T := TX7) (N := 21) hx hb hts iX7 hown hK hP 1 rfl rfl 4 (by decide) f71 (fun _ h9 => h9) rfl dX7_items_21 ?_
          refine lv_iconst (v := (-1)) hx hb dX7_items_24 (by decide) ?_
          refine lv_icmp_ne (tgt := 98) hx hb dX7_items_25 (by decide) (fun _ => ?_) (fun cb => absurd cb (cw_52))
          have hPD9 : PD D A [(Mm, .inr (7, [.int zth, .ref Mt, .int (nI tp), .int (nI max_107), .int zwrx_45, .ref Mrr, .ref Mrh, .ref Mrc, .int (nI rh), .int (nI rc), .ref Mn, .ref Mf, .ref Mr, .ref Mh, .int zhp, .int zcc, .ref Ma, .ref Mas, .ref Msn, .ref Mac, .ref Mat])), (Mt, .inl (g 0, 160, .inl fmt)), (Mrr, .inl (g 0, 3, .inl F_51))] H := ⟨hP.sub [1, 2, 0] rfl, hD.sub [1, 2, 0] (by decide) rfl⟩
          have hP9 := hPD9.1; have hD9 := hPD9.2
          subst hQ
          refine W.widen (k := 0) (n := 0) (Nat.le_of_ble_eq_true rfl) (Nat.le_of_ble_eq_true rfl) ?_
          exact W.vret hx hb hr (fun tS htS _ => ⟨⟨_, rfl, ⟨max_107, zwrx_45, F_51, rfl, ⟨(hF_51), (show max_107 ≤ tp by omega), (show ma ≤ max_107 by omega), ((congrArg Prod.fst hR_27).trans ((itR_w (f := 2) (m := 1) (q := 1) hf_33 hil_39.1 hil_39.2 (by decide) (by decide) (fun q => cw_52 (hf_47.2.2.2.1.trans q))).trans hf_47.2.2.2.1.symm)).symm, (fun q => absurd q cw_52)⟩⟩, by rw [htS]; exact hP9, hD9⟩, hS.F htS⟩) hS.2.2 dX7_items_98
      · skip
        refine lv_eqi (y := 2) (qi_36) ?_
        have hil_113 := iv_lt (k := 0) (q := 2) hey_34.symm qi_36 (by decide); have hil_113a := hil_113.1
        refine lv_istore (lv' := [(5, .int 2), (4, .int 1), (0, .ref Mm), (1, .int 0), (2, .ref Mrr), (3, .int 0)]) hx hb dX7_items_93 hl (by decide) rfl (fun ls hl => ?_)
        refine lv_goto (tgt := 20) hx hb dX7_items_95 (by decide) ?_
        refine lv_aload_n hx hb dX7_items_20 rfl (lv_at hl 2 rfl) ?_
        refine va_get (D := D) (ci := 7) (v := .int (-1)) (C := RX7) (T := TX7) (N := 21) hx hb hts iX7 hown hK hP 1 rfl rfl 4 (by decide) f71 (fun _ h9 => h9) rfl dX7_items_21 ?_
        refine lv_iconst (v := (-1)) hx hb dX7_items_24 (by decide) ?_
        refine lv_icmp_ne (tgt := 98) hx hb dX7_items_25 (by decide) (fun cb => absurd (by decide) cb) (fun _ => ?_)
        refine lv_iload hx hb dX7_items_28 (lv_at hl 0 rfl) ?_
        refine lv_iconst (v := (-1)) hx hb dX7_items_30 (by decide) ?_
        refine lv_icmp_eq (tgt := 98) hx hb dX7_items_31 (by decide) (fun cb => absurd cb (by decide)) (fun _ => ?_)
        refine lv_iload hx hb dX7_items_34 (lv_at hl 1 rfl) ?_
        refine lv_iload hx hb dX7_items_36 (lv_at hl 0 rfl) ?_
        refine ky_Si (As := [.int 1, .int 2]) (rest := []) ⟨hx, hb, hml, hown, hts⟩ ⟨hK, hN⟩ hZ hP hD hS hA [] [0, 1, 2] (wc := []) (wr := [(Mrr, .inl (g 0, 3, .inl F_24)), (Mm, .inr (7, [.int zth, .ref Mt, .int (nI tp), .int (nI max_30), .int (-1), .ref Mrr, .ref Mrh, .ref Mrc, .int (nI rh), .int (nI rc), .ref Mn, .ref Mf, .ref Mr, .ref Mh, .int zhp, .int zcc, .ref Ma, .ref Mas, .ref Msn, .ref Mac, .ref Mat])), (Mt, .inl (g 0, 160, .inl fmt))]) rfl rfl rfl rfl (by decide) (r_X7_has_12 l D g H.size) (va_cwS 2 hts gX7_items_X7_has rfl rfl rfl (by decide +kernel) ⟨(Nat.le_of_ble_eq_true rfl), (Nat.le_of_ble_eq_true rfl)⟩) rfl hl.1 rfl (Nat.le_of_ble_eq_true rfl) dX7_items_38 ⟨(Nat.le_of_ble_eq_true rfl), (Nat.le_of_ble_eq_true rfl)⟩ (fun r_114 u H locs hw hP2 hD2 hS2 => ?_)
        clear hP hD hS
        obtain ⟨rfl, rfl⟩ := hw
        have hPD : PD D A [(Mrr, .inl (g 0, 3, .inl F_24)), (Mm, .inr (7, [.int zth, .ref Mt, .int (nI tp), .int (nI max_30), .int (-1), .ref Mrr, .ref Mrh, .ref Mrc, .int (nI rh), .int (nI rc), .ref Mn, .ref Mf, .ref Mr, .ref Mh, .int zhp, .int zcc, .ref Ma, .ref Mas, .ref Msn, .ref Mac, .ref Mat])), (Mt, .inl (g 0, 160, .inl fmt))] H := ⟨hP2, hD2⟩
        have hS := hS2; clear hP2 hD2 hS2; have hP := hPD.1; have hD := hPD.2; clear hPD
        refine W.widen (k := 0) (n := 0) (Nat.le_of_ble_eq_true rfl) (Nat.le_of_ble_eq_true rfl) ?_
        refine lv_if_ne (tgt := 98) hx hb dX7_items_41 (by decide) (fun cb => absurd (by decide) cb) (fun _ => ?_)
        refine lv_iload hx hb dX7_items_44 (lv_at hl 1 rfl) ?_
        refine lv_iconst (v := 1) hx hb dX7_items_46 (by decide) ?_
        refine lv_iload hx hb dX7_items_47 (lv_at hl 0 rfl) ?_
        refine lv_ishl hx hb dX7_items_49 ?_
        refine lv_eqi (y := 4) (by decide) ?_
        refine lv_ior hx hb dX7_items_50 ?_
        refine lv_eqi (y := 5) (by decide) ?_
        refine lv_istore (lv' := [(4, .int 5), (5, .int 2), (0, .ref Mm), (1, .int 0), (2, .ref Mrr), (3, .int 0)]) hx hb dX7_items_51 hl (by decide) rfl (fun ls hl => ?_)
        refine lv_aload_n hx hb dX7_items_53 rfl (lv_at hl 2 rfl) ?_
        refine lv_dup hx hb dX7_items_54 rfl ?_
        refine va_get (D := D) (ci := 7) (v := .int (nI max_30)) (C := RX7) (T := TX7) (N := 21) hx hb hts iX7 hown hK hP 1 rfl rfl 3 (by decide) f64 (fun _ h9 => h9) rfl dX7_items_55 ?_
        refine lv_iconst (v := 1) hx hb dX7_items_58 (by decide) ?_
        refine lv_iadd hx hb dX7_items_59 ?_
        refine lv_eqi (y := (nI (max_30 + 1))) (nI_add (max_30) (1)) ?_
        refine va_put (D := D) (ci := 7) (v := .int (nI (max_30 + 1))) (ty := .int) (C := RX7) (T := TX7) (N := 21) hx hb hts iX7 tyX7 tyX7_ok nmX7 hown hK hP hD hS 1 rfl rfl 3 (by decide) f64 (fun _ h9 => h9) rfl (by decide +kernel) (rfl) (rfl) (Nat.le_of_ble_eq_true rfl) dX7_items_60 (fun H locs hP2 hD2 hS2 => ?_)
        clear hP hD hS
        have hPD : PD D A [(Mrr, .inl (g 0, 3, .inl F_24)), (Mm, .inr (7, [.int zth, .ref Mt, .int (nI tp), .int (nI (max_30 + 1)), .int (-1), .ref Mrr, .ref Mrh, .ref Mrc, .int (nI rh), .int (nI rc), .ref Mn, .ref Mf, .ref Mr, .ref Mh, .int zhp, .int zcc, .ref Ma, .ref Mas, .ref Msn, .ref Mac, .ref Mat])), (Mt, .inl (g 0, 160, .inl fmt))] H := ⟨hP2, hD2⟩
        have hS := hS2; clear hP2 hD2 hS2; have hP := hPD.1; have hD := hPD.2; clear hPD
        refine lv_aload_n hx hb dX7_items_63 rfl (lv_at hl 4 rfl) ?_
        refine lv_iload_n hx hb dX7_items_64 rfl (lv_at hl 5 rfl) ?_
        refine lv_iload hx hb dX7_items_65 (lv_at hl 1 rfl) ?_
        refine lv_iadd hx hb dX7_items_67 ?_
        refine lv_eqi (y := 2) (by decide) ?_
        refine lv_aload_n hx hb dX7_items_68 rfl (lv_at hl 2 rfl) ?_
        refine lv_iload_n hx hb dX7_items_69 rfl (lv_at hl 3 rfl) ?_
        refine lv_iload hx hb dX7_items_70 (lv_at hl 1 rfl) ?_
        refine ky_Si (As := [.int 0, .int 2]) (rest := [.ref Mm, .int 2, .ref Mrr]) ⟨hx, hb, hml, hown, hts⟩ ⟨hK, hN⟩ hZ hP hD hS hA [] [0, 1, 2] (wc := []) (wr := [(Mrr, .inl (g 0, 3, .inl F_24)), (Mm, .inr (7, [.int zth, .ref Mt, .int (nI tp), .int (nI (max_30 + 1)), .int (-1), .ref Mrr, .ref Mrh, .ref Mrc, .int (nI rh), .int (nI rc), .ref Mn, .ref Mf, .ref Mr, .ref Mh, .int zhp, .int zcc, .ref Ma, .ref Mas, .ref Msn, .ref Mac, .ref Mat])), (Mt, .inl (g 0, 160, .inl fmt))]) rfl rfl rfl rfl (by decide) (r_X7_lowest_02 l D g H.size) (va_cwS 2 hts gX7_items_X7_lowest rfl rfl rfl (by decide +kernel) ⟨(Nat.le_of_ble_eq_true rfl), (Nat.le_of_ble_eq_true rfl)⟩) rfl hl.1 rfl (Nat.le_of_ble_eq_true rfl) dX7_items_72 ⟨(Nat.le_of_ble_eq_true rfl), (Nat.le_of_ble_eq_true rfl)⟩ (fun r_115 u H locs hw hP2 hD2 hS2 => ?_)
        clear hP hD hS
        obtain ⟨rfl, rfl⟩ := hw
        have hPD : PD D A [(Mrr, .inl (g 0, 3, .inl F_24)), (Mm, .inr (7, [.int zth, .ref Mt, .int (nI tp), .int (nI (max_30 + 1)), .int (-1), .ref Mrr, .ref Mrh, .ref Mrc, .int (nI rh), .int (nI rc), .ref Mn, .ref Mf, .ref Mr, .ref Mh, .int zhp, .int zcc, .ref Ma, .ref Mas, .ref Msn, .ref Mac, .ref Mat])), (Mt, .inl (g 0, 160, .inl fmt))] H := ⟨hP2, hD2⟩
        have hS := hS2; clear hP2 hD2 hS2; have hP := hPD.1; have hD := hPD.2; clear hPD
        refine W.widen (k := 0) (n := 0) (Nat.le_of_ble_eq_true rfl) (Nat.le_of_ble_eq_true rfl) ?_
        refine lv_iload_n hx hb dX7_items_75 rfl (lv_at hl 3 rfl) ?_
        refine lv_iload hx hb dX7_items_76 (lv_at hl 1 rfl) ?_
        refine ky_Si (As := [.int 0, .int 2]) (rest := [.int 0, .ref Mm, .int 2, .ref Mrr]) ⟨hx, hb, hml, hown, hts⟩ ⟨hK, hN⟩ hZ hP hD hS hA [] [0, 1, 2] (wc := []) (wr := [(Mrr, .inl (g 0, 3, .inl F_24)), (Mm, .inr (7, [.int zth, .ref Mt, .int (nI tp), .int (nI (max_30 + 1)), .int (-1), .ref Mrr, .ref Mrh, .ref Mrc, .int (nI rh), .int (nI rc), .ref Mn, .ref Mf, .ref Mr, .ref Mh, .int zhp, .int zcc, .ref Ma, .ref Mas, .ref Msn, .ref Mac, .ref Mat])), (Mt, .inl (g 0, 160, .inl fmt))]) rfl rfl rfl rfl (by decide) (r_X7_highest_02 l D g H.size) (va_cwS 2 hts gX7_items_X7_highest rfl rfl rfl (by decide +kernel) ⟨(Nat.le_of_ble_eq_true rfl), (Nat.le_of_ble_eq_true rfl)⟩) rfl hl.1 rfl (Nat.le_of_ble_eq_true rfl) dX7_items_78 ⟨(Nat.le_of_ble_eq_true rfl), (Nat.le_of_ble_eq_true rfl)⟩ (fun r_116 u H locs hw hP2 hD2 hS2 => ?_)
        clear hP hD hS
        obtain ⟨rfl, rfl⟩ := hw
        have hPD : PD D A [(Mrr, .inl (g 0, 3, .inl F_24)), (Mm, .inr (7, [.int zth, .ref Mt, .int (nI tp), .int (nI (max_30 + 1)), .int (-1), .ref Mrr, .ref Mrh, .ref Mrc, .int (nI rh), .int (nI rc), .ref Mn, .ref Mf, .ref Mr, .ref Mh, .int zhp, .int zcc, .ref Ma, .ref Mas, .ref Msn, .ref Mac, .ref Mat])), (Mt, .inl (g 0, 160, .inl fmt))] H := ⟨hP2, hD2⟩
        have hS := hS2; clear hP2 hD2 hS2; have hP := hPD.1; have hD := hPD.2; clear hPD
        refine W.widen (k := 0) (n := 0) (Nat.le_of_ble_eq_true rfl) (Nat.le_of_ble_eq_true rfl) ?_
        refine ky_Vi (As := [.int 0, .int 9]) (rest := [.int 2, .ref Mrr]) ⟨hx, hb, hml, hown, hts⟩ ⟨hK, hN⟩ hZ hP hD hS hA [1, 2] [0] (wc := [(Mm, .inr (7, [.int zth, .ref Mt, .int (nI tp), .int (nI (max_30 + 1)), .int (-1), .ref Mrr, .ref Mrh, .ref Mrc, .int (nI rh), .int (nI rc), .ref Mn, .ref Mf, .ref Mr, .ref Mh, .int zhp, .int zcc, .ref Ma, .ref Mas, .ref Msn, .ref Mac, .ref Mat])), (Mt, .inl (g 0, 160, .inl fmt))]) (wr := [(Mrr, .inl (g 0, 3, .inl F_24))]) rfl rfl rfl rfl (by decide) (r_X7_number l D g H.size Mm 0 9 zth Mt tp (max_30 + 1) Mrr Mrh Mrc rh rc Mn Mf Mr Mh zhp zcc Ma Mas Msn Mac Mat fmt (show tp ≤ 160 by omega) (show (max_30 + 1) ≤ tp by omega) (show 0 ≤ 1 by omega)) (cwV 2 hts gX7_items_X7_number rfl rfl rfl (by decide +kernel) ⟨(Nat.le_of_ble_eq_true rfl), (Nat.le_of_ble_eq_true rfl)⟩) 1 7 rfl rfl rfl rfl hl.1 rfl (Nat.le_of_ble_eq_true rfl) dX7_items_81 ⟨(Nat.le_of_ble_eq_true rfl), (Nat.le_of_ble_eq_true rfl)⟩ (fun r_117 u H locs hw hP2 hD2 hS2 => ?_)
        clear hP hD hS
        obtain ⟨max_118, zwrx_119, nx_120, rfl, rfl, hf_121⟩ := hw
        have hg_122 := hf_121.1
        have hg_123 := hf_121.2.1
        have hg_124 := hf_121.2.2.1
        have hPD : PD D A [(Mrr, .inl (g 0, 3, .inl F_24)), (Mm, .inr (7, [.int zth, .ref Mt, .int (nI tp), .int (nI max_118), .int zwrx_119, .ref Mrr, .ref Mrh, .ref Mrc, .int (nI rh), .int (nI rc), .ref Mn, .ref Mf, .ref Mr, .ref Mh, .int zhp, .int zcc, .ref Ma, .ref Mas, .ref Msn, .ref Mac, .ref Mat])), (Mt, .inl (g 0, 160, .inl fmt))] H := ⟨hP2, hD2⟩
        have hS := hS2; clear hP2 hD2 hS2; have hP := hPD.1; have hD := hPD.2; clear hPD
        refine W.widen (k := 0) (n := 0) (Nat.le_of_ble_eq_true rfl) (Nat.le_of_ble_eq_true rfl) ?_
        refine va_iast hx hb hK hP hD hS 0 0 rfl rfl (by unfold vp_in; decide) dX7_items_84 (fun H locs hP2 hD2 hS2 => ?_)
        clear hP hD hS
        have hPD : PD D A [(Mrr, .inl (g 0, 3, .inl (upd F_24 2 (nI nx_120)))), (Mm, .inr (7, [.int zth, .ref Mt, .int (nI tp), .int (nI max_118), .int zwrx_119, .ref Mrr, .ref Mrh, .ref Mrc, .int (nI rh), .int (nI rc), .ref Mn, .ref Mf, .ref Mr, .ref Mh, .int zhp, .int zcc, .ref Ma, .ref Mas, .ref Msn, .ref Mac, .ref Mat])), (Mt, .inl (g 0, 160, .inl fmt))] H := ⟨hP2, hD2⟩
        have hS := hS2; clear hP2 hD2 hS2; have hP := hPD.1; have hD := hPD.2; clear hPD
        have hF_125 : n1 (upd F_24 2 (nI nx_120)) := n1_upd (hF_24) (n := nx_120) (show nx_120 ≤ 99 by omega)
        generalize upd F_24 2 (nI nx_120) = F_125 at hP hD hF_125
        by_cases cw_126 : zwrx_119 = -1
        · skip
          have hPq_127 := hP; have hDq_127 := hD; have hSq_127 := hS; have hlq_127 := hl; clear hP hD hS hl
          subst cw_126
          have hP := hPq_127; have hD := hDq_127; have hS := hSq_127; have hl := hlq_127; clear hPq_127 hDq_127 hSq_127 hlq_127
          have hne_129 := hf_121.2.2.2.2 rfl
          have hR_128 : itR fmt tp 0 4 0 ma = itR fmt tp 0 2 5 max_118 := hR_27.trans ((itR_go (f := 2) (m := 1) (q := 2) hf_33 hil_113.1 hil_113.2 (by decide) (by decide) hf_121.2.2.2.1.symm).trans (by rw [hne_129]))
          refine lv_iload_n hx hb dX7_items_85 rfl (lv_at hl 3 rfl) ?_
          refine lv_aload_n hx hb dX7_items_86 rfl (lv_at hl 2 rfl) ?_
          refine ky_Vi (As := []) (rest := [.int 0]) ⟨hx, hb, hml, hown, hts⟩ ⟨hK, hN⟩ hZ hP hD hS hA [1, 2] [0] (wc := [(Mm, .inr (7, [.int zth, .ref Mt, .int (nI tp), .int (nI max_118), .int (-1), .ref Mrr, .ref Mrh, .ref Mrc, .int (nI rh), .int (nI rc), .ref Mn, .ref Mf, .ref Mr, .ref Mh, .int zhp, .int zcc, .ref Ma, .ref Mas, .ref Msn, .ref Mac, .ref Mat])), (Mt, .inl (g 0, 160, .inl fmt))]) (wr := [(Mrr, .inl (g 0, 3, .inl F_125))]) rfl rfl rfl rfl (by decide) (r_X7_ahead l D g H.size Mm zth Mt tp max_118 (-1) Mrr Mrh Mrc rh rc Mn Mf Mr Mh zhp zcc Ma Mas Msn Mac Mat fmt (show tp ≤ 160 by omega) (show max_118 ≤ tp by omega)) (cwV 0 hts gX7_items_X7_ahead rfl rfl rfl (by decide +kernel) ⟨(Nat.le_of_ble_eq_true rfl), (Nat.le_of_ble_eq_true rfl)⟩) 1 7 rfl rfl rfl rfl hl.1 rfl (Nat.le_of_ble_eq_true rfl) dX7_items_87 ⟨(Nat.le_of_ble_eq_true rfl), (Nat.le_of_ble_eq_true rfl)⟩ (fun r_130 u H locs hw hP2 hD2 hS2 => ?_)
          clear hP hD hS
          obtain ⟨max_131, rfl, rfl, hf_132, hf_133, hf_134⟩ := hw
          have hPD : PD D A [(Mrr, .inl (g 0, 3, .inl F_125)), (Mm, .inr (7, [.int zth, .ref Mt, .int (nI tp), .int (nI max_131), .int (-1), .ref Mrr, .ref Mrh, .ref Mrc, .int (nI rh), .int (nI rc), .ref Mn, .ref Mf, .ref Mr, .ref Mh, .int zhp, .int zcc, .ref Ma, .ref Mas, .ref Msn, .ref Mac, .ref Mat])), (Mt, .inl (g 0, 160, .inl fmt))] H := ⟨hP2, hD2⟩
          have hS := hS2; clear hP2 hD2 hS2; have hP := hPD.1; have hD := hPD.2; clear hPD
          refine W.widen (k := 0) (n := 0) (Nat.le_of_ble_eq_true rfl) (Nat.le_of_ble_eq_true rfl) ?_
          refine lv_topi (fun y_135 hey_135 => ?_)
          refine ky_Si (As := [.int 0, .int y_135]) (rest := []) ⟨hx, hb, hml, hown, hts⟩ ⟨hK, hN⟩ hZ hP hD hS hA [] [0, 1, 2] (wc := []) (wr := [(Mrr, .inl (g 0, 3, .inl F_125)), (Mm, .inr (7, [.int zth, .ref Mt, .int (nI tp), .int (nI max_131), .int (-1), .ref Mrr, .ref Mrh, .ref Mrc, .int (nI rh), .int (nI rc), .ref Mn, .ref Mf, .ref Mr, .ref Mh, .int zhp, .int zcc, .ref Ma, .ref Mas, .ref Msn, .ref Mac, .ref Mat])), (Mt, .inl (g 0, 160, .inl fmt))]) rfl rfl rfl rfl (by decide) (r_X7_itemBy_0 l D g H.size y_135) (va_cwS 2 hts gX7_items_X7_itemBy rfl rfl rfl (by decide +kernel) ⟨(Nat.le_of_ble_eq_true rfl), (Nat.le_of_ble_eq_true rfl)⟩) rfl hl.1 rfl (Nat.le_of_ble_eq_true rfl) dX7_items_90 ⟨(Nat.le_of_ble_eq_true rfl), (Nat.le_of_ble_eq_true rfl)⟩ (fun r_136 u H locs hw hP2 hD2 hS2 => ?_)
          clear hP hD hS
          obtain ⟨rfl, rfl⟩ := hw
          have hPD : PD D A [(Mrr, .inl (g 0, 3, .inl F_125)), (Mm, .inr (7, [.int zth, .ref Mt, .int (nI tp), .int (nI max_131), .int (-1), .ref Mrr, .ref Mrh, .ref Mrc, .int (nI rh), .int (nI rc), .ref Mn, .ref Mf, .ref Mr, .ref Mh, .int zhp, .int zcc, .ref Ma, .ref Mas, .ref Msn, .ref Mac, .ref Mat])), (Mt, .inl (g 0, 160, .inl fmt))] H := ⟨hP2, hD2⟩
          have hS := hS2; clear hP2 hD2 hS2; have hP := hPD.1; have hD := hPD.2; clear hPD
          refine W.widen (k := 0) (n := 0) (Nat.le_of_ble_eq_true rfl) (Nat.le_of_ble_eq_true rfl) ?_
          rcases itK_c 0 y_135 with qi_137 | qi_137 | qi_137 | qi_137
          · skip
            refine lv_eqi (y := (-1)) (qi_137) ?_
            refine lv_istore (lv' := [(5, .int (-1)), (4, .int 5), (0, .ref Mm), (1, .int 0), (2, .ref Mrr), (3, .int 0)]) hx hb dX7_items_93 hl (by decide) rfl (fun ls hl => ?_)
            refine lv_goto (tgt := 20) hx hb dX7_items_95 (by decide) ?_
            refine lv_aload_n hx hb dX7_items_20 rfl (lv_at hl 2 rfl) ?_
            refine va_get (D := D) (ci := 7) (v := .int (-1)) (C := RX7) (T := TX7) (N := 21) hx hb hts iX7 hown hK hP 1 rfl rfl 4 (by decide) f71 (fun _ h9 => h9) rfl dX7_items_21 ?_
            refine lv_iconst (v := (-1)) hx hb dX7_items_24 (by decide) ?_
            refine lv_icmp_ne (tgt := 98) hx hb dX7_items_25 (by decide) (fun cb => absurd (by decide) cb) (fun _ => ?_)
            refine lv_iload hx hb dX7_items_28 (lv_at hl 0 rfl) ?_
            refine lv_iconst (v := (-1)) hx hb dX7_items_30 (by decide) ?_
            refine lv_icmp_eq (tgt := 98) hx hb dX7_items_31 (by decide) (fun _ => ?_) (fun cb => absurd (by decide) cb)
            have hPD9 : PD D A [(Mm, .inr (7, [.int zth, .ref Mt, .int (nI tp), .int (nI max_131), .int (-1), .ref Mrr, .ref Mrh, .ref Mrc, .int (nI rh), .int (nI rc), .ref Mn, .ref Mf, .ref Mr, .ref Mh, .int zhp, .int zcc, .ref Ma, .ref Mas, .ref Msn, .ref Mac, .ref Mat])), (Mt, .inl (g 0, 160, .inl fmt)), (Mrr, .inl (g 0, 3, .inl F_125))] H := ⟨hP.sub [1, 2, 0] rfl, hD.sub [1, 2, 0] (by decide) rfl⟩
            have hP9 := hPD9.1; have hD9 := hPD9.2
            subst hQ
            refine W.widen (k := 0) (n := 0) (Nat.le_of_ble_eq_true rfl) (Nat.le_of_ble_eq_true rfl) ?_
            exact W.vret hx hb hr (fun tS htS _ => ⟨⟨_, rfl, ⟨max_131, (-1), F_125, rfl, ⟨(hF_125), (show max_131 ≤ tp by omega), (show ma ≤ max_131 by omega), (congrArg Prod.fst (hR_128.trans (iv_m (f := 1) (m := 5) hf_134 hey_135.symm qi_137))).symm, (fun _ => (congrArg Prod.snd (hR_128.trans (iv_m (f := 1) (m := 5) hf_134 hey_135.symm qi_137))).symm)⟩⟩, by rw [htS]; exact hP9, hD9⟩, hS.F htS⟩) hS.2.2 dX7_items_98
          · skip
            refine lv_eqi (y := 0) (qi_137) ?_
            have hil_138 := iv_lt (k := 0) (q := 0) hey_135.symm qi_137 (by decide); have hil_138a := hil_138.1
            refine lv_istore (lv' := [(5, .int 0), (4, .int 5), (0, .ref Mm), (1, .int 0), (2, .ref Mrr), (3, .int 0)]) hx hb dX7_items_93 hl (by decide) rfl (fun ls hl => ?_)
            refine lv_goto (tgt := 20) hx hb dX7_items_95 (by decide) ?_
            refine lv_aload_n hx hb dX7_items_20 rfl (lv_at hl 2 rfl) ?_
            refine va_get (D := D) (ci := 7) (v := .int (-1)) (C := RX7) (T := TX7) (N := 21) hx hb hts iX7 hown hK hP 1 rfl rfl 4 (by decide) f71 (fun _ h9 => h9) rfl dX7_items_21 ?_
            refine lv_iconst (v := (-1)) hx hb dX7_items_24 (by decide) ?_
            refine lv_icmp_ne (tgt := 98) hx hb dX7_items_25 (by decide) (fun cb => absurd (by decide) cb) (fun _ => ?_)
            refine lv_iload hx hb dX7_items_28 (lv_at hl 0 rfl) ?_
            refine lv_iconst (v := (-1)) hx hb dX7_items_30 (by decide) ?_
            refine lv_icmp_eq (tgt := 98) hx hb dX7_items_31 (by decide) (fun cb => absurd cb (by decide)) (fun _ => ?_)
            refine lv_iload hx hb dX7_items_34 (lv_at hl 1 rfl) ?_
            refine lv_iload hx hb dX7_items_36 (lv_at hl 0 rfl) ?_
            refine ky_Si (As := [.int 5, .int 0]) (rest := []) ⟨hx, hb, hml, hown, hts⟩ ⟨hK, hN⟩ hZ hP hD hS hA [] [0, 1, 2] (wc := []) (wr := [(Mrr, .inl (g 0, 3, .inl F_125)), (Mm, .inr (7, [.int zth, .ref Mt, .int (nI tp), .int (nI max_131), .int (-1), .ref Mrr, .ref Mrh, .ref Mrc, .int (nI rh), .int (nI rc), .ref Mn, .ref Mf, .ref Mr, .ref Mh, .int zhp, .int zcc, .ref Ma, .ref Mas, .ref Msn, .ref Mac, .ref Mat])), (Mt, .inl (g 0, 160, .inl fmt))]) rfl rfl rfl rfl (by decide) (r_X7_has_50 l D g H.size) (va_cwS 2 hts gX7_items_X7_has rfl rfl rfl (by decide +kernel) ⟨(Nat.le_of_ble_eq_true rfl), (Nat.le_of_ble_eq_true rfl)⟩) rfl hl.1 rfl (Nat.le_of_ble_eq_true rfl) dX7_items_38 ⟨(Nat.le_of_ble_eq_true rfl), (Nat.le_of_ble_eq_true rfl)⟩ (fun r_139 u H locs hw hP2 hD2 hS2 => ?_)
            clear hP hD hS
            obtain ⟨rfl, rfl⟩ := hw
            have hPD : PD D A [(Mrr, .inl (g 0, 3, .inl F_125)), (Mm, .inr (7, [.int zth, .ref Mt, .int (nI tp), .int (nI max_131), .int (-1), .ref Mrr, .ref Mrh, .ref Mrc, .int (nI rh), .int (nI rc), .ref Mn, .ref Mf, .ref Mr, .ref Mh, .int zhp, .int zcc, .ref Ma, .ref Mas, .ref Msn, .ref Mac, .ref Mat])), (Mt, .inl (g 0, 160, .inl fmt))] H := ⟨hP2, hD2⟩
            have hS := hS2; clear hP2 hD2 hS2; have hP := hPD.1; have hD := hPD.2; clear hPD
            refine W.widen (k := 0) (n := 0) (Nat.le_of_ble_eq_true rfl) (Nat.le_of_ble_eq_true rfl) ?_
            refine lv_if_ne (tgt := 98) hx hb dX7_items_41 (by decide) (fun _ => ?_) (fun cb => absurd cb (by decide))
            have hPD9 : PD D A [(Mm, .inr (7, [.int zth, .ref Mt, .int (nI tp), .int (nI max_131), .int (-1), .ref Mrr, .ref Mrh, .ref Mrc, .int (nI rh), .int (nI rc), .ref Mn, .ref Mf, .ref Mr, .ref Mh, .int zhp, .int zcc, .ref Ma, .ref Mas, .ref Msn, .ref Mac, .ref Mat])), (Mt, .inl (g 0, 160, .inl fmt)), (Mrr, .inl (g 0, 3, .inl F_125))] H := ⟨hP.sub [1, 2, 0] rfl, hD.sub [1, 2, 0] (by decide) rfl⟩
            have hP9 := hPD9.1; have hD9 := hPD9.2
            subst hQ
            refine W.widen (k := 0) (n := 0) (Nat.le_of_ble_eq_true rfl) (Nat.le_of_ble_eq_true rfl) ?_
            exact W.vret hx hb hr (fun tS htS _ => ⟨⟨_, rfl, ⟨max_131, (-1), F_125, rfl, ⟨(hF_125), (show max_131 ≤ tp by omega), (show ma ≤ max_131 by omega), (congrArg Prod.fst (hR_128.trans (itR_again (f := 1) (m := 5) (q := 0) hf_134 hil_138.2 (by decide) (by decide)))).symm, (fun _ => (congrArg Prod.snd (hR_128.trans (itR_again (f := 1) (m := 5) (q := 0) hf_134 hil_138.2 (by decide) (by decide)))).symm)⟩⟩, by rw [htS]; exact hP9, hD9⟩, hS.F htS⟩) hS.2.2 dX7_items_98
          · skip
            refine lv_eqi (y := 1) (qi_137) ?_
            have hil_140 := iv_lt (k := 0) (q := 1) hey_135.symm qi_137 (by decide); have hil_140a := hil_140.1
            refine lv_istore (lv' := [(5, .int 1), (4, .int 5), (0, .ref Mm), (1, .int 0), (2, .ref Mrr), (3, .int 0)]) hx hb dX7_items_93 hl (by decide) rfl (fun ls hl => ?_)
            refine lv_goto (tgt := 20) hx hb dX7_items_95 (by decide) ?_
            refine lv_aload_n hx hb dX7_items_20 rfl (lv_at hl 2 rfl) ?_
            refine va_get (D := D) (ci := 7) (v := .int (-1)) (C := RX7) (T := TX7) (N := 21) hx hb hts iX7 hown hK hP 1 rfl rfl 4 (by decide) f71 (fun _ h9 => h9) rfl dX7_items_21 ?_
            refine lv_iconst (v := (-1)) hx hb dX7_items_24 (by decide) ?_
            refine lv_icmp_ne (tgt := 98) hx hb dX7_items_25 (by decide) (fun cb => absurd (by decide) cb) (fun _ => ?_)
            refine lv_iload hx hb dX7_items_28 (lv_at hl 0 rfl) ?_
            refine lv_iconst (v := (-1)) hx hb dX7_items_30 (by decide) ?_
            refine lv_icmp_eq (tgt := 98) hx hb dX7_items_31 (by decide) (fun cb => absurd cb (by decide)) (fun _ => ?_)
            refine lv_iload hx hb dX7_items_34 (lv_at hl 1 rfl) ?_
            refine lv_iload hx hb dX7_items_36 (lv_at hl 0 rfl) ?_
            refine ky_Si (As := [.int 5, .int 1]) (rest := []) ⟨hx, hb, hml, hown, hts⟩ ⟨hK, hN⟩ hZ hP hD hS hA [] [0, 1, 2] (wc := []) (wr := [(Mrr, .inl (g 0, 3, .inl F_125)), (Mm, .inr (7, [.int zth, .ref Mt, .int (nI tp), .int (nI max_131), .int (-1), .ref Mrr, .ref Mrh, .ref Mrc, .int (nI rh), .int (nI rc), .ref Mn, .ref Mf, .ref Mr, .ref Mh, .int zhp, .int zcc, .ref Ma, .ref Mas, .ref Msn, .ref Mac, .ref Mat])), (Mt, .inl (g 0, 160, .inl fmt))]) rfl rfl rfl rfl (by decide) (r_X7_has_51 l D g H.size) (va_cwS 2 hts gX7_items_X7_has rfl rfl rfl (by decide +kernel) ⟨(Nat.le_of_ble_eq_true rfl), (Nat.le_of_ble_eq_true rfl)⟩) rfl hl.1 rfl (Nat.le_of_ble_eq_true rfl) dX7_items_38 ⟨(Nat.le_of_ble_eq_true rfl), (Nat.le_of_ble_eq_true rfl)⟩ (fun r_141 u H locs hw hP2 hD2 hS2 => ?_)
            clear hP hD hS
            obtain ⟨rfl, rfl⟩ := hw
            have hPD : PD D A [(Mrr, .inl (g 0, 3, .inl F_125)), (Mm, .inr (7, [.int zth, .ref Mt, .int (nI tp), .int (nI max_131), .int (-1), .ref Mrr, .ref Mrh, .ref Mrc, .int (nI rh), .int (nI rc), .ref Mn, .ref Mf, .ref Mr, .ref Mh, .int zhp, .int zcc, .ref Ma, .ref Mas, .ref Msn, .ref Mac, .ref Mat])), (Mt, .inl (g 0, 160, .inl fmt))] H := ⟨hP2, hD2⟩
            have hS := hS2; clear hP2 hD2 hS2; have hP := hPD.1; have hD := hPD.2; clear hPD
            refine W.widen (k := 0) (n := 0) (Nat.le_of_ble_eq_true rfl) (Nat.le_of_ble_eq_true rfl) ?_
            refine lv_if_ne (tgt := 98) hx hb dX7_items_41 (by decide) (fun cb => absurd (by decide) cb) (fun _ => ?_)
            refine lv_iload hx hb dX7_items_44 (lv_at hl 1 rfl) ?_
            refine lv_iconst (v := 1) hx hb dX7_items_46 (by decide) ?_
            refine lv_iload hx hb dX7_items_47 (lv_at hl 0 rfl) ?_
            refine lv_ishl hx hb dX7_items_49 ?_
            refine lv_eqi (y := 2) (by decide) ?_
            refine lv_ior hx hb dX7_items_50 ?_
            refine lv_eqi (y := 7) (by decide) ?_
            refine lv_istore (lv' := [(4, .int 7), (5, .int 1), (0, .ref Mm), (1, .int 0), (2, .ref Mrr), (3, .int 0)]) hx hb dX7_items_51 hl (by decide) rfl (fun ls hl => ?_)
            refine lv_aload_n hx hb dX7_items_53 rfl (lv_at hl 2 rfl) ?_
            refine lv_dup hx hb dX7_items_54 rfl ?_
            refine va_get (D := D) (ci := 7) (v := .int (nI max_131)) (C := RX7) (T := TX7) (N := 21) hx hb hts iX7 hown hK hP 1 rfl rfl 3 (by decide) f64 (fun _ h9 => h9) rfl dX7_items_55 ?_
            refine lv_iconst (v := 1) hx hb dX7_items_58 (by decide) ?_
            refine lv_iadd hx hb dX7_items_59 ?_
            refine lv_eqi (y := (nI (max_131 + 1))) (nI_add (max_131) (1)) ?_
            refine va_put (D := D) (ci := 7) (v := .int (nI (max_131 + 1))) (ty := .int) (C := RX7) (T := TX7) (N := 21) hx hb hts iX7 tyX7 tyX7_ok nmX7 hown hK hP hD hS 1 rfl rfl 3 (by decide) f64 (fun _ h9 => h9) rfl (by decide +kernel) (rfl) (rfl) (Nat.le_of_ble_eq_true rfl) dX7_items_60 (fun H locs hP2 hD2 hS2 => ?_)
            clear hP hD hS
            have hPD : PD D A [(Mrr, .inl (g 0, 3, .inl F_125)), (Mm, .inr (7, [.int zth, .ref Mt, .int (nI tp), .int (nI (max_131 + 1)), .int (-1), .ref Mrr, .ref Mrh, .ref Mrc, .int (nI rh), .int (nI rc), .ref Mn, .ref Mf, .ref Mr, .ref Mh, .int zhp, .int zcc, .ref Ma, .ref Mas, .ref Msn, .ref Mac, .ref Mat])), (Mt, .inl (g 0, 160, .inl fmt))] H := ⟨hP2, hD2⟩
            have hS := hS2; clear hP2 hD2 hS2; have hP := hPD.1; have hD := hPD.2; clear hPD
            refine lv_aload_n hx hb dX7_items_63 rfl (lv_at hl 4 rfl) ?_
            refine lv_iload_n hx hb dX7_items_64 rfl (lv_at hl 5 rfl) ?_
            refine lv_iload hx hb dX7_items_65 (lv_at hl 1 rfl) ?_
            refine lv_iadd hx hb dX7_items_67 ?_
            refine lv_eqi (y := 1) (by decide) ?_
            refine lv_aload_n hx hb dX7_items_68 rfl (lv_at hl 2 rfl) ?_
            refine lv_iload_n hx hb dX7_items_69 rfl (lv_at hl 3 rfl) ?_
            refine lv_iload hx hb dX7_items_70 (lv_at hl 1 rfl) ?_
            refine ky_Si (As := [.int 0, .int 1]) (rest := [.ref Mm, .int 1, .ref Mrr]) ⟨hx, hb, hml, hown, hts⟩ ⟨hK, hN⟩ hZ hP hD hS hA [] [0, 1, 2] (wc := []) (wr := [(Mrr, .inl (g 0, 3, .inl F_125)), (Mm, .inr (7, [.int zth, .ref Mt, .int (nI tp), .int (nI (max_131 + 1)), .int (-1), .ref Mrr, .ref Mrh, .ref Mrc, .int (nI rh), .int (nI rc), .ref Mn, .ref Mf, .ref Mr, .ref Mh, .int zhp, .int zcc, .ref Ma, .ref Mas, .ref Msn, .ref Mac, .ref Mat])), (Mt, .inl (g 0, 160, .inl fmt))]) rfl rfl rfl rfl (by decide) (r_X7_lowest_01 l D g H.size) (va_cwS 2 hts gX7_items_X7_lowest rfl rfl rfl (by decide +kernel) ⟨(Nat.le_of_ble_eq_true rfl), (Nat.le_of_ble_eq_true rfl)⟩) rfl hl.1 rfl (Nat.le_of_ble_eq_true rfl) dX7_items_72 ⟨(Nat.le_of_ble_eq_true rfl), (Nat.le_of_ble_eq_true rfl)⟩ (fun r_142 u H locs hw hP2 hD2 hS2 => ?_)
            clear hP hD hS
            obtain ⟨rfl, rfl⟩ := hw
            have hPD : PD D A [(Mrr, .inl (g 0, 3, .inl F_125)), (Mm, .inr (7, [.int zth, .ref Mt, .int (nI tp), .int (nI (max_131 + 1)), .int (-1), .ref Mrr, .ref Mrh, .ref Mrc, .int (nI rh), .int (nI rc), .ref Mn, .ref Mf, .ref Mr, .ref Mh, .int zhp, .int zcc, .ref Ma, .ref Mas, .ref Msn, .ref Mac, .ref Mat])), (Mt, .inl (g 0, 160, .inl fmt))] H := ⟨hP2, hD2⟩
            have hS := hS2; clear hP2 hD2 hS2; have hP := hPD.1; have hD := hPD.2; clear hPD
            refine W.widen (k := 0) (n := 0) (Nat.le_of_ble_eq_true rfl) (Nat.le_of_ble_eq_true rfl) ?_
            refine lv_iload_n hx hb dX7_items_75 rfl (lv_at hl 3 rfl) ?_
            refine lv_iload hx hb dX7_items_76 (lv_at hl 1 rfl) ?_
            refine ky_Si (As := [.int 0, .int 1]) (rest := [.int 0, .ref Mm, .int 1, .ref Mrr]) ⟨hx, hb, hml, hown, hts⟩ ⟨hK, hN⟩ hZ hP hD hS hA [] [0, 1, 2] (wc := []) (wr := [(Mrr, .inl (g 0, 3, .inl F_125)), (Mm, .inr (7, [.int zth, .ref Mt, .int (nI tp), .int (nI (max_131 + 1)), .int (-1), .ref Mrr, .ref Mrh, .ref Mrc, .int (nI rh), .int (nI rc), .ref Mn, .ref Mf, .ref Mr, .ref Mh, .int zhp, .int zcc, .ref Ma, .ref Mas, .ref Msn, .ref Mac, .ref Mat])), (Mt, .inl (g 0, 160, .inl fmt))]) rfl rfl rfl rfl (by decide) (r_X7_highest_01 l D g H.size) (va_cwS 2 hts gX7_items_X7_highest rfl rfl rfl (by decide +kernel) ⟨(Nat.le_of_ble_eq_true rfl), (Nat.le_of_ble_eq_true rfl)⟩) rfl hl.1 rfl (Nat.le_of_ble_eq_true rfl) dX7_items_78 ⟨(Nat.le_of_ble_eq_true rfl), (Nat.le_of_ble_eq_true rfl)⟩ (fun r_143 u H locs hw hP2 hD2 hS2 => ?_)
            clear hP hD hS
            obtain ⟨rfl, rfl⟩ := hw
            have hPD : PD D A [(Mrr, .inl (g 0, 3, .inl F_125)), (Mm, .inr (7, [.int zth, .ref Mt, .int (nI tp), .int (nI (max_131 + 1)), .int (-1), .ref Mrr, .ref Mrh, .ref Mrc, .int (nI rh), .int (nI rc), .ref Mn, .ref Mf, .ref Mr, .ref Mh, .int zhp, .int zcc, .ref Ma, .ref Mas, .ref Msn, .ref Mac, .ref Mat])), (Mt, .inl (g 0, 160, .inl fmt))] H := ⟨hP2, hD2⟩
            have hS := hS2; clear hP2 hD2 hS2; have hP := hPD.1; have hD := hPD.2; clear hPD
            refine W.widen (k := 0) (n := 0) (Nat.le_of_ble_eq_true rfl) (Nat.le_of_ble_eq_true rfl) ?_
            refine ky_Vi (As := [.int 0, .int 20]) (rest := [.int 1, .ref Mrr]) ⟨hx, hb, hml, hown, hts⟩ ⟨hK, hN⟩ hZ hP hD hS hA [1, 2] [0] (wc := [(Mm, .inr (7, [.int zth, .ref Mt, .int (nI tp), .int (nI (max_131 + 1)), .int (-1), .ref Mrr, .ref Mrh, .ref Mrc, .int (nI rh), .int (nI rc), .ref Mn, .ref Mf, .ref Mr, .ref Mh, .int zhp, .int zcc, .ref Ma, .ref Mas, .ref Msn, .ref Mac, .ref Mat])), (Mt, .inl (g 0, 160, .inl fmt))]) (wr := [(Mrr, .inl (g 0, 3, .inl F_125))]) rfl rfl rfl rfl (by decide) (r_X7_number l D g H.size Mm 0 20 zth Mt tp (max_131 + 1) Mrr Mrh Mrc rh rc Mn Mf Mr Mh zhp zcc Ma Mas Msn Mac Mat fmt (show tp ≤ 160 by omega) (show (max_131 + 1) ≤ tp by omega) (show 0 ≤ 1 by omega)) (cwV 2 hts gX7_items_X7_number rfl rfl rfl (by decide +kernel) ⟨(Nat.le_of_ble_eq_true rfl), (Nat.le_of_ble_eq_true rfl)⟩) 1 7 rfl rfl rfl rfl hl.1 rfl (Nat.le_of_ble_eq_true rfl) dX7_items_81 ⟨(Nat.le_of_ble_eq_true rfl), (Nat.le_of_ble_eq_true rfl)⟩ (fun r_144 u H locs hw hP2 hD2 hS2 => ?_)
            clear hP hD hS
            obtain ⟨max_145, zwrx_146, nx_147, rfl, rfl, hf_148⟩ := hw
            have hg_149 := hf_148.1
            have hg_150 := hf_148.2.1
            have hg_151 := hf_148.2.2.1
            have hPD : PD D A [(Mrr, .inl (g 0, 3, .inl F_125)), (Mm, .inr (7, [.int zth, .ref Mt, .int (nI tp), .int (nI max_145), .int zwrx_146, .ref Mrr, .ref Mrh, .ref Mrc, .int (nI rh), .int (nI rc), .ref Mn, .ref Mf, .ref Mr, .ref Mh, .int zhp, .int zcc, .ref Ma, .ref Mas, .ref Msn, .ref Mac, .ref Mat])), (Mt, .inl (g 0, 160, .inl fmt))] H := ⟨hP2, hD2⟩
            have hS := hS2; clear hP2 hD2 hS2; have hP := hPD.1; have hD := hPD.2; clear hPD
            refine W.widen (k := 0) (n := 0) (Nat.le_of_ble_eq_true rfl) (Nat.le_of_ble_eq_true rfl) ?_
            refine va_iast hx hb hK hP hD hS 0 0 rfl rfl (by unfold vp_in; decide) dX7_items_84 (fun H locs hP2 hD2 hS2 => ?_)
            clear hP hD hS
            have hPD : PD D A [(Mrr, .inl (g 0, 3, .inl (upd F_125 1 (nI nx_147)))), (Mm, .inr (7, [.int zth, .ref Mt, .int (nI tp), .int (nI max_145), .int zwrx_146, .ref Mrr, .ref Mrh, .ref Mrc, .int (nI rh), .int (nI rc), .ref Mn, .ref Mf, .ref Mr, .ref Mh, .int zhp, .int zcc, .ref Ma, .ref Mas, .ref Msn, .ref Mac, .ref Mat])), (Mt, .inl (g 0, 160, .inl fmt))] H := ⟨hP2, hD2⟩
            have hS := hS2; clear hP2 hD2 hS2; have hP := hPD.1; have hD := hPD.2; clear hPD
            have hF_152 : n1 (upd F_125 1 (nI nx_147)) := n1_upd (hF_125) (n := nx_147) (show nx_147 ≤ 99 by omega)
            generalize upd F_125 1 (nI nx_147) = F_152 at hP hD hF_152
            by_cases cw_153 : zwrx_146 = -1
            · skip
              have hPq_154 := hP; have hDq_154 := hD; have hSq_154 := hS; have hlq_154 := hl; clear hP hD hS hl
              subst cw_153
              have hP := hPq_154; have hD := hDq_154; have hS := hSq_154; have hl := hlq_154; clear hPq_154 hDq_154 hSq_154 hlq_154
              have hne_156 := hf_148.2.2.2.2 rfl
              have hR_155 : itR fmt tp 0 4 0 ma = itR fmt tp 0 1 7 max_145 := hR_128.trans ((itR_go (f := 1) (m := 5) (q := 1) hf_134 hil_140.1 hil_140.2 (by decide) (by decide) hf_148.2.2.2.1.symm).trans (by rw [hne_156]))
              refine lv_iload_n hx hb dX7_items_85 rfl (lv_at hl 3 rfl) ?_
              refine lv_aload_n hx hb dX7_items_86 rfl (lv_at hl 2 rfl) ?_
              refine ky_Vi (As := []) (rest := [.int 0]) ⟨hx, hb, hml, hown, hts⟩ ⟨hK, hN⟩ hZ hP hD hS hA [1, 2] [0] (wc := [(Mm, .inr (7, [.int zth, .ref Mt, .int (nI tp), .int (nI max_145), .int (-1), .ref Mrr, .ref Mrh, .ref Mrc, .int (nI rh), .int (nI rc), .ref Mn, .ref Mf, .ref Mr, .ref Mh, .int zhp, .int zcc, .ref Ma, .ref Mas, .ref Msn, .ref Mac, .ref Mat])), (Mt, .inl (g 0, 160, .inl fmt))]) (wr := [(Mrr, .inl (g 0, 3, .inl F_152))]) rfl rfl rfl rfl (by decide) (r_X7_ahead l D g H.size Mm zth Mt tp max_145 (-1) Mrr Mrh Mrc rh rc Mn Mf Mr Mh zhp zcc Ma Mas Msn Mac Mat fmt (show tp ≤ 160 by omega) (show max_145 ≤ tp by omega)) (cwV 0 hts gX7_items_X7_ahead rfl rfl rfl (by decide +kernel) ⟨(Nat.le_of_ble_eq_true rfl), (Nat.le_of_ble_eq_true rfl)⟩) 1 7 rfl rfl rfl rfl hl.1 rfl (Nat.le_of_ble_eq_true rfl) dX7_items_87 ⟨(Nat.le_of_ble_eq_true rfl), (Nat.le_of_ble_eq_true rfl)⟩ (fun r_157 u H locs hw hP2 hD2 hS2 => ?_)
              clear hP hD hS
              obtain ⟨max_158, rfl, rfl, hf_159, hf_160, hf_161⟩ := hw
              have hPD : PD D A [(Mrr, .inl (g 0, 3, .inl F_152)), (Mm, .inr (7, [.int zth, .ref Mt, .int (nI tp), .int (nI max_158), .int (-1), .ref Mrr, .ref Mrh, .ref Mrc, .int (nI rh), .int (nI rc), .ref Mn, .ref Mf, .ref Mr, .ref Mh, .int zhp, .int zcc, .ref Ma, .ref Mas, .ref Msn, .ref Mac, .ref Mat])), (Mt, .inl (g 0, 160, .inl fmt))] H := ⟨hP2, hD2⟩
              have hS := hS2; clear hP2 hD2 hS2; have hP := hPD.1; have hD := hPD.2; clear hPD
              refine W.widen (k := 0) (n := 0) (Nat.le_of_ble_eq_true rfl) (Nat.le_of_ble_eq_true rfl) ?_
              refine lv_topi (fun y_162 hey_162 => ?_)
              refine ky_Si (As := [.int 0, .int y_162]) (rest := []) ⟨hx, hb, hml, hown, hts⟩ ⟨hK, hN⟩ hZ hP hD hS hA [] [0, 1, 2] (wc := []) (wr := [(Mrr, .inl (g 0, 3, .inl F_152)), (Mm, .inr (7, [.int zth, .ref Mt, .int (nI tp), .int (nI max_158), .int (-1), .ref Mrr, .ref Mrh, .ref Mrc, .int (nI rh), .int (nI rc), .ref Mn, .ref Mf, .ref Mr, .ref Mh, .int zhp, .int zcc, .ref Ma, .ref Mas, .ref Msn, .ref Mac, .ref Mat])), (Mt, .inl (g 0, 160, .inl fmt))]) rfl rfl rfl rfl (by decide) (r_X7_itemBy_0 l D g H.size y_162) (va_cwS 2 hts gX7_items_X7_itemBy rfl rfl rfl (by decide +kernel) ⟨(Nat.le_of_ble_eq_true rfl), (Nat.le_of_ble_eq_true rfl)⟩) rfl hl.1 rfl (Nat.le_of_ble_eq_true rfl) dX7_items_90 ⟨(Nat.le_of_ble_eq_true rfl), (Nat.le_of_ble_eq_true rfl)⟩ (fun r_163 u H locs hw hP2 hD2 hS2 => ?_)
              clear hP hD hS
              obtain ⟨rfl, rfl⟩ := hw
              have hPD : PD D A [(Mrr, .inl (g 0, 3, .inl F_152)), (Mm, .inr (7, [.int zth, .ref Mt, .int (nI tp), .int (nI max_158), .int (-1), .ref Mrr, .ref Mrh, .ref Mrc, .int (nI rh), .int (nI rc), .ref Mn, .ref Mf, .ref Mr, .ref Mh, .int zhp, .int zcc, .ref Ma, .ref Mas, .ref Msn, .ref Mac, .ref Mat])), (Mt, .inl (g 0, 160, .inl fmt))] H := ⟨hP2, hD2⟩
              have hS := hS2; clear hP2 hD2 hS2; have hP := hPD.1; have hD := hPD.2; clear hPD
              refine W.widen (k := 0) (n := 0) (Nat.le_of_ble_eq_true rfl) (Nat.le_of_ble_eq_true rfl) ?_
              rcases itK_c 0 y_162 with qi_164 | qi_164 | qi_164 | qi_164
              · skip
                refine lv_eqi (y := (-1)) (qi_164) ?_
                refine lv_istore (lv' := [(5, .int (-1)), (4, .int 7), (0, .ref Mm), (1, .int 0), (2, .ref Mrr), (3, .int 0)]) hx hb dX7_items_93 hl (by decide) rfl (fun ls hl => ?_)
                refine lv_goto (tgt := 20) hx hb dX7_items_95 (by decide) ?_
                refine lv_aload_n hx hb dX7_items_20 rfl (lv_at hl 2 rfl) ?_
                refine va_get (D := D) (ci := 7) (v := .int (-1)) (C := RX7) (T := TX7) (N := 21) hx hb hts iX7 hown hK hP 1 rfl rfl 4 (by decide) f71 (fun _ h9 => h9) rfl dX7_items_21 ?_
                refine lv_iconst (v := (-1)) hx hb dX7_items_24 (by decide) ?_
                refine lv_icmp_ne (tgt := 98) hx hb dX7_items_25 (by decide) (fun cb => absurd (by decide) cb) (fun _ => ?_)
                refine lv_iload hx hb dX7_items_28 (lv_at hl 0 rfl) ?_
                refine lv_iconst (v := (-1)) hx hb dX7_items_30 (by decide) ?_
                refine lv_icmp_eq (tgt := 98) hx hb dX7_items_31 (by decide) (fun _ => ?_) (fun cb => absurd (by decide) cb)
                have hPD9 : PD D A [(Mm, .inr (7, [.int zth, .ref Mt, .int (nI tp), .int (nI max_158), .int (-1), .ref Mrr, .ref Mrh, .ref Mrc, .int (nI rh), .int (nI rc), .ref Mn, .ref Mf, .ref Mr, .ref Mh, .int zhp, .int zcc, .ref Ma, .ref Mas, .ref Msn, .ref Mac, .ref Mat])), (Mt, .inl (g 0, 160, .inl fmt)), (Mrr, .inl (g 0, 3, .inl F_152))] H := ⟨hP.sub [1, 2, 0] rfl, hD.sub [1, 2, 0] (by decide) rfl⟩
                have hP9 := hPD9.1; have hD9 := hPD9.2
                subst hQ
                refine W.widen (k := 0) (n := 0) (Nat.le_of_ble_eq_true rfl) (Nat.le_of_ble_eq_true rfl) ?_
                exact W.vret hx hb hr (fun tS htS _ => ⟨⟨_, rfl, ⟨max_158, (-1), F_152, rfl, ⟨(hF_152), (show max_158 ≤ tp by omega), (show ma ≤ max_158 by omega), (congrArg Prod.fst (hR_155.trans (iv_m (f := 0) (m := 7) hf_161 hey_162.symm qi_164))).symm, (fun _ => (congrArg Prod.snd (hR_155.trans (iv_m (f := 0) (m := 7) hf_161 hey_162.symm qi_164))).symm)⟩⟩, by rw [htS]; exact hP9, hD9⟩, hS.F htS⟩) hS.2.2 dX7_items_98
              · skip
                refine lv_eqi (y := 0) (qi_164) ?_
                have hil_165 := iv_lt (k := 0) (q := 0) hey_162.symm qi_164 (by decide); have hil_165a := hil_165.1
                refine lv_istore (lv' := [(5, .int 0), (4, .int 7), (0, .ref Mm), (1, .int 0), (2, .ref Mrr), (3, .int 0)]) hx hb dX7_items_93 hl (by decide) rfl (fun ls hl => ?_)
                refine lv_goto (tgt := 20) hx hb dX7_items_95 (by decide) ?_
                refine lv_aload_n hx hb dX7_items_20 rfl (lv_at hl 2 rfl) ?_
                refine va_get (D := D) (ci := 7) (v := .int (-1)) (C := RX7) (T := TX7) (N := 21) hx hb hts iX7 hown hK hP 1 rfl rfl 4 (by decide) f71 (fun _ h9 => h9) rfl dX7_items_21 ?_
                refine lv_iconst (v := (-1)) hx hb dX7_items_24 (by decide) ?_
                refine lv_icmp_ne (tgt := 98) hx hb dX7_items_25 (by decide) (fun cb => absurd (by decide) cb) (fun _ => ?_)
                refine lv_iload hx hb dX7_items_28 (lv_at hl 0 rfl) ?_
                refine lv_iconst (v := (-1)) hx hb dX7_items_30 (by decide) ?_
                refine lv_icmp_eq (tgt := 98) hx hb dX7_items_31 (by decide) (fun cb => absurd cb (by decide)) (fun _ => ?_)
                refine lv_iload hx hb dX7_items_34 (lv_at hl 1 rfl) ?_
                refine lv_iload hx hb dX7_items_36 (lv_at hl 0 rfl) ?_
                refine ky_Si (As := [.int 7, .int 0]) (rest := []) ⟨hx, hb, hml, hown, hts⟩ ⟨hK, hN⟩ hZ hP hD hS hA [] [0, 1, 2] (wc := []) (wr := [(Mrr, .inl (g 0, 3, .inl F_152)), (Mm, .inr (7, [.int zth, .ref Mt, .int (nI tp), .int (nI max_158), .int (-1), .ref Mrr, .ref Mrh, .ref Mrc, .int (nI rh), .int (nI rc), .ref Mn, .ref Mf, .ref Mr, .ref Mh, .int zhp, .int zcc, .ref Ma, .ref Mas, .ref Msn, .ref Mac, .ref Mat])), (Mt, .inl (g 0, 160, .inl fmt))]) rfl rfl rfl rfl (by decide) (r_X7_has_70 l D g H.size) (va_cwS 2 hts gX7_items_X7_has rfl rfl rfl (by decide +kernel) ⟨(Nat.le_of_ble_eq_true rfl), (Nat.le_of_ble_eq_true rfl)⟩) rfl hl.1 rfl (Nat.le_of_ble_eq_true rfl) dX7_items_38 ⟨(Nat.le_of_ble_eq_true rfl), (Nat.le_of_ble_eq_true rfl)⟩ (fun r_166 u H locs hw hP2 hD2 hS2 => ?_)
                clear hP hD hS
                obtain ⟨rfl, rfl⟩ := hw
                have hPD : PD D A [(Mrr, .inl (g 0, 3, .inl F_152)), (Mm, .inr (7, [.int zth, .ref Mt, .int (nI tp), .int (nI max_158), .int (-1), .ref Mrr, .ref Mrh, .ref Mrc, .int (nI rh), .int (nI rc), .ref Mn, .ref Mf, .ref Mr, .ref Mh, .int zhp, .int zcc, .ref Ma, .ref Mas, .ref Msn, .ref Mac, .ref Mat])), (Mt, .inl (g 0, 160, .inl fmt))] H := ⟨hP2, hD2⟩
                have hS := hS2; clear hP2 hD2 hS2; have hP := hPD.1; have hD := hPD.2; clear hPD
                refine W.widen (k := 0) (n := 0) (Nat.le_of_ble_eq_true rfl) (Nat.le_of_ble_eq_true rfl) ?_
                refine lv_if_ne (tgt := 98) hx hb dX7_items_41 (by decide) (fun _ => ?_) (fun cb => absurd cb (by decide))
                have hPD9 : PD D A [(Mm, .inr (7, [.int zth, .ref Mt, .int (nI tp), .int (nI max_158), .int (-1), .ref Mrr, .ref Mrh, .ref Mrc, .int (nI rh), .int (nI rc), .ref Mn, .ref Mf, .ref Mr, .ref Mh, .int zhp, .int zcc, .ref Ma, .ref Mas, .ref Msn, .ref Mac, .ref Mat])), (Mt, .inl (g 0, 160, .inl fmt)), (Mrr, .inl (g 0, 3, .inl F_152))] H := ⟨hP.sub [1, 2, 0] rfl, hD.sub [1, 2, 0] (by decide) rfl⟩
                have hP9 := hPD9.1; have hD9 := hPD9.2
                subst hQ
                refine W.widen (k := 0) (n := 0) (Nat.le_of_ble_eq_true rfl) (Nat.le_of_ble_eq_true rfl) ?_
                exact W.vret hx hb hr (fun tS htS _ => ⟨⟨_, rfl, ⟨max_158, (-1), F_152, rfl, ⟨(hF_152), (show max_158 ≤ tp by omega), (show ma ≤ max_158 by omega), (congrArg Prod.fst (hR_155.trans (itR_again (f := 0) (m := 7) (q := 0) hf_161 hil_165.2 (by decide) (by decide)))).symm, (fun _ => (congrArg Prod.snd (hR_155.trans (itR_again (f := 0) (m := 7) (q := 0) hf_161 hil_165.2 (by decide) (by decide)))).symm)⟩⟩, by rw [htS]; exact hP9, hD9⟩, hS.F htS⟩) hS.2.2 dX7_items_98
              · skip
                refine lv_eqi (y := 1) (qi_164) ?_
                have hil_167 := iv_lt (k := 0) (q := 1) hey_162.symm qi_164 (by decide); have hil_167a := hil_167.1
                refine lv_istore (lv' := [(5, .int 1), (4, .int 7), (0, .ref Mm), (1, .int 0), (2, .ref Mrr), (3, .int 0)]) hx hb dX7_items_93 hl (by decide) rfl (fun ls hl => ?_)
                refine lv_goto (tgt := 20) hx hb dX7_items_95 (by decide) ?_
                refine lv_aload_n hx hb dX7_items_20 rfl (lv_at hl 2 rfl) ?_
                refine va_get (D := D) (ci := 7) (v := .int (-1)) (C := RX7) (T := TX7) (N := 21) hx hb hts iX7 hown hK hP 1 rfl rfl 4 (by decide) f71 (fun _ h9 => h9) rfl dX7_items_21 ?_
                refine lv_iconst (v := (-1)) hx hb dX7_items_24 (by decide) ?_
                refine lv_icmp_ne (tgt := 98) hx hb dX7_items_25 (by decide) (fun cb => absurd (by decide) cb) (fun _ => ?_)
                refine lv_iload hx hb dX7_items_28 (lv_at hl 0 rfl) ?_
                refine lv_iconst (v := (-1)) hx hb dX7_items_30 (by decide) ?_
                refine lv_icmp_eq (tgt := 98) hx hb dX7_items_31 (by decide) (fun cb => absurd cb (by decide)) (fun _ => ?_)
                refine lv_iload hx hb dX7_items_34 (lv_at hl 1 rfl) ?_
                refine lv_iload hx hb dX7_items_36 (lv_at hl 0 rfl) ?_
                refine ky_Si (As := [.int 7, .int 1]) (rest := []) ⟨hx, hb, hml, hown, hts⟩ ⟨hK, hN⟩ hZ hP hD hS hA [] [0, 1, 2] (wc := []) (wr := [(Mrr, .inl (g 0, 3, .inl F_152)), (Mm, .inr (7, [.int zth, .ref Mt, .int (nI tp), .int (nI max_158), .int (-1), .ref Mrr, .ref Mrh, .ref Mrc, .int (nI rh), .int (nI rc), .ref Mn, .ref Mf, .ref Mr, .ref Mh, .int zhp, .int zcc, .ref Ma, .ref Mas, .ref Msn, .ref Mac, .ref Mat])), (Mt, .inl (g 0, 160, .inl fmt))]) rfl rfl rfl rfl (by decide) (r_X7_has_71 l D g H.size) (va_cwS 2 hts gX7_items_X7_has rfl rfl rfl (by decide +kernel) ⟨(Nat.le_of_ble_eq_true rfl), (Nat.le_of_ble_eq_true rfl)⟩) rfl hl.1 rfl (Nat.le_of_ble_eq_true rfl) dX7_items_38 ⟨(Nat.le_of_ble_eq_true rfl), (Nat.le_of_ble_eq_true rfl)⟩ (fun r_168 u H locs hw hP2 hD2 hS2 => ?_)
                clear hP hD hS
                obtain ⟨rfl, rfl⟩ := hw
                have hPD : PD D A [(Mrr, .inl (g 0, 3, .inl F_152)), (Mm, .inr (7, [.int zth, .ref Mt, .int (nI tp), .int (nI max_158), .int (-1), .ref Mrr, .ref Mrh, .ref Mrc, .int (nI rh), .int (nI rc), .ref Mn, .ref Mf, .ref Mr, .ref Mh, .int zhp, .int zcc, .ref Ma, .ref Mas, .ref Msn, .ref Mac, .ref Mat])), (Mt, .inl (g 0, 160, .inl fmt))] H := ⟨hP2, hD2⟩
                have hS := hS2; clear hP2 hD2 hS2; have hP := hPD.1; have hD := hPD.2; clear hPD
                refine W.widen (k := 0) (n := 0) (Nat.le_of_ble_eq_true rfl) (Nat.le_of_ble_eq_true rfl) ?_
                refine lv_if_ne (tgt := 98) hx hb dX7_items_41 (by decide) (fun _ => ?_) (fun cb => absurd cb (by decide))
                have hPD9 : PD D A [(Mm, .inr (7, [.int zth, .ref Mt, .int (nI tp), .int (nI max_158), .int (-1), .ref Mrr, .ref Mrh, .ref Mrc, .int (nI rh), .int (nI rc), .ref Mn, .ref Mf, .ref Mr, .ref Mh, .int zhp, .int zcc, .ref Ma, .ref Mas, .ref Msn, .ref Mac, .ref Mat])), (Mt, .inl (g 0, 160, .inl fmt)), (Mrr, .inl (g 0, 3, .inl F_152))] H := ⟨hP.sub [1, 2, 0] rfl, hD.sub [1, 2, 0] (by decide) rfl⟩
                have hP9 := hPD9.1; have hD9 := hPD9.2
                subst hQ
                refine W.widen (k := 0) (n := 0) (Nat.le_of_ble_eq_true rfl) (Nat.le_of_ble_eq_true rfl) ?_
                exact W.vret hx hb hr (fun tS htS _ => ⟨⟨_, rfl, ⟨max_158, (-1), F_152, rfl, ⟨(hF_152), (show max_158 ≤ tp by omega), (show ma ≤ max_158 by omega), (congrArg Prod.fst (hR_155.trans (itR_again (f := 0) (m := 7) (q := 1) hf_161 hil_167.2 (by decide) (by decide)))).symm, (fun _ => (congrArg Prod.snd (hR_155.trans (itR_again (f := 0) (m := 7) (q := 1) hf_161 hil_167.2 (by decide) (by decide)))).symm)⟩⟩, by rw [htS]; exact hP9, hD9⟩, hS.F htS⟩) hS.2.2 dX7_items_98
              · skip
                refine lv_eqi (y := 2) (qi_164) ?_
                have hil_169 := iv_lt (k := 0) (q := 2) hey_162.symm qi_164 (by decide); have hil_169a := hil_169.1
                refine lv_istore (lv' := [(5, .int 2), (4, .int 7), (0, .ref Mm), (1, .int 0), (2, .ref Mrr), (3, .int 0)]) hx hb dX7_items_93 hl (by decide) rfl (fun ls hl => ?_)
                refine lv_goto (tgt := 20) hx hb dX7_items_95 (by decide) ?_
                refine lv_aload_n hx hb dX7_items_20 rfl (lv_at hl 2 rfl) ?_
                refine va_get (D := D) (ci := 7) (v := .int (-1)) (C := RX7) (T := TX7) (N := 21) hx hb hts iX7 hown hK hP 1 rfl rfl 4 (by decide) f71 (fun _ h9 => h9) rfl dX7_items_21 ?_
                refine lv_iconst (v := (-1)) hx hb dX7_items_24 (by decide) ?_
                refine lv_icmp_ne (tgt := 98) hx hb dX7_items_25 (by decide) (fun cb => absurd (by decide) cb) (fun _ => ?_)
                refine lv_iload hx hb dX7_items_28 (lv_at hl 0 rfl) ?_
                refine lv_iconst (v := (-1)) hx hb dX7_items_30 (by decide) ?_
                refine lv_icmp_eq (tgt := 98) hx hb dX7_items_31 (by decide) (fun cb => absurd cb (by decide)) (fun _ => ?_)
                refine lv_iload hx hb dX7_items_34 (lv_at hl 1 rfl) ?_
                refine lv_iload hx hb dX7_items_36 (lv_at hl 0 rfl) ?_
                refine ky_Si (As := [.int 7, .int 2]) (rest := []) ⟨hx, hb, hml, hown, hts⟩ ⟨hK, hN⟩ hZ hP hD hS hA [] [0, 1, 2] (wc := []) (wr := [(Mrr, .inl (g 0, 3, .inl F_152)), (Mm, .inr (7, [.int zth, .ref Mt, .int (nI tp), .int (nI max_158), .int (-1), .ref Mrr, .ref Mrh, .ref Mrc, .int (nI rh), .int (nI rc), .ref Mn, .ref Mf, .ref Mr, .ref Mh, .int zhp, .int zcc, .ref Ma, .ref Mas, .ref Msn, .ref Mac, .ref Mat])), (Mt, .inl (g 0, 160, .inl fmt))]) rfl rfl rfl rfl (by decide) (r_X7_has_72 l D g H.size) (va_cwS 2 hts gX7_items_X7_has rfl rfl rfl (by decide +kernel) ⟨(Nat.le_of_ble_eq_true rfl), (Nat.le_of_ble_eq_true rfl)⟩) rfl hl.1 rfl (Nat.le_of_ble_eq_true rfl) dX7_items_38 ⟨(Nat.le_of_ble_eq_true rfl), (Nat.le_of_ble_eq_true rfl)⟩ (fun r_170 u H locs hw hP2 hD2 hS2 => ?_)
                clear hP hD hS
                obtain ⟨rfl, rfl⟩ := hw
                have hPD : PD D A [(Mrr, .inl (g 0, 3, .inl F_152)), (Mm, .inr (7, [.int zth, .ref Mt, .int (nI tp), .int (nI max_158), .int (-1), .ref Mrr, .ref Mrh, .ref Mrc, .int (nI rh), .int (nI rc), .ref Mn, .ref Mf, .ref Mr, .ref Mh, .int zhp, .int zcc, .ref Ma, .ref Mas, .ref Msn, .ref Mac, .ref Mat])), (Mt, .inl (g 0, 160, .inl fmt))] H := ⟨hP2, hD2⟩
                have hS := hS2; clear hP2 hD2 hS2; have hP := hPD.1; have hD := hPD.2; clear hPD
                refine W.widen (k := 0) (n := 0) (Nat.le_of_ble_eq_true rfl) (Nat.le_of_ble_eq_true rfl) ?_
                refine lv_if_ne (tgt := 98) hx hb dX7_items_41 (by decide) (fun _ => ?_) (fun cb => absurd cb (by decide))
                have hPD9 : PD D A [(Mm, .inr (7, [.int zth, .ref Mt, .int (nI tp), .int (nI max_158), .int (-1), .ref Mrr, .ref Mrh, .ref Mrc, .int (nI rh), .int (nI rc), .ref Mn, .ref Mf, .ref Mr, .ref Mh, .int zhp, .int zcc, .ref Ma, .ref Mas, .ref Msn, .ref Mac, .ref Mat])), (Mt, .inl (g 0, 160, .inl fmt)), (Mrr, .inl (g 0, 3, .inl F_152))] H := ⟨hP.sub [1, 2, 0] rfl, hD.sub [1, 2, 0] (by decide) rfl⟩
                have hP9 := hPD9.1; have hD9 := hPD9.2
                subst hQ
                refine W.widen (k := 0) (n := 0) (Nat.le_of_ble_eq_true rfl) (Nat.le_of_ble_eq_true rfl) ?_
                exact W.vret hx hb hr (fun tS htS _ => ⟨⟨_, rfl, ⟨max_158, (-1), F_152, rfl, ⟨(hF_152), (show max_158 ≤ tp by omega), (show ma ≤ max_158 by omega), (congrArg Prod.fst (hR_155.trans (itR_again (f := 0) (m := 7) (q := 2) hf_161 hil_169.2 (by decide) (by decide)))).symm, (fun _ => (congrArg Prod.snd (hR_155.trans (itR_again (f := 0) (m := 7) (q := 2) hf_161 hil_169.2 (by decide) (by decide)))).symm)⟩⟩, by rw [htS]; exact hP9, hD9⟩, hS.F htS⟩) hS.2.2 dX7_items_98
            · skip
              refine lv_iload_n hx hb dX7_items_85 rfl (lv_at hl 3 rfl) ?_
              refine lv_aload_n hx hb dX7_items_86 rfl (lv_at hl 2 rfl) ?_
              refine ky_Vi (As := []) (rest := [.int 0]) ⟨hx, hb, hml, hown, hts⟩ ⟨hK, hN⟩ hZ hP hD hS hA [1, 2] [0] (wc := [(Mm, .inr (7, [.int zth, .ref Mt, .int (nI tp), .int (nI max_145), .int zwrx_146, .ref Mrr, .ref Mrh, .ref Mrc, .int (nI rh), .int (nI rc), .ref Mn, .ref Mf, .ref Mr, .ref Mh, .int zhp, .int zcc, .ref Ma, .ref Mas, .ref Msn, .ref Mac, .ref Mat])), (Mt, .inl (g 0, 160, .inl fmt))]) (wr := [(Mrr, .inl (g 0, 3, .inl F_152))]) rfl rfl rfl rfl (by decide) (r_X7_ahead l D g H.size Mm zth Mt tp max_145 zwrx_146 Mrr Mrh Mrc rh rc Mn Mf Mr Mh zhp zcc Ma Mas Msn Mac Mat fmt (show tp ≤ 160 by omega) (show max_145 ≤ tp by omega)) (cwV 0 hts gX7_items_X7_ahead rfl rfl rfl (by decide +kernel) ⟨(Nat.le_of_ble_eq_true rfl), (Nat.le_of_ble_eq_true rfl)⟩) 1 7 rfl rfl rfl rfl hl.1 rfl (Nat.le_of_ble_eq_true rfl) dX7_items_87 ⟨(Nat.le_of_ble_eq_true rfl), (Nat.le_of_ble_eq_true rfl)⟩ (fun r_171 u H locs hw hP2 hD2 hS2 => ?_)
              clear hP hD hS
              obtain ⟨max_172, rfl, rfl, hf_173, hf_174, hf_175⟩ := hw
              have hPD : PD D A [(Mrr, .inl (g 0, 3, .inl F_152)), (Mm, .inr (7, [.int zth, .ref Mt, .int (nI tp), .int (nI max_172), .int zwrx_146, .ref Mrr, .ref Mrh, .ref Mrc, .int (nI rh), .int (nI rc), .ref Mn, .ref Mf, .ref Mr, .ref Mh, .int zhp, .int zcc, .ref Ma, .ref Mas, .ref Msn, .ref Mac, .ref Mat])), (Mt, .inl (g 0, 160, .inl fmt))] H := ⟨hP2, hD2⟩
              have hS := hS2; clear hP2 hD2 hS2; have hP := hPD.1; have hD := hPD.2; clear hPD
              refine W.widen (k := 0) (n := 0) (Nat.le_of_ble_eq_true rfl) (Nat.le_of_ble_eq_true rfl) ?_
              refine lv_topi (fun y_176 hey_176 => ?_)
              refine ky_Si (As := [.int 0, .int y_176]) (rest := []) ⟨hx, hb, hml, hown, hts⟩ ⟨hK, hN⟩ hZ hP hD hS hA [] [0, 1, 2] (wc := []) (wr := [(Mrr, .inl (g 0, 3, .inl F_152)), (Mm, .inr (7, [.int zth, .ref Mt, .int (nI tp), .int (nI max_172), .int zwrx_146, .ref Mrr, .ref Mrh, .ref Mrc, .int (nI rh), .int (nI rc), .ref Mn, .ref Mf, .ref Mr, .ref Mh, .int zhp, .int zcc, .ref Ma, .ref Mas, .ref Msn, .ref Mac, .ref Mat])), (Mt, .inl (g 0, 160, .inl fmt))]) rfl rfl rfl rfl (by decide) (r_X7_itemBy_0 l D g H.size y_176) (va_cwS 2 hts gX7_items_X7_itemBy rfl rfl rfl (by decide +kernel) ⟨(Nat.le_of_ble_eq_true rfl), (Nat.le_of_ble_eq_true rfl)⟩) rfl hl.1 rfl (Nat.le_of_ble_eq_true rfl) dX7_items_90 ⟨(Nat.le_of_ble_eq_true rfl), (Nat.le_of_ble_eq_true rfl)⟩ (fun r_177 u H locs hw hP2 hD2 hS2 => ?_)
              clear hP hD hS
              obtain ⟨rfl, rfl⟩ := hw
              have hPD : PD D A [(Mrr, .inl (g 0, 3, .inl F_152)), (Mm, .inr (7, [.int zth, .ref Mt, .int (nI tp), .int (nI max_172), .int zwrx_146, .ref Mrr, .ref Mrh, .ref Mrc, .int (nI rh), .int (nI rc), .ref Mn, .ref Mf, .ref Mr, .ref Mh, .int zhp, .int zcc, .ref Ma, .ref Mas, .ref Msn, .ref Mac, .ref Mat])), (Mt, .inl (g 0, 160, .inl fmt))] H := ⟨hP2, hD2⟩
              have hS := hS2; clear hP2 hD2 hS2; have hP := hPD.1; have hD := hPD.2; clear hPD
              refine W.widen (k := 0) (n := 0) (Nat.le_of_ble_eq_true rfl) (Nat.le_of_ble_eq_true rfl) ?_
              refine lv_istore (lv' := [(5, .int (itK 0 y_176)), (4, .int 7), (0, .ref Mm), (1, .int 0), (2, .ref Mrr), (3, .int 0)]) hx hb dX7_items_93 hl (by decide) rfl (fun ls hl => ?_)
              refine lv_goto (tgt := 20) hx hb dX7_items_95 (by decide) ?_
              refine lv_aload_n hx hb dX7_items_20 rfl (lv_at hl 2 rfl) ?_
              refine va_get (D := D) (ci := 7) (v := .int zwrx_146) (C := RX7) (T := TX7) (N := 21) hx hb hts iX7 hown hK hP 1 rfl rfl 4 (by decide) f71 (fun _ h9 => h9) rfl dX7_items_21 ?_
              refine lv_iconst (v := (-1)) hx hb dX7_items_24 (by decide) ?_
              refine lv_icmp_ne (tgt := 98) hx hb dX7_items_25 (by decide) (fun _ => ?_) (fun cb => absurd cb (cw_153))
              have hPD9 : PD D A [(Mm, .inr (7, [.int zth, .ref Mt, .int (nI tp), .int (nI max_172), .int zwrx_146, .ref Mrr, .ref Mrh, .ref Mrc, .int (nI rh), .int (nI rc), .ref Mn, .ref Mf, .ref Mr, .ref Mh, .int zhp, .int zcc, .ref Ma, .ref Mas, .ref Msn, .ref Mac, .ref Mat])), (Mt, .inl (g 0, 160, .inl fmt)), (Mrr, .inl (g 0, 3, .inl F_152))] H := ⟨hP.sub [1, 2, 0] rfl, hD.sub [1, 2, 0] (by decide) rfl⟩
              have hP9 := hPD9.1; have hD9 := hPD9.2
              subst hQ
              refine W.widen (k := 0) (n := 0) (Nat.le_of_ble_eq_true rfl) (Nat.le_of_ble_eq_true rfl) ?_
              exact W.vret hx hb hr (fun tS htS _ => ⟨⟨_, rfl, ⟨max_172, zwrx_146, F_152, rfl, ⟨(hF_152), (show max_172 ≤ tp by omega), (show ma ≤ max_172 by omega), ((congrArg Prod.fst hR_128).trans ((itR_w (f := 1) (m := 5) (q := 1) hf_134 hil_140.1 hil_140.2 (by decide) (by decide) (fun q => cw_153 (hf_148.2.2.2.1.trans q))).trans hf_148.2.2.2.1.symm)).symm, (fun q => absurd q cw_153)⟩⟩, by rw [htS]; exact hP9, hD9⟩, hS.F htS⟩) hS.2.2 dX7_items_98
          · skip
            refine lv_eqi (y := 2) (qi_137) ?_
            have hil_178 := iv_lt (k := 0) (q := 2) hey_135.symm qi_137 (by decide); have hil_178a := hil_178.1
            refine lv_istore (lv' := [(5, .int 2), (4, .int 5), (0, .ref Mm), (1, .int 0), (2, .ref Mrr), (3, .int 0)]) hx hb dX7_items_93 hl (by decide) rfl (fun ls hl => ?_)
            refine lv_goto (tgt := 20) hx hb dX7_items_95 (by decide) ?_
            refine lv_aload_n hx hb dX7_items_20 rfl (lv_at hl 2 rfl) ?_
            refine va_get (D := D) (ci := 7) (v := .int (-1)) (C := RX7) (T := TX7) (N := 21) hx hb hts iX7 hown hK hP 1 rfl rfl 4 (by decide) f71 (fun _ h9 => h9) rfl dX7_items_21 ?_
            refine lv_iconst (v := (-1)) hx hb dX7_items_24 (by decide) ?_
            refine lv_icmp_ne (tgt := 98) hx hb dX7_items_25 (by decide) (fun cb => absurd (by decide) cb) (fun _ => ?_)
            refine lv_iload hx hb dX7_items_28 (lv_at hl 0 rfl) ?_
            refine lv_iconst (v := (-1)) hx hb dX7_items_30 (by decide) ?_
            refine lv_icmp_eq (tgt := 98) hx hb dX7_items_31 (by decide) (fun cb => absurd cb (by decide)) (fun _ => ?_)
            refine lv_iload hx hb dX7_items_34 (lv_at hl 1 rfl) ?_
            refine lv_iload hx hb dX7_items_36 (lv_at hl 0 rfl) ?_
            refine ky_Si (As := [.int 5, .int 2]) (rest := []) ⟨hx, hb, hml, hown, hts⟩ ⟨hK, hN⟩ hZ hP hD hS hA [] [0, 1, 2] (wc := []) (wr := [(Mrr, .inl (g 0, 3, .inl F_125)), (Mm, .inr (7, [.int zth, .ref Mt, .int (nI tp), .int (nI max_131), .int (-1), .ref Mrr, .ref Mrh, .ref Mrc, .int (nI rh), .int (nI rc), .ref Mn, .ref Mf, .ref Mr, .ref Mh, .int zhp, .int zcc, .ref Ma, .ref Mas, .ref Msn, .ref Mac, .ref Mat])), (Mt, .inl (g 0, 160, .inl fmt))]) rfl rfl rfl rfl (by decide) (r_X7_has_52 l D g H.size) (va_cwS 2 hts gX7_items_X7_has rfl rfl rfl (by decide +kernel) ⟨(Nat.le_of_ble_eq_true rfl), (Nat.le_of_ble_eq_true rfl)⟩) rfl hl.1 rfl (Nat.le_of_ble_eq_true rfl) dX7_items_38 ⟨(Nat.le_of_ble_eq_true rfl), (Nat.le_of_ble_eq_true rfl)⟩ (fun r_179 u H locs hw hP2 hD2 hS2 => ?_)
            clear hP hD hS
            obtain ⟨rfl, rfl⟩ := hw
            have hPD : PD D A [(Mrr, .inl (g 0, 3, .inl F_125)), (Mm, .inr (7, [.int zth, .ref Mt, .int (nI tp), .int (nI max_131), .int (-1), .ref Mrr, .ref Mrh, .ref Mrc, .int (nI rh), .int (nI rc), .ref Mn, .ref Mf, .ref Mr, .ref Mh, .int zhp, .int zcc, .ref Ma, .ref Mas, .ref Msn, .ref Mac, .ref Mat])), (Mt, .inl (g 0, 160, .inl fmt))] H := ⟨hP2, hD2⟩
            have hS := hS2; clear hP2 hD2 hS2; have hP := hPD.1; have hD := hPD.2; clear hPD
            refine W.widen (k := 0) (n := 0) (Nat.le_of_ble_eq_true rfl) (Nat.le_of_ble_eq_true rfl) ?_
            refine lv_if_ne (tgt := 98) hx hb dX7_items_41 (by decide) (fun _ => ?_) (fun cb => absurd cb (by decide))
            have hPD9 : PD D A [(Mm, .inr (7, [.int zth, .ref Mt, .int (nI tp), .int (nI max_131), .int (-1), .ref Mrr, .ref Mrh, .ref Mrc, .int (nI rh), .int (nI rc), .ref Mn, .ref Mf, .ref Mr, .ref Mh, .int zhp, .int zcc, .ref Ma, .ref Mas, .ref Msn, .ref Mac, .ref Mat])), (Mt, .inl (g 0, 160, .inl fmt)), (Mrr, .inl (g 0, 3, .inl F_125))] H := ⟨hP.sub [1, 2, 0] rfl, hD.sub [1, 2, 0] (by decide) rfl⟩
            have hP9 := hPD9.1; have hD9 := hPD9.2
            subst hQ
            refine W.widen (k := 0) (n := 0) (Nat.le_of_ble_eq_true rfl) (Nat.le_of_ble_eq_true rfl) ?_
            exact W.vret hx hb hr (fun tS htS _ => ⟨⟨_, rfl, ⟨max_131, (-1), F_125, rfl, ⟨(hF_125), (show max_131 ≤ tp by omega), (show ma ≤ max_131 by omega), (congrArg Prod.fst (hR_128.trans (itR_again (f := 1) (m := 5) (q := 2) hf_134 hil_178.2 (by decide) (by decide)))).symm, (fun _ => (congrArg Prod.snd (hR_128.trans (itR_again (f := 1) (m := 5) (q := 2) hf_134 hil_178.2 (by decide) (by decide)))).symm)⟩⟩, by rw [htS]; exact hP9, hD9⟩, hS.F htS⟩) hS.2.2 dX7_items_98
        · skip
          refine lv_iload_n hx hb dX7_items_85 rfl (lv_at hl 3 rfl) ?_
          refine lv_aload_n hx hb dX7_items_86 rfl (lv_at hl 2 rfl) ?_
          refine ky_Vi (As := []) (rest := [.int 0]) ⟨hx, hb, hml, hown, hts⟩ ⟨hK, hN⟩ hZ hP hD hS hA [1, 2] [0] (wc := [(Mm, .inr (7, [.int zth, .ref Mt, .int (nI tp), .int (nI max_118), .int zwrx_119, .ref Mrr, .ref Mrh, .ref Mrc, .int (nI rh), .int (nI rc), .ref Mn, .ref Mf, .ref Mr, .ref Mh, .int zhp, .int zcc, .ref Ma, .ref Mas, .ref Msn, .ref Mac, .ref Mat])), (Mt, .inl (g 0, 160, .inl fmt))]) (wr := [(Mrr, .inl (g 0, 3, .inl F_125))]) rfl rfl rfl rfl (by decide) (r_X7_ahead l D g H.size Mm zth Mt tp max_118 zwrx_119 Mrr Mrh Mrc rh rc Mn Mf Mr Mh zhp zcc Ma Mas Msn Mac Mat fmt (show tp ≤ 160 by omega) (show max_118 ≤ tp by omega)) (cwV 0 hts gX7_items_X7_ahead rfl rfl rfl (by decide +kernel) ⟨(Nat.le_of_ble_eq_true rfl), (Nat.le_of_ble_eq_true rfl)⟩) 1 7 rfl rfl rfl rfl hl.1 rfl (Nat.le_of_ble_eq_true rfl) dX7_items_87 ⟨(Nat.le_of_ble_eq_true rfl), (Nat.le_of_ble_eq_true rfl)⟩ (fun r_180 u H locs hw hP2 hD2 hS2 => ?_)
          clear hP hD hS
          obtain ⟨max_181, rfl, rfl, hf_182, hf_183, hf_184⟩ := hw
          have hPD : PD D A [(Mrr, .inl (g 0, 3, .inl F_125)), (Mm, .inr (7, [.int zth, .ref Mt, .int (nI tp), .int (nI max_181), .int zwrx_119, .ref Mrr, .ref Mrh, .ref Mrc, .int (nI rh), .int (nI rc), .ref Mn, .ref Mf, .ref Mr, .ref Mh, .int zhp, .int zcc, .ref Ma, .ref Mas, .ref Msn, .ref Mac, .ref Mat])), (Mt, .inl (g 0, 160, .inl fmt))] H := ⟨hP2, hD2⟩
          have hS := hS2; clear hP2 hD2 hS2; have hP := hPD.1; have hD := hPD.2; clear hPD
          refine W.widen (k := 0) (n := 0) (Nat.le_of_ble_eq_true rfl) (Nat.le_of_ble_eq_true rfl) ?_
          refine lv_topi (fun y_185 hey_185 => ?_)
          refine ky_Si (As := [.int 0, .int y_185]) (rest := []) ⟨hx, hb, hml, hown, hts⟩ ⟨hK, hN⟩ hZ hP hD hS hA [] [0, 1, 2] (wc := []) (wr := [(Mrr, .inl (g 0, 3, .inl F_125)), (Mm, .inr (7, [.int zth, .ref Mt, .int (nI tp), .int (nI max_181), .int zwrx_119, .ref Mrr, .ref Mrh, .ref Mrc, .int (nI rh), .int (nI rc), .ref Mn, .ref Mf, .ref Mr, .ref Mh, .int zhp, .int zcc, .ref Ma, .ref Mas, .ref Msn, .ref Mac, .ref Mat])), (Mt, .inl (g 0, 160, .inl fmt))]) rfl rfl rfl rfl (by decide) (r_X7_itemBy_0 l D g H.size y_185) (va_cwS 2 hts gX7_items_X7_itemBy rfl rfl rfl (by decide +kernel) ⟨(Nat.le_of_ble_eq_true rfl), (Nat.le_of_ble_eq_true rfl)⟩) rfl hl.1 rfl (Nat.le_of_ble_eq_true rfl) dX7_items_90 ⟨(Nat.le_of_ble_eq_true rfl), (Nat.le_of_ble_eq_true rfl)⟩ (fun r_186 u H locs hw hP2 hD2 hS2 => ?_)
          clear hP hD hS
          obtain ⟨rfl, rfl⟩ := hw
          have hPD : PD D A [(Mrr, .inl (g 0, 3, .inl F_125)), (Mm, .inr (7, [.int zth, .ref Mt, .int (nI tp), .int (nI max_181), .int zwrx_119, .ref Mrr, .ref Mrh, .ref Mrc, .int (nI rh), .int (nI rc), .ref Mn, .ref Mf, .ref Mr, .ref Mh, .int zhp, .int zcc, .ref Ma, .ref Mas, .ref Msn, .ref Mac, .ref Mat])), (Mt, .inl (g 0, 160, .inl fmt))] H := ⟨hP2, hD2⟩
          have hS := hS2; clear hP2 hD2 hS2; have hP := hPD.1; have hD := hPD.2; clear hPD
          refine W.widen (k := 0) (n := 0) (Nat.le_of_ble_eq_true rfl) (Nat.le_of_ble_eq_true rfl) ?_
          refine lv_istore (lv' := [(5, .int (itK 0 y_185)), (4, .int 5), (0, .ref Mm), (1, .int 0), (2, .ref Mrr), (3, .int 0)]) hx hb dX7_items_93 hl (by decide) rfl (fun ls hl => ?_)
          refine lv_goto (tgt := 20) hx hb dX7_items_95 (by decide) ?_
          refine lv_aload_n hx hb dX7_items_20 rfl (lv_at hl 2 rfl) ?_
          refine va_get (D := D) (ci := 7) (v := .int zwrx_119) (C := RX7) (T := TX7) (N := 21) hx hb hts iX7 hown hK hP 1 rfl rfl 4 (by decide) f71 (fun _ h9 => h9) rfl dX7_items_21 ?_
          refine lv_iconst (v := (-1)) hx hb dX7_items_24 (by decide) ?_
          refine lv_icmp_ne (tgt := 98) hx hb dX7_items_25 (by decide) (fun _ => ?_) (fun cb => absurd cb (cw_126))
          have hPD9 : PD D A [(Mm, .inr (7, [.int zth, .ref Mt, .int (nI tp), .int (nI max_181), .int zwrx_119, .ref Mrr, .ref Mrh, .ref Mrc, .int (nI rh), .int (nI rc), .ref Mn, .ref Mf, .ref Mr, .ref Mh, .int zhp, .int zcc, .ref Ma, .ref Mas, .ref Msn, .ref Mac, .ref Mat])), (Mt, .inl (g 0, 160, .inl fmt)), (Mrr, .inl (g 0, 3, .inl F_125))] H := ⟨hP.sub [1, 2, 0] rfl, hD.sub [1, 2, 0] (by decide) rfl⟩
          have hP9 := hPD9.1; have hD9 := hPD9.2
          subst hQ
          refine W.widen (k := 0) (n := 0) (Nat.le_of_ble_eq_true rfl) (Nat.le_of_ble_eq_true rfl) ?_
          exact W.vret hx hb hr (fun tS htS _ => ⟨⟨_, rfl, ⟨max_181, zwrx_119, F_125, rfl, ⟨(hF_125), (show max_181 ≤ tp by omega), (show ma ≤ max_181 by omega), ((congrArg Prod.fst hR_27).trans ((itR_w (f := 2) (m := 1) (q := 2) hf_33 hil_113.1 hil_113.2 (by decide) (by decide) (fun q => cw_126 (hf_121.2.2.2.1.trans q))).trans hf_121.2.2.2.1.symm)).symm, (fun q => absurd q cw_126)⟩⟩, by rw [htS]; exact hP9, hD9⟩, hS.F htS⟩) hS.2.2 dX7_items_98
    · skip
      refine lv_iload_n hx hb dX7_items_85 rfl (lv_at hl 3 rfl) ?_
      refine lv_aload_n hx hb dX7_items_86 rfl (lv_at hl 2 rfl) ?_
      refine ky_Vi (As := []) (rest := [.int 0]) ⟨hx, hb, hml, hown, hts⟩ ⟨hK, hN⟩ hZ hP hD hS hA [1, 2] [0] (wc := [(Mm, .inr (7, [.int zth, .ref Mt, .int (nI tp), .int (nI max_17), .int zwrx_18, .ref Mrr, .ref Mrh, .ref Mrc, .int (nI rh), .int (nI rc), .ref Mn, .ref Mf, .ref Mr, .ref Mh, .int zhp, .int zcc, .ref Ma, .ref Mas, .ref Msn, .ref Mac, .ref Mat])), (Mt, .inl (g 0, 160, .inl fmt))]) (wr := [(Mrr, .inl (g 0, 3, .inl F_24))]) rfl rfl rfl rfl (by decide) (r_X7_ahead l D g H.size Mm zth Mt tp max_17 zwrx_18 Mrr Mrh Mrc rh rc Mn Mf Mr Mh zhp zcc Ma Mas Msn Mac Mat fmt (show tp ≤ 160 by omega) (show max_17 ≤ tp by omega)) (cwV 0 hts gX7_items_X7_ahead rfl rfl rfl (by decide +kernel) ⟨(Nat.le_of_ble_eq_true rfl), (Nat.le_of_ble_eq_true rfl)⟩) 1 7 rfl rfl rfl rfl hl.1 rfl (Nat.le_of_ble_eq_true rfl) dX7_items_87 ⟨(Nat.le_of_ble_eq_true rfl), (Nat.le_of_ble_eq_true rfl)⟩ (fun r_187 u H locs hw hP2 hD2 hS2 => ?_)
      clear hP hD hS
      obtain ⟨max_188, rfl, rfl, hf_189, hf_190, hf_191⟩ := hw
      have hPD : PD D A [(Mrr, .inl (g 0, 3, .inl F_24)), (Mm, .inr (7, [.int zth, .ref Mt, .int (nI tp), .int (nI max_188), .int zwrx_18, .ref Mrr, .ref Mrh, .ref Mrc, .int (nI rh), .int (nI rc), .ref Mn, .ref Mf, .ref Mr, .ref Mh, .int zhp, .int zcc, .ref Ma, .ref Mas, .ref Msn, .ref Mac, .ref Mat])), (Mt, .inl (g 0, 160, .inl fmt))] H := ⟨hP2, hD2⟩
      have hS := hS2; clear hP2 hD2 hS2; have hP := hPD.1; have hD := hPD.2; clear hPD
      refine W.widen (k := 0) (n := 0) (Nat.le_of_ble_eq_true rfl) (Nat.le_of_ble_eq_true rfl) ?_
      refine lv_topi (fun y_192 hey_192 => ?_)
      refine ky_Si (As := [.int 0, .int y_192]) (rest := []) ⟨hx, hb, hml, hown, hts⟩ ⟨hK, hN⟩ hZ hP hD hS hA [] [0, 1, 2] (wc := []) (wr := [(Mrr, .inl (g 0, 3, .inl F_24)), (Mm, .inr (7, [.int zth, .ref Mt, .int (nI tp), .int (nI max_188), .int zwrx_18, .ref Mrr, .ref Mrh, .ref Mrc, .int (nI rh), .int (nI rc), .ref Mn, .ref Mf, .ref Mr, .ref Mh, .int zhp, .int zcc, .ref Ma, .ref Mas, .ref Msn, .ref Mac, .ref Mat])), (Mt, .inl (g 0, 160, .inl fmt))]) rfl rfl rfl rfl (by decide) (r_X7_itemBy_0 l D g H.size y_192) (va_cwS 2 hts gX7_items_X7_itemBy rfl rfl rfl (by decide +kernel) ⟨(Nat.le_of_ble_eq_true rfl), (Nat.le_of_ble_eq_true rfl)⟩) rfl hl.1 rfl (Nat.le_of_ble_eq_true rfl) dX7_items_90 ⟨(Nat.le_of_ble_eq_true rfl), (Nat.le_of_ble_eq_true rfl)⟩ (fun r_193 u H locs hw hP2 hD2 hS2 => ?_)
      clear hP hD hS
      obtain ⟨rfl, rfl⟩ := hw
      have hPD : PD D A [(Mrr, .inl (g 0, 3, .inl F_24)), (Mm, .inr (7, [.int zth, .ref Mt, .int (nI tp), .int (nI max_188), .int zwrx_18, .ref Mrr, .ref Mrh, .ref Mrc, .int (nI rh), .int (nI rc), .ref Mn, .ref Mf, .ref Mr, .ref Mh, .int zhp, .int zcc, .ref Ma, .ref Mas, .ref Msn, .ref Mac, .ref Mat])), (Mt, .inl (g 0, 160, .inl fmt))] H := ⟨hP2, hD2⟩
      have hS := hS2; clear hP2 hD2 hS2; have hP := hPD.1; have hD := hPD.2; clear hPD
      refine W.widen (k := 0) (n := 0) (Nat.le_of_ble_eq_true rfl) (Nat.le_of_ble_eq_true rfl) ?_
      refine lv_istore (lv' := [(5, .int (itK 0 y_192)), (4, .int 1), (0, .ref Mm), (1, .int 0), (2, .ref Mrr), (3, .int 0)]) hx hb dX7_items_93 hl (by decide) rfl (fun ls hl => ?_)
      refine lv_goto (tgt := 20) hx hb dX7_items_95 (by decide) ?_
      refine lv_aload_n hx hb dX7_items_20 rfl (lv_at hl 2 rfl) ?_
      refine va_get (D := D) (ci := 7) (v := .int zwrx_18) (C := RX7) (T := TX7) (N := 21) hx hb hts iX7 hown hK hP 1 rfl rfl 4 (by decide) f71 (fun _ h9 => h9) rfl dX7_items_21 ?_
      refine lv_iconst (v := (-1)) hx hb dX7_items_24 (by decide) ?_
      refine lv_icmp_ne (tgt := 98) hx hb dX7_items_25 (by decide) (fun _ => ?_) (fun cb => absurd cb (cw_25))
      have hPD9 : PD D A [(Mm, .inr (7, [.int zth, .ref Mt, .int (nI tp), .int (nI max_188), .int zwrx_18, .ref Mrr, .ref Mrh, .ref Mrc, .int (nI rh), .int (nI rc), .ref Mn, .ref Mf, .ref Mr, .ref Mh, .int zhp, .int zcc, .ref Ma, .ref Mas, .ref Msn, .ref Mac, .ref Mat])), (Mt, .inl (g 0, 160, .inl fmt)), (Mrr, .inl (g 0, 3, .inl F_24))] H := ⟨hP.sub [1, 2, 0] rfl, hD.sub [1, 2, 0] (by decide) rfl⟩
      have hP9 := hPD9.1; have hD9 := hPD9.2
      subst hQ
      refine W.widen (k := 0) (n := 0) (Nat.le_of_ble_eq_true rfl) (Nat.le_of_ble_eq_true rfl) ?_
      exact W.vret hx hb hr (fun tS htS _ => ⟨⟨_, rfl, ⟨max_188, zwrx_18, F_24, rfl, ⟨(hF_24), (show max_188 ≤ tp by omega), (show ma ≤ max_188 by omega), (((itR_w (f := 3) (m := 0) (q := 0) hf_8 hil_12.1 hil_12.2 (by decide) (by decide) (fun q => cw_25 (hf_20.2.2.2.1.trans q))).trans hf_20.2.2.2.1.symm)).symm, (fun q => absurd q cw_25)⟩⟩, by rw [htS]; exact hP9, hD9⟩, hS.F htS⟩) hS.2.2 dX7_items_98
  · skip
    refine lv_eqi (y := 1) (qi_11) ?_
    have hil_194 := iv_lt (k := 0) (q := 1) hey_9.symm qi_11 (by decide); have hil_194a := hil_194.1
    refine lv_istore (lv' := [(5, .int 1), (4, .int 0), (0, .ref Mm), (1, .int 0), (2, .ref Mrr), (3, .int 0)]) hx hb dX7_items_18 hl (by decide) rfl (fun ls hl => ?_)
    refine lv_aload_n hx hb dX7_items_20 rfl (lv_at hl 2 rfl) ?_
    refine va_get (D := D) (ci := 7) (v := .int (-1)) (C := RX7) (T := TX7) (N := 21) hx hb hts iX7 hown hK hP 1 rfl rfl 4 (by decide) f71 (fun _ h9 => h9) rfl dX7_items_21 ?_
    refine lv_iconst (v := (-1)) hx hb dX7_items_24 (by decide) ?_
    refine lv_icmp_ne (tgt := 98) hx hb dX7_items_25 (by decide) (fun cb => absurd (by decide) cb) (fun _ => ?_)
    refine lv_iload hx hb dX7_items_28 (lv_at hl 0 rfl) ?_
    refine lv_iconst (v := (-1)) hx hb dX7_items_30 (by decide) ?_
    refine lv_icmp_eq (tgt := 98) hx hb dX7_items_31 (by decide) (fun cb => absurd cb (by decide)) (fun _ => ?_)
    refine lv_iload hx hb dX7_items_34 (lv_at hl 1 rfl) ?_
    refine lv_iload hx hb dX7_items_36 (lv_at hl 0 rfl) ?_
    refine ky_Si (As := [.int 0, .int 1]) (rest := []) ⟨hx, hb, hml, hown, hts⟩ ⟨hK, hN⟩ hZ hP hD hS hA [] [0, 1, 2] (wc := []) (wr := [(Mrr, .inl (g 0, 3, .inl frrx_2)), (Mm, .inr (7, [.int zth, .ref Mt, .int (nI tp), .int (nI max_5), .int (-1), .ref Mrr, .ref Mrh, .ref Mrc, .int (nI rh), .int (nI rc), .ref Mn, .ref Mf, .ref Mr, .ref Mh, .int zhp, .int zcc, .ref Ma, .ref Mas, .ref Msn, .ref Mac, .ref Mat])), (Mt, .inl (g 0, 160, .inl fmt))]) rfl rfl rfl rfl (by decide) (r_X7_has_01 l D g H.size) (va_cwS 2 hts gX7_items_X7_has rfl rfl rfl (by decide +kernel) ⟨(Nat.le_of_ble_eq_true rfl), (Nat.le_of_ble_eq_true rfl)⟩) rfl hl.1 rfl (Nat.le_of_ble_eq_true rfl) dX7_items_38 ⟨(Nat.le_of_ble_eq_true rfl), (Nat.le_of_ble_eq_true rfl)⟩ (fun r_195 u H locs hw hP2 hD2 hS2 => ?_)
    clear hP hD hS
    obtain ⟨rfl, rfl⟩ := hw
    have hPD : PD D A [(Mrr, .inl (g 0, 3, .inl frrx_2)), (Mm, .inr (7, [.int zth, .ref Mt, .int (nI tp), .int (nI max_5), .int (-1), .ref Mrr, .ref Mrh, .ref Mrc, .int (nI rh), .int (nI rc), .ref Mn, .ref Mf, .ref Mr, .ref Mh, .int zhp, .int zcc, .ref Ma, .ref Mas, .ref Msn, .ref Mac, .ref Mat])), (Mt, .inl (g 0, 160, .inl fmt))] H := ⟨hP2, hD2⟩
    have hS := hS2; clear hP2 hD2 hS2; have hP := hPD.1; have hD := hPD.2; clear hPD
    refine W.widen (k := 0) (n := 0) (Nat.le_of_ble_eq_true rfl) (Nat.le_of_ble_eq_true rfl) ?_
    refine lv_if_ne (tgt := 98) hx hb dX7_items_41 (by decide) (fun cb => absurd (by decide) cb) (fun _ => ?_)
    refine lv_iload hx hb dX7_items_44 (lv_at hl 1 rfl) ?_
    refine lv_iconst (v := 1) hx hb dX7_items_46 (by decide) ?_
    refine lv_iload hx hb dX7_items_47 (lv_at hl 0 rfl) ?_
    refine lv_ishl hx hb dX7_items_49 ?_
    refine lv_eqi (y := 2) (by decide) ?_
    refine lv_ior hx hb dX7_items_50 ?_
    refine lv_eqi (y := 2) (by decide) ?_
    refine lv_istore (lv' := [(4, .int 2), (5, .int 1), (0, .ref Mm), (1, .int 0), (2, .ref Mrr), (3, .int 0)]) hx hb dX7_items_51 hl (by decide) rfl (fun ls hl => ?_)
    refine lv_aload_n hx hb dX7_items_53 rfl (lv_at hl 2 rfl) ?_
    refine lv_dup hx hb dX7_items_54 rfl ?_
    refine va_get (D := D) (ci := 7) (v := .int (nI max_5)) (C := RX7) (T := TX7) (N := 21) hx hb hts iX7 hown hK hP 1 rfl rfl 3 (by decide) f64 (fun _ h9 => h9) rfl dX7_items_55 ?_
    refine lv_iconst (v := 1) hx hb dX7_items_58 (by decide) ?_
    refine lv_iadd hx hb dX7_items_59 ?_
    refine lv_eqi (y := (nI (max_5 + 1))) (nI_add (max_5) (1)) ?_
    refine va_put (D := D) (ci := 7) (v := .int (nI (max_5 + 1))) (ty := .int) (C := RX7) (T := TX7) (N := 21) hx hb hts iX7 tyX7 tyX7_ok nmX7 hown hK hP hD hS 1 rfl rfl 3 (by decide) f64 (fun _ h9 => h9) rfl (by decide +kernel) (rfl) (rfl) (Nat.le_of_ble_eq_true rfl) dX7_items_60 (fun H locs hP2 hD2 hS2 => ?_)
    clear hP hD hS
    have hPD : PD D A [(Mrr, .inl (g 0, 3, .inl frrx_2)), (Mm, .inr (7, [.int zth, .ref Mt, .int (nI tp), .int (nI (max_5 + 1)), .int (-1), .ref Mrr, .ref Mrh, .ref Mrc, .int (nI rh), .int (nI rc), .ref Mn, .ref Mf, .ref Mr, .ref Mh, .int zhp, .int zcc, .ref Ma, .ref Mas, .ref Msn, .ref Mac, .ref Mat])), (Mt, .inl (g 0, 160, .inl fmt))] H := ⟨hP2, hD2⟩
    have hS := hS2; clear hP2 hD2 hS2; have hP := hPD.1; have hD := hPD.2; clear hPD
    refine lv_aload_n hx hb dX7_items_63 rfl (lv_at hl 4 rfl) ?_
    refine lv_iload_n hx hb dX7_items_64 rfl (lv_at hl 5 rfl) ?_
    refine lv_iload hx hb dX7_items_65 (lv_at hl 1 rfl) ?_
    refine lv_iadd hx hb dX7_items_67 ?_
    refine lv_eqi (y := 1) (by decide) ?_
    refine lv_aload_n hx hb dX7_items_68 rfl (lv_at hl 2 rfl) ?_
    refine lv_iload_n hx hb dX7_items_69 rfl (lv_at hl 3 rfl) ?_
    refine lv_iload hx hb dX7_items_70 (lv_at hl 1 rfl) ?_
    refine ky_Si (As := [.int 0, .int 1]) (rest := [.ref Mm, .int 1, .ref Mrr]) ⟨hx, hb, hml, hown, hts⟩ ⟨hK, hN⟩ hZ hP hD hS hA [] [0, 1, 2] (wc := []) (wr := [(Mrr, .inl (g 0, 3, .inl frrx_2)), (Mm, .inr (7, [.int zth, .ref Mt, .int (nI tp), .int (nI (max_5 + 1)), .int (-1), .ref Mrr, .ref Mrh, .ref Mrc, .int (nI rh), .int (nI rc), .ref Mn, .ref Mf, .ref Mr, .ref Mh, .int zhp, .int zcc, .ref Ma, .ref Mas, .ref Msn, .ref Mac, .ref Mat])), (Mt, .inl (g 0, 160, .inl fmt))]) rfl rfl rfl rfl (by decide) (r_X7_lowest_01 l D g H.size) (va_cwS 2 hts gX7_items_X7_lowest rfl rfl rfl (by decide +kernel) ⟨(Nat.le_of_ble_eq_true rfl), (Nat.le_of_ble_eq_true rfl)⟩) rfl hl.1 rfl (Nat.le_of_ble_eq_true rfl) dX7_items_72 ⟨(Nat.le_of_ble_eq_true rfl), (Nat.le_of_ble_eq_true rfl)⟩ (fun r_196 u H locs hw hP2 hD2 hS2 => ?_)
    clear hP hD hS
    obtain ⟨rfl, rfl⟩ := hw
    have hPD : PD D A [(Mrr, .inl (g 0, 3, .inl frrx_2)), (Mm, .inr (7, [.int zth, .ref Mt, .int (nI tp), .int (nI (max_5 + 1)), .int (-1), .ref Mrr, .ref Mrh, .ref Mrc, .int (nI rh), .int (nI rc), .ref Mn, .ref Mf, .ref Mr, .ref Mh, .int zhp, .int zcc, .ref Ma, .ref Mas, .ref Msn, .ref Mac, .ref Mat])), (Mt, .inl (g 0, 160, .inl fmt))] H := ⟨hP2, hD2⟩
    have hS := hS2; clear hP2 hD2 hS2; have hP := hPD.1; have hD := hPD.2; clear hPD
    refine W.widen (k := 0) (n := 0) (Nat.le_of_ble_eq_true rfl) (Nat.le_of_ble_eq_true rfl) ?_
    refine lv_iload_n hx hb dX7_items_75 rfl (lv_at hl 3 rfl) ?_
    refine lv_iload hx hb dX7_items_76 (lv_at hl 1 rfl) ?_
    refine ky_Si (As := [.int 0, .int 1]) (rest := [.int 0, .ref Mm, .int 1, .ref Mrr]) ⟨hx, hb, hml, hown, hts⟩ ⟨hK, hN⟩ hZ hP hD hS hA [] [0, 1, 2] (wc := []) (wr := [(Mrr, .inl (g 0, 3, .inl frrx_2)), (Mm, .inr (7, [.int zth, .ref Mt, .int (nI tp), .int (nI (max_5 + 1)), .int (-1), .ref Mrr, .ref Mrh, .ref Mrc, .int (nI rh), .int (nI rc), .ref Mn, .ref Mf, .ref Mr, .ref Mh, .int zhp, .int zcc, .ref Ma, .ref Mas, .ref Msn, .ref Mac, .ref Mat])), (Mt, .inl (g 0, 160, .inl fmt))]) rfl rfl rfl rfl (by decide) (r_X7_highest_01 l D g H.size) (va_cwS 2 hts gX7_items_X7_highest rfl rfl rfl (by decide +kernel) ⟨(Nat.le_of_ble_eq_true rfl), (Nat.le_of_ble_eq_true rfl)⟩) rfl hl.1 rfl (Nat.le_of_ble_eq_true rfl) dX7_items_78 ⟨(Nat.le_of_ble_eq_true rfl), (Nat.le_of_ble_eq_true rfl)⟩ (fun r_197 u H locs hw hP2 hD2 hS2 => ?_)
    clear hP hD hS
    obtain ⟨rfl, rfl⟩ := hw
    have hPD : PD D A [(Mrr, .inl (g 0, 3, .inl frrx_2)), (Mm, .inr (7, [.int zth, .ref Mt, .int (nI tp), .int (nI (max_5 + 1)), .int (-1), .ref Mrr, .ref Mrh, .ref Mrc, .int (nI rh), .int (nI rc), .ref Mn, .ref Mf, .ref Mr, .ref Mh, .int zhp, .int zcc, .ref Ma, .ref Mas, .ref Msn, .ref Mac, .ref Mat])), (Mt, .inl (g 0, 160, .inl fmt))] H := ⟨hP2, hD2⟩
    have hS := hS2; clear hP2 hD2 hS2; have hP := hPD.1; have hD := hPD.2; clear hPD
    refine W.widen (k := 0) (n := 0) (Nat.le_of_ble_eq_true rfl) (Nat.le_of_ble_eq_true rfl) ?_
    refine ky_Vi (As := [.int 0, .int 20]) (rest := [.int 1, .ref Mrr]) ⟨hx, hb, hml, hown, hts⟩ ⟨hK, hN⟩ hZ hP hD hS hA [1, 2] [0] (wc := [(Mm, .inr (7, [.int zth, .ref Mt, .int (nI tp), .int (nI (max_5 + 1)), .int (-1), .ref Mrr, .ref Mrh, .ref Mrc, .int (nI rh), .int (nI rc), .ref Mn, .ref Mf, .ref Mr, .ref Mh, .int zhp, .int zcc, .ref Ma, .ref Mas, .ref Msn, .ref Mac, .ref Mat])), (Mt, .inl (g 0, 160, .inl fmt))]) (wr := [(Mrr, .inl (g 0, 3, .inl frrx_2))]) rfl rfl rfl rfl (by decide) (r_X7_number l D g H.size Mm 0 20 zth Mt tp (max_5 + 1) Mrr Mrh Mrc rh rc Mn Mf Mr Mh zhp zcc Ma Mas Msn Mac Mat fmt (show tp ≤ 160 by omega) (show (max_5 + 1) ≤ tp by omega) (show 0 ≤ 1 by omega)) (cwV 2 hts gX7_items_X7_number rfl rfl rfl (by decide +kernel) ⟨(Nat.le_of_ble_eq_true rfl), (Nat.le_of_ble_eq_true rfl)⟩) 1 7 rfl rfl rfl rfl hl.1 rfl (Nat.le_of_ble_eq_true rfl) dX7_items_81 ⟨(Nat.le_of_ble_eq_true rfl), (Nat.le_of_ble_eq_true rfl)⟩ (fun r_198 u H locs hw hP2 hD2 hS2 => ?_)
    clear hP hD hS
    obtain ⟨max_199, zwrx_200, nx_201, rfl, rfl, hf_202⟩ := hw
    have hg_203 := hf_202.1
    have hg_204 := hf_202.2.1
    have hg_205 := hf_202.2.2.1
    have hPD : PD D A [(Mrr, .inl (g 0, 3, .inl frrx_2)), (Mm, .inr (7, [.int zth, .ref Mt, .int (nI tp), .int (nI max_199), .int zwrx_200, .ref Mrr, .ref Mrh, .ref Mrc, .int (nI rh), .int (nI rc), .ref Mn, .ref Mf, .ref Mr, .ref Mh, .int zhp, .int zcc, .ref Ma, .ref Mas, .ref Msn, .ref Mac, .ref Mat])), (Mt, .inl (g 0, 160, .inl fmt))] H := ⟨hP2, hD2⟩
    have hS := hS2; clear hP2 hD2 hS2; have hP := hPD.1; have hD := hPD.2; clear hPD
    refine W.widen (k := 0) (n := 0) (Nat.le_of_ble_eq_true rfl) (Nat.le_of_ble_eq_true rfl) ?_
    refine va_iast hx hb hK hP hD hS 0 0 rfl rfl (by unfold vp_in; decide) dX7_items_84 (fun H locs hP2 hD2 hS2 => ?_)
    clear hP hD hS
    have hPD : PD D A [(Mrr, .inl (g 0, 3, .inl (upd frrx_2 1 (nI nx_201)))), (Mm, .inr (7, [.int zth, .ref Mt, .int (nI tp), .int (nI max_199), .int zwrx_200, .ref Mrr, .ref Mrh, .ref Mrc, .int (nI rh), .int (nI rc), .ref Mn, .ref Mf, .ref Mr, .ref Mh, .int zhp, .int zcc, .ref Ma, .ref Mas, .ref Msn, .ref Mac, .ref Mat])), (Mt, .inl (g 0, 160, .inl fmt))] H := ⟨hP2, hD2⟩
    have hS := hS2; clear hP2 hD2 hS2; have hP := hPD.1; have hD := hPD.2; clear hPD
    have hF_206 : n1 (upd frrx_2 1 (nI nx_201)) := n1_upd (hf_3) (n := nx_201) (show nx_201 ≤ 99 by omega)
    generalize upd frrx_2 1 (nI nx_201) = F_206 at hP hD hF_206
    by_cases cw_207 : zwrx_200 = -1
    · skip
      have hPq_208 := hP; have hDq_208 := hD; have hSq_208 := hS; have hlq_208 := hl; clear hP hD hS hl
      subst cw_207
      have hP := hPq_208; have hD := hDq_208; have hS := hSq_208; have hl := hlq_208; clear hPq_208 hDq_208 hSq_208 hlq_208
      have hne_210 := hf_202.2.2.2.2 rfl
      have hR_209 : itR fmt tp 0 4 0 ma = itR fmt tp 0 3 2 max_199 := (itR_go (f := 3) (m := 0) (q := 1) hf_8 hil_194.1 hil_194.2 (by decide) (by decide) hf_202.2.2.2.1.symm).trans (by rw [hne_210])
      refine lv_iload_n hx hb dX7_items_85 rfl (lv_at hl 3 rfl) ?_
      refine lv_aload_n hx hb dX7_items_86 rfl (lv_at hl 2 rfl) ?_
      refine ky_Vi (As := []) (rest := [.int 0]) ⟨hx, hb, hml, hown, hts⟩ ⟨hK, hN⟩ hZ hP hD hS hA [1, 2] [0] (wc := [(Mm, .inr (7, [.int zth, .ref Mt, .int (nI tp), .int (nI max_199), .int (-1), .ref Mrr, .ref Mrh, .ref Mrc, .int (nI rh), .int (nI rc), .ref Mn, .ref Mf, .ref Mr, .ref Mh, .int zhp, .int zcc, .ref Ma, .ref Mas, .ref Msn, .ref Mac, .ref Mat])), (Mt, .inl (g 0, 160, .inl fmt))]) (wr := [(Mrr, .inl (g 0, 3, .inl F_206))]) rfl rfl rfl rfl (by decide) (r_X7_ahead l D g H.size Mm zth Mt tp max_199 (-1) Mrr Mrh Mrc rh rc Mn Mf Mr Mh zhp zcc Ma Mas Msn Mac Mat fmt (show tp ≤ 160 by omega) (show max_199 ≤ tp by omega)) (cwV 0 hts gX7_items_X7_ahead rfl rfl rfl (by decide +kernel) ⟨(Nat.le_of_ble_eq_true rfl), (Nat.le_of_ble_eq_true rfl)⟩) 1 7 rfl rfl rfl rfl hl.1 rfl (Nat.le_of_ble_eq_true rfl) dX7_items_87 ⟨(Nat.le_of_ble_eq_true rfl), (Nat.le_of_ble_eq_true rfl)⟩ (fun r_211 u H locs hw hP2 hD2 hS2 => ?_)
      clear hP hD hS
      obtain ⟨max_212, rfl, rfl, hf_213, hf_214, hf_215⟩ := hw
      have hPD : PD D A [(Mrr, .inl (g 0, 3, .inl F_206)), (Mm, .inr (7, [.int zth, .ref Mt, .int (nI tp), .int (nI max_212), .int (-1), .ref Mrr, .ref Mrh, .ref Mrc, .int (nI rh), .int (nI rc), .ref Mn, .ref Mf, .ref Mr, .ref Mh, .int zhp, .int zcc, .ref Ma, .ref Mas, .ref Msn, .ref Mac, .ref Mat])), (Mt, .inl (g 0, 160, .inl fmt))] H := ⟨hP2, hD2⟩
      have hS := hS2; clear hP2 hD2 hS2; have hP := hPD.1; have hD := hPD.2; clear hPD
      refine W.widen (k := 0) (n := 0) (Nat.le_of_ble_eq_true rfl) (Nat.le_of_ble_eq_true rfl) ?_
      refine lv_topi (fun y_216 hey_216 => ?_)
      refine ky_Si (As := [.int 0, .int y_216]) (rest := []) ⟨hx, hb, hml, hown, hts⟩ ⟨hK, hN⟩ hZ hP hD hS hA [] [0, 1, 2] (wc := []) (wr := [(Mrr, .inl (g 0, 3, .inl F_206)), (Mm, .inr (7, [.int zth, .ref Mt, .int (nI tp), .int (nI max_212), .int (-1), .ref Mrr, .ref Mrh, .ref Mrc, .int (nI rh), .int (nI rc), .ref Mn, .ref Mf, .ref Mr, .ref Mh, .int zhp, .int zcc, .ref Ma, .ref Mas, .ref Msn, .ref Mac, .ref Mat])), (Mt, .inl (g 0, 160, .inl fmt))]) rfl rfl rfl rfl (by decide) (r_X7_itemBy_0 l D g H.size y_216) (va_cwS 2 hts gX7_items_X7_itemBy rfl rfl rfl (by decide +kernel) ⟨(Nat.le_of_ble_eq_true rfl), (Nat.le_of_ble_eq_true rfl)⟩) rfl hl.1 rfl (Nat.le_of_ble_eq_true rfl) dX7_items_90 ⟨(Nat.le_of_ble_eq_true rfl), (Nat.le_of_ble_eq_true rfl)⟩ (fun r_217 u H locs hw hP2 hD2 hS2 => ?_)
      clear hP hD hS
      obtain ⟨rfl, rfl⟩ := hw
      have hPD : PD D A [(Mrr, .inl (g 0, 3, .inl F_206)), (Mm, .inr (7, [.int zth, .ref Mt, .int (nI tp), .int (nI max_212), .int (-1), .ref Mrr, .ref Mrh, .ref Mrc, .int (nI rh), .int (nI rc), .ref Mn, .ref Mf, .ref Mr, .ref Mh, .int zhp, .int zcc, .ref Ma, .ref Mas, .ref Msn, .ref Mac, .ref Mat])), (Mt, .inl (g 0, 160, .inl fmt))] H := ⟨hP2, hD2⟩
      have hS := hS2; clear hP2 hD2 hS2; have hP := hPD.1; have hD := hPD.2; clear hPD
      refine W.widen (k := 0) (n := 0) (Nat.le_of_ble_eq_true rfl) (Nat.le_of_ble_eq_true rfl) ?_
      rcases itK_c 0 y_216 with qi_218 | qi_218 | qi_218 | qi_218
      · skip
        refine lv_eqi (y := (-1)) (qi_218) ?_
        refine lv_istore (lv' := [(5, .int (-1)), (4, .int 2), (0, .ref Mm), (1, .int 0), (2, .ref Mrr), (3, .int 0)]) hx hb dX7_items_93 hl (by decide) rfl (fun ls hl => ?_)
        refine lv_goto (tgt := 20) hx hb dX7_items_95 (by decide) ?_
        refine lv_aload_n hx hb dX7_items_20 rfl (lv_at hl 2 rfl) ?_
        refine va_get (D := D) (ci := 7) (v := .int (-1)) (C := RX7) (T := TX7) (N := 21) hx hb hts iX7 hown hK hP 1 rfl rfl 4 (by decide) f71 (fun _ h9 => h9) rfl dX7_items_21 ?_
        refine lv_iconst (v := (-1)) hx hb dX7_items_24 (by decide) ?_
        refine lv_icmp_ne (tgt := 98) hx hb dX7_items_25 (by decide) (fun cb => absurd (by decide) cb) (fun _ => ?_)
        refine lv_iload hx hb dX7_items_28 (lv_at hl 0 rfl) ?_
        refine lv_iconst (v := (-1)) hx hb dX7_items_30 (by decide) ?_
        refine lv_icmp_eq (tgt := 98) hx hb dX7_items_31 (by decide) (fun _ => ?_) (fun cb => absurd (by decide) cb)
        have hPD9 : PD D A [(Mm, .inr (7, [.int zth, .ref Mt, .int (nI tp), .int (nI max_212), .int (-1), .ref Mrr, .ref Mrh, .ref Mrc, .int (nI rh), .int (nI rc), .ref Mn, .ref Mf, .ref Mr, .ref Mh, .int zhp, .int zcc, .ref Ma, .ref Mas, .ref Msn, .ref Mac, .ref Mat])), (Mt, .inl (g 0, 160, .inl fmt)), (Mrr, .inl (g 0, 3, .inl F_206))] H := ⟨hP.sub [1, 2, 0] rfl, hD.sub [1, 2, 0] (by decide) rfl⟩
        have hP9 := hPD9.1; have hD9 := hPD9.2
        subst hQ
        refine W.widen (k := 0) (n := 0) (Nat.le_of_ble_eq_true rfl) (Nat.le_of_ble_eq_true rfl) ?_
        exact W.vret hx hb hr (fun tS htS _ => ⟨⟨_, rfl, ⟨max_212, (-1), F_206, rfl, ⟨(hF_206), (show max_212 ≤ tp by omega), (show ma ≤ max_212 by omega), (congrArg Prod.fst (hR_209.trans (iv_m (f := 2) (m := 2) hf_215 hey_216.symm qi_218))).symm, (fun _ => (congrArg Prod.snd (hR_209.trans (iv_m (f := 2) (m := 2) hf_215 hey_216.symm qi_218))).symm)⟩⟩, by rw [htS]; exact hP9, hD9⟩, hS.F htS⟩) hS.2.2 dX7_items_98
      · skip
        refine lv_eqi (y := 0) (qi_218) ?_
        have hil_219 := iv_lt (k := 0) (q := 0) hey_216.symm qi_218 (by decide); have hil_219a := hil_219.1
        refine lv_istore (lv' := [(5, .int 0), (4, .int 2), (0, .ref Mm), (1, .int 0), (2, .ref Mrr), (3, .int 0)]) hx hb dX7_items_93 hl (by decide) rfl (fun ls hl => ?_)
        refine lv_goto (tgt := 20) hx hb dX7_items_95 (by decide) ?_
        refine lv_aload_n hx hb dX7_items_20 rfl (lv_at hl 2 rfl) ?_
        refine va_get (D := D) (ci := 7) (v := .int (-1)) (C := RX7) (T := TX7) (N := 21) hx hb hts iX7 hown hK hP 1 rfl rfl 4 (by decide) f71 (fun _ h9 => h9) rfl dX7_items_21 ?_
        refine lv_iconst (v := (-1)) hx hb dX7_items_24 (by decide) ?_
        refine lv_icmp_ne (tgt := 98) hx hb dX7_items_25 (by decide) (fun cb => absurd (by decide) cb) (fun _ => ?_)
        refine lv_iload hx hb dX7_items_28 (lv_at hl 0 rfl) ?_
        refine lv_iconst (v := (-1)) hx hb dX7_items_30 (by decide) ?_
        refine lv_icmp_eq (tgt := 98) hx hb dX7_items_31 (by decide) (fun cb => absurd cb (by decide)) (fun _ => ?_)
        refine lv_iload hx hb dX7_items_34 (lv_at hl 1 rfl) ?_
        refine lv_iload hx hb dX7_items_36 (lv_at hl 0 rfl) ?_
        refine ky_Si (As := [.int 2, .int 0]) (rest := []) ⟨hx, hb, hml, hown, hts⟩ ⟨hK, hN⟩ hZ hP hD hS hA [] [0, 1, 2] (wc := []) (wr := [(Mrr, .inl (g 0, 3, .inl F_206)), (Mm, .inr (7, [.int zth, .ref Mt, .int (nI tp), .int (nI max_212), .int (-1), .ref Mrr, .ref Mrh, .ref Mrc, .int (nI rh), .int (nI rc), .ref Mn, .ref Mf, .ref Mr, .ref Mh, .int zhp, .int zcc, .ref Ma, .ref Mas, .ref Msn, .ref Mac, .ref Mat])), (Mt, .inl (g 0, 160, .inl fmt))]) rfl rfl rfl rfl (by decide) (r_X7_has_20 l D g H.size) (va_cwS 2 hts gX7_items_X7_has rfl rfl rfl (by decide +kernel) ⟨(Nat.le_of_ble_eq_true rfl), (Nat.le_of_ble_eq_true rfl)⟩) rfl hl.1 rfl (Nat.le_of_ble_eq_true rfl) dX7_items_38 ⟨(Nat.le_of_ble_eq_true rfl), (Nat.le_of_ble_eq_true rfl)⟩ (fun r_220 u H locs hw hP2 hD2 hS2 => ?_)
        clear hP hD hS
        obtain ⟨rfl, rfl⟩ := hw
        have hPD : PD D A [(Mrr, .inl (g 0, 3, .inl F_206)), (Mm, .inr (7, [.int zth, .ref Mt, .int (nI tp), .int (nI max_212), .int (-1), .ref Mrr, .ref Mrh, .ref Mrc, .int (nI rh), .int (nI rc), .ref Mn, .ref Mf, .ref Mr, .ref Mh, .int zhp, .int zcc, .ref Ma, .ref Mas, .ref Msn, .ref Mac, .ref Mat])), (Mt, .inl (g 0, 160, .inl fmt))] H := ⟨hP2, hD2⟩
        have hS := hS2; clear hP2 hD2 hS2; have hP := hPD.1; have hD := hPD.2; clear hPD
        refine W.widen (k := 0) (n := 0) (Nat.le_of_ble_eq_true rfl) (Nat.le_of_ble_eq_true rfl) ?_
        refine lv_if_ne (tgt := 98) hx hb dX7_items_41 (by decide) (fun cb => absurd (by decide) cb) (fun _ => ?_)
        refine lv_iload hx hb dX7_items_44 (lv_at hl 1 rfl) ?_
        refine lv_iconst (v := 1) hx hb dX7_items_46 (by decide) ?_
        refine lv_iload hx hb dX7_items_47 (lv_at hl 0 rfl) ?_
        refine lv_ishl hx hb dX7_items_49 ?_
        refine lv_eqi (y := 1) (by decide) ?_
        refine lv_ior hx hb dX7_items_50 ?_
        refine lv_eqi (y := 3) (by decide) ?_
        refine lv_istore (lv' := [(4, .int 3), (5, .int 0), (0, .ref Mm), (1, .int 0), (2, .ref Mrr), (3, .int 0)]) hx hb dX7_items_51 hl (by decide) rfl (fun ls hl => ?_)
        refine lv_aload_n hx hb dX7_items_53 rfl (lv_at hl 2 rfl) ?_
        refine lv_dup hx hb dX7_items_54 rfl ?_
        refine va_get (D := D) (ci := 7) (v := .int (nI max_212)) (C := RX7) (T := TX7) (N := 21) hx hb hts iX7 hown hK hP 1 rfl rfl 3 (by decide) f64 (fun _ h9 => h9) rfl dX7_items_55 ?_
        refine lv_iconst (v := 1) hx hb dX7_items_58 (by decide) ?_
        refine lv_iadd hx hb dX7_items_59 ?_
        refine lv_eqi (y := (nI (max_212 + 1))) (nI_add (max_212) (1)) ?_
        refine va_put (D := D) (ci := 7) (v := .int (nI (max_212 + 1))) (ty := .int) (C := RX7) (T := TX7) (N := 21) hx hb hts iX7 tyX7 tyX7_ok nmX7 hown hK hP hD hS 1 rfl rfl 3 (by decide) f64 (fun _ h9 => h9) rfl (by decide +kernel) (rfl) (rfl) (Nat.le_of_ble_eq_true rfl) dX7_items_60 (fun H locs hP2 hD2 hS2 => ?_)
        clear hP hD hS
        have hPD : PD D A [(Mrr, .inl (g 0, 3, .inl F_206)), (Mm, .inr (7, [.int zth, .ref Mt, .int (nI tp), .int (nI (max_212 + 1)), .int (-1), .ref Mrr, .ref Mrh, .ref Mrc, .int (nI rh), .int (nI rc), .ref Mn, .ref Mf, .ref Mr, .ref Mh, .int zhp, .int zcc, .ref Ma, .ref Mas, .ref Msn, .ref Mac, .ref Mat])), (Mt, .inl (g 0, 160, .inl fmt))] H := ⟨hP2, hD2⟩
        have hS := hS2; clear hP2 hD2 hS2; have hP := hPD.1; have hD := hPD.2; clear hPD
        refine lv_aload_n hx hb dX7_items_63 rfl (lv_at hl 4 rfl) ?_
        refine lv_iload_n hx hb dX7_items_64 rfl (lv_at hl 5 rfl) ?_
        refine lv_iload hx hb dX7_items_65 (lv_at hl 1 rfl) ?_
        refine lv_iadd hx hb dX7_items_67 ?_
        refine lv_eqi (y := 0) (by decide) ?_
        refine lv_aload_n hx hb dX7_items_68 rfl (lv_at hl 2 rfl) ?_
        refine lv_iload_n hx hb dX7_items_69 rfl (lv_at hl 3 rfl) ?_
        refine lv_iload hx hb dX7_items_70 (lv_at hl 1 rfl) ?_
        refine ky_Si (As := [.int 0, .int 0]) (rest := [.ref Mm, .int 0, .ref Mrr]) ⟨hx, hb, hml, hown, hts⟩ ⟨hK, hN⟩ hZ hP hD hS hA [] [0, 1, 2] (wc := []) (wr := [(Mrr, .inl (g 0, 3, .inl F_206)), (Mm, .inr (7, [.int zth, .ref Mt, .int (nI tp), .int (nI (max_212 + 1)), .int (-1), .ref Mrr, .ref Mrh, .ref Mrc, .int (nI rh), .int (nI rc), .ref Mn, .ref Mf, .ref Mr, .ref Mh, .int zhp, .int zcc, .ref Ma, .ref Mas, .ref Msn, .ref Mac, .ref Mat])), (Mt, .inl (g 0, 160, .inl fmt))]) rfl rfl rfl rfl (by decide) (r_X7_lowest_00 l D g H.size) (va_cwS 2 hts gX7_items_X7_lowest rfl rfl rfl (by decide +kernel) ⟨(Nat.le_of_ble_eq_true rfl), (Nat.le_of_ble_eq_true rfl)⟩) rfl hl.1 rfl (Nat.le_of_ble_eq_true rfl) dX7_items_72 ⟨(Nat.le_of_ble_eq_true rfl), (Nat.le_of_ble_eq_true rfl)⟩ (fun r_221 u H locs hw hP2 hD2 hS2 => ?_)
        clear hP hD hS
        obtain ⟨rfl, rfl⟩ := hw
        have hPD : PD D A [(Mrr, .inl (g 0, 3, .inl F_206)), (Mm, .inr (7, [.int zth, .ref Mt, .int (nI tp), .int (nI (max_212 + 1)), .int (-1), .ref Mrr, .ref Mrh, .ref Mrc, .int (nI rh), .int (nI rc), .ref Mn, .ref Mf, .ref Mr, .ref Mh, .int zhp, .int zcc, .ref Ma, .ref Mas, .ref Msn, .ref Mac, .ref Mat])), (Mt, .inl (g 0, 160, .inl fmt))] H := ⟨hP2, hD2⟩
        have hS := hS2; clear hP2 hD2 hS2; have hP := hPD.1; have hD := hPD.2; clear hPD
        refine W.widen (k := 0) (n := 0) (Nat.le_of_ble_eq_true rfl) (Nat.le_of_ble_eq_true rfl) ?_
        refine lv_iload_n hx hb dX7_items_75 rfl (lv_at hl 3 rfl) ?_
        refine lv_iload hx hb dX7_items_76 (lv_at hl 1 rfl) ?_
        refine ky_Si (As := [.int 0, .int 0]) (rest := [.int 1, .ref Mm, .int 0, .ref Mrr]) ⟨hx, hb, hml, hown, hts⟩ ⟨hK, hN⟩ hZ hP hD hS hA [] [0, 1, 2] (wc := []) (wr := [(Mrr, .inl (g 0, 3, .inl F_206)), (Mm, .inr (7, [.int zth, .ref Mt, .int (nI tp), .int (nI (max_212 + 1)), .int (-1), .ref Mrr, .ref Mrh, .ref Mrc, .int (nI rh), .int (nI rc), .ref Mn, .ref Mf, .ref Mr, .ref Mh, .int zhp, .int zcc, .ref Ma, .ref Mas, .ref Msn, .ref Mac, .ref Mat])), (Mt, .inl (g 0, 160, .inl fmt))]) rfl rfl rfl rfl (by decide) (r_X7_highest_00 l D g H.size) (va_cwS 2 hts gX7_items_X7_highest rfl rfl rfl (by decide +kernel) ⟨(Nat.le_of_ble_eq_true rfl), (Nat.le_of_ble_eq_true rfl)⟩) rfl hl.1 rfl (Nat.le_of_ble_eq_true rfl) dX7_items_78 ⟨(Nat.le_of_ble_eq_true rfl), (Nat.le_of_ble_eq_true rfl)⟩ (fun r_222 u H locs hw hP2 hD2 hS2 => ?_)
        clear hP hD hS
        obtain ⟨rfl, rfl⟩ := hw
        have hPD : PD D A [(Mrr, .inl (g 0, 3, .inl F_206)), (Mm, .inr (7, [.int zth, .ref Mt, .int (nI tp), .int (nI (max_212 + 1)), .int (-1), .ref Mrr, .ref Mrh, .ref Mrc, .int (nI rh), .int (nI rc), .ref Mn, .ref Mf, .ref Mr, .ref Mh, .int zhp, .int zcc, .ref Ma, .ref Mas, .ref Msn, .ref Mac, .ref Mat])), (Mt, .inl (g 0, 160, .inl fmt))] H := ⟨hP2, hD2⟩
        have hS := hS2; clear hP2 hD2 hS2; have hP := hPD.1; have hD := hPD.2; clear hPD
        refine W.widen (k := 0) (n := 0) (Nat.le_of_ble_eq_true rfl) (Nat.le_of_ble_eq_true rfl) ?_
        refine ky_Vi (As := [.int 1, .int 4]) (rest := [.int 0, .ref Mrr]) ⟨hx, hb, hml, hown, hts⟩ ⟨hK, hN⟩ hZ hP hD hS hA [1, 2] [0] (wc := [(Mm, .inr (7, [.int zth, .ref Mt, .int (nI tp), .int (nI (max_212 + 1)), .int (-1), .ref Mrr, .ref Mrh, .ref Mrc, .int (nI rh), .int (nI rc), .ref Mn, .ref Mf, .ref Mr, .ref Mh, .int zhp, .int zcc, .ref Ma, .ref Mas, .ref Msn, .ref Mac, .ref Mat])), (Mt, .inl (g 0, 160, .inl fmt))]) (wr := [(Mrr, .inl (g 0, 3, .inl F_206))]) rfl rfl rfl rfl (by decide) (r_X7_number l D g H.size Mm 1 4 zth Mt tp (max_212 + 1) Mrr Mrh Mrc rh rc Mn Mf Mr Mh zhp zcc Ma Mas Msn Mac Mat fmt (show tp ≤ 160 by omega) (show (max_212 + 1) ≤ tp by omega) (show 1 ≤ 1 by omega)) (cwV 2 hts gX7_items_X7_number rfl rfl rfl (by decide +kernel) ⟨(Nat.le_of_ble_eq_true rfl), (Nat.le_of_ble_eq_true rfl)⟩) 1 7 rfl rfl rfl rfl hl.1 rfl (Nat.le_of_ble_eq_true rfl) dX7_items_81 ⟨(Nat.le_of_ble_eq_true rfl), (Nat.le_of_ble_eq_true rfl)⟩ (fun r_223 u H locs hw hP2 hD2 hS2 => ?_)
        clear hP hD hS
        obtain ⟨max_224, zwrx_225, nx_226, rfl, rfl, hf_227⟩ := hw
        have hg_228 := hf_227.1
        have hg_229 := hf_227.2.1
        have hg_230 := hf_227.2.2.1
        have hPD : PD D A [(Mrr, .inl (g 0, 3, .inl F_206)), (Mm, .inr (7, [.int zth, .ref Mt, .int (nI tp), .int (nI max_224), .int zwrx_225, .ref Mrr, .ref Mrh, .ref Mrc, .int (nI rh), .int (nI rc), .ref Mn, .ref Mf, .ref Mr, .ref Mh, .int zhp, .int zcc, .ref Ma, .ref Mas, .ref Msn, .ref Mac, .ref Mat])), (Mt, .inl (g 0, 160, .inl fmt))] H := ⟨hP2, hD2⟩
        have hS := hS2; clear hP2 hD2 hS2; have hP := hPD.1; have hD := hPD.2; clear hPD
        refine W.widen (k := 0) (n := 0) (Nat.le_of_ble_eq_true rfl) (Nat.le_of_ble_eq_true rfl) ?_
        refine va_iast hx hb hK hP hD hS 0 0 rfl rfl (by unfold vp_in; decide) dX7_items_84 (fun H locs hP2 hD2 hS2 => ?_)
        clear hP hD hS
        have hPD : PD D A [(Mrr, .inl (g 0, 3, .inl (upd F_206 0 (nI nx_226)))), (Mm, .inr (7, [.int zth, .ref Mt, .int (nI tp), .int (nI max_224), .int zwrx_225, .ref Mrr, .ref Mrh, .ref Mrc, .int (nI rh), .int (nI rc), .ref Mn, .ref Mf, .ref Mr, .ref Mh, .int zhp, .int zcc, .ref Ma, .ref Mas, .ref Msn, .ref Mac, .ref Mat])), (Mt, .inl (g 0, 160, .inl fmt))] H := ⟨hP2, hD2⟩
        have hS := hS2; clear hP2 hD2 hS2; have hP := hPD.1; have hD := hPD.2; clear hPD
        have hF_231 : n1 (upd F_206 0 (nI nx_226)) := n1_upd (hF_206) (n := nx_226) (show nx_226 ≤ 99 by omega)
        generalize upd F_206 0 (nI nx_226) = F_231 at hP hD hF_231
        by_cases cw_232 : zwrx_225 = -1
        · skip
          have hPq_233 := hP; have hDq_233 := hD; have hSq_233 := hS; have hlq_233 := hl; clear hP hD hS hl
          subst cw_232
          have hP := hPq_233; have hD := hDq_233; have hS := hSq_233; have hl := hlq_233; clear hPq_233 hDq_233 hSq_233 hlq_233
          have hne_235 := hf_227.2.2.2.2 rfl
          have hR_234 : itR fmt tp 0 4 0 ma = itR fmt tp 0 2 3 max_224 := hR_209.trans ((itR_go (f := 2) (m := 2) (q := 0) hf_215 hil_219.1 hil_219.2 (by decide) (by decide) hf_227.2.2.2.1.symm).trans (by rw [hne_235]))
          refine lv_iload_n hx hb dX7_items_85 rfl (lv_at hl 3 rfl) ?_
          refine lv_aload_n hx hb dX7_items_86 rfl (lv_at hl 2 rfl) ?_
          refine ky_Vi (As := []) (rest := [.int 0]) ⟨hx, hb, hml, hown, hts⟩ ⟨hK, hN⟩ hZ hP hD hS hA [1, 2] [0] (wc := [(Mm, .inr (7, [.int zth, .ref Mt, .int (nI tp), .int (nI max_224), .int (-1), .ref Mrr, .ref Mrh, .ref Mrc, .int (nI rh), .int (nI rc), .ref Mn, .ref Mf, .ref Mr, .ref Mh, .int zhp, .int zcc, .ref Ma, .ref Mas, .ref Msn, .ref Mac, .ref Mat])), (Mt, .inl (g 0, 160, .inl fmt))]) (wr := [(Mrr, .inl (g 0, 3, .inl F_231))]) rfl rfl rfl rfl (by decide) (r_X7_ahead l D g H.size Mm zth Mt tp max_224 (-1) Mrr Mrh Mrc rh rc Mn Mf Mr Mh zhp zcc Ma Mas Msn Mac Mat fmt (show tp ≤ 160 by omega) (show max_224 ≤ tp by omega)) (cwV 0 hts gX7_items_X7_ahead rfl rfl rfl (by decide +kernel) ⟨(Nat.le_of_ble_eq_true rfl), (Nat.le_of_ble_eq_true rfl)⟩) 1 7 rfl rfl rfl rfl hl.1 rfl (Nat.le_of_ble_eq_true rfl) dX7_items_87 ⟨(Nat.le_of_ble_eq_true rfl), (Nat.le_of_ble_eq_true rfl)⟩ (fun r_236 u H locs hw hP2 hD2 hS2 => ?_)
          clear hP hD hS
          obtain ⟨max_237, rfl, rfl, hf_238, hf_239, hf_240⟩ := hw
          have hPD : PD D A [(Mrr, .inl (g 0, 3, .inl F_231)), (Mm, .inr (7, [.int zth, .ref Mt, .int (nI tp), .int (nI max_237), .int (-1), .ref Mrr, .ref Mrh, .ref Mrc, .int (nI rh), .int (nI rc), .ref Mn, .ref Mf, .ref Mr, .ref Mh, .int zhp, .int zcc, .ref Ma, .ref Mas, .ref Msn, .ref Mac, .ref Mat])), (Mt, .inl (g 0, 160, .inl fmt))] H := ⟨hP2, hD2⟩
          have hS := hS2; clear hP2 hD2 hS2; have hP := hPD.1; have hD := hPD.2; clear hPD
          refine W.widen (k := 0) (n := 0) (Nat.le_of_ble_eq_true rfl) (Nat.le_of_ble_eq_true rfl) ?_
          refine lv_topi (fun y_241 hey_241 => ?_)
          refine ky_Si (As := [.int 0, .int y_241]) (rest := []) ⟨hx, hb, hml, hown, hts⟩ ⟨hK, hN⟩ hZ hP hD hS hA [] [0, 1, 2] (wc := []) (wr := [(Mrr, .inl (g 0, 3, .inl F_231)), (Mm, .inr (7, [.int zth, .ref Mt, .int (nI tp), .int (nI max_237), .int (-1), .ref Mrr, .ref Mrh, .ref Mrc, .int (nI rh), .int (nI rc), .ref Mn, .ref Mf, .ref Mr, .ref Mh, .int zhp, .int zcc, .ref Ma, .ref Mas, .ref Msn, .ref Mac, .ref Mat])), (Mt, .inl (g 0, 160, .inl fmt))]) rfl rfl rfl rfl (by decide) (r_X7_itemBy_0 l D g H.size y_241) (va_cwS 2 hts gX7_items_X7_itemBy rfl rfl rfl (by decide +kernel) ⟨(Nat.le_of_ble_eq_true rfl), (Nat.le_of_ble_eq_true rfl)⟩) rfl hl.1 rfl (Nat.le_of_ble_eq_true rfl) dX7_items_90 ⟨(Nat.le_of_ble_eq_true rfl), (Nat.le_of_ble_eq_true rfl)⟩ (fun r_242 u H locs hw hP2 hD2 hS2 => ?_)
          clear hP hD hS
          obtain ⟨rfl, rfl⟩ := hw
          have hPD : PD D A [(Mrr, .inl (g 0, 3, .inl F_231)), (Mm, .inr (7, [.int zth, .ref Mt, .int (nI tp), .int (nI max_237), .int (-1), .ref Mrr, .ref Mrh, .ref Mrc, .int (nI rh), .int (nI rc), .ref Mn, .ref Mf, .ref Mr, .ref Mh, .int zhp, .int zcc, .ref Ma, .ref Mas, .ref Msn, .ref Mac, .ref Mat])), (Mt, .inl (g 0, 160, .inl fmt))] H := ⟨hP2, hD2⟩
          have hS := hS2; clear hP2 hD2 hS2; have hP := hPD.1; have hD := hPD.2; clear hPD
          refine W.widen (k := 0) (n := 0) (Nat.le_of_ble_eq_true rfl) (Nat.le_of_ble_eq_true rfl) ?_
          rcases itK_c 0 y_241 with qi_243 | qi_243 | qi_243 | qi_243
          · skip
            refine lv_eqi (y := (-1)) (qi_243) ?_
            refine lv_istore (lv' := [(5, .int (-1)), (4, .int 3), (0, .ref Mm), (1, .int 0), (2, .ref Mrr), (3, .int 0)]) hx hb dX7_items_93 hl (by decide) rfl (fun ls hl => ?_)
            refine lv_goto (tgt := 20) hx hb dX7_items_95 (by decide) ?_
            refine lv_aload_n hx hb dX7_items_20 rfl (lv_at hl 2 rfl) ?_
            refine va_get (D := D) (ci := 7) (v := .int (-1)) (C := RX7) (T := TX7) (N := 21) hx hb hts iX7 hown hK hP 1 rfl rfl 4 (by decide) f71 (fun _ h9 => h9) rfl dX7_items_21 ?_
            refine lv_iconst (v := (-1)) hx hb dX7_items_24 (by decide) ?_
            refine lv_icmp_ne (tgt := 98) hx hb dX7_items_25 (by decide) (fun cb => absurd (by decide) cb) (fun _ => ?_)
            refine lv_iload hx hb dX7_items_28 (lv_at hl 0 rfl) ?_
            refine lv_iconst (v := (-1)) hx hb dX7_items_30 (by decide) ?_
            refine lv_icmp_eq (tgt := 98) hx hb dX7_items_31 (by decide) (fun _ => ?_) (fun cb => absurd (by decide) cb)
            have hPD9 : PD D A [(Mm, .inr (7, [.int zth, .ref Mt, .int (nI tp), .int (nI max_237), .int (-1), .ref Mrr, .ref Mrh, .ref Mrc, .int (nI rh), .int (nI rc), .ref Mn, .ref Mf, .ref Mr, .ref Mh, .int zhp, .int zcc, .ref Ma, .ref Mas, .ref Msn, .ref Mac, .ref Mat])), (Mt, .inl (g 0, 160, .inl fmt)), (Mrr, .inl (g 0, 3, .inl F_231))] H := ⟨hP.sub [1, 2, 0] rfl, hD.sub [1, 2, 0] (by decide) rfl⟩
            have hP9 := hPD9.1; have hD9 := hPD9.2
            subst hQ
            refine W.widen (k := 0) (n := 0) (Nat.le_of_ble_eq_true rfl) (Nat.le_of_ble_eq_true rfl) ?_
            exact W.vret hx hb hr (fun tS htS _ => ⟨⟨_, rfl, ⟨max_237, (-1), F_231, rfl, ⟨(hF_231), (show max_237 ≤ tp by omega), (show ma ≤ max_237 by omega), (congrArg Prod.fst (hR_234.trans (iv_m (f := 1) (m := 3) hf_240 hey_241.symm qi_243))).symm, (fun _ => (congrArg Prod.snd (hR_234.trans (iv_m (f := 1) (m := 3) hf_240 hey_241.symm qi_243))).symm)⟩⟩, by rw [htS]; exact hP9, hD9⟩, hS.F htS⟩) hS.2.2 dX7_items_98
          · skip
            refine lv_eqi (y := 0) (qi_243) ?_
            have hil_244 := iv_lt (k := 0) (q := 0) hey_241.symm qi_243 (by decide); have hil_244a := hil_244.1
            refine lv_istore (lv' := [(5, .int 0), (4, .int 3), (0, .ref Mm), (1, .int 0), (2, .ref Mrr), (3, .int 0)]) hx hb dX7_items_93 hl (by decide) rfl (fun ls hl => ?_)
            refine lv_goto (tgt := 20) hx hb dX7_items_95 (by decide) ?_
            refine lv_aload_n hx hb dX7_items_20 rfl (lv_at hl 2 rfl) ?_
            refine va_get (D := D) (ci := 7) (v := .int (-1)) (C := RX7) (T := TX7) (N := 21) hx hb hts iX7 hown hK hP 1 rfl rfl 4 (by decide) f71 (fun _ h9 => h9) rfl dX7_items_21 ?_
            refine lv_iconst (v := (-1)) hx hb dX7_items_24 (by decide) ?_
            refine lv_icmp_ne (tgt := 98) hx hb dX7_items_25 (by decide) (fun cb => absurd (by decide) cb) (fun _ => ?_)
            refine lv_iload hx hb dX7_items_28 (lv_at hl 0 rfl) ?_
            refine lv_iconst (v := (-1)) hx hb dX7_items_30 (by decide) ?_
            refine lv_icmp_eq (tgt := 98) hx hb dX7_items_31 (by decide) (fun cb => absurd cb (by decide)) (fun _ => ?_)
            refine lv_iload hx hb dX7_items_34 (lv_at hl 1 rfl) ?_
            refine lv_iload hx hb dX7_items_36 (lv_at hl 0 rfl) ?_
            refine ky_Si (As := [.int 3, .int 0]) (rest := []) ⟨hx, hb, hml, hown, hts⟩ ⟨hK, hN⟩ hZ hP hD hS hA [] [0, 1, 2] (wc := []) (wr := [(Mrr, .inl (g 0, 3, .inl F_231)), (Mm, .inr (7, [.int zth, .ref Mt, .int (nI tp), .int (nI max_237), .int (-1), .ref Mrr, .ref Mrh, .ref Mrc, .int (nI rh), .int (nI rc), .ref Mn, .ref Mf, .ref Mr, .ref Mh, .int zhp, .int zcc, .ref Ma, .ref Mas, .ref Msn, .ref Mac, .ref Mat])), (Mt, .inl (g 0, 160, .inl fmt))]) rfl rfl rfl rfl (by decide) (r_X7_has_30 l D g H.size) (va_cwS 2 hts gX7_items_X7_has rfl rfl rfl (by decide +kernel) ⟨(Nat.le_of_ble_eq_true rfl), (Nat.le_of_ble_eq_true rfl)⟩) rfl hl.1 rfl (Nat.le_of_ble_eq_true rfl) dX7_items_38 ⟨(Nat.le_of_ble_eq_true rfl), (Nat.le_of_ble_eq_true rfl)⟩ (fun r_245 u H locs hw hP2 hD2 hS2 => ?_)
            clear hP hD hS
            obtain ⟨rfl, rfl⟩ := hw
            have hPD : PD D A [(Mrr, .inl (g 0, 3, .inl F_231)), (Mm, .inr (7, [.int zth, .ref Mt, .int (nI tp), .int (nI max_237), .int (-1), .ref Mrr, .ref Mrh, .ref Mrc, .int (nI rh), .int (nI rc), .ref Mn, .ref Mf, .ref Mr, .ref Mh, .int zhp, .int zcc, .ref Ma, .ref Mas, .ref Msn, .ref Mac, .ref Mat])), (Mt, .inl (g 0, 160, .inl fmt))] H := ⟨hP2, hD2⟩
            have hS := hS2; clear hP2 hD2 hS2; have hP := hPD.1; have hD := hPD.2; clear hPD
            refine W.widen (k := 0) (n := 0) (Nat.le_of_ble_eq_true rfl) (Nat.le_of_ble_eq_true rfl) ?_
            refine lv_if_ne (tgt := 98) hx hb dX7_items_41 (by decide) (fun _ => ?_) (fun cb => absurd cb (by decide))
            have hPD9 : PD D A [(Mm, .inr (7, [.int zth, .ref Mt, .int (nI tp), .int (nI max_237), .int (-1), .ref Mrr, .ref Mrh, .ref Mrc, .int (nI rh), .int (nI rc), .ref Mn, .ref Mf, .ref Mr, .ref Mh, .int zhp, .int zcc, .ref Ma, .ref Mas, .ref Msn, .ref Mac, .ref Mat])), (Mt, .inl (g 0, 160, .inl fmt)), (Mrr, .inl (g 0, 3, .inl F_231))] H := ⟨hP.sub [1, 2, 0] rfl, hD.sub [1, 2, 0] (by decide) rfl⟩
            have hP9 := hPD9.1; have hD9 := hPD9.2
            subst hQ
            refine W.widen (k := 0) (n := 0) (Nat.le_of_ble_eq_true rfl) (Nat.le_of_ble_eq_true rfl) ?_
            exact W.vret hx hb hr (fun tS htS _ => ⟨⟨_, rfl, ⟨max_237, (-1), F_231, rfl, ⟨(hF_231), (show max_237 ≤ tp by omega), (show ma ≤ max_237 by omega), (congrArg Prod.fst (hR_234.trans (itR_again (f := 1) (m := 3) (q := 0) hf_240 hil_244.2 (by decide) (by decide)))).symm, (fun _ => (congrArg Prod.snd (hR_234.trans (itR_again (f := 1) (m := 3) (q := 0) hf_240 hil_244.2 (by decide) (by decide)))).symm)⟩⟩, by rw [htS]; exact hP9, hD9⟩, hS.F htS⟩) hS.2.2 dX7_items_98
          · skip
            refine lv_eqi (y := 1) (qi_243) ?_
            have hil_246 := iv_lt (k := 0) (q := 1) hey_241.symm qi_243 (by decide); have hil_246a := hil_246.1
            refine lv_istore (lv' := [(5, .int 1), (4, .int 3), (0, .ref Mm), (1, .int 0), (2, .ref Mrr), (3, .int 0)]) hx hb dX7_items_93 hl (by decide) rfl (fun ls hl => ?_)
            refine lv_goto (tgt := 20) hx hb dX7_items_95 (by decide) ?_
            refine lv_aload_n hx hb dX7_items_20 rfl (lv_at hl 2 rfl) ?_
            refine va_get (D := D) (ci := 7) (v := .int (-1)) (C := RX7) (T := TX7) (N := 21) hx hb hts iX7 hown hK hP 1 rfl rfl 4 (by decide) f71 (fun _ h9 => h9) rfl dX7_items_21 ?_
            refine lv_iconst (v := (-1)) hx hb dX7_items_24 (by decide) ?_
            refine lv_icmp_ne (tgt := 98) hx hb dX7_items_25 (by decide) (fun cb => absurd (by decide) cb) (fun _ => ?_)
            refine lv_iload hx hb dX7_items_28 (lv_at hl 0 rfl) ?_
            refine lv_iconst (v := (-1)) hx hb dX7_items_30 (by decide) ?_
            refine lv_icmp_eq (tgt := 98) hx hb dX7_items_31 (by decide) (fun cb => absurd cb (by decide)) (fun _ => ?_)
            refine lv_iload hx hb dX7_items_34 (lv_at hl 1 rfl) ?_
            refine lv_iload hx hb dX7_items_36 (lv_at hl 0 rfl) ?_
            refine ky_Si (As := [.int 3, .int 1]) (rest := []) ⟨hx, hb, hml, hown, hts⟩ ⟨hK, hN⟩ hZ hP hD hS hA [] [0, 1, 2] (wc := []) (wr := [(Mrr, .inl (g 0, 3, .inl F_231)), (Mm, .inr (7, [.int zth, .ref Mt, .int (nI tp), .int (nI max_237), .int (-1), .ref Mrr, .ref Mrh, .ref Mrc, .int (nI rh), .int (nI rc), .ref Mn, .ref Mf, .ref Mr, .ref Mh, .int zhp, .int zcc, .ref Ma, .ref Mas, .ref Msn, .ref Mac, .ref Mat])), (Mt, .inl (g 0, 160, .inl fmt))]) rfl rfl rfl rfl (by decide) (r_X7_has_31 l D g H.size) (va_cwS 2 hts gX7_items_X7_has rfl rfl rfl (by decide +kernel) ⟨(Nat.le_of_ble_eq_true rfl), (Nat.le_of_ble_eq_true rfl)⟩) rfl hl.1 rfl (Nat.le_of_ble_eq_true rfl) dX7_items_38 ⟨(Nat.le_of_ble_eq_true rfl), (Nat.le_of_ble_eq_true rfl)⟩ (fun r_247 u H locs hw hP2 hD2 hS2 => ?_)
            clear hP hD hS
            obtain ⟨rfl, rfl⟩ := hw
            have hPD : PD D A [(Mrr, .inl (g 0, 3, .inl F_231)), (Mm, .inr (7, [.int zth, .ref Mt, .int (nI tp), .int (nI max_237), .int (-1), .ref Mrr, .ref Mrh, .ref Mrc, .int (nI rh), .int (nI rc), .ref Mn, .ref Mf, .ref Mr, .ref Mh, .int zhp, .int zcc, .ref Ma, .ref Mas, .ref Msn, .ref Mac, .ref Mat])), (Mt, .inl (g 0, 160, .inl fmt))] H := ⟨hP2, hD2⟩
            have hS := hS2; clear hP2 hD2 hS2; have hP := hPD.1; have hD := hPD.2; clear hPD
            refine W.widen (k := 0) (n := 0) (Nat.le_of_ble_eq_true rfl) (Nat.le_of_ble_eq_true rfl) ?_
            refine lv_if_ne (tgt := 98) hx hb dX7_items_41 (by decide) (fun _ => ?_) (fun cb => absurd cb (by decide))
            have hPD9 : PD D A [(Mm, .inr (7, [.int zth, .ref Mt, .int (nI tp), .int (nI max_237), .int (-1), .ref Mrr, .ref Mrh, .ref Mrc, .int (nI rh), .int (nI rc), .ref Mn, .ref Mf, .ref Mr, .ref Mh, .int zhp, .int zcc, .ref Ma, .ref Mas, .ref Msn, .ref Mac, .ref Mat])), (Mt, .inl (g 0, 160, .inl fmt)), (Mrr, .inl (g 0, 3, .inl F_231))] H := ⟨hP.sub [1, 2, 0] rfl, hD.sub [1, 2, 0] (by decide) rfl⟩
            have hP9 := hPD9.1; have hD9 := hPD9.2
            subst hQ
            refine W.widen (k := 0) (n := 0) (Nat.le_of_ble_eq_true rfl) (Nat.le_of_ble_eq_true rfl) ?_
            exact W.vret hx hb hr (fun tS htS _ => ⟨⟨_, rfl, ⟨max_237, (-1), F_231, rfl, ⟨(hF_231), (show max_237 ≤ tp by omega), (show ma ≤ max_237 by omega), (congrArg Prod.fst (hR_234.trans (itR_again (f := 1) (m := 3) (q := 1) hf_240 hil_246.2 (by decide) (by decide)))).symm, (fun _ => (congrArg Prod.snd (hR_234.trans (itR_again (f := 1) (m := 3) (q := 1) hf_240 hil_246.2 (by decide) (by decide)))).symm)⟩⟩, by rw [htS]; exact hP9, hD9⟩, hS.F htS⟩) hS.2.2 dX7_items_98
          · skip
            refine lv_eqi (y := 2) (qi_243) ?_
            have hil_248 := iv_lt (k := 0) (q := 2) hey_241.symm qi_243 (by decide); have hil_248a := hil_248.1
            refine lv_istore (lv' := [(5, .int 2), (4, .int 3), (0, .ref Mm), (1, .int 0), (2, .ref Mrr), (3, .int 0)]) hx hb dX7_items_93 hl (by decide) rfl (fun ls hl => ?_)
            refine lv_goto (tgt := 20) hx hb dX7_items_95 (by decide) ?_
            refine lv_aload_n hx hb dX7_items_20 rfl (lv_at hl 2 rfl) ?_
            refine va_get (D := D) (ci := 7) (v := .int (-1)) (C := RX7) (T := TX7) (N := 21) hx hb hts iX7 hown hK hP 1 rfl rfl 4 (by decide) f71 (fun _ h9 => h9) rfl dX7_items_21 ?_
            refine lv_iconst (v := (-1)) hx hb dX7_items_24 (by decide) ?_
            refine lv_icmp_ne (tgt := 98) hx hb dX7_items_25 (by decide) (fun cb => absurd (by decide) cb) (fun _ => ?_)
            refine lv_iload hx hb dX7_items_28 (lv_at hl 0 rfl) ?_
            refine lv_iconst (v := (-1)) hx hb dX7_items_30 (by decide) ?_
            refine lv_icmp_eq (tgt := 98) hx hb dX7_items_31 (by decide) (fun cb => absurd cb (by decide)) (fun _ => ?_)
            refine lv_iload hx hb dX7_items_34 (lv_at hl 1 rfl) ?_
            refine lv_iload hx hb dX7_items_36 (lv_at hl 0 rfl) ?_
            refine ky_Si (As := [.int 3, .int 2]) (rest := []) ⟨hx, hb, hml, hown, hts⟩ ⟨hK, hN⟩ hZ hP hD hS hA [] [0, 1, 2] (wc := []) (wr := [(Mrr, .inl (g 0, 3, .inl F_231)), (Mm, .inr (7, [.int zth, .ref Mt, .int (nI tp), .int (nI max_237), .int (-1), .ref Mrr, .ref Mrh, .ref Mrc, .int (nI rh), .int (nI rc), .ref Mn, .ref Mf, .ref Mr, .ref Mh, .int zhp, .int zcc, .ref Ma, .ref Mas, .ref Msn, .ref Mac, .ref Mat])), (Mt, .inl (g 0, 160, .inl fmt))]) rfl rfl rfl rfl (by decide) (r_X7_has_32 l D g H.size) (va_cwS 2 hts gX7_items_X7_has rfl rfl rfl (by decide +kernel) ⟨(Nat.le_of_ble_eq_true rfl), (Nat.le_of_ble_eq_true rfl)⟩) rfl hl.1 rfl (Nat.le_of_ble_eq_true rfl) dX7_items_38 ⟨(Nat.le_of_ble_eq_true rfl), (Nat.le_of_ble_eq_true rfl)⟩ (fun r_249 u H locs hw hP2 hD2 hS2 => ?_)
            clear hP hD hS
            obtain ⟨rfl, rfl⟩ := hw
            have hPD : PD D A [(Mrr, .inl (g 0, 3, .inl F_231)), (Mm, .inr (7, [.int zth, .ref Mt, .int (nI tp), .int (nI max_237), .int (-1), .ref Mrr, .ref Mrh, .ref Mrc, .int (nI rh), .int (nI rc), .ref Mn, .ref Mf, .ref Mr, .ref Mh, .int zhp, .int zcc, .ref Ma, .ref Mas, .ref Msn, .ref Mac, .ref Mat])), (Mt, .inl (g 0, 160, .inl fmt))] H := ⟨hP2, hD2⟩
            have hS := hS2; clear hP2 hD2 hS2; have hP := hPD.1; have hD := hPD.2; clear hPD
            refine W.widen (k := 0) (n := 0) (Nat.le_of_ble_eq_true rfl) (Nat.le_of_ble_eq_true rfl) ?_
            refine lv_if_ne (tgt := 98) hx hb dX7_items_41 (by decide) (fun cb => absurd (by decide) cb) (fun _ => ?_)
            refine lv_iload hx hb dX7_items_44 (lv_at hl 1 rfl) ?_
            refine lv_iconst (v := 1) hx hb dX7_items_46 (by decide) ?_
            refine lv_iload hx hb dX7_items_47 (lv_at hl 0 rfl) ?_
            refine lv_ishl hx hb dX7_items_49 ?_
            refine lv_eqi (y := 4) (by decide) ?_
            refine lv_ior hx hb dX7_items_50 ?_
            refine lv_eqi (y := 7) (by decide) ?_
            refine lv_istore (lv' := [(4, .int 7), (5, .int 2), (0, .ref Mm), (1, .int 0), (2, .ref Mrr), (3, .int 0)]) hx hb dX7_items_51 hl (by decide) rfl (fun ls hl => ?_)
            refine lv_aload_n hx hb dX7_items_53 rfl (lv_at hl 2 rfl) ?_
            refine lv_dup hx hb dX7_items_54 rfl ?_
            refine va_get (D := D) (ci := 7) (v := .int (nI max_237)) (C := RX7) (T := TX7) (N := 21) hx hb hts iX7 hown hK hP 1 rfl rfl 3 (by decide) f64 (fun _ h9 => h9) rfl dX7_items_55 ?_
            refine lv_iconst (v := 1) hx hb dX7_items_58 (by decide) ?_
            refine lv_iadd hx hb dX7_items_59 ?_
            refine lv_eqi (y := (nI (max_237 + 1))) (nI_add (max_237) (1)) ?_
            refine va_put (D := D) (ci := 7) (v := .int (nI (max_237 + 1))) (ty := .int) (C := RX7) (T := TX7) (N := 21) hx hb hts iX7 tyX7 tyX7_ok nmX7 hown hK hP hD hS 1 rfl rfl 3 (by decide) f64 (fun _ h9 => h9) rfl (by decide +kernel) (rfl) (rfl) (Nat.le_of_ble_eq_true rfl) dX7_items_60 (fun H locs hP2 hD2 hS2 => ?_)
            clear hP hD hS
            have hPD : PD D A [(Mrr, .inl (g 0, 3, .inl F_231)), (Mm, .inr (7, [.int zth, .ref Mt, .int (nI tp), .int (nI (max_237 + 1)), .int (-1), .ref Mrr, .ref Mrh, .ref Mrc, .int (nI rh), .int (nI rc), .ref Mn, .ref Mf, .ref Mr, .ref Mh, .int zhp, .int zcc, .ref Ma, .ref Mas, .ref Msn, .ref Mac, .ref Mat])), (Mt, .inl (g 0, 160, .inl fmt))] H := ⟨hP2, hD2⟩
            have hS := hS2; clear hP2 hD2 hS2; have hP := hPD.1; have hD := hPD.2; clear hPD
            refine lv_aload_n hx hb dX7_items_63 rfl (lv_at hl 4 rfl) ?_
            refine lv_iload_n hx hb dX7_items_64 rfl (lv_at hl 5 rfl) ?_
            refine lv_iload hx hb dX7_items_65 (lv_at hl 1 rfl) ?_
            refine lv_iadd hx hb dX7_items_67 ?_
            refine lv_eqi (y := 2) (by decide) ?_
            refine lv_aload_n hx hb dX7_items_68 rfl (lv_at hl 2 rfl) ?_
            refine lv_iload_n hx hb dX7_items_69 rfl (lv_at hl 3 rfl) ?_
            refine lv_iload hx hb dX7_items_70 (lv_at hl 1 rfl) ?_
            refine ky_Si (As := [.int 0, .int 2]) (rest := [.ref Mm, .int 2, .ref Mrr]) ⟨hx, hb, hml, hown, hts⟩ ⟨hK, hN⟩ hZ hP hD hS hA [] [0, 1, 2] (wc := []) (wr := [(Mrr, .inl (g 0, 3, .inl F_231)), (Mm, .inr (7, [.int zth, .ref Mt, .int (nI tp), .int (nI (max_237 + 1)), .int (-1), .ref Mrr, .ref Mrh, .ref Mrc, .int (nI rh), .int (nI rc), .ref Mn, .ref Mf, .ref Mr, .ref Mh, .int zhp, .int zcc, .ref Ma, .ref Mas, .ref Msn, .ref Mac, .ref Mat])), (Mt, .inl (g 0, 160, .inl fmt))]) rfl rfl rfl rfl (by decide) (r_X7_lowest_02 l D g H.size) (va_cwS 2 hts gX7_items_X7_lowest rfl rfl rfl (by decide +kernel) ⟨(Nat.le_of_ble_eq_true rfl), (Nat.le_of_ble_eq_true rfl)⟩) rfl hl.1 rfl (Nat.le_of_ble_eq_true rfl) dX7_items_72 ⟨(Nat.le_of_ble_eq_true rfl), (Nat.le_of_ble_eq_true rfl)⟩ (fun r_250 u H locs hw hP2 hD2 hS2 => ?_)
            clear hP hD hS
            obtain ⟨rfl, rfl⟩ := hw
            have hPD : PD D A [(Mrr, .inl (g 0, 3, .inl F_231)), (Mm, .inr (7, [.int zth, .ref Mt, .int (nI tp), .int (nI (max_237 + 1)), .int (-1), .ref Mrr, .ref Mrh, .ref Mrc, .int (nI rh), .int (nI rc), .ref Mn, .ref Mf, .ref Mr, .ref Mh, .int zhp, .int zcc, .ref Ma, .ref Mas, .ref Msn, .ref Mac, .ref Mat])), (Mt, .inl (g 0, 160, .inl fmt))] H := ⟨hP2, hD2⟩
            have hS := hS2; clear hP2 hD2 hS2; have hP := hPD.1; have hD := hPD.2; clear hPD
            refine W.widen (k := 0) (n := 0) (Nat.le_of_ble_eq_true rfl) (Nat.le_of_ble_eq_true rfl) ?_
            refine lv_iload_n hx hb dX7_items_75 rfl (lv_at hl 3 rfl) ?_
            refine lv_iload hx hb dX7_items_76 (lv_at hl 1 rfl) ?_
            refine ky_Si (As := [.int 0, .int 2]) (rest := [.int 0, .ref Mm, .int 2, .ref Mrr]) ⟨hx, hb, hml, hown, hts⟩ ⟨hK, hN⟩ hZ hP hD hS hA [] [0, 1, 2] (wc := []) (wr := [(Mrr, .inl (g 0, 3, .inl F_231)), (Mm, .inr (7, [.int zth, .ref Mt, .int (nI tp), .int (nI (max_237 + 1)), .int (-1), .ref Mrr, .ref Mrh, .ref Mrc, .int (nI rh), .int (nI rc), .ref Mn, .ref Mf, .ref Mr, .ref Mh, .int zhp, .int zcc, .ref Ma, .ref Mas, .ref Msn, .ref Mac, .ref Mat])), (Mt, .inl (g 0, 160, .inl fmt))]) rfl rfl rfl rfl (by decide) (r_X7_highest_02 l D g H.size) (va_cwS 2 hts gX7_items_X7_highest rfl rfl rfl (by decide +kernel) ⟨(Nat.le_of_ble_eq_true rfl), (Nat.le_of_ble_eq_true rfl)⟩) rfl hl.1 rfl (Nat.le_of_ble_eq_true rfl) dX7_items_78 ⟨(Nat.le_of_ble_eq_true rfl), (Nat.le_of_ble_eq_true rfl)⟩ (fun r_251 u H locs hw hP2 hD2 hS2 => ?_)
            clear hP hD hS
            obtain ⟨rfl, rfl⟩ := hw
            have hPD : PD D A [(Mrr, .inl (g 0, 3, .inl F_231)), (Mm, .inr (7, [.int zth, .ref Mt, .int (nI tp), .int (nI (max_237 + 1)), .int (-1), .ref Mrr, .ref Mrh, .ref Mrc, .int (nI rh), .int (nI rc), .ref Mn, .ref Mf, .ref Mr, .ref Mh, .int zhp, .int zcc, .ref Ma, .ref Mas, .ref Msn, .ref Mac, .ref Mat])), (Mt, .inl (g 0, 160, .inl fmt))] H := ⟨hP2, hD2⟩
            have hS := hS2; clear hP2 hD2 hS2; have hP := hPD.1; have hD := hPD.2; clear hPD
            refine W.widen (k := 0) (n := 0) (Nat.le_of_ble_eq_true rfl) (Nat.le_of_ble_eq_true rfl) ?_
            refine ky_Vi (As := [.int 0, .int 9]) (rest := [.int 2, .ref Mrr]) ⟨hx, hb, hml, hown, hts⟩ ⟨hK, hN⟩ hZ hP hD hS hA [1, 2] [0] (wc := [(Mm, .inr (7, [.int zth, .ref Mt, .int (nI tp), .int (nI (max_237 + 1)), .int (-1), .ref Mrr, .ref Mrh, .ref Mrc, .int (nI rh), .int (nI rc), .ref Mn, .ref Mf, .ref Mr, .ref Mh, .int zhp, .int zcc, .ref Ma, .ref Mas, .ref Msn, .ref Mac, .ref Mat])), (Mt, .inl (g 0, 160, .inl fmt))]) (wr := [(Mrr, .inl (g 0, 3, .inl F_231))]) rfl rfl rfl rfl (by decide) (r_X7_number l D g H.size Mm 0 9 zth Mt tp (max_237 + 1) Mrr Mrh Mrc rh rc Mn Mf Mr Mh zhp zcc Ma Mas Msn Mac Mat fmt (show tp ≤ 160 by omega) (show (max_237 + 1) ≤ tp by omega) (show 0 ≤ 1 by omega)) (cwV 2 hts gX7_items_X7_number rfl rfl rfl (by decide +kernel) ⟨(Nat.le_of_ble_eq_true rfl), (Nat.le_of_ble_eq_true rfl)⟩) 1 7 rfl rfl rfl rfl hl.1 rfl (Nat.le_of_ble_eq_true rfl) dX7_items_81 ⟨(Nat.le_of_ble_eq_true rfl), (Nat.le_of_ble_eq_true rfl)⟩ (fun r_252 u H locs hw hP2 hD2 hS2 => ?_)
            clear hP hD hS
            obtain ⟨max_253, zwrx_254, nx_255, rfl, rfl, hf_256⟩ := hw
            have hg_257 := hf_256.1
            have hg_258 := hf_256.2.1
            have hg_259 := hf_256.2.2.1
            have hPD : PD D A [(Mrr, .inl (g 0, 3, .inl F_231)), (Mm, .inr (7, [.int zth, .ref Mt, .int (nI tp), .int (nI max_253), .int zwrx_254, .ref Mrr, .ref Mrh, .ref Mrc, .int (nI rh), .int (nI rc), .ref Mn, .ref Mf, .ref Mr, .ref Mh, .int zhp, .int zcc, .ref Ma, .ref Mas, .ref Msn, .ref Mac, .ref Mat])), (Mt, .inl (g 0, 160, .inl fmt))] H := ⟨hP2, hD2⟩
            have hS := hS2; clear hP2 hD2 hS2; have hP := hPD.1; have hD := hPD.2; clear hPD
            refine W.widen (k := 0) (n := 0) (Nat.le_of_ble_eq_true rfl) (Nat.le_of_ble_eq_true rfl) ?_
            refine va_iast hx hb hK hP hD hS 0 0 rfl rfl (by unfold vp_in; decide) dX7_items_84 (fun H locs hP2 hD2 hS2 => ?_)
            clear hP hD hS
            have hPD : PD D A [(Mrr, .inl (g 0, 3, .inl (upd F_231 2 (nI nx_255)))), (Mm, .inr (7, [.int zth, .ref Mt, .int (nI tp), .int (nI max_253), .int zwrx_254, .ref Mrr, .ref Mrh, .ref Mrc, .int (nI rh), .int (nI rc), .ref Mn, .ref Mf, .ref Mr, .ref Mh, .int zhp, .int zcc, .ref Ma, .ref Mas, .ref Msn, .ref Mac, .ref Mat])), (Mt, .inl (g 0, 160, .inl fmt))] H := ⟨hP2, hD2⟩
            have hS := hS2; clear hP2 hD2 hS2; have hP := hPD.1; have hD := hPD.2; clear hPD
            have hF_260 : n1 (upd F_231 2 (nI nx_255)) := n1_upd (hF_231) (n := nx_255) (show nx_255 ≤ 99 by omega)
            generalize upd F_231 2 (nI nx_255) = F_260 at hP hD hF_260
            by_cases cw_261 : zwrx_254 = -1
            · skip
              have hPq_262 := hP; have hDq_262 := hD; have hSq_262 := hS; have hlq_262 := hl; clear hP hD hS hl
              subst cw_261
              have hP := hPq_262; have hD := hDq_262; have hS := hSq_262; have hl := hlq_262; clear hPq_262 hDq_262 hSq_262 hlq_262
              have hne_264 := hf_256.2.2.2.2 rfl
              have hR_263 : itR fmt tp 0 4 0 ma = itR fmt tp 0 1 7 max_253 := hR_234.trans ((itR_go (f := 1) (m := 3) (q := 2) hf_240 hil_248.1 hil_248.2 (by decide) (by decide) hf_256.2.2.2.1.symm).trans (by rw [hne_264]))
              refine lv_iload_n hx hb dX7_items_85 rfl (lv_at hl 3 rfl) ?_
              refine lv_aload_n hx hb dX7_items_86 rfl (lv_at hl 2 rfl) ?_
              refine ky_Vi (As := []) (rest := [.int 0]) ⟨hx, hb, hml, hown, hts⟩ ⟨hK, hN⟩ hZ hP hD hS hA [1, 2] [0] (wc := [(Mm, .inr (7, [.int zth, .ref Mt, .int (nI tp), .int (nI max_253), .int (-1), .ref Mrr, .ref Mrh, .ref Mrc, .int (nI rh), .int (nI rc), .ref Mn, .ref Mf, .ref Mr, .ref Mh, .int zhp, .int zcc, .ref Ma, .ref Mas, .ref Msn, .ref Mac, .ref Mat])), (Mt, .inl (g 0, 160, .inl fmt))]) (wr := [(Mrr, .inl (g 0, 3, .inl F_260))]) rfl rfl rfl rfl (by decide) (r_X7_ahead l D g H.size Mm zth Mt tp max_253 (-1) Mrr Mrh Mrc rh rc Mn Mf Mr Mh zhp zcc Ma Mas Msn Mac Mat fmt (show tp ≤ 160 by omega) (show max_253 ≤ tp by omega)) (cwV 0 hts gX7_items_X7_ahead rfl rfl rfl (by decide +kernel) ⟨(Nat.le_of_ble_eq_true rfl), (Nat.le_of_ble_eq_true rfl)⟩) 1 7 rfl rfl rfl rfl hl.1 rfl (Nat.le_of_ble_eq_true rfl) dX7_items_87 ⟨(Nat.le_of_ble_eq_true rfl), (Nat.le_of_ble_eq_true rfl)⟩ (fun r_265 u H locs hw hP2 hD2 hS2 => ?_)
              clear hP hD hS
              obtain ⟨max_266, rfl, rfl, hf_267, hf_268, hf_269⟩ := hw
              have hPD : PD D A [(Mrr, .inl (g 0, 3, .inl F_260)), (Mm, .inr (7, [.int zth, .ref Mt, .int (nI tp), .int (nI max_266), .int (-1), .ref Mrr, .ref Mrh, .ref Mrc, .int (nI rh), .int (nI rc), .ref Mn, .ref Mf, .ref Mr, .ref Mh, .int zhp, .int zcc, .ref Ma, .ref Mas, .ref Msn, .ref Mac, .ref Mat])), (Mt, .inl (g 0, 160, .inl fmt))] H := ⟨hP2, hD2⟩
              have hS := hS2; clear hP2 hD2 hS2; have hP := hPD.1; have hD := hPD.2; clear hPD
              refine W.widen (k := 0) (n := 0) (Nat.le_of_ble_eq_true rfl) (Nat.le_of_ble_eq_true rfl) ?_
              refine lv_topi (fun y_270 hey_270 => ?_)
              refine ky_Si (As := [.int 0, .int y_270]) (rest := []) ⟨hx, hb, hml, hown, hts⟩ ⟨hK, hN⟩ hZ hP hD hS hA [] [0, 1, 2] (wc := []) (wr := [(Mrr, .inl (g 0, 3, .inl F_260)), (Mm, .inr (7, [.int zth, .ref Mt, .int (nI tp), .int (nI max_266), .int (-1), .ref Mrr, .ref Mrh, .ref Mrc, .int (nI rh), .int (nI rc), .ref Mn, .ref Mf, .ref Mr, .ref Mh, .int zhp, .int zcc, .ref Ma, .ref Mas, .ref Msn, .ref Mac, .ref Mat])), (Mt, .inl (g 0, 160, .inl fmt))]) rfl rfl rfl rfl (by decide) (r_X7_itemBy_0 l D g H.size y_270) (va_cwS 2 hts gX7_items_X7_itemBy rfl rfl rfl (by decide +kernel) ⟨(Nat.le_of_ble_eq_true rfl), (Nat.le_of_ble_eq_true rfl)⟩) rfl hl.1 rfl (Nat.le_of_ble_eq_true rfl) dX7_items_90 ⟨(Nat.le_of_ble_eq_true rfl), (Nat.le_of_ble_eq_true rfl)⟩ (fun r_271 u H locs hw hP2 hD2 hS2 => ?_)
              clear hP hD hS
              obtain ⟨rfl, rfl⟩ := hw
              have hPD : PD D A [(Mrr, .inl (g 0, 3, .inl F_260)), (Mm, .inr (7, [.int zth, .ref Mt, .int (nI tp), .int (nI max_266), .int (-1), .ref Mrr, .ref Mrh, .ref Mrc, .int (nI rh), .int (nI rc), .ref Mn, .ref Mf, .ref Mr, .ref Mh, .int zhp, .int zcc, .ref Ma, .ref Mas, .ref Msn, .ref Mac, .ref Mat])), (Mt, .inl (g 0, 160, .inl fmt))] H := ⟨hP2, hD2⟩
              have hS := hS2; clear hP2 hD2 hS2; have hP := hPD.1; have hD := hPD.2; clear hPD
              refine W.widen (k := 0) (n := 0) (Nat.le_of_ble_eq_true rfl) (Nat.le_of_ble_eq_true rfl) ?_
              rcases itK_c 0 y_270 with qi_272 | qi_272 | qi_272 | qi_272
              · skip
                refine lv_eqi (y := (-1)) (qi_272) ?_
                refine lv_istore (lv' := [(5, .int (-1)), (4, .int 7), (0, .ref Mm), (1, .int 0), (2, .ref Mrr), (3, .int 0)]) hx hb dX7_items_93 hl (by decide) rfl (fun ls hl => ?_)
                refine lv_goto (tgt := 20) hx hb dX7_items_95 (by decide) ?_
                refine lv_aload_n hx hb dX7_items_20 rfl (lv_at hl 2 rfl) ?_
                refine va_get (D := D) (ci := 7) (v := .int (-1)) (C := RX7) (T := TX7) (N := 21) hx hb hts iX7 hown hK hP 1 rfl rfl 4 (by decide) f71 (fun _ h9 => h9) rfl dX7_items_21 ?_
                refine lv_iconst (v := (-1)) hx hb dX7_items_24 (by decide) ?_
                refine lv_icmp_ne (tgt := 98) hx hb dX7_items_25 (by decide) (fun cb => absurd (by decide) cb) (fun _ => ?_)
                refine lv_iload hx hb dX7_items_28 (lv_at hl 0 rfl) ?_
                refine lv_iconst (v := (-1)) hx hb dX7_items_30 (by decide) ?_
                refine lv_icmp_eq (tgt := 98) hx hb dX7_items_31 (by decide) (fun _ => ?_) (fun cb => absurd (by decide) cb)
                have hPD9 : PD D A [(Mm, .inr (7, [.int zth, .ref Mt, .int (nI tp), .int (nI max_266), .int (-1), .ref Mrr, .ref Mrh, .ref Mrc, .int (nI rh), .int (nI rc), .ref Mn, .ref Mf, .ref Mr, .ref Mh, .int zhp, .int zcc, .ref Ma, .ref Mas, .ref Msn, .ref Mac, .ref Mat])), (Mt, .inl (g 0, 160, .inl fmt)), (Mrr, .inl (g 0, 3, .inl F_260))] H := ⟨hP.sub [1, 2, 0] rfl, hD.sub [1, 2, 0] (by decide) rfl⟩
                have hP9 := hPD9.1; have hD9 := hPD9.2
                subst hQ
                refine W.widen (k := 0) (n := 0) (Nat.le_of_ble_eq_true rfl) (Nat.le_of_ble_eq_true rfl) ?_
                exact W.vret hx hb hr (fun tS htS _ => ⟨⟨_, rfl, ⟨max_266, (-1), F_260, rfl, ⟨(hF_260), (show max_266 ≤ tp by omega), (show ma ≤ max_266 by omega), (congrArg Prod.fst (hR_263.trans (iv_m (f := 0) (m := 7) hf_269 hey_270.symm qi_272))).symm, (fun _ => (congrArg Prod.snd (hR_263.trans (iv_m (f := 0) (m := 7) hf_269 hey_270.symm qi_272))).symm)⟩⟩, by rw [htS]; exact hP9, hD9⟩, hS.F htS⟩) hS.2.2 dX7_items_98
              · skip
                refine lv_eqi (y := 0) (qi_272) ?_
                have hil_273 := iv_lt (k := 0) (q := 0) hey_270.symm qi_272 (by decide); have hil_273a := hil_273.1
                refine lv_istore (lv' := [(5, .int 0), (4, .int 7), (0, .ref Mm), (1, .int 0), (2, .ref Mrr), (3, .int 0)]) hx hb dX7_items_93 hl (by decide) rfl (fun ls hl => ?_)
                refine lv_goto (tgt := 20) hx hb dX7_items_95 (by decide) ?_
                refine lv_aload_n hx hb dX7_items_20 rfl (lv_at hl 2 rfl) ?_
                refine va_get (D := D) (ci := 7) (v := .int (-1)) (C := RX7) (T := TX7) (N := 21) hx hb hts iX7 hown hK hP 1 rfl rfl 4 (by decide) f71 (fun _ h9 => h9) rfl dX7_items_21 ?_
                refine lv_iconst (v := (-1)) hx hb dX7_items_24 (by decide) ?_
                refine lv_icmp_ne (tgt := 98) hx hb dX7_items_25 (by decide) (fun cb => absurd (by decide) cb) (fun _ => ?_)
                refine lv_iload hx hb dX7_items_28 (lv_at hl 0 rfl) ?_
                refine lv_iconst (v := (-1)) hx hb dX7_items_30 (by decide) ?_
                refine lv_icmp_eq (tgt := 98) hx hb dX7_items_31 (by decide) (fun cb => absurd cb (by decide)) (fun _ => ?_)
                refine lv_iload hx hb dX7_items_34 (lv_at hl 1 rfl) ?_
                refine lv_iload hx hb dX7_items_36 (lv_at hl 0 rfl) ?_
                refine ky_Si (As := [.int 7, .int 0]) (rest := []) ⟨hx, hb, hml, hown, hts⟩ ⟨hK, hN⟩ hZ hP hD hS hA [] [0, 1, 2] (wc := []) (wr := [(Mrr, .inl (g 0, 3, .inl F_260)), (Mm, .inr (7, [.int zth, .ref Mt, .int (nI tp), .int (nI max_266), .int (-1), .ref Mrr, .ref Mrh, .ref Mrc, .int (nI rh), .int (nI rc), .ref Mn, .ref Mf, .ref Mr, .ref Mh, .int zhp, .int zcc, .ref Ma, .ref Mas, .ref Msn, .ref Mac, .ref Mat])), (Mt, .inl (g 0, 160, .inl fmt))]) rfl rfl rfl rfl (by decide) (r_X7_has_70 l D g H.size) (va_cwS 2 hts gX7_items_X7_has rfl rfl rfl (by decide +kernel) ⟨(Nat.le_of_ble_eq_true rfl), (Nat.le_of_ble_eq_true rfl)⟩) rfl hl.1 rfl (Nat.le_of_ble_eq_true rfl) dX7_items_38 ⟨(Nat.le_of_ble_eq_true rfl), (Nat.le_of_ble_eq_true rfl)⟩ (fun r_274 u H locs hw hP2 hD2 hS2 => ?_)
                clear hP hD hS
                obtain ⟨rfl, rfl⟩ := hw
                have hPD : PD D A [(Mrr, .inl (g 0, 3, .inl F_260)), (Mm, .inr (7, [.int zth, .ref Mt, .int (nI tp), .int (nI max_266), .int (-1), .ref Mrr, .ref Mrh, .ref Mrc, .int (nI rh), .int (nI rc), .ref Mn, .ref Mf, .ref Mr, .ref Mh, .int zhp, .int zcc, .ref Ma, .ref Mas, .ref Msn, .ref Mac, .ref Mat])), (Mt, .inl (g 0, 160, .inl fmt))] H := ⟨hP2, hD2⟩
                have hS := hS2; clear hP2 hD2 hS2; have hP := hPD.1; have hD := hPD.2; clear hPD
                refine W.widen (k := 0) (n := 0) (Nat.le_of_ble_eq_true rfl) (Nat.le_of_ble_eq_true rfl) ?_
                refine lv_if_ne (tgt := 98) hx hb dX7_items_41 (by decide) (fun _ => ?_) (fun cb => absurd cb (by decide))
                have hPD9 : PD D A [(Mm, .inr (7, [.int zth, .ref Mt, .int (nI tp), .int (nI max_266), .int (-1), .ref Mrr, .ref Mrh, .ref Mrc, .int (nI rh), .int (nI rc), .ref Mn, .ref Mf, .ref Mr, .ref Mh, .int zhp, .int zcc, .ref Ma, .ref Mas, .ref Msn, .ref Mac, .ref Mat])), (Mt, .inl (g 0, 160, .inl fmt)), (Mrr, .inl (g 0, 3, .inl F_260))] H := ⟨hP.sub [1, 2, 0] rfl, hD.sub [1, 2, 0] (by decide) rfl⟩
                have hP9 := hPD9.1; have hD9 := hPD9.2
                subst hQ
                refine W.widen (k := 0) (n := 0) (Nat.le_of_ble_eq_true rfl) (Nat.le_of_ble_eq_true rfl) ?_
                exact W.vret hx hb hr (fun tS htS _ => ⟨⟨_, rfl, ⟨max_266, (-1), F_260, rfl, ⟨(hF_260), (show max_266 ≤ tp by omega), (show ma ≤ max_266 by omega), (congrArg Prod.fst (hR_263.trans (itR_again (f := 0) (m := 7) (q := 0) hf_269 hil_273.2 (by decide) (by decide)))).symm, (fun _ => (congrArg Prod.snd (hR_263.trans (itR_again (f := 0) (m := 7) (q := 0) hf_269 hil_273.2 (by decide) (by decide)))).symm)⟩⟩, by rw [htS]; exact hP9, hD9⟩, hS.F htS⟩) hS.2.2 dX7_items_98
              · skip
                refine lv_eqi (y := 1) (qi_272) ?_
                have hil_275 := iv_lt (k := 0) (q := 1) hey_270.symm qi_272 (by decide); have hil_275a := hil_275.1
                refine lv_istore (lv' := [(5, .int 1), (4, .int 7), (0, .ref Mm), (1, .int 0), (2, .ref Mrr), (3, .int 0)]) hx hb dX7_items_93 hl (by decide) rfl (fun ls hl => ?_)
                refine lv_goto (tgt := 20) hx hb dX7_items_95 (by decide) ?_
                refine lv_aload_n hx hb dX7_items_20 rfl (lv_at hl 2 rfl) ?_
                refine va_get (D := D) (ci := 7) (v := .int (-1)) (C := RX7) (T := TX7) (N := 21) hx hb hts iX7 hown hK hP 1 rfl rfl 4 (by decide) f71 (fun _ h9 => h9) rfl dX7_items_21 ?_
                refine lv_iconst (v := (-1)) hx hb dX7_items_24 (by decide) ?_
                refine lv_icmp_ne (tgt := 98) hx hb dX7_items_25 (by decide) (fun cb => absurd (by decide) cb) (fun _ => ?_)
                refine lv_iload hx hb dX7_items_28 (lv_at hl 0 rfl) ?_
                refine lv_iconst (v := (-1)) hx hb dX7_items_30 (by decide) ?_
                refine lv_icmp_eq (tgt := 98) hx hb dX7_items_31 (by decide) (fun cb => absurd cb (by decide)) (fun _ => ?_)
                refine lv_iload hx hb dX7_items_34 (lv_at hl 1 rfl) ?_
                refine lv_iload hx hb dX7_items_36 (lv_at hl 0 rfl) ?_
                refine ky_Si (As := [.int 7, .int 1]) (rest := []) ⟨hx, hb, hml, hown, hts⟩ ⟨hK, hN⟩ hZ hP hD hS hA [] [0, 1, 2] (wc := []) (wr := [(Mrr, .inl (g 0, 3, .inl F_260)), (Mm, .inr (7, [.int zth, .ref Mt, .int (nI tp), .int (nI max_266), .int (-1), .ref Mrr, .ref Mrh, .ref Mrc, .int (nI rh), .int (nI rc), .ref Mn, .ref Mf, .ref Mr, .ref Mh, .int zhp, .int zcc, .ref Ma, .ref Mas, .ref Msn, .ref Mac, .ref Mat])), (Mt, .inl (g 0, 160, .inl fmt))]) rfl rfl rfl rfl (by decide) (r_X7_has_71 l D g H.size) (va_cwS 2 hts gX7_items_X7_has rfl rfl rfl (by decide +kernel) ⟨(Nat.le_of_ble_eq_true rfl), (Nat.le_of_ble_eq_true rfl)⟩) rfl hl.1 rfl (Nat.le_of_ble_eq_true rfl) dX7_items_38 ⟨(Nat.le_of_ble_eq_true rfl), (Nat.le_of_ble_eq_true rfl)⟩ (fun r_276 u H locs hw hP2 hD2 hS2 => ?_)
                clear hP hD hS
                obtain ⟨rfl, rfl⟩ := hw
                have hPD : PD D A [(Mrr, .inl (g 0, 3, .inl F_260)), (Mm, .inr (7, [.int zth, .ref Mt, .int (nI tp), .int (nI max_266), .int (-1), .ref Mrr, .ref Mrh, .ref Mrc, .int (nI rh), .int (nI rc), .ref Mn, .ref Mf, .ref Mr, .ref Mh, .int zhp, .int zcc, .ref Ma, .ref Mas, .ref Msn, .ref Mac, .ref Mat])), (Mt, .inl (g 0, 160, .inl fmt))] H := ⟨hP2, hD2⟩
                have hS := hS2; clear hP2 hD2 hS2; have hP := hPD.1; have hD := hPD.2; clear hPD
                refine W.widen (k := 0) (n := 0) (Nat.le_of_ble_eq_true rfl) (Nat.le_of_ble_eq_true rfl) ?_
                refine lv_if_ne (tgt := 98) hx hb dX7_items_41 (by decide) (fun _ => ?_) (fun cb => absurd cb (by decide))
                have hPD9 : PD D A [(Mm, .inr (7, [.int zth, .ref Mt, .int (nI tp), .int (nI max_266), .int (-1), .ref Mrr, .ref Mrh, .ref Mrc, .int (nI rh), .int (nI rc), .ref Mn, .ref Mf, .ref Mr, .ref Mh, .int zhp, .int zcc, .ref Ma, .ref Mas, .ref Msn, .ref Mac, .ref Mat])), (Mt, .inl (g 0, 160, .inl fmt)), (Mrr, .inl (g 0, 3, .inl F_260))] H := ⟨hP.sub [1, 2, 0] rfl, hD.sub [1, 2, 0] (by decide) rfl⟩
                have hP9 := hPD9.1; have hD9 := hPD9.2
                subst hQ
                refine W.widen (k := 0) (n := 0) (Nat.le_of_ble_eq_true rfl) (Nat.le_of_ble_eq_true rfl) ?_
                exact W.vret hx hb hr (fun tS htS _ => ⟨⟨_, rfl, ⟨max_266, (-1), F_260, rfl, ⟨(hF_260), (show max_266 ≤ tp by omega), (show ma ≤ max_266 by omega), (congrArg Prod.fst (hR_263.trans (itR_again (f := 0) (m := 7) (q := 1) hf_269 hil_275.2 (by decide) (by decide)))).symm, (fun _ => (congrArg Prod.snd (hR_263.trans (itR_again (f := 0) (m := 7) (q := 1) hf_269 hil_275.2 (by decide) (by decide)))).symm)⟩⟩, by rw [htS]; exact hP9, hD9⟩, hS.F htS⟩) hS.2.2 dX7_items_98
              · skip
                refine lv_eqi (y := 2) (qi_272) ?_
                have hil_277 := iv_lt (k := 0) (q := 2) hey_270.symm qi_272 (by decide); have hil_277a := hil_277.1
                refine lv_istore (lv' := [(5, .int 2), (4, .int 7), (0, .ref Mm), (1, .int 0), (2, .ref Mrr), (3, .int 0)]) hx hb dX7_items_93 hl (by decide) rfl (fun ls hl => ?_)
                refine lv_goto (tgt := 20) hx hb dX7_items_95 (by decide) ?_
                refine lv_aload_n hx hb dX7_items_20 rfl (lv_at hl 2 rfl) ?_
                refine va_get (D := D) (ci := 7) (v := .int (-1)) (C := RX7) (T := TX7) (N := 21) hx hb hts iX7 hown hK hP 1 rfl rfl 4 (by decide) f71 (fun _ h9 => h9) rfl dX7_items_21 ?_
                refine lv_iconst (v := (-1)) hx hb dX7_items_24 (by decide) ?_
                refine lv_icmp_ne (tgt := 98) hx hb dX7_items_25 (by decide) (fun cb => absurd (by decide) cb) (fun _ => ?_)
                refine lv_iload hx hb dX7_items_28 (lv_at hl 0 rfl) ?_
                refine lv_iconst (v := (-1)) hx hb dX7_items_30 (by decide) ?_
                refine lv_icmp_eq (tgt := 98) hx hb dX7_items_31 (by decide) (fun cb => absurd cb (by decide)) (fun _ => ?_)
                refine lv_iload hx hb dX7_items_34 (lv_at hl 1 rfl) ?_
                refine lv_iload hx hb dX7_items_36 (lv_at hl 0 rfl) ?_
                refine ky_Si (As := [.int 7, .int 2]) (rest := []) ⟨hx, hb, hml, hown, hts⟩ ⟨hK, hN⟩ hZ hP hD hS hA [] [0, 1, 2] (wc := []) (wr := [(Mrr, .inl (g 0, 3, .inl F_260)), (Mm, .inr (7, [.int zth, .ref Mt, .int (nI tp), .int (nI max_266), .int (-1), .ref Mrr, .ref Mrh, .ref Mrc, .int (nI rh), .int (nI rc), .ref Mn, .ref Mf, .ref Mr, .ref Mh, .int zhp, .int zcc, .ref Ma, .ref Mas, .ref Msn, .ref Mac, .ref Mat])), (Mt, .inl (g 0, 160, .inl fmt))]) rfl rfl rfl rfl (by decide) (r_X7_has_72 l D g H.size) (va_cwS 2 hts gX7_items_X7_has rfl rfl rfl (by decide +kernel) ⟨(Nat.le_of_ble_eq_true rfl), (Nat.le_of_ble_eq_true rfl)⟩) rfl hl.1 rfl (Nat.le_of_ble_eq_true rfl) dX7_items_38 ⟨(Nat.le_of_ble_eq_true rfl), (Nat.le_of_ble_eq_true rfl)⟩ (fun r_278 u H locs hw hP2 hD2 hS2 => ?_)
                clear hP hD hS
                obtain ⟨rfl, rfl⟩ := hw
                have hPD : PD D A [(Mrr, .inl (g 0, 3, .inl F_260)), (Mm, .inr (7, [.int zth, .ref Mt, .int (nI tp), .int (nI max_266), .int (-1), .ref Mrr, .ref Mrh, .ref Mrc, .int (nI rh), .int (nI rc), .ref Mn, .ref Mf, .ref Mr, .ref Mh, .int zhp, .int zcc, .ref Ma, .ref Mas, .ref Msn, .ref Mac, .ref Mat])), (Mt, .inl (g 0, 160, .inl fmt))] H := ⟨hP2, hD2⟩
                have hS := hS2; clear hP2 hD2 hS2; have hP := hPD.1; have hD := hPD.2; clear hPD
                refine W.widen (k := 0) (n := 0) (Nat.le_of_ble_eq_true rfl) (Nat.le_of_ble_eq_true rfl) ?_
                refine lv_if_ne (tgt := 98) hx hb dX7_items_41 (by decide) (fun _ => ?_) (fun cb => absurd cb (by decide))
                have hPD9 : PD D A [(Mm, .inr (7, [.int zth, .ref Mt, .int (nI tp), .int (nI max_266), .int (-1), .ref Mrr, .ref Mrh, .ref Mrc, .int (nI rh), .int (nI rc), .ref Mn, .ref Mf, .ref Mr, .ref Mh, .int zhp, .int zcc, .ref Ma, .ref Mas, .ref Msn, .ref Mac, .ref Mat])), (Mt, .inl (g 0, 160, .inl fmt)), (Mrr, .inl (g 0, 3, .inl F_260))] H := ⟨hP.sub [1, 2, 0] rfl, hD.sub [1, 2, 0] (by decide) rfl⟩
                have hP9 := hPD9.1; have hD9 := hPD9.2
                subst hQ
                refine W.widen (k := 0) (n := 0) (Nat.le_of_ble_eq_true rfl) (Nat.le_of_ble_eq_true rfl) ?_
                exact W.vret hx hb hr (fun tS htS _ => ⟨⟨_, rfl, ⟨max_266, (-1), F_260, rfl, ⟨(hF_260), (show max_266 ≤ tp by omega), (show ma ≤ max_266 by omega), (congrArg Prod.fst (hR_263.trans (itR_again (f := 0) (m := 7) (q := 2) hf_269 hil_277.2 (by decide) (by decide)))).symm, (fun _ => (congrArg Prod.snd (hR_263.trans (itR_again (f := 0) (m := 7) (q := 2) hf_269 hil_277.2 (by decide) (by decide)))).symm)⟩⟩, by rw [htS]; exact hP9, hD9⟩, hS.F htS⟩) hS.2.2 dX7_items_98
            · skip
              refine lv_iload_n hx hb dX7_items_85 rfl (lv_at hl 3 rfl) ?_
              refine lv_aload_n hx hb dX7_items_86 rfl (lv_at hl 2 rfl) ?_
              refine ky_Vi (As := []) (rest := [.int 0]) ⟨hx, hb, hml, hown, hts⟩ ⟨hK, hN⟩ hZ hP hD hS hA [1, 2] [0] (wc := [(Mm, .inr (7, [.int zth, .ref Mt, .int (nI tp), .int (nI max_253), .int zwrx_254, .ref Mrr, .ref Mrh, .ref Mrc, .int (nI rh), .int (nI rc), .ref Mn, .ref Mf, .ref Mr, .ref Mh, .int zhp, .int zcc, .ref Ma, .ref Mas, .ref Msn, .ref Mac, .ref Mat])), (Mt, .inl (g 0, 160, .inl fmt))]) (wr := [(Mrr, .inl (g 0, 3, .inl F_260))]) rfl rfl rfl rfl (by decide) (r_X7_ahead l D g H.size Mm zth Mt tp max_253 zwrx_254 Mrr Mrh Mrc rh rc Mn Mf Mr Mh zhp zcc Ma Mas Msn Mac Mat fmt (show tp ≤ 160 by omega) (show max_253 ≤ tp by omega)) (cwV 0 hts gX7_items_X7_ahead rfl rfl rfl (by decide +kernel) ⟨(Nat.le_of_ble_eq_true rfl), (Nat.le_of_ble_eq_true rfl)⟩) 1 7 rfl rfl rfl rfl hl.1 rfl (Nat.le_of_ble_eq_true rfl) dX7_items_87 ⟨(Nat.le_of_ble_eq_true rfl), (Nat.le_of_ble_eq_true rfl)⟩ (fun r_279 u H locs hw hP2 hD2 hS2 => ?_)
              clear hP hD hS
              obtain ⟨max_280, rfl, rfl, hf_281, hf_282, hf_283⟩ := hw
              have hPD : PD D A [(Mrr, .inl (g 0, 3, .inl F_260)), (Mm, .inr (7, [.int zth, .ref Mt, .int (nI tp), .int (nI max_280), .int zwrx_254, .ref Mrr, .ref Mrh, .ref Mrc, .int (nI rh), .int (nI rc), .ref Mn, .ref Mf, .ref Mr, .ref Mh, .int zhp, .int zcc, .ref Ma, .ref Mas, .ref Msn, .ref Mac, .ref Mat])), (Mt, .inl (g 0, 160, .inl fmt))] H := ⟨hP2, hD2⟩
              have hS := hS2; clear hP2 hD2 hS2; have hP := hPD.1; have hD := hPD.2; clear hPD
              refine W.widen (k := 0) (n := 0) (Nat.le_of_ble_eq_true rfl) (Nat.le_of_ble_eq_true rfl) ?_
              refine lv_topi (fun y_284 hey_284 => ?_)
              refine ky_Si (As := [.int 0, .int y_284]) (rest := []) ⟨hx, hb, hml, hown, hts⟩ ⟨hK, hN⟩ hZ hP hD hS hA [] [0, 1, 2] (wc := []) (wr := [(Mrr, .inl (g 0, 3, .inl F_260)), (Mm, .inr (7, [.int zth, .ref Mt, .int (nI tp), .int (nI max_280), .int zwrx_254, .ref Mrr, .ref Mrh, .ref Mrc, .int (nI rh), .int (nI rc), .ref Mn, .ref Mf, .ref Mr, .ref Mh, .int zhp, .int zcc, .ref Ma, .ref Mas, .ref Msn, .ref Mac, .ref Mat])), (Mt, .inl (g 0, 160, .inl fmt))]) rfl rfl rfl rfl (by decide) (r_X7_itemBy_0 l D g H.size y_284) (va_cwS 2 hts gX7_items_X7_itemBy rfl rfl rfl (by decide +kernel) ⟨(Nat.le_of_ble_eq_true rfl), (Nat.le_of_ble_eq_true rfl)⟩) rfl hl.1 rfl (Nat.le_of_ble_eq_true rfl) dX7_items_90 ⟨(Nat.le_of_ble_eq_true rfl), (Nat.le_of_ble_eq_true rfl)⟩ (fun r_285 u H locs hw hP2 hD2 hS2 => ?_)
              clear hP hD hS
              obtain ⟨rfl, rfl⟩ := hw
              have hPD : PD D A [(Mrr, .inl (g 0, 3, .inl F_260)), (Mm, .inr (7, [.int zth, .ref Mt, .int (nI tp), .int (nI max_280), .int zwrx_254, .ref Mrr, .ref Mrh, .ref Mrc, .int (nI rh), .int (nI rc), .ref Mn, .ref Mf, .ref Mr, .ref Mh, .int zhp, .int zcc, .ref Ma, .ref Mas, .ref Msn, .ref Mac, .ref Mat])), (Mt, .inl (g 0, 160, .inl fmt))] H := ⟨hP2, hD2⟩
              have hS := hS2; clear hP2 hD2 hS2; have hP := hPD.1; have hD := hPD.2; clear hPD
              refine W.widen (k := 0) (n := 0) (Nat.le_of_ble_eq_true rfl) (Nat.le_of_ble_eq_true rfl) ?_
              refine lv_istore (lv' := [(5, .int (itK 0 y_284)), (4, .int 7), (0, .ref Mm), (1, .int 0), (2, .ref Mrr), (3, .int 0)]) hx hb dX7_items_93 hl (by decide) rfl (fun ls hl => ?_)
              refine lv_goto (tgt := 20) hx hb dX7_items_95 (by decide) ?_
              refine lv_aload_n hx hb dX7_items_20 rfl (lv_at hl 2 rfl) ?_
              refine va_get (D := D) (ci := 7) (v := .int zwrx_254) (C := RX7) (T := TX7) (N := 21) hx hb hts iX7 hown hK hP 1 rfl rfl 4 (by decide) f71 (fun _ h9 => h9) rfl dX7_items_21 ?_
              refine lv_iconst (v := (-1)) hx hb dX7_items_24 (by decide) ?_
              refine lv_icmp_ne (tgt := 98) hx hb dX7_items_25 (by decide) (fun _ => ?_) (fun cb => absurd cb (cw_261))
              have hPD9 : PD D A [(Mm, .inr (7, [.int zth, .ref Mt, .int (nI tp), .int (nI max_280), .int zwrx_254, .ref Mrr, .ref Mrh, .ref Mrc, .int (nI rh), .int (nI rc), .ref Mn, .ref Mf, .ref Mr, .ref Mh, .int zhp, .int zcc, .ref Ma, .ref Mas, .ref Msn, .ref Mac, .ref Mat])), (Mt, .inl (g 0, 160, .inl fmt)), (Mrr, .inl (g 0, 3, .inl F_260))] H := ⟨hP.sub [1, 2, 0] rfl, hD.sub [1, 2, 0] (by decide) rfl⟩
              have hP9 := hPD9.1; have hD9 := hPD9.2
              subst hQ
              refine W.widen (k := 0) (n := 0) (Nat.le_of_ble_eq_true rfl) (Nat.le_of_ble_eq_true rfl) ?_
              exact W.vret hx hb hr (fun tS htS _ => ⟨⟨_, rfl, ⟨max_280, zwrx_254, F_260, rfl, ⟨(hF_260), (show max_280 ≤ tp by omega), (show ma ≤ max_280 by omega), ((congrArg Prod.fst hR_234).trans ((itR_w (f := 1) (m := 3) (q := 2) hf_240 hil_248.1 hil_248.2 (by decide) (by decide) (fun q => cw_261 (hf_256.2.2.2.1.trans q))).trans hf_256.2.2.2.1.symm)).symm, (fun q => absurd q cw_261)⟩⟩, by rw [htS]; exact hP9, hD9⟩, hS.F htS⟩) hS.2.2 dX7_items_98
        · skip
          refine lv_iload_n hx hb dX7_items_85 rfl (lv_at hl 3 rfl) ?_
          refine lv_aload_n hx hb dX7_items_86 rfl (lv_at hl 2 rfl) ?_
          refine ky_Vi (As := []) (rest := [.int 0]) ⟨hx, hb, hml, hown, hts⟩ ⟨hK, hN⟩ hZ hP hD hS hA [1, 2] [0] (wc := [(Mm, .inr (7, [.int zth, .ref Mt, .int (nI tp), .int (nI max_224), .int zwrx_225, .ref Mrr, .ref Mrh, .ref Mrc, .int (nI rh), .int (nI rc), .ref Mn, .ref Mf, .ref Mr, .ref Mh, .int zhp, .int zcc, .ref Ma, .ref Mas, .ref Msn, .ref Mac, .ref Mat])), (Mt, .inl (g 0, 160, .inl fmt))]) (wr := [(Mrr, .inl (g 0, 3, .inl F_231))]) rfl rfl rfl rfl (by decide) (r_X7_ahead l D g H.size Mm zth Mt tp max_224 zwrx_225 Mrr Mrh Mrc rh rc Mn Mf Mr Mh zhp zcc Ma Mas Msn Mac Mat fmt (show tp ≤ 160 by omega) (show max_224 ≤ tp by omega)) (cwV 0 hts gX7_items_X7_ahead rfl rfl rfl (by decide +kernel) ⟨(Nat.le_of_ble_eq_true rfl), (Nat.le_of_ble_eq_true rfl)⟩) 1 7 rfl rfl rfl rfl hl.1 rfl (Nat.le_of_ble_eq_true rfl) dX7_items_87 ⟨(Nat.le_of_ble_eq_true rfl), (Nat.le_of_ble_eq_true rfl)⟩ (fun r_286 u H locs hw hP2 hD2 hS2 => ?_)
          clear hP hD hS
          obtain ⟨max_287, rfl, rfl, hf_288, hf_289, hf_290⟩ := hw
          have hPD : PD D A [(Mrr, .inl (g 0, 3, .inl F_231)), (Mm, .inr (7, [.int zth, .ref Mt, .int (nI tp), .int (nI max_287), .int zwrx_225, .ref Mrr, .ref Mrh, .ref Mrc, .int (nI rh), .int (nI rc), .ref Mn, .ref Mf, .ref Mr, .ref Mh, .int zhp, .int zcc, .ref Ma, .ref Mas, .ref Msn, .ref Mac, .ref Mat])), (Mt, .inl (g 0, 160, .inl fmt))] H := ⟨hP2, hD2⟩
          have hS := hS2; clear hP2 hD2 hS2; have hP := hPD.1; have hD := hPD.2; clear hPD
          refine W.widen (k := 0) (n := 0) (Nat.le_of_ble_eq_true rfl) (Nat.le_of_ble_eq_true rfl) ?_
          refine lv_topi (fun y_291 hey_291 => ?_)
          refine ky_Si (As := [.int 0, .int y_291]) (rest := []) ⟨hx, hb, hml, hown, hts⟩ ⟨hK, hN⟩ hZ hP hD hS hA [] [0, 1, 2] (wc := []) (wr := [(Mrr, .inl (g 0, 3, .inl F_231)), (Mm, .inr (7, [.int zth, .ref Mt, .int (nI tp), .int (nI max_287), .int zwrx_225, .ref Mrr, .ref Mrh, .ref Mrc, .int (nI rh), .int (nI rc), .ref Mn, .ref Mf, .ref Mr, .ref Mh, .int zhp, .int zcc, .ref Ma, .ref Mas, .ref Msn, .ref Mac, .ref Mat])), (Mt, .inl (g 0, 160, .inl fmt))]) rfl rfl rfl rfl (by decide) (r_X7_itemBy_0 l D g H.size y_291) (va_cwS 2 hts gX7_items_X7_itemBy rfl rfl rfl (by decide +kernel) ⟨(Nat.le_of_ble_eq_true rfl), (Nat.le_of_ble_eq_true rfl)⟩) rfl hl.1 rfl (Nat.le_of_ble_eq_true rfl) dX7_items_90 ⟨(Nat.le_of_ble_eq_true rfl), (Nat.le_of_ble_eq_true rfl)⟩ (fun r_292 u H locs hw hP2 hD2 hS2 => ?_)
          clear hP hD hS
          obtain ⟨rfl, rfl⟩ := hw
          have hPD : PD D A [(Mrr, .inl (g 0, 3, .inl F_231)), (Mm, .inr (7, [.int zth, .ref Mt, .int (nI tp), .int (nI max_287), .int zwrx_225, .ref Mrr, .ref Mrh, .ref Mrc, .int (nI rh), .int (nI rc), .ref Mn, .ref Mf, .ref Mr, .ref Mh, .int zhp, .int zcc, .ref Ma, .ref Mas, .ref Msn, .ref Mac, .ref Mat])), (Mt, .inl (g 0, 160, .inl fmt))] H := ⟨hP2, hD2⟩
          have hS := hS2; clear hP2 hD2 hS2; have hP := hPD.1; have hD := hPD.2; clear hPD
          refine W.widen (k := 0) (n := 0) (Nat.le_of_ble_eq_true rfl) (Nat.le_of_ble_eq_true rfl) ?_
          refine lv_istore (lv' := [(5, .int (itK 0 y_291)), (4, .int 3), (0, .ref Mm), (1, .int 0), (2, .ref Mrr), (3, .int 0)]) hx hb dX7_items_93 hl (by decide) rfl (fun ls hl => ?_)
          refine lv_goto (tgt := 20) hx hb dX7_items_95 (by decide) ?_
          refine lv_aload_n hx hb dX7_items_20 rfl (lv_at hl 2 rfl) ?_
          refine va_get (D := D) (ci := 7) (v := .int zwrx_225) (C := RX7) (T := TX7) (N := 21) hx hb hts iX7 hown hK hP 1 rfl rfl 4 (by decide) f71 (fun _ h9 => h9) rfl dX7_items_21 ?_
          refine lv_iconst (v := (-1)) hx hb dX7_items_24 (by decide) ?_
          refine lv_icmp_ne (tgt := 98) hx hb dX7_items_25 (by decide) (fun _ => ?_) (fun cb => absurd cb (cw_232))
          have hPD9 : PD D A [(Mm, .inr (7, [.int zth, .ref Mt, .int (nI tp), .int (nI max_287), .int zwrx_225, .ref Mrr, .ref Mrh, .ref Mrc, .int (nI rh), .int (nI rc), .ref Mn, .ref Mf, .ref Mr, .ref Mh, .int zhp, .int zcc, .ref Ma, .ref Mas, .ref Msn, .ref Mac, .ref Mat])), (Mt, .inl (g 0, 160, .inl fmt)), (Mrr, .inl (g 0, 3, .inl F_231))] H := ⟨hP.sub [1, 2, 0] rfl, hD.sub [1, 2, 0] (by decide) rfl⟩
          have hP9 := hPD9.1; have hD9 := hPD9.2
          subst hQ
          refine W.widen (k := 0) (n := 0) (Nat.le_of_ble_eq_true rfl) (Nat.le_of_ble_eq_true rfl) ?_
          exact W.vret hx hb hr (fun tS htS _ => ⟨⟨_, rfl, ⟨max_287, zwrx_225, F_231, rfl, ⟨(hF_231), (show max_287 ≤ tp by omega), (show ma ≤ max_287 by omega), ((congrArg Prod.fst hR_209).trans ((itR_w (f := 2) (m := 2) (q := 0) hf_215 hil_219.1 hil_219.2 (by decide) (by decide) (fun q => cw_232 (hf_227.2.2.2.1.trans q))).trans hf_227.2.2.2.1.symm)).symm, (fun q => absurd q cw_232)⟩⟩, by rw [htS]; exact hP9, hD9⟩, hS.F htS⟩) hS.2.2 dX7_items_98
      · skip
        refine lv_eqi (y := 1) (qi_218) ?_
        have hil_293 := iv_lt (k := 0) (q := 1) hey_216.symm qi_218 (by decide); have hil_293a := hil_293.1
        refine lv_istore (lv' := [(5, .int 1), (4, .int 2), (0, .ref Mm), (1, .int 0), (2, .ref Mrr), (3, .int 0)]) hx hb dX7_items_93 hl (by decide) rfl (fun ls hl => ?_)
        refine lv_goto (tgt := 20) hx hb dX7_items_95 (by decide) ?_
        refine lv_aload_n hx hb dX7_items_20 rfl (lv_at hl 2 rfl) ?_
        refine va_get (D := D) (ci := 7) (v := .int (-1)) (C := RX7) (T := TX7) (N := 21) hx hb hts iX7 hown hK hP 1 rfl rfl 4 (by decide) f71 (fun _ h9 => h9) rfl dX7_items_21 ?_
        refine lv_iconst (v := (-1)) hx hb dX7_items_24 (by decide) ?_
        refine lv_icmp_ne (tgt := 98) hx hb dX7_items_25 (by decide) (fun cb => absurd (by decide) cb) (fun _ => ?_)
        refine lv_iload hx hb dX7_items_28 (lv_at hl 0 rfl) ?_
        refine lv_iconst (v := (-1)) hx hb dX7_items_30 (by decide) ?_
        refine lv_icmp_eq (tgt := 98) hx hb dX7_items_31 (by decide) (fun cb => absurd cb (by decide)) (fun _ => ?_)
        refine lv_iload hx hb dX7_items_34 (lv_at hl 1 rfl) ?_
        refine lv_iload hx hb dX7_items_36 (lv_at hl 0 rfl) ?_
        refine ky_Si (As := [.int 2, .int 1]) (rest := []) ⟨hx, hb, hml, hown, hts⟩ ⟨hK, hN⟩ hZ hP hD hS hA [] [0, 1, 2] (wc := []) (wr := [(Mrr, .inl (g 0, 3, .inl F_206)), (Mm, .inr (7, [.int zth, .ref Mt, .int (nI tp), .int (nI max_212), .int (-1), .ref Mrr, .ref Mrh, .ref Mrc, .int (nI rh), .int (nI rc), .ref Mn, .ref Mf, .ref Mr, .ref Mh, .int zhp, .int zcc, .ref Ma, .ref Mas, .ref Msn, .ref Mac, .ref Mat])), (Mt, .inl (g 0, 160, .inl fmt))]) rfl rfl rfl rfl (by decide) (r_X7_has_21 l D g H.size) (va_cwS 2 hts gX7_items_X7_has rfl rfl rfl (by decide +kernel) ⟨(Nat.le_of_ble_eq_true rfl), (Nat.le_of_ble_eq_true rfl)⟩) rfl hl.1 rfl (Nat.le_of_ble_eq_true rfl) dX7_items_38 ⟨(Nat.le_of_ble_eq_true rfl), (Nat.le_of_ble_eq_true rfl)⟩ (fun r_294 u H locs hw hP2 hD2 hS2 => ?_)
        clear hP hD hS
        obtain ⟨rfl, rfl⟩ := hw
        have hPD : PD D A [(Mrr, .inl (g 0, 3, .inl F_206)), (Mm, .inr (7, [.int zth, .ref Mt, .int (nI tp), .int (nI max_212), .int (-1), .ref Mrr, .ref Mrh, .ref Mrc, .int (nI rh), .int (nI rc), .ref Mn, .ref Mf, .ref Mr, .ref Mh, .int zhp, .int zcc, .ref Ma, .ref Mas, .ref Msn, .ref Mac, .ref Mat])), (Mt, .inl (g 0, 160, .inl fmt))] H := ⟨hP2, hD2⟩
        have hS := hS2; clear hP2 hD2 hS2; have hP := hPD.1; have hD := hPD.2; clear hPD
        refine W.widen (k := 0) (n := 0) (Nat.le_of_ble_eq_true rfl) (Nat.le_of_ble_eq_true rfl) ?_
        refine lv_if_ne (tgt := 98) hx hb dX7_items_41 (by decide) (fun _ => ?_) (fun cb => absurd cb (by decide))
        have hPD9 : PD D A [(Mm, .inr (7, [.int zth, .ref Mt, .int (nI tp), .int (nI max_212), .int (-1), .ref Mrr, .ref Mrh, .ref Mrc, .int (nI rh), .int (nI rc), .ref Mn, .ref Mf, .ref Mr, .ref Mh, .int zhp, .int zcc, .ref Ma, .ref Mas, .ref Msn, .ref Mac, .ref Mat])), (Mt, .inl (g 0, 160, .inl fmt)), (Mrr, .inl (g 0, 3, .inl F_206))] H := ⟨hP.sub [1, 2, 0] rfl, hD.sub [1, 2, 0] (by decide) rfl⟩
        have hP9 := hPD9.1; have hD9 := hPD9.2
        subst hQ
        refine W.widen (k := 0) (n := 0) (Nat.le_of_ble_eq_true rfl) (Nat.le_of_ble_eq_true rfl) ?_
        exact W.vret hx hb hr (fun tS htS _ => ⟨⟨_, rfl, ⟨max_212, (-1), F_206, rfl, ⟨(hF_206), (show max_212 ≤ tp by omega), (show ma ≤ max_212 by omega), (congrArg Prod.fst (hR_209.trans (itR_again (f := 2) (m := 2) (q := 1) hf_215 hil_293.2 (by decide) (by decide)))).symm, (fun _ => (congrArg Prod.snd (hR_209.trans (itR_again (f := 2) (m := 2) (q := 1) hf_215 hil_293.2 (by decide) (by decide)))).symm)⟩⟩, by rw [htS]; exact hP9, hD9⟩, hS.F htS⟩) hS.2.2 dX7_items_98
      · skip
        refine lv_eqi (y := 2) (qi_218) ?_
        have hil_295 := iv_lt (k := 0) (q := 2) hey_216.symm qi_218 (by decide); have hil_295a := hil_295.1
        refine lv_istore (lv' := [(5, .int 2), (4, .int 2), (0, .ref Mm), (1, .int 0), (2, .ref Mrr), (3, .int 0)]) hx hb dX7_items_93 hl (by decide) rfl (fun ls hl => ?_)
        refine lv_goto (tgt := 20) hx hb dX7_items_95 (by decide) ?_
        refine lv_aload_n hx hb dX7_items_20 rfl (lv_at hl 2 rfl) ?_
        refine va_get (D := D) (ci := 7) (v := .int (-1)) (C := RX7) (T := TX7) (N := 21) hx hb hts iX7 hown hK hP 1 rfl rfl 4 (by decide) f71 (fun _ h9 => h9) rfl dX7_items_21 ?_
        refine lv_iconst (v := (-1)) hx hb dX7_items_24 (by decide) ?_
        refine lv_icmp_ne (tgt := 98) hx hb dX7_items_25 (by decide) (fun cb => absurd (by decide) cb) (fun _ => ?_)
        refine lv_iload hx hb dX7_items_28 (lv_at hl 0 rfl) ?_
        refine lv_iconst (v := (-1)) hx hb dX7_items_30 (by decide) ?_
        refine lv_icmp_eq (tgt := 98) hx hb dX7_items_31 (by decide) (fun cb => absurd cb (by decide)) (fun _ => ?_)
        refine lv_iload hx hb dX7_items_34 (lv_at hl 1 rfl) ?_
        refine lv_iload hx hb dX7_items_36 (lv_at hl 0 rfl) ?_
        refine ky_Si (As := [.int 2, .int 2]) (rest := []) ⟨hx, hb, hml, hown, hts⟩ ⟨hK, hN⟩ hZ hP hD hS hA [] [0, 1, 2] (wc := []) (wr := [(Mrr, .inl (g 0, 3, .inl F_206)), (Mm, .inr (7, [.int zth, .ref Mt, .int (nI tp), .int (nI max_212), .int (-1), .ref Mrr, .ref Mrh, .ref Mrc, .int (nI rh), .int (nI rc), .ref Mn, .ref Mf, .ref Mr, .ref Mh, .int zhp, .int zcc, .ref Ma, .ref Mas, .ref Msn, .ref Mac, .ref Mat])), (Mt, .inl (g 0, 160, .inl fmt))]) rfl rfl rfl rfl (by decide) (r_X7_has_22 l D g H.size) (va_cwS 2 hts gX7_items_X7_has rfl rfl rfl (by decide +kernel) ⟨(Nat.le_of_ble_eq_true rfl), (Nat.le_of_ble_eq_true rfl)⟩) rfl hl.1 rfl (Nat.le_of_ble_eq_true rfl) dX7_items_38 ⟨(Nat.le_of_ble_eq_true rfl), (Nat.le_of_ble_eq_true rfl)⟩ (fun r_296 u H locs hw hP2 hD2 hS2 => ?_)
        clear hP hD hS
        obtain ⟨rfl, rfl⟩ := hw
        have hPD : PD D A [(Mrr, .inl (g 0, 3, .inl F_206)), (Mm, .inr (7, [.int zth, .ref Mt, .int (nI tp), .int (nI max_212), .int (-1), .ref Mrr, .ref Mrh, .ref Mrc, .int (nI rh), .int (nI rc), .ref Mn, .ref Mf, .ref Mr, .ref Mh, .int zhp, .int zcc, .ref Ma, .ref Mas, .ref Msn, .ref Mac, .ref Mat])), (Mt, .inl (g 0, 160, .inl fmt))] H := ⟨hP2, hD2⟩
        have hS := hS2; clear hP2 hD2 hS2; have hP := hPD.1; have hD := hPD.2; clear hPD
        refine W.widen (k := 0) (n := 0) (Nat.le_of_ble_eq_true rfl) (Nat.le_of_ble_eq_true rfl) ?_
        refine lv_if_ne (tgt := 98) hx hb dX7_items_41 (by decide) (fun cb => absurd (by decide) cb) (fun _ => ?_)
        refine lv_iload hx hb dX7_items_44 (lv_at hl 1 rfl) ?_
        refine lv_iconst (v := 1) hx hb dX7_items_46 (by decide) ?_
        refine lv_iload hx hb dX7_items_47 (lv_at hl 0 rfl) ?_
        refine lv_ishl hx hb dX7_items_49 ?_
        refine lv_eqi (y := 4) (by decide) ?_
        refine lv_ior hx hb dX7_items_50 ?_
        refine lv_eqi (y := 6) (by decide) ?_
        refine lv_istore (lv' := [(4, .int 6), (5, .int 2), (0, .ref Mm), (1, .int 0), (2, .ref Mrr), (3, .int 0)]) hx hb dX7_items_51 hl (by decide) rfl (fun ls hl => ?_)
        refine lv_aload_n hx hb dX7_items_53 rfl (lv_at hl 2 rfl) ?_
        refine lv_dup hx hb dX7_items_54 rfl ?_
        refine va_get (D := D) (ci := 7) (v := .int (nI max_212)) (C := RX7) (T := TX7) (N := 21) hx hb hts iX7 hown hK hP 1 rfl rfl 3 (by decide) f64 (fun _ h9 => h9) rfl dX7_items_55 ?_
        refine lv_iconst (v := 1) hx hb dX7_items_58 (by decide) ?_
        refine lv_iadd hx hb dX7_items_59 ?_
        refine lv_eqi (y := (nI (max_212 + 1))) (nI_add (max_212) (1)) ?_
        refine va_put (D := D) (ci := 7) (v := .int (nI (max_212 + 1))) (ty := .int) (C := RX7) (T := TX7) (N := 21) hx hb hts iX7 tyX7 tyX7_ok nmX7 hown hK hP hD hS 1 rfl rfl 3 (by decide) f64 (fun _ h9 => h9) rfl (by decide +kernel) (rfl) (rfl) (Nat.le_of_ble_eq_true rfl) dX7_items_60 (fun H locs hP2 hD2 hS2 => ?_)
        clear hP hD hS
        have hPD : PD D A [(Mrr, .inl (g 0, 3, .inl F_206)), (Mm, .inr (7, [.int zth, .ref Mt, .int (nI tp), .int (nI (max_212 + 1)), .int (-1), .ref Mrr, .ref Mrh, .ref Mrc, .int (nI rh), .int (nI rc), .ref Mn, .ref Mf, .ref Mr, .ref Mh, .int zhp, .int zcc, .ref Ma, .ref Mas, .ref Msn, .ref Mac, .ref Mat])), (Mt, .inl (g 0, 160, .inl fmt))] H := ⟨hP2, hD2⟩
        have hS := hS2; clear hP2 hD2 hS2; have hP := hPD.1; have hD := hPD.2; clear hPD
        refine lv_aload_n hx hb dX7_items_63 rfl (lv_at hl 4 rfl) ?_
        refine lv_iload_n hx hb dX7_items_64 rfl (lv_at hl 5 rfl) ?_
        refine lv_iload hx hb dX7_items_65 (lv_at hl 1 rfl) ?_
        refine lv_iadd hx hb dX7_items_67 ?_
        refine lv_eqi (y := 2) (by decide) ?_
        refine lv_aload_n hx hb dX7_items_68 rfl (lv_at hl 2 rfl) ?_
        refine lv_iload_n hx hb dX7_items_69 rfl (lv_at hl 3 rfl) ?_
        refine lv_iload hx hb dX7_items_70 (lv_at hl 1 rfl) ?_
        refine ky_Si (As := [.int 0, .int 2]) (rest := [.ref Mm, .int 2, .ref Mrr]) ⟨hx, hb, hml, hown, hts⟩ ⟨hK, hN⟩ hZ hP hD hS hA [] [0, 1, 2] (wc := []) (wr := [(Mrr, .inl (g 0, 3, .inl F_206)), (Mm, .inr (7, [.int zth, .ref Mt, .int (nI tp), .int (nI (max_212 + 1)), .int (-1), .ref Mrr, .ref Mrh, .ref Mrc, .int (nI rh), .int (nI rc), .ref Mn, .ref Mf, .ref Mr, .ref Mh, .int zhp, .int zcc, .ref Ma, .ref Mas, .ref Msn, .ref Mac, .ref Mat])), (Mt, .inl (g 0, 160, .inl fmt))]) rfl rfl rfl rfl (by decide) (r_X7_lowest_02 l D g H.size) (va_cwS 2 hts gX7_items_X7_lowest rfl rfl rfl (by decide +kernel) ⟨(Nat.le_of_ble_eq_true rfl), (Nat.le_of_ble_eq_true rfl)⟩) rfl hl.1 rfl (Nat.le_of_ble_eq_true rfl) dX7_items_72 ⟨(Nat.le_of_ble_eq_true rfl), (Nat.le_of_ble_eq_true rfl)⟩ (fun r_297 u H locs hw hP2 hD2 hS2 => ?_)
        clear hP hD hS
        obtain ⟨rfl, rfl⟩ := hw
        have hPD : PD D A [(Mrr, .inl (g 0, 3, .inl F_206)), (Mm, .inr (7, [.int zth, .ref Mt, .int (nI tp), .int (nI (max_212 + 1)), .int (-1), .ref Mrr, .ref Mrh, .ref Mrc, .int (nI rh), .int (nI rc), .ref Mn, .ref Mf, .ref Mr, .ref Mh, .int zhp, .int zcc, .ref Ma, .ref Mas, .ref Msn, .ref Mac, .ref Mat])), (Mt, .inl (g 0, 160, .inl fmt))] H := ⟨hP2, hD2⟩
        have hS := hS2; clear hP2 hD2 hS2; have hP := hPD.1; have hD := hPD.2; clear hPD
        refine W.widen (k := 0) (n := 0) (Nat.le_of_ble_eq_true rfl) (Nat.le_of_ble_eq_true rfl) ?_
        refine lv_iload_n hx hb dX7_items_75 rfl (lv_at hl 3 rfl) ?_
        refine lv_iload hx hb dX7_items_76 (lv_at hl 1 rfl) ?_
        refine ky_Si (As := [.int 0, .int 2]) (rest := [.int 0, .ref Mm, .int 2, .ref Mrr]) ⟨hx, hb, hml, hown, hts⟩ ⟨hK, hN⟩ hZ hP hD hS hA [] [0, 1, 2] (wc := []) (wr := [(Mrr, .inl (g 0, 3, .inl F_206)), (Mm, .inr (7, [.int zth, .ref Mt, .int (nI tp), .int (nI (max_212 + 1)), .int (-1), .ref Mrr, .ref Mrh, .ref Mrc, .int (nI rh), .int (nI rc), .ref Mn, .ref Mf, .ref Mr, .ref Mh, .int zhp, .int zcc, .ref Ma, .ref Mas, .ref Msn, .ref Mac, .ref Mat])), (Mt, .inl (g 0, 160, .inl fmt))]) rfl rfl rfl rfl (by decide) (r_X7_highest_02 l D g H.size) (va_cwS 2 hts gX7_items_X7_highest rfl rfl rfl (by decide +kernel) ⟨(Nat.le_of_ble_eq_true rfl), (Nat.le_of_ble_eq_true rfl)⟩) rfl hl.1 rfl (Nat.le_of_ble_eq_true rfl) dX7_items_78 ⟨(Nat.le_of_ble_eq_true rfl), (Nat.le_of_ble_eq_true rfl)⟩ (fun r_298 u H locs hw hP2 hD2 hS2 => ?_)
        clear hP hD hS
        obtain ⟨rfl, rfl⟩ := hw
        have hPD : PD D A [(Mrr, .inl (g 0, 3, .inl F_206)), (Mm, .inr (7, [.int zth, .ref Mt, .int (nI tp), .int (nI (max_212 + 1)), .int (-1), .ref Mrr, .ref Mrh, .ref Mrc, .int (nI rh), .int (nI rc), .ref Mn, .ref Mf, .ref Mr, .ref Mh, .int zhp, .int zcc, .ref Ma, .ref Mas, .ref Msn, .ref Mac, .ref Mat])), (Mt, .inl (g 0, 160, .inl fmt))] H := ⟨hP2, hD2⟩
        have hS := hS2; clear hP2 hD2 hS2; have hP := hPD.1; have hD := hPD.2; clear hPD
        refine W.widen (k := 0) (n := 0) (Nat.le_of_ble_eq_true rfl) (Nat.le_of_ble_eq_true rfl) ?_
        refine ky_Vi (As := [.int 0, .int 9]) (rest := [.int 2, .ref Mrr]) ⟨hx, hb, hml, hown, hts⟩ ⟨hK, hN⟩ hZ hP hD hS hA [1, 2] [0] (wc := [(Mm, .inr (7, [.int zth, .ref Mt, .int (nI tp), .int (nI (max_212 + 1)), .int (-1), .ref Mrr, .ref Mrh, .ref Mrc, .int (nI rh), .int (nI rc), .ref Mn, .ref Mf, .ref Mr, .ref Mh, .int zhp, .int zcc, .ref Ma, .ref Mas, .ref Msn, .ref Mac, .ref Mat])), (Mt, .inl (g 0, 160, .inl fmt))]) (wr := [(Mrr, .inl (g 0, 3, .inl F_206))]) rfl rfl rfl rfl (by decide) (r_X7_number l D g H.size Mm 0 9 zth Mt tp (max_212 + 1) Mrr Mrh Mrc rh rc Mn Mf Mr Mh zhp zcc Ma Mas Msn Mac Mat fmt (show tp ≤ 160 by omega) (show (max_212 + 1) ≤ tp by omega) (show 0 ≤ 1 by omega)) (cwV 2 hts gX7_items_X7_number rfl rfl rfl (by decide +kernel) ⟨(Nat.le_of_ble_eq_true rfl), (Nat.le_of_ble_eq_true rfl)⟩) 1 7 rfl rfl rfl rfl hl.1 rfl (Nat.le_of_ble_eq_true rfl) dX7_items_81 ⟨(Nat.le_of_ble_eq_true rfl), (Nat.le_of_ble_eq_true rfl)⟩ (fun r_299 u H locs hw hP2 hD2 hS2 => ?_)
        clear hP hD hS
        obtain ⟨max_300, zwrx_301, nx_302, rfl, rfl, hf_303⟩ := hw
        have hg_304 := hf_303.1
        have hg_305 := hf_303.2.1
        have hg_306 := hf_303.2.2.1
        have hPD : PD D A [(Mrr, .inl (g 0, 3, .inl F_206)), (Mm, .inr (7, [.int zth, .ref Mt, .int (nI tp), .int (nI max_300), .int zwrx_301, .ref Mrr, .ref Mrh, .ref Mrc, .int (nI rh), .int (nI rc), .ref Mn, .ref Mf, .ref Mr, .ref Mh, .int zhp, .int zcc, .ref Ma, .ref Mas, .ref Msn, .ref Mac, .ref Mat])), (Mt, .inl (g 0, 160, .inl fmt))] H := ⟨hP2, hD2⟩
        have hS := hS2; clear hP2 hD2 hS2; have hP := hPD.1; have hD := hPD.2; clear hPD
        refine W.widen (k := 0) (n := 0) (Nat.le_of_ble_eq_true rfl) (Nat.le_of_ble_eq_true rfl) ?_
        refine va_iast hx hb hK hP hD hS 0 0 rfl rfl (by unfold vp_in; decide) dX7_items_84 (fun H locs hP2 hD2 hS2 => ?_)
        clear hP hD hS
        have hPD : PD D A [(Mrr, .inl (g 0, 3, .inl (upd F_206 2 (nI nx_302)))), (Mm, .inr (7, [.int zth, .ref Mt, .int (nI tp), .int (nI max_300), .int zwrx_301, .ref Mrr, .ref Mrh, .ref Mrc, .int (nI rh), .int (nI rc), .ref Mn, .ref Mf, .ref Mr, .ref Mh, .int zhp, .int zcc, .ref Ma, .ref Mas, .ref Msn, .ref Mac, .ref Mat])), (Mt, .inl (g 0, 160, .inl fmt))] H := ⟨hP2, hD2⟩
        have hS := hS2; clear hP2 hD2 hS2; have hP := hPD.1; have hD := hPD.2; clear hPD
        have hF_307 : n1 (upd F_206 2 (nI nx_302)) := n1_upd (hF_206) (n := nx_302) (show nx_302 ≤ 99 by omega)
        generalize upd F_206 2 (nI nx_302) = F_307 at hP hD hF_307
        by_cases cw_308 : zwrx_301 = -1
        · skip
          have hPq_309 := hP; have hDq_309 := hD; have hSq_309 := hS; have hlq_309 := hl; clear hP hD hS hl
          subst cw_308
          have hP := hPq_309; have hD := hDq_309; have hS := hSq_309; have hl := hlq_309; clear hPq_309 hDq_309 hSq_309 hlq_309
          have hne_311 := hf_303.2.2.2.2 rfl
          have hR_310 : itR fmt tp 0 4 0 ma = itR fmt tp 0 2 6 max_300 := hR_209.trans ((itR_go (f := 2) (m := 2) (q := 2) hf_215 hil_295.1 hil_295.2 (by decide) (by decide) hf_303.2.2.2.1.symm).trans (by rw [hne_311]))
          refine lv_iload_n hx hb dX7_items_85 rfl (lv_at hl 3 rfl) ?_
          refine lv_aload_n hx hb dX7_items_86 rfl (lv_at hl 2 rfl) ?_
          refine ky_Vi (As := []) (rest := [.int 0]) ⟨hx, hb, hml, hown, hts⟩ ⟨hK, hN⟩ hZ hP hD hS hA [1, 2] [0] (wc := [(Mm, .inr (7, [.int zth, .ref Mt, .int (nI tp), .int (nI max_300), .int (-1), .ref Mrr, .ref Mrh, .ref Mrc, .int (nI rh), .int (nI rc), .ref Mn, .ref Mf, .ref Mr, .ref Mh, .int zhp, .int zcc, .ref Ma, .ref Mas, .ref Msn, .ref Mac, .ref Mat])), (Mt, .inl (g 0, 160, .inl fmt))]) (wr := [(Mrr, .inl (g 0, 3, .inl F_307))]) rfl rfl rfl rfl (by decide) (r_X7_ahead l D g H.size Mm zth Mt tp max_300 (-1) Mrr Mrh Mrc rh rc Mn Mf Mr Mh zhp zcc Ma Mas Msn Mac Mat fmt (show tp ≤ 160 by omega) (show max_300 ≤ tp by omega)) (cwV 0 hts gX7_items_X7_ahead rfl rfl rfl (by decide +kernel) ⟨(Nat.le_of_ble_eq_true rfl), (Nat.le_of_ble_eq_true rfl)⟩) 1 7 rfl rfl rfl rfl hl.1 rfl (Nat.le_of_ble_eq_true rfl) dX7_items_87 ⟨(Nat.le_of_ble_eq_true rfl), (Nat.le_of_ble_eq_true rfl)⟩ (fun r_312 u H locs hw hP2 hD2 hS2 => ?_)
          clear hP hD hS
          obtain ⟨max_313, rfl, rfl, hf_314, hf_315, hf_316⟩ := hw
          have hPD : PD D A [(Mrr, .inl (g 0, 3, .inl F_307)), (Mm, .inr (7, [.int zth, .ref Mt, .int (nI tp), .int (nI max_313), .int (-1), .ref Mrr, .ref Mrh, .ref Mrc, .int (nI rh), .int (nI rc), .ref Mn, .ref Mf, .ref Mr, .ref Mh, .int zhp, .int zcc, .ref Ma, .ref Mas, .ref Msn, .ref Mac, .ref Mat])), (Mt, .inl (g 0, 160, .inl fmt))] H := ⟨hP2, hD2⟩
          have hS := hS2; clear hP2 hD2 hS2; have hP := hPD.1; have hD := hPD.2; clear hPD
          refine W.widen (k := 0) (n := 0) (Nat.le_of_ble_eq_true rfl) (Nat.le_of_ble_eq_true rfl) ?_
          refine lv_topi (fun y_317 hey_317 => ?_)
          refine ky_Si (As := [.int 0, .int y_317]) (rest := []) ⟨hx, hb, hml, hown, hts⟩ ⟨hK, hN⟩ hZ hP hD hS hA [] [0, 1, 2] (wc := []) (wr := [(Mrr, .inl (g 0, 3, .inl F_307)), (Mm, .inr (7, [.int zth, .ref Mt, .int (nI tp), .int (nI max_313), .int (-1), .ref Mrr, .ref Mrh, .ref Mrc, .int (nI rh), .int (nI rc), .ref Mn, .ref Mf, .ref Mr, .ref Mh, .int zhp, .int zcc, .ref Ma, .ref Mas, .ref Msn, .ref Mac, .ref Mat])), (Mt, .inl (g 0, 160, .inl fmt))]) rfl rfl rfl rfl (by decide) (r_X7_itemBy_0 l D g H.size y_317) (va_cwS 2 hts gX7_items_X7_itemBy rfl rfl rfl (by decide +kernel) ⟨(Nat.le_of_ble_eq_true rfl), (Nat.le_of_ble_eq_true rfl)⟩) rfl hl.1 rfl (Nat.le_of_ble_eq_true rfl) dX7_items_90 ⟨(Nat.le_of_ble_eq_true rfl), (Nat.le_of_ble_eq_true rfl)⟩ (fun r_318 u H locs hw hP2 hD2 hS2 => ?_)
          clear hP hD hS
          obtain ⟨rfl, rfl⟩ := hw
          have hPD : PD D A [(Mrr, .inl (g 0, 3, .inl F_307)), (Mm, .inr (7, [.int zth, .ref Mt, .int (nI tp), .int (nI max_313), .int (-1), .ref Mrr, .ref Mrh, .ref Mrc, .int (nI rh), .int (nI rc), .ref Mn, .ref Mf, .ref Mr, .ref Mh, .int zhp, .int zcc, .ref Ma, .ref Mas, .ref Msn, .ref Mac, .ref Mat])), (Mt, .inl (g 0, 160, .inl fmt))] H := ⟨hP2, hD2⟩
          have hS := hS2; clear hP2 hD2 hS2; have hP := hPD.1; have hD := hPD.2; clear hPD
          refine W.widen (k := 0) (n := 0) (Nat.le_of_ble_eq_true rfl) (Nat.le_of_ble_eq_true rfl) ?_
          rcases itK_c 0 y_317 with qi_319 | qi_319 | qi_319 | qi_319
          · skip
            refine lv_eqi (y := (-1)) (qi_319) ?_
            refine lv_istore (lv' := [(5, .int (-1)), (4, .int 6), (0, .ref Mm), (1, .int 0), (2, .ref Mrr), (3, .int 0)]) hx hb dX7_items_93 hl (by decide) rfl (fun ls hl => ?_)
            refine lv_goto (tgt := 20) hx hb dX7_items_95 (by decide) ?_
            refine lv_aload_n hx hb dX7_items_20 rfl (lv_at hl 2 rfl) ?_
            refine va_get (D := D) (ci := 7) (v := .int (-1)) (C := RX7) (T := TX7) (N := 21) hx hb hts iX7 hown hK hP 1 rfl rfl 4 (by decide) f71 (fun _ h9 => h9) rfl dX7_items_21 ?_
            refine lv_iconst (v := (-1)) hx hb dX7_items_24 (by decide) ?_
            refine lv_icmp_ne (tgt := 98) hx hb dX7_items_25 (by decide) (fun cb => absurd (by decide) cb) (fun _ => ?_)
            refine lv_iload hx hb dX7_items_28 (lv_at hl 0 rfl) ?_
            refine lv_iconst (v := (-1)) hx hb dX7_items_30 (by decide) ?_
            refine lv_icmp_eq (tgt := 98) hx hb dX7_items_31 (by decide) (fun _ => ?_) (fun cb => absurd (by decide) cb)
            have hPD9 : PD D A [(Mm, .inr (7, [.int zth, .ref Mt, .int (nI tp), .int (nI max_313), .int (-1), .ref Mrr, .ref Mrh, .ref Mrc, .int (nI rh), .int (nI rc), .ref Mn, .ref Mf, .ref Mr, .ref Mh, .int zhp, .int zcc, .ref Ma, .ref Mas, .ref Msn, .ref Mac, .ref Mat])), (Mt, .inl (g 0, 160, .inl fmt)), (Mrr, .inl (g 0, 3, .inl F_307))] H := ⟨hP.sub [1, 2, 0] rfl, hD.sub [1, 2, 0] (by decide) rfl⟩
            have hP9 := hPD9.1; have hD9 := hPD9.2
            subst hQ
            refine W.widen (k := 0) (n := 0) (Nat.le_of_ble_eq_true rfl) (Nat.le_of_ble_eq_true rfl) ?_
            exact W.vret hx hb hr (fun tS htS _ => ⟨⟨_, rfl, ⟨max_313, (-1), F_307, rfl, ⟨(hF_307), (show max_313 ≤ tp by omega), (show ma ≤ max_313 by omega), (congrArg Prod.fst (hR_310.trans (iv_m (f := 1) (m := 6) hf_316 hey_317.symm qi_319))).symm, (fun _ => (congrArg Prod.snd (hR_310.trans (iv_m (f := 1) (m := 6) hf_316 hey_317.symm qi_319))).symm)⟩⟩, by rw [htS]; exact hP9, hD9⟩, hS.F htS⟩) hS.2.2 dX7_items_98
          · skip
            refine lv_eqi (y := 0) (qi_319) ?_
            have hil_320 := iv_lt (k := 0) (q := 0) hey_317.symm qi_319 (by decide); have hil_320a := hil_320.1
            refine lv_istore (lv' := [(5, .int 0), (4, .int 6), (0, .ref Mm), (1, .int 0), (2, .ref Mrr), (3, .int 0)]) hx hb dX7_items_93 hl (by decide) rfl (fun ls hl => ?_)
            refine lv_goto (tgt := 20) hx hb dX7_items_95 (by decide) ?_
            refine lv_aload_n hx hb dX7_items_20 rfl (lv_at hl 2 rfl) ?_
            refine va_get (D := D) (ci := 7) (v := .int (-1)) (C := RX7) (T := TX7) (N := 21) hx hb hts iX7 hown hK hP 1 rfl rfl 4 (by decide) f71 (fun _ h9 => h9) rfl dX7_items_21 ?_
            refine lv_iconst (v := (-1)) hx hb dX7_items_24 (by decide) ?_
            refine lv_icmp_ne (tgt := 98) hx hb dX7_items_25 (by decide) (fun cb => absurd (by decide) cb) (fun _ => ?_)
            refine lv_iload hx hb dX7_items_28 (lv_at hl 0 rfl) ?_
            refine lv_iconst (v := (-1)) hx hb dX7_items_30 (by decide) ?_
            refine lv_icmp_eq (tgt := 98) hx hb dX7_items_31 (by decide) (fun cb => absurd cb (by decide)) (fun _ => ?_)
            refine lv_iload hx hb dX7_items_34 (lv_at hl 1 rfl) ?_
            refine lv_iload hx hb dX7_items_36 (lv_at hl 0 rfl) ?_
            refine ky_Si (As := [.int 6, .int 0]) (rest := []) ⟨hx, hb, hml, hown, hts⟩ ⟨hK, hN⟩ hZ hP hD hS hA [] [0, 1, 2] (wc := []) (wr := [(Mrr, .inl (g 0, 3, .inl F_307)), (Mm, .inr (7, [.int zth, .ref Mt, .int (nI tp), .int (nI max_313), .int (-1), .ref Mrr, .ref Mrh, .ref Mrc, .int (nI rh), .int (nI rc), .ref Mn, .ref Mf, .ref Mr, .ref Mh, .int zhp, .int zcc, .ref Ma, .ref Mas, .ref Msn, .ref Mac, .ref Mat])), (Mt, .inl (g 0, 160, .inl fmt))]) rfl rfl rfl rfl (by decide) (r_X7_has_60 l D g H.size) (va_cwS 2 hts gX7_items_X7_has rfl rfl rfl (by decide +kernel) ⟨(Nat.le_of_ble_eq_true rfl), (Nat.le_of_ble_eq_true rfl)⟩) rfl hl.1 rfl (Nat.le_of_ble_eq_true rfl) dX7_items_38 ⟨(Nat.le_of_ble_eq_true rfl), (Nat.le_of_ble_eq_true rfl)⟩ (fun r_321 u H locs hw hP2 hD2 hS2 => ?_)
            clear hP hD hS
            obtain ⟨rfl, rfl⟩ := hw
            have hPD : PD D A [(Mrr, .inl (g 0, 3, .inl F_307)), (Mm, .inr (7, [.int zth, .ref Mt, .int (nI tp), .int (nI max_313), .int (-1), .ref Mrr, .ref Mrh, .ref Mrc, .int (nI rh), .int (nI rc), .ref Mn, .ref Mf, .ref Mr, .ref Mh, .int zhp, .int zcc, .ref Ma, .ref Mas, .ref Msn, .ref Mac, .ref Mat])), (Mt, .inl (g 0, 160, .inl fmt))] H := ⟨hP2, hD2⟩
            have hS := hS2; clear hP2 hD2 hS2; have hP := hPD.1; have hD := hPD.2; clear hPD
            refine W.widen (k := 0) (n := 0) (Nat.le_of_ble_eq_true rfl) (Nat.le_of_ble_eq_true rfl) ?_
            refine lv_if_ne (tgt := 98) hx hb dX7_items_41 (by decide) (fun cb => absurd (by decide) cb) (fun _ => ?_)
            refine lv_iload hx hb dX7_items_44 (lv_at hl 1 rfl) ?_
            refine lv_iconst (v := 1) hx hb dX7_items_46 (by decide) ?_
            refine lv_iload hx hb dX7_items_47 (lv_at hl 0 rfl) ?_
            refine lv_ishl hx hb dX7_items_49 ?_
            refine lv_eqi (y := 1) (by decide) ?_
            refine lv_ior hx hb dX7_items_50 ?_
            refine lv_eqi (y := 7) (by decide) ?_
            refine lv_istore (lv' := [(4, .int 7), (5, .int 0), (0, .ref Mm), (1, .int 0), (2, .ref Mrr), (3, .int 0)]) hx hb dX7_items_51 hl (by decide) rfl (fun ls hl => ?_)
            refine lv_aload_n hx hb dX7_items_53 rfl (lv_at hl 2 rfl) ?_
            refine lv_dup hx hb dX7_items_54 rfl ?_
            refine va_get (D := D) (ci := 7) (v := .int (nI max_313)) (C := RX7) (T := TX7) (N := 21) hx hb hts iX7 hown hK hP 1 rfl rfl 3 (by decide) f64 (fun _ h9 => h9) rfl dX7_items_55 ?_
            refine lv_iconst (v := 1) hx hb dX7_items_58 (by decide) ?_
            refine lv_iadd hx hb dX7_items_59 ?_
            refine lv_eqi (y := (nI (max_313 + 1))) (nI_add (max_313) (1)) ?_
            refine va_put (D := D) (ci := 7) (v := .int (nI (max_313 + 1))) (ty := .int) (C := RX7) (T := TX7) (N := 21) hx hb hts iX7 tyX7 tyX7_ok nmX7 hown hK hP hD hS 1 rfl rfl 3 (by decide) f64 (fun _ h9 => h9) rfl (by decide +kernel) (rfl) (rfl) (Nat.le_of_ble_eq_true rfl) dX7_items_60 (fun H locs hP2 hD2 hS2 => ?_)
            clear hP hD hS
            have hPD : PD D A [(Mrr, .inl (g 0, 3, .inl F_307)), (Mm, .inr (7, [.int zth, .ref Mt, .int (nI tp), .int (nI (max_313 + 1)), .int (-1), .ref Mrr, .ref Mrh, .ref Mrc, .int (nI rh), .int (nI rc), .ref Mn, .ref Mf, .ref Mr, .ref Mh, .int zhp, .int zcc, .ref Ma, .ref Mas, .ref Msn, .ref Mac, .ref Mat])), (Mt, .inl (g 0, 160, .inl fmt))] H := ⟨hP2, hD2⟩
            have hS := hS2; clear hP2 hD2 hS2; have hP := hPD.1; have hD := hPD.2; clear hPD
            refine lv_aload_n hx hb dX7_items_63 rfl (lv_at hl 4 rfl) ?_
            refine lv_iload_n hx hb dX7_items_64 rfl (lv_at hl 5 rfl) ?_
            refine lv_iload hx hb dX7_items_65 (lv_at hl 1 rfl) ?_
            refine lv_iadd hx hb dX7_items_67 ?_
            refine lv_eqi (y := 0) (by decide) ?_
            refine lv_aload_n hx hb dX7_items_68 rfl (lv_at hl 2 rfl) ?_
            refine lv_iload_n hx hb dX7_items_69 rfl (lv_at hl 3 rfl) ?_
            refine lv_iload hx hb dX7_items_70 (lv_at hl 1 rfl) ?_
            refine ky_Si (As := [.int 0, .int 0]) (rest := [.ref Mm, .int 0, .ref Mrr]) ⟨hx, hb, hml, hown, hts⟩ ⟨hK, hN⟩ hZ hP hD hS hA [] [0, 1, 2] (wc := []) (wr := [(Mrr, .inl (g 0, 3, .inl F_307)), (Mm, .inr (7, [.int zth, .ref Mt, .int (nI tp), .int (nI (max_313 + 1)), .int (-1), .ref Mrr, .ref Mrh, .ref Mrc, .int (nI rh), .int (nI rc), .ref Mn, .ref Mf, .ref Mr, .ref Mh, .int zhp, .int zcc, .ref Ma, .ref Mas, .ref Msn, .ref Mac, .ref Mat])), (Mt, .inl (g 0, 160, .inl fmt))]) rfl rfl rfl rfl (by decide) (r_X7_lowest_00 l D g H.size) (va_cwS 2 hts gX7_items_X7_lowest rfl rfl rfl (by decide +kernel) ⟨(Nat.le_of_ble_eq_true rfl), (Nat.le_of_ble_eq_true rfl)⟩) rfl hl.1 rfl (Nat.le_of_ble_eq_true rfl) dX7_items_72 ⟨(Nat.le_of_ble_eq_true rfl), (Nat.le_of_ble_eq_true rfl)⟩ (fun r_322 u H locs hw hP2 hD2 hS2 => ?_)
            clear hP hD hS
            obtain ⟨rfl, rfl⟩ := hw
            have hPD : PD D A [(Mrr, .inl (g 0, 3, .inl F_307)), (Mm, .inr (7, [.int zth, .ref Mt, .int (nI tp), .int (nI (max_313 + 1)), .int (-1), .ref Mrr, .ref Mrh, .ref Mrc, .int (nI rh), .int (nI rc), .ref Mn, .ref Mf, .ref Mr, .ref Mh, .int zhp, .int zcc, .ref Ma, .ref Mas, .ref Msn, .ref Mac, .ref Mat])), (Mt, .inl (g 0, 160, .inl fmt))] H := ⟨hP2, hD2⟩
            have hS := hS2; clear hP2 hD2 hS2; have hP := hPD.1; have hD := hPD.2; clear hPD
            refine W.widen (k := 0) (n := 0) (Nat.le_of_ble_eq_true rfl) (Nat.le_of_ble_eq_true rfl) ?_
            refine lv_iload_n hx hb dX7_items_75 rfl (lv_at hl 3 rfl) ?_
            refine lv_iload hx hb dX7_items_76 (lv_at hl 1 rfl) ?_
            refine ky_Si (As := [.int 0, .int 0]) (rest := [.int 1, .ref Mm, .int 0, .ref Mrr]) ⟨hx, hb, hml, hown, hts⟩ ⟨hK, hN⟩ hZ hP hD hS hA [] [0, 1, 2] (wc := []) (wr := [(Mrr, .inl (g 0, 3, .inl F_307)), (Mm, .inr (7, [.int zth, .ref Mt, .int (nI tp), .int (nI (max_313 + 1)), .int (-1), .ref Mrr, .ref Mrh, .ref Mrc, .int (nI rh), .int (nI rc), .ref Mn, .ref Mf, .ref Mr, .ref Mh, .int zhp, .int zcc, .ref Ma, .ref Mas, .ref Msn, .ref Mac, .ref Mat])), (Mt, .inl (g 0, 160, .inl fmt))]) rfl rfl rfl rfl (by decide) (r_X7_highest_00 l D g H.size) (va_cwS 2 hts gX7_items_X7_highest rfl rfl rfl (by decide +kernel) ⟨(Nat.le_of_ble_eq_true rfl), (Nat.le_of_ble_eq_true rfl)⟩) rfl hl.1 rfl (Nat.le_of_ble_eq_true rfl) dX7_items_78 ⟨(Nat.le_of_ble_eq_true rfl), (Nat.le_of_ble_eq_true rfl)⟩ (fun r_323 u H locs hw hP2 hD2 hS2 => ?_)
            clear hP hD hS
            obtain ⟨rfl, rfl⟩ := hw
            have hPD : PD D A [(Mrr, .inl (g 0, 3, .inl F_307)), (Mm, .inr (7, [.int zth, .ref Mt, .int (nI tp), .int (nI (max_313 + 1)), .int (-1), .ref Mrr, .ref Mrh, .ref Mrc, .int (nI rh), .int (nI rc), .ref Mn, .ref Mf, .ref Mr, .ref Mh, .int zhp, .int zcc, .ref Ma, .ref Mas, .ref Msn, .ref Mac, .ref Mat])), (Mt, .inl (g 0, 160, .inl fmt))] H := ⟨hP2, hD2⟩
            have hS := hS2; clear hP2 hD2 hS2; have hP := hPD.1; have hD := hPD.2; clear hPD
            refine W.widen (k := 0) (n := 0) (Nat.le_of_ble_eq_true rfl) (Nat.le_of_ble_eq_true rfl) ?_
            refine ky_Vi (As := [.int 1, .int 4]) (rest := [.int 0, .ref Mrr]) ⟨hx, hb, hml, hown, hts⟩ ⟨hK, hN⟩ hZ hP hD hS hA [1, 2] [0] (wc := [(Mm, .inr (7, [.int zth, .ref Mt, .int (nI tp), .int (nI (max_313 + 1)), .int (-1), .ref Mrr, .ref Mrh, .ref Mrc, .int (nI rh), .int (nI rc), .ref Mn, .ref Mf, .ref Mr, .ref Mh, .int zhp, .int zcc, .ref Ma, .ref Mas, .ref Msn, .ref Mac, .ref Mat])), (Mt, .inl (g 0, 160, .inl fmt))]) (wr := [(Mrr, .inl (g 0, 3, .inl F_307))]) rfl rfl rfl rfl (by decide) (r_X7_number l D g H.size Mm 1 4 zth Mt tp (max_313 + 1) Mrr Mrh Mrc rh rc Mn Mf Mr Mh zhp zcc Ma Mas Msn Mac Mat fmt (show tp ≤ 160 by omega) (show (max_313 + 1) ≤ tp by omega) (show 1 ≤ 1 by omega)) (cwV 2 hts gX7_items_X7_number rfl rfl rfl (by decide +kernel) ⟨(Nat.le_of_ble_eq_true rfl), (Nat.le_of_ble_eq_true rfl)⟩) 1 7 rfl rfl rfl rfl hl.1 rfl (Nat.le_of_ble_eq_true rfl) dX7_items_81 ⟨(Nat.le_of_ble_eq_true rfl), (Nat.le_of_ble_eq_true rfl)⟩ (fun r_324 u H locs hw hP2 hD2 hS2 => ?_)
            clear hP hD hS
            obtain ⟨max_325, zwrx_326, nx_327, rfl, rfl, hf_328⟩ := hw
            have hg_329 := hf_328.1
            have hg_330 := hf_328.2.1
            have hg_331 := hf_328.2.2.1
            have hPD : PD D A [(Mrr, .inl (g 0, 3, .inl F_307)), (Mm, .inr (7, [.int zth, .ref Mt, .int (nI tp), .int (nI max_325), .int zwrx_326, .ref Mrr, .ref Mrh, .ref Mrc, .int (nI rh), .int (nI rc), .ref Mn, .ref Mf, .ref Mr, .ref Mh, .int zhp, .int zcc, .ref Ma, .ref Mas, .ref Msn, .ref Mac, .ref Mat])), (Mt, .inl (g 0, 160, .inl fmt))] H := ⟨hP2, hD2⟩
            have hS := hS2; clear hP2 hD2 hS2; have hP := hPD.1; have hD := hPD.2; clear hPD
            refine W.widen (k := 0) (n := 0) (Nat.le_of_ble_eq_true rfl) (Nat.le_of_ble_eq_true rfl) ?_
            refine va_iast hx hb hK hP hD hS 0 0 rfl rfl (by unfold vp_in; decide) dX7_items_84 (fun H locs hP2 hD2 hS2 => ?_)
            clear hP hD hS
            have hPD : PD D A [(Mrr, .inl (g 0, 3, .inl (upd F_307 0 (nI nx_327)))), (Mm, .inr (7, [.int zth, .ref Mt, .int (nI tp), .int (nI max_325), .int zwrx_326, .ref Mrr, .ref Mrh, .ref Mrc, .int (nI rh), .int (nI rc), .ref Mn, .ref Mf, .ref Mr, .ref Mh, .int zhp, .int zcc, .ref Ma, .ref Mas, .ref Msn, .ref Mac, .ref Mat])), (Mt, .inl (g 0, 160, .inl fmt))] H := ⟨hP2, hD2⟩
            have hS := hS2; clear hP2 hD2 hS2; have hP := hPD.1; have hD := hPD.2; clear hPD
            have hF_332 : n1 (upd F_307 0 (nI nx_327)) := n1_upd (hF_307) (n := nx_327) (show nx_327 ≤ 99 by omega)
            generalize upd F_307 0 (nI nx_327) = F_332 at hP hD hF_332
            by_cases cw_333 : zwrx_326 = -1
            · skip
              have hPq_334 := hP; have hDq_334 := hD; have hSq_334 := hS; have hlq_334 := hl; clear hP hD hS hl
              subst cw_333
              have hP := hPq_334; have hD := hDq_334; have hS := hSq_334; have hl := hlq_334; clear hPq_334 hDq_334 hSq_334 hlq_334
              have hne_336 := hf_328.2.2.2.2 rfl
              have hR_335 : itR fmt tp 0 4 0 ma = itR fmt tp 0 1 7 max_325 := hR_310.trans ((itR_go (f := 1) (m := 6) (q := 0) hf_316 hil_320.1 hil_320.2 (by decide) (by decide) hf_328.2.2.2.1.symm).trans (by rw [hne_336]))
              refine lv_iload_n hx hb dX7_items_85 rfl (lv_at hl 3 rfl) ?_
              refine lv_aload_n hx hb dX7_items_86 rfl (lv_at hl 2 rfl) ?_
              refine ky_Vi (As := []) (rest := [.int 0]) ⟨hx, hb, hml, hown, hts⟩ ⟨hK, hN⟩ hZ hP hD hS hA [1, 2] [0] (wc := [(Mm, .inr (7, [.int zth, .ref Mt, .int (nI tp), .int (nI max_325), .int (-1), .ref Mrr, .ref Mrh, .ref Mrc, .int (nI rh), .int (nI rc), .ref Mn, .ref Mf, .ref Mr, .ref Mh, .int zhp, .int zcc, .ref Ma, .ref Mas, .ref Msn, .ref Mac, .ref Mat])), (Mt, .inl (g 0, 160, .inl fmt))]) (wr := [(Mrr, .inl (g 0, 3, .inl F_332))]) rfl rfl rfl rfl (by decide) (r_X7_ahead l D g H.size Mm zth Mt tp max_325 (-1) Mrr Mrh Mrc rh rc Mn Mf Mr Mh zhp zcc Ma Mas Msn Mac Mat fmt (show tp ≤ 160 by omega) (show max_325 ≤ tp by omega)) (cwV 0 hts gX7_items_X7_ahead rfl rfl rfl (by decide +kernel) ⟨(Nat.le_of_ble_eq_true rfl), (Nat.le_of_ble_eq_true rfl)⟩) 1 7 rfl rfl rfl rfl hl.1 rfl (Nat.le_of_ble_eq_true rfl) dX7_items_87 ⟨(Nat.le_of_ble_eq_true rfl), (Nat.le_of_ble_eq_true rfl)⟩ (fun r_337 u H locs hw hP2 hD2 hS2 => ?_)
              clear hP hD hS
              obtain ⟨max_338, rfl, rfl, hf_339, hf_340, hf_341⟩ := hw
              have hPD : PD D A [(Mrr, .inl (g 0, 3, .inl F_332)), (Mm, .inr (7, [.int zth, .ref Mt, .int (nI tp), .int (nI max_338), .int (-1), .ref Mrr, .ref Mrh, .ref Mrc, .int (nI rh), .int (nI rc), .ref Mn, .ref Mf, .ref Mr, .ref Mh, .int zhp, .int zcc, .ref Ma, .ref Mas, .ref Msn, .ref Mac, .ref Mat])), (Mt, .inl (g 0, 160, .inl fmt))] H := ⟨hP2, hD2⟩
              have hS := hS2; clear hP2 hD2 hS2; have hP := hPD.1; have hD := hPD.2; clear hPD
              refine W.widen (k := 0) (n := 0) (Nat.le_of_ble_eq_true rfl) (Nat.le_of_ble_eq_true rfl) ?_
              refine lv_topi (fun y_342 hey_342 => ?_)
              refine ky_Si (As := [.int 0, .int y_342]) (rest := []) ⟨hx, hb, hml, hown, hts⟩ ⟨hK, hN⟩ hZ hP hD hS hA [] [0, 1, 2] (wc := []) (wr := [(Mrr, .inl (g 0, 3, .inl F_332)), (Mm, .inr (7, [.int zth, .ref Mt, .int (nI tp), .int (nI max_338), .int (-1), .ref Mrr, .ref Mrh, .ref Mrc, .int (nI rh), .int (nI rc), .ref Mn, .ref Mf, .ref Mr, .ref Mh, .int zhp, .int zcc, .ref Ma, .ref Mas, .ref Msn, .ref Mac, .ref Mat])), (Mt, .inl (g 0, 160, .inl fmt))]) rfl rfl rfl rfl (by decide) (r_X7_itemBy_0 l D g H.size y_342) (va_cwS 2 hts gX7_items_X7_itemBy rfl rfl rfl (by decide +kernel) ⟨(Nat.le_of_ble_eq_true rfl), (Nat.le_of_ble_eq_true rfl)⟩) rfl hl.1 rfl (Nat.le_of_ble_eq_true rfl) dX7_items_90 ⟨(Nat.le_of_ble_eq_true rfl), (Nat.le_of_ble_eq_true rfl)⟩ (fun r_343 u H locs hw hP2 hD2 hS2 => ?_)
              clear hP hD hS
              obtain ⟨rfl, rfl⟩ := hw
              have hPD : PD D A [(Mrr, .inl (g 0, 3, .inl F_332)), (Mm, .inr (7, [.int zth, .ref Mt, .int (nI tp), .int (nI max_338), .int (-1), .ref Mrr, .ref Mrh, .ref Mrc, .int (nI rh), .int (nI rc), .ref Mn, .ref Mf, .ref Mr, .ref Mh, .int zhp, .int zcc, .ref Ma, .ref Mas, .ref Msn, .ref Mac, .ref Mat])), (Mt, .inl (g 0, 160, .inl fmt))] H := ⟨hP2, hD2⟩
              have hS := hS2; clear hP2 hD2 hS2; have hP := hPD.1; have hD := hPD.2; clear hPD
              refine W.widen (k := 0) (n := 0) (Nat.le_of_ble_eq_true rfl) (Nat.le_of_ble_eq_true rfl) ?_
              rcases itK_c 0 y_342 with qi_344 | qi_344 | qi_344 | qi_344
              · skip
                refine lv_eqi (y := (-1)) (qi_344) ?_
                refine lv_istore (lv' := [(5, .int (-1)), (4, .int 7), (0, .ref Mm), (1, .int 0), (2, .ref Mrr), (3, .int 0)]) hx hb dX7_items_93 hl (by decide) rfl (fun ls hl => ?_)
                refine lv_goto (tgt := 20) hx hb dX7_items_95 (by decide) ?_
                refine lv_aload_n hx hb dX7_items_20 rfl (lv_at hl 2 rfl) ?_
                refine va_get (D := D) (ci := 7) (v := .int (-1)) (C := RX7) (T := TX7) (N := 21) hx hb hts iX7 hown hK hP 1 rfl rfl 4 (by decide) f71 (fun _ h9 => h9) rfl dX7_items_21 ?_
                refine lv_iconst (v := (-1)) hx hb dX7_items_24 (by decide) ?_
                refine lv_icmp_ne (tgt := 98) hx hb dX7_items_25 (by decide) (fun cb => absurd (by decide) cb) (fun _ => ?_)
                refine lv_iload hx hb dX7_items_28 (lv_at hl 0 rfl) ?_
                refine lv_iconst (v := (-1)) hx hb dX7_items_30 (by decide) ?_
                refine lv_icmp_eq (tgt := 98) hx hb dX7_items_31 (by decide) (fun _ => ?_) (fun cb => absurd (by decide) cb)
                have hPD9 : PD D A [(Mm, .inr (7, [.int zth, .ref Mt, .int (nI tp), .int (nI max_338), .int (-1), .ref Mrr, .ref Mrh, .ref Mrc, .int (nI rh), .int (nI rc), .ref Mn, .ref Mf, .ref Mr, .ref Mh, .int zhp, .int zcc, .ref Ma, .ref Mas, .ref Msn, .ref Mac, .ref Mat])), (Mt, .inl (g 0, 160, .inl fmt)), (Mrr, .inl (g 0, 3, .inl F_332))] H := ⟨hP.sub [1, 2, 0] rfl, hD.sub [1, 2, 0] (by decide) rfl⟩
                have hP9 := hPD9.1; have hD9 := hPD9.2
                subst hQ
                refine W.widen (k := 0) (n := 0) (Nat.le_of_ble_eq_true rfl) (Nat.le_of_ble_eq_true rfl) ?_
                exact W.vret hx hb hr (fun tS htS _ => ⟨⟨_, rfl, ⟨max_338, (-1), F_332, rfl, ⟨(hF_332), (show max_338 ≤ tp by omega), (show ma ≤ max_338 by omega), (congrArg Prod.fst (hR_335.trans (iv_m (f := 0) (m := 7) hf_341 hey_342.symm qi_344))).symm, (fun _ => (congrArg Prod.snd (hR_335.trans (iv_m (f := 0) (m := 7) hf_341 hey_342.symm qi_344))).symm)⟩⟩, by rw [htS]; exact hP9, hD9⟩, hS.F htS⟩) hS.2.2 dX7_items_98
              · skip
                refine lv_eqi (y := 0) (qi_344) ?_
                have hil_345 := iv_lt (k := 0) (q := 0) hey_342.symm qi_344 (by decide); have hil_345a := hil_345.1
                refine lv_istore (lv' := [(5, .int 0), (4, .int 7), (0, .ref Mm), (1, .int 0), (2, .ref Mrr), (3, .int 0)]) hx hb dX7_items_93 hl (by decide) rfl (fun ls hl => ?_)
                refine lv_goto (tgt := 20) hx hb dX7_items_95 (by decide) ?_
                refine lv_aload_n hx hb dX7_items_20 rfl (lv_at hl 2 rfl) ?_
                refine va_get (D := D) (ci := 7) (v := .int (-1)) (C := RX7) (T := TX7) (N := 21) hx hb hts iX7 hown hK hP 1 rfl rfl 4 (by decide) f71 (fun _ h9 => h9) rfl dX7_items_21 ?_
                refine lv_iconst (v := (-1)) hx hb dX7_items_24 (by decide) ?_
                refine lv_icmp_ne (tgt := 98) hx hb dX7_items_25 (by decide) (fun cb => absurd (by decide) cb) (fun _ => ?_)
                refine lv_iload hx hb dX7_items_28 (lv_at hl 0 rfl) ?_
                refine lv_iconst (v := (-1)) hx hb dX7_items_30 (by decide) ?_
                refine lv_icmp_eq (tgt := 98) hx hb dX7_items_31 (by decide) (fun cb => absurd cb (by decide)) (fun _ => ?_)
                refine lv_iload hx hb dX7_items_34 (lv_at hl 1 rfl) ?_
                refine lv_iload hx hb dX7_items_36 (lv_at hl 0 rfl) ?_
                refine ky_Si (As := [.int 7, .int 0]) (rest := []) ⟨hx, hb, hml, hown, hts⟩ ⟨hK, hN⟩ hZ hP hD hS hA [] [0, 1, 2] (wc := []) (wr := [(Mrr, .inl (g 0, 3, .inl F_332)), (Mm, .inr (7, [.int zth, .ref Mt, .int (nI tp), .int (nI max_338), .int (-1), .ref Mrr, .ref Mrh, .ref Mrc, .int (nI rh), .int (nI rc), .ref Mn, .ref Mf, .ref Mr, .ref Mh, .int zhp, .int zcc, .ref Ma, .ref Mas, .ref Msn, .ref Mac, .ref Mat])), (Mt, .inl (g 0, 160, .inl fmt))]) rfl rfl rfl rfl (by decide) (r_X7_has_70 l D g H.size) (va_cwS 2 hts gX7_items_X7_has rfl rfl rfl (by decide +kernel) ⟨(Nat.le_of_ble_eq_true rfl), (Nat.le_of_ble_eq_true rfl)⟩) rfl hl.1 rfl (Nat.le_of_ble_eq_true rfl) dX7_items_38 ⟨(Nat.le_of_ble_eq_true rfl), (Nat.le_of_ble_eq_true rfl)⟩ (fun r_346 u H locs hw hP2 hD2 hS2 => ?_)
                clear hP hD hS
                obtain ⟨rfl, rfl⟩ := hw
                have hPD : PD D A [(Mrr, .inl (g 0, 3, .inl F_332)), (Mm, .inr (7, [.int zth, .ref Mt, .int (nI tp), .int (nI max_338), .int (-1), .ref Mrr, .ref Mrh, .ref Mrc, .int (nI rh), .int (nI rc), .ref Mn, .ref Mf, .ref Mr, .ref Mh, .int zhp, .int zcc, .ref Ma, .ref Mas, .ref Msn, .ref Mac, .ref Mat])), (Mt, .inl (g 0, 160, .inl fmt))] H := ⟨hP2, hD2⟩
                have hS := hS2; clear hP2 hD2 hS2; have hP := hPD.1; have hD := hPD.2; clear hPD
                refine W.widen (k := 0) (n := 0) (Nat.le_of_ble_eq_true rfl) (Nat.le_of_ble_eq_true rfl) ?_
                refine lv_if_ne (tgt := 98) hx hb dX7_items_41 (by decide) (fun _ => ?_) (fun cb => absurd cb (by decide))
                have hPD9 : PD D A [(Mm, .inr (7, [.int zth, .ref Mt, .int (nI tp), .int (nI max_338), .int (-1), .ref Mrr, .ref Mrh, .ref Mrc, .int (nI rh), .int (nI rc), .ref Mn, .ref Mf, .ref Mr, .ref Mh, .int zhp, .int zcc, .ref Ma, .ref Mas, .ref Msn, .ref Mac, .ref Mat])), (Mt, .inl (g 0, 160, .inl fmt)), (Mrr, .inl (g 0, 3, .inl F_332))] H := ⟨hP.sub [1, 2, 0] rfl, hD.sub [1, 2, 0] (by decide) rfl⟩
                have hP9 := hPD9.1; have hD9 := hPD9.2
                subst hQ
                refine W.widen (k := 0) (n := 0) (Nat.le_of_ble_eq_true rfl) (Nat.le_of_ble_eq_true rfl) ?_
                exact W.vret hx hb hr (fun tS htS _ => ⟨⟨_, rfl, ⟨max_338, (-1), F_332, rfl, ⟨(hF_332), (show max_338 ≤ tp by omega), (show ma ≤ max_338 by omega), (congrArg Prod.fst (hR_335.trans (itR_again (f := 0) (m := 7) (q := 0) hf_341 hil_345.2 (by decide) (by decide)))).symm, (fun _ => (congrArg Prod.snd (hR_335.trans (itR_again (f := 0) (m := 7) (q := 0) hf_341 hil_345.2 (by decide) (by decide)))).symm)⟩⟩, by rw [htS]; exact hP9, hD9⟩, hS.F htS⟩) hS.2.2 dX7_items_98
              · skip
                refine lv_eqi (y := 1) (qi_344) ?_
                have hil_347 := iv_lt (k := 0) (q := 1) hey_342.symm qi_344 (by decide); have hil_347a := hil_347.1
                refine lv_istore (lv' := [(5, .int 1), (4, .int 7), (0, .ref Mm), (1, .int 0), (2, .ref Mrr), (3, .int 0)]) hx hb dX7_items_93 hl (by decide) rfl (fun ls hl => ?_)
                refine lv_goto (tgt := 20) hx hb dX7_items_95 (by decide) ?_
                refine lv_aload_n hx hb dX7_items_20 rfl (lv_at hl 2 rfl) ?_
                refine va_get (D := D) (ci := 7) (v := .int (-1)) (C := RX7) (T := TX7) (N := 21) hx hb hts iX7 hown hK hP 1 rfl rfl 4 (by decide) f71 (fun _ h9 => h9) rfl dX7_items_21 ?_
                refine lv_iconst (v := (-1)) hx hb dX7_items_24 (by decide) ?_
                refine lv_icmp_ne (tgt := 98) hx hb dX7_items_25 (by decide) (fun cb => absurd (by decide) cb) (fun _ => ?_)
                refine lv_iload hx hb dX7_items_28 (lv_at hl 0 rfl) ?_
                refine lv_iconst (v := (-1)) hx hb dX7_items_30 (by decide) ?_
                refine lv_icmp_eq (tgt := 98) hx hb dX7_items_31 (by decide) (fun cb => absurd cb (by decide)) (fun _ => ?_)
                refine lv_iload hx hb dX7_items_34 (lv_at hl 1 rfl) ?_
                refine lv_iload hx hb dX7_items_36 (lv_at hl 0 rfl) ?_
                refine ky_Si (As := [.int 7, .int 1]) (rest := []) ⟨hx, hb, hml, hown, hts⟩ ⟨hK, hN⟩ hZ hP hD hS hA [] [0, 1, 2] (wc := []) (wr := [(Mrr, .inl (g 0, 3, .inl F_332)), (Mm, .inr (7, [.int zth, .ref Mt, .int (nI tp), .int (nI max_338), .int (-1), .ref Mrr, .ref Mrh, .ref Mrc, .int (nI rh), .int (nI rc), .ref Mn, .ref Mf, .ref Mr, .ref Mh, .int zhp, .int zcc, .ref Ma, .ref Mas, .ref Msn, .ref Mac, .ref Mat])), (Mt, .inl (g 0, 160, .inl fmt))]) rfl rfl rfl rfl (by decide) (r_X7_has_71 l D g H.size) (va_cwS 2 hts gX7_items_X7_has rfl rfl rfl (by decide +kernel) ⟨(Nat.le_of_ble_eq_true rfl), (Nat.le_of_ble_eq_true rfl)⟩) rfl hl.1 rfl (Nat.le_of_ble_eq_true rfl) dX7_items_38 ⟨(Nat.le_of_ble_eq_true rfl), (Nat.le_of_ble_eq_true rfl)⟩ (fun r_348 u H locs hw hP2 hD2 hS2 => ?_)
                clear hP hD hS
                obtain ⟨rfl, rfl⟩ := hw
                have hPD : PD D A [(Mrr, .inl (g 0, 3, .inl F_332)), (Mm, .inr (7, [.int zth, .ref Mt, .int (nI tp), .int (nI max_338), .int (-1), .ref Mrr, .ref Mrh, .ref Mrc, .int (nI rh), .int (nI rc), .ref Mn, .ref Mf, .ref Mr, .ref Mh, .int zhp, .int zcc, .ref Ma, .ref Mas, .ref Msn, .ref Mac, .ref Mat])), (Mt, .inl (g 0, 160, .inl fmt))] H := ⟨hP2, hD2⟩
                have hS := hS2; clear hP2 hD2 hS2; have hP := hPD.1; have hD := hPD.2; clear hPD
                refine W.widen (k := 0) (n := 0) (Nat.le_of_ble_eq_true rfl) (Nat.le_of_ble_eq_true rfl) ?_
                refine lv_if_ne (tgt := 98) hx hb dX7_items_41 (by decide) (fun _ => ?_) (fun cb => absurd cb (by decide))
                have hPD9 : PD D A [(Mm, .inr (7, [.int zth, .ref Mt, .int (nI tp), .int (nI max_338), .int (-1), .ref Mrr, .ref Mrh, .ref Mrc, .int (nI rh), .int (nI rc), .ref Mn, .ref Mf, .ref Mr, .ref Mh, .int zhp, .int zcc, .ref Ma, .ref Mas, .ref Msn, .ref Mac, .ref Mat])), (Mt, .inl (g 0, 160, .inl fmt)), (Mrr, .inl (g 0, 3, .inl F_332))] H := ⟨hP.sub [1, 2, 0] rfl, hD.sub [1, 2, 0] (by decide) rfl⟩
                have hP9 := hPD9.1; have hD9 := hPD9.2
                subst hQ
                refine W.widen (k := 0) (n := 0) (Nat.le_of_ble_eq_true rfl) (Nat.le_of_ble_eq_true rfl) ?_
                exact W.vret hx hb hr (fun tS htS _ => ⟨⟨_, rfl, ⟨max_338, (-1), F_332, rfl, ⟨(hF_332), (show max_338 ≤ tp by omega), (show ma ≤ max_338 by omega), (congrArg Prod.fst (hR_335.trans (itR_again (f := 0) (m := 7) (q := 1) hf_341 hil_347.2 (by decide) (by decide)))).symm, (fun _ => (congrArg Prod.snd (hR_335.trans (itR_again (f := 0) (m := 7) (q := 1) hf_341 hil_347.2 (by decide) (by decide)))).symm)⟩⟩, by rw [htS]; exact hP9, hD9⟩, hS.F htS⟩) hS.2.2 dX7_items_98
              · skip
                refine lv_eqi (y := 2) (qi_344) ?_
                have hil_349 := iv_lt (k := 0) (q := 2) hey_342.symm qi_344 (by decide); have hil_349a := hil_349.1
                refine lv_istore (lv' := [(5, .int 2), (4, .int 7), (0, .ref Mm), (1, .int 0), (2, .ref Mrr), (3, .int 0)]) hx hb dX7_items_93 hl (by decide) rfl (fun ls hl => ?_)
                refine lv_goto (tgt := 20) hx hb dX7_items_95 (by decide) ?_
                refine lv_aload_n hx hb dX7_items_20 rfl (lv_at hl 2 rfl) ?_
                refine va_get (D := D) (ci := 7) (v := .int (-1)) (C := RX7) (T := TX7) (N := 21) hx hb hts iX7 hown hK hP 1 rfl rfl 4 (by decide) f71 (fun _ h9 => h9) rfl dX7_items_21 ?_
                refine lv_iconst (v := (-1)) hx hb dX7_items_24 (by decide) ?_
                refine lv_icmp_ne (tgt := 98) hx hb dX7_items_25 (by decide) (fun cb => absurd (by decide) cb) (fun _ => ?_)
                refine lv_iload hx hb dX7_items_28 (lv_at hl 0 rfl) ?_
                refine lv_iconst (v := (-1)) hx hb dX7_items_30 (by decide) ?_
                refine lv_icmp_eq (tgt := 98) hx hb dX7_items_31 (by decide) (fun cb => absurd cb (by decide)) (fun _ => ?_)
                refine lv_iload hx hb dX7_items_34 (lv_at hl 1 rfl) ?_
                refine lv_iload hx hb dX7_items_36 (lv_at hl 0 rfl) ?_
                refine ky_Si (As := [.int 7, .int 2]) (rest := []) ⟨hx, hb, hml, hown, hts⟩ ⟨hK, hN⟩ hZ hP hD hS hA [] [0, 1, 2] (wc := []) (wr := [(Mrr, .inl (g 0, 3, .inl F_332)), (Mm, .inr (7, [.int zth, .ref Mt, .int (nI tp), .int (nI max_338), .int (-1), .ref Mrr, .ref Mrh, .ref Mrc, .int (nI rh), .int (nI rc), .ref Mn, .ref Mf, .ref Mr, .ref Mh, .int zhp, .int zcc, .ref Ma, .ref Mas, .ref Msn, .ref Mac, .ref Mat])), (Mt, .inl (g 0, 160, .inl fmt))]) rfl rfl rfl rfl (by decide) (r_X7_has_72 l D g H.size) (va_cwS 2 hts gX7_items_X7_has rfl rfl rfl (by decide +kernel) ⟨(Nat.le_of_ble_eq_true rfl), (Nat.le_of_ble_eq_true rfl)⟩) rfl hl.1 rfl (Nat.le_of_ble_eq_true rfl) dX7_items_38 ⟨(Nat.le_of_ble_eq_true rfl), (Nat.le_of_ble_eq_true rfl)⟩ (fun r_350 u H locs hw hP2 hD2 hS2 => ?_)
                clear hP hD hS
                obtain ⟨rfl, rfl⟩ := hw
                have hPD : PD D A [(Mrr, .inl (g 0, 3, .inl F_332)), (Mm, .inr (7, [.int zth, .ref Mt, .int (nI tp), .int (nI max_338), .int (-1), .ref Mrr, .ref Mrh, .ref Mrc, .int (nI rh), .int (nI rc), .ref Mn, .ref Mf, .ref Mr, .ref Mh, .int zhp, .int zcc, .ref Ma, .ref Mas, .ref Msn, .ref Mac, .ref Mat])), (Mt, .inl (g 0, 160, .inl fmt))] H := ⟨hP2, hD2⟩
                have hS := hS2; clear hP2 hD2 hS2; have hP := hPD.1; have hD := hPD.2; clear hPD
                refine W.widen (k := 0) (n := 0) (Nat.le_of_ble_eq_true rfl) (Nat.le_of_ble_eq_true rfl) ?_
                refine lv_if_ne (tgt := 98) hx hb dX7_items_41 (by decide) (fun _ => ?_) (fun cb => absurd cb (by decide))
                have hPD9 : PD D A [(Mm, .inr (7, [.int zth, .ref Mt, .int (nI tp), .int (nI max_338), .int (-1), .ref Mrr, .ref Mrh, .ref Mrc, .int (nI rh), .int (nI rc), .ref Mn, .ref Mf, .ref Mr, .ref Mh, .int zhp, .int zcc, .ref Ma, .ref Mas, .ref Msn, .ref Mac, .ref Mat])), (Mt, .inl (g 0, 160, .inl fmt)), (Mrr, .inl (g 0, 3, .inl F_332))] H := ⟨hP.sub [1, 2, 0] rfl, hD.sub [1, 2, 0] (by decide) rfl⟩
                have hP9 := hPD9.1; have hD9 := hPD9.2
                subst hQ
                refine W.widen (k := 0) (n := 0) (Nat.le_of_ble_eq_true rfl) (Nat.le_of_ble_eq_true rfl) ?_
                exact W.vret hx hb hr (fun tS htS _ => ⟨⟨_, rfl, ⟨max_338, (-1), F_332, rfl, ⟨(hF_332), (show max_338 ≤ tp by omega), (show ma ≤ max_338 by omega), (congrArg Prod.fst (hR_335.trans (itR_again (f := 0) (m := 7) (q := 2) hf_341 hil_349.2 (by decide) (by decide)))).symm, (fun _ => (congrArg Prod.snd (hR_335.trans (itR_again (f := 0) (m := 7) (q := 2) hf_341 hil_349.2 (by decide) (by decide)))).symm)⟩⟩, by rw [htS]; exact hP9, hD9⟩, hS.F htS⟩) hS.2.2 dX7_items_98
            · skip
              refine lv_iload_n hx hb dX7_items_85 rfl (lv_at hl 3 rfl) ?_
              refine lv_aload_n hx hb dX7_items_86 rfl (lv_at hl 2 rfl) ?_
              refine ky_Vi (As := []) (rest := [.int 0]) ⟨hx, hb, hml, hown, hts⟩ ⟨hK, hN⟩ hZ hP hD hS hA [1, 2] [0] (wc := [(Mm, .inr (7, [.int zth, .ref Mt, .int (nI tp), .int (nI max_325), .int zwrx_326, .ref Mrr, .ref Mrh, .ref Mrc, .int (nI rh), .int (nI rc), .ref Mn, .ref Mf, .ref Mr, .ref Mh, .int zhp, .int zcc, .ref Ma, .ref Mas, .ref Msn, .ref Mac, .ref Mat])), (Mt, .inl (g 0, 160, .inl fmt))]) (wr := [(Mrr, .inl (g 0, 3, .inl F_332))]) rfl rfl rfl rfl (by decide) (r_X7_ahead l D g H.size Mm zth Mt tp max_325 zwrx_326 Mrr Mrh Mrc rh rc Mn Mf Mr Mh zhp zcc Ma Mas Msn Mac Mat fmt (show tp ≤ 160 by omega) (show max_325 ≤ tp by omega)) (cwV 0 hts gX7_items_X7_ahead rfl rfl rfl (by decide +kernel) ⟨(Nat.le_of_ble_eq_true rfl), (Nat.le_of_ble_eq_true rfl)⟩) 1 7 rfl rfl rfl rfl hl.1 rfl (Nat.le_of_ble_eq_true rfl) dX7_items_87 ⟨(Nat.le_of_ble_eq_true rfl), (Nat.le_of_ble_eq_true rfl)⟩ (fun r_351 u H locs hw hP2 hD2 hS2 => ?_)
              clear hP hD hS
              obtain ⟨max_352, rfl, rfl, hf_353, hf_354, hf_355⟩ := hw
              have hPD : PD D A [(Mrr, .inl (g 0, 3, .inl F_332)), (Mm, .inr (7, [.int zth, .ref Mt, .int (nI tp), .int (nI max_352), .int zwrx_326, .ref Mrr, .ref Mrh, .ref Mrc, .int (nI rh), .int (nI rc), .ref Mn, .ref Mf, .ref Mr, .ref Mh, .int zhp, .int zcc, .ref Ma, .ref Mas, .ref Msn, .ref Mac, .ref Mat])), (Mt, .inl (g 0, 160, .inl fmt))] H := ⟨hP2, hD2⟩
              have hS := hS2; clear hP2 hD2 hS2; have hP := hPD.1; have hD := hPD.2; clear hPD
              refine W.widen (k := 0) (n := 0) (Nat.le_of_ble_eq_true rfl) (Nat.le_of_ble_eq_true rfl) ?_
              refine lv_topi (fun y_356 hey_356 => ?_)
              refine ky_Si (As := [.int 0, .int y_356]) (rest := []) ⟨hx, hb, hml, hown, hts⟩ ⟨hK, hN⟩ hZ hP hD hS hA [] [0, 1, 2] (wc := []) (wr := [(Mrr, .inl (g 0, 3, .inl F_332)), (Mm, .inr (7, [.int zth, .ref Mt, .int (nI tp), .int (nI max_352), .int zwrx_326, .ref Mrr, .ref Mrh, .ref Mrc, .int (nI rh), .int (nI rc), .ref Mn, .ref Mf, .ref Mr, .ref Mh, .int zhp, .int zcc, .ref Ma, .ref Mas, .ref Msn, .ref Mac, .ref Mat])), (Mt, .inl (g 0, 160, .inl fmt))]) rfl rfl rfl rfl (by decide) (r_X7_itemBy_0 l D g H.size y_356) (va_cwS 2 hts gX7_items_X7_itemBy rfl rfl rfl (by decide +kernel) ⟨(Nat.le_of_ble_eq_true rfl), (Nat.le_of_ble_eq_true rfl)⟩) rfl hl.1 rfl (Nat.le_of_ble_eq_true rfl) dX7_items_90 ⟨(Nat.le_of_ble_eq_true rfl), (Nat.le_of_ble_eq_true rfl)⟩ (fun r_357 u H locs hw hP2 hD2 hS2 => ?_)
              clear hP hD hS
              obtain ⟨rfl, rfl⟩ := hw
              have hPD : PD D A [(Mrr, .inl (g 0, 3, .inl F_332)), (Mm, .inr (7, [.int zth, .ref Mt, .int (nI tp), .int (nI max_352), .int zwrx_326, .ref Mrr, .ref Mrh, .ref Mrc, .int (nI rh), .int (nI rc), .ref Mn, .ref Mf, .ref Mr, .ref Mh, .int zhp, .int zcc, .ref Ma, .ref Mas, .ref Msn, .ref Mac, .ref Mat])), (Mt, .inl (g 0, 160, .inl fmt))] H := ⟨hP2, hD2⟩
              have hS := hS2; clear hP2 hD2 hS2; have hP := hPD.1; have hD := hPD.2; clear hPD
              refine W.widen (k := 0) (n := 0) (Nat.le_of_ble_eq_true rfl) (Nat.le_of_ble_eq_true rfl) ?_
              refine lv_istore (lv' := [(5, .int (itK 0 y_356)), (4, .int 7), (0, .ref Mm), (1, .int 0), (2, .ref Mrr), (3, .int 0)]) hx hb dX7_items_93 hl (by decide) rfl (fun ls hl => ?_)
              refine lv_goto (tgt := 20) hx hb dX7_items_95 (by decide) ?_
              refine lv_aload_n hx hb dX7_items_20 rfl (lv_at hl 2 rfl) ?_
              refine va_get (D := D) (ci := 7) (v := .int zwrx_326) (C := RX7) (T := TX7) (N := 21) hx hb hts iX7 hown hK hP 1 rfl rfl 4 (by decide) f71 (fun _ h9 => h9) rfl dX7_items_21 ?_
              refine lv_iconst (v := (-1)) hx hb dX7_items_24 (by decide) ?_
              refine lv_icmp_ne (tgt := 98) hx hb dX7_items_25 (by decide) (fun _ => ?_) (fun cb => absurd cb (cw_333))
              have hPD9 : PD D A [(Mm, .inr (7, [.int zth, .ref Mt, .int (nI tp), .int (nI max_352), .int zwrx_326, .ref Mrr, .ref Mrh, .ref Mrc, .int (nI rh), .int (nI rc), .ref Mn, .ref Mf, .ref Mr, .ref Mh, .int zhp, .int zcc, .ref Ma, .ref Mas, .ref Msn, .ref Mac, .ref Mat])), (Mt, .inl (g 0, 160, .inl fmt)), (Mrr, .inl (g 0, 3, .inl F_332))] H := ⟨hP.sub [1, 2, 0] rfl, hD.sub [1, 2, 0] (by decide) rfl⟩
              have hP9 := hPD9.1; have hD9 := hPD9.2
              subst hQ
              refine W.widen (k := 0) (n := 0) (Nat.le_of_ble_eq_true rfl) (Nat.le_of_ble_eq_true rfl) ?_
              exact W.vret hx hb hr (fun tS htS _ => ⟨⟨_, rfl, ⟨max_352, zwrx_326, F_332, rfl, ⟨(hF_332), (show max_352 ≤ tp by omega), (show ma ≤ max_352 by omega), ((congrArg Prod.fst hR_310).trans ((itR_w (f := 1) (m := 6) (q := 0) hf_316 hil_320.1 hil_320.2 (by decide) (by decide) (fun q => cw_333 (hf_328.2.2.2.1.trans q))).trans hf_328.2.2.2.1.symm)).symm, (fun q => absurd q cw_333)⟩⟩, by rw [htS]; exact hP9, hD9⟩, hS.F htS⟩) hS.2.2 dX7_items_98
          · skip
            refine lv_eqi (y := 1) (qi_319) ?_
            have hil_358 := iv_lt (k := 0) (q := 1) hey_317.symm qi_319 (by decide); have hil_358a := hil_358.1
            refine lv_istore (lv' := [(5, .int 1), (4, .int 6), (0, .ref Mm), (1, .int 0), (2, .ref Mrr), (3, .int 0)]) hx hb dX7_items_93 hl (by decide) rfl (fun ls hl => ?_)
            refine lv_goto (tgt := 20) hx hb dX7_items_95 (by decide) ?_
            refine lv_aload_n hx hb dX7_items_20 rfl (lv_at hl 2 rfl) ?_
            refine va_get (D := D) (ci := 7) (v := .int (-1)) (C := RX7) (T := TX7) (N := 21) hx hb hts iX7 hown hK hP 1 rfl rfl 4 (by decide) f71 (fun _ h9 => h9) rfl dX7_items_21 ?_
            refine lv_iconst (v := (-1)) hx hb dX7_items_24 (by decide) ?_
            refine lv_icmp_ne (tgt := 98) hx hb dX7_items_25 (by decide) (fun cb => absurd (by decide) cb) (fun _ => ?_)
            refine lv_iload hx hb dX7_items_28 (lv_at hl 0 rfl) ?_
            refine lv_iconst (v := (-1)) hx hb dX7_items_30 (by decide) ?_
            refine lv_icmp_eq (tgt := 98) hx hb dX7_items_31 (by decide) (fun cb => absurd cb (by decide)) (fun _ => ?_)
            refine lv_iload hx hb dX7_items_34 (lv_at hl 1 rfl) ?_
            refine lv_iload hx hb dX7_items_36 (lv_at hl 0 rfl) ?_
            refine ky_Si (As := [.int 6, .int 1]) (rest := []) ⟨hx, hb, hml, hown, hts⟩ ⟨hK, hN⟩ hZ hP hD hS hA [] [0, 1, 2] (wc := []) (wr := [(Mrr, .inl (g 0, 3, .inl F_307)), (Mm, .inr (7, [.int zth, .ref Mt, .int (nI tp), .int (nI max_313), .int (-1), .ref Mrr, .ref Mrh, .ref Mrc, .int (nI rh), .int (nI rc), .ref Mn, .ref Mf, .ref Mr, .ref Mh, .int zhp, .int zcc, .ref Ma, .ref Mas, .ref Msn, .ref Mac, .ref Mat])), (Mt, .inl (g 0, 160, .inl fmt))]) rfl rfl rfl rfl (by decide) (r_X7_has_61 l D g H.size) (va_cwS 2 hts gX7_items_X7_has rfl rfl rfl (by decide +kernel) ⟨(Nat.le_of_ble_eq_true rfl), (Nat.le_of_ble_eq_true rfl)⟩) rfl hl.1 rfl (Nat.le_of_ble_eq_true rfl) dX7_items_38 ⟨(Nat.le_of_ble_eq_true rfl), (Nat.le_of_ble_eq_true rfl)⟩ (fun r_359 u H locs hw hP2 hD2 hS2 => ?_)
            clear hP hD hS
            obtain ⟨rfl, rfl⟩ := hw
            have hPD : PD D A [(Mrr, .inl (g 0, 3, .inl F_307)), (Mm, .inr (7, [.int zth, .ref Mt, .int (nI tp), .int (nI max_313), .int (-1), .ref Mrr, .ref Mrh, .ref Mrc, .int (nI rh), .int (nI rc), .ref Mn, .ref Mf, .ref Mr, .ref Mh, .int zhp, .int zcc, .ref Ma, .ref Mas, .ref Msn, .ref Mac, .ref Mat])), (Mt, .inl (g 0, 160, .inl fmt))] H := ⟨hP2, hD2⟩
            have hS := hS2; clear hP2 hD2 hS2; have hP := hPD.1; have hD := hPD.2; clear hPD
            refine W.widen (k := 0) (n := 0) (Nat.le_of_ble_eq_true rfl) (Nat.le_of_ble_eq_true rfl) ?_
            refine lv_if_ne (tgt := 98) hx hb dX7_items_41 (by decide) (fun _ => ?_) (fun cb => absurd cb (by decide))
            have hPD9 : PD D A [(Mm, .inr (7, [.int zth, .ref Mt, .int (nI tp), .int (nI max_313), .int (-1), .ref Mrr, .ref Mrh, .ref Mrc, .int (nI rh), .int (nI rc), .ref Mn, .ref Mf, .ref Mr, .ref Mh, .int zhp, .int zcc, .ref Ma, .ref Mas, .ref Msn, .ref Mac, .ref Mat])), (Mt, .inl (g 0, 160, .inl fmt)), (Mrr, .inl (g 0, 3, .inl F_307))] H := ⟨hP.sub [1, 2, 0] rfl, hD.sub [1, 2, 0] (by decide) rfl⟩
            have hP9 := hPD9.1; have hD9 := hPD9.2
            subst hQ
            refine W.widen (k := 0) (n := 0) (Nat.le_of_ble_eq_true rfl) (Nat.le_of_ble_eq_true rfl) ?_
            exact W.vret hx hb hr (fun tS htS _ => ⟨⟨_, rfl, ⟨max_313, (-1), F_307, rfl, ⟨(hF_307), (show max_313 ≤ tp by omega), (show ma ≤ max_313 by omega), (congrArg Prod.fst (hR_310.trans (itR_again (f := 1) (m := 6) (q := 1) hf_316 hil_358.2 (by decide) (by decide)))).symm, (fun _ => (congrArg Prod.snd (hR_310.trans (itR_again (f := 1) (m := 6) (q := 1) hf_316 hil_358.2 (by decide) (by decide)))).symm)⟩⟩, by rw [htS]; exact hP9, hD9⟩, hS.F htS⟩) hS.2.2 dX7_items_98
          · skip
            refine lv_eqi (y := 2) (qi_319) ?_
            have hil_360 := iv_lt (k := 0) (q := 2) hey_317.symm qi_319 (by decide); have hil_360a := hil_360.1
            refine lv_istore (lv' := [(5, .int 2), (4, .int 6), (0, .ref Mm), (1, .int 0), (2, .ref Mrr), (3, .int 0)]) hx hb dX7_items_93 hl (by decide) rfl (fun ls hl => ?_)
            refine lv_goto (tgt := 20) hx hb dX7_items_95 (by decide) ?_
            refine lv_aload_n hx hb dX7_items_20 rfl (lv_at hl 2 rfl) ?_
            refine va_get (D := D) (ci := 7) (v := .int (-1)) (C := RX7) (T := TX7) (N := 21) hx hb hts iX7 hown hK hP 1 rfl rfl 4 (by decide) f71 (fun _ h9 => h9) rfl dX7_items_21 ?_
            refine lv_iconst (v := (-1)) hx hb dX7_items_24 (by decide) ?_
            refine lv_icmp_ne (tgt := 98) hx hb dX7_items_25 (by decide) (fun cb => absurd (by decide) cb) (fun _ => ?_)
            refine lv_iload hx hb dX7_items_28 (lv_at hl 0 rfl) ?_
            refine lv_iconst (v := (-1)) hx hb dX7_items_30 (by decide) ?_
            refine lv_icmp_eq (tgt := 98) hx hb dX7_items_31 (by decide) (fun cb => absurd cb (by decide)) (fun _ => ?_)
            refine lv_iload hx hb dX7_items_34 (lv_at hl 1 rfl) ?_
            refine lv_iload hx hb dX7_items_36 (lv_at hl 0 rfl) ?_
            refine ky_Si (As := [.int 6, .int 2]) (rest := []) ⟨hx, hb, hml, hown, hts⟩ ⟨hK, hN⟩ hZ hP hD hS hA [] [0, 1, 2] (wc := []) (wr := [(Mrr, .inl (g 0, 3, .inl F_307)), (Mm, .inr (7, [.int zth, .ref Mt, .int (nI tp), .int (nI max_313), .int (-1), .ref Mrr, .ref Mrh, .ref Mrc, .int (nI rh), .int (nI rc), .ref Mn, .ref Mf, .ref Mr, .ref Mh, .int zhp, .int zcc, .ref Ma, .ref Mas, .ref Msn, .ref Mac, .ref Mat])), (Mt, .inl (g 0, 160, .inl fmt))]) rfl rfl rfl rfl (by decide) (r_X7_has_62 l D g H.size) (va_cwS 2 hts gX7_items_X7_has rfl rfl rfl (by decide +kernel) ⟨(Nat.le_of_ble_eq_true rfl), (Nat.le_of_ble_eq_true rfl)⟩) rfl hl.1 rfl (Nat.le_of_ble_eq_true rfl) dX7_items_38 ⟨(Nat.le_of_ble_eq_true rfl), (Nat.le_of_ble_eq_true rfl)⟩ (fun r_361 u H locs hw hP2 hD2 hS2 => ?_)
            clear hP hD hS
            obtain ⟨rfl, rfl⟩ := hw
            have hPD : PD D A [(Mrr, .inl (g 0, 3, .inl F_307)), (Mm, .inr (7, [.int zth, .ref Mt, .int (nI tp), .int (nI max_313), .int (-1), .ref Mrr, .ref Mrh, .ref Mrc, .int (nI rh), .int (nI rc), .ref Mn, .ref Mf, .ref Mr, .ref Mh, .int zhp, .int zcc, .ref Ma, .ref Mas, .ref Msn, .ref Mac, .ref Mat])), (Mt, .inl (g 0, 160, .inl fmt))] H := ⟨hP2, hD2⟩
            have hS := hS2; clear hP2 hD2 hS2; have hP := hPD.1; have hD := hPD.2; clear hPD
            refine W.widen (k := 0) (n := 0) (Nat.le_of_ble_eq_true rfl) (Nat.le_of_ble_eq_true rfl) ?_
            refine lv_if_ne (tgt := 98) hx hb dX7_items_41 (by decide) (fun _ => ?_) (fun cb => absurd cb (by decide))
            have hPD9 : PD D A [(Mm, .inr (7, [.int zth, .ref Mt, .int (nI tp), .int (nI max_313), .int (-1), .ref Mrr, .ref Mrh, .ref Mrc, .int (nI rh), .int (nI rc), .ref Mn, .ref Mf, .ref Mr, .ref Mh, .int zhp, .int zcc, .ref Ma, .ref Mas, .ref Msn, .ref Mac, .ref Mat])), (Mt, .inl (g 0, 160, .inl fmt)), (Mrr, .inl (g 0, 3, .inl F_307))] H := ⟨hP.sub [1, 2, 0] rfl, hD.sub [1, 2, 0] (by decide) rfl⟩
            have hP9 := hPD9.1; have hD9 := hPD9.2
            subst hQ
            refine W.widen (k := 0) (n := 0) (Nat.le_of_ble_eq_true rfl) (Nat.le_of_ble_eq_true rfl) ?_
            exact W.vret hx hb hr (fun tS htS _ => ⟨⟨_, rfl, ⟨max_313, (-1), F_307, rfl, ⟨(hF_307), (show max_313 ≤ tp by omega), (show ma ≤ max_313 by omega), (congrArg Prod.fst (hR_310.trans (itR_again (f := 1) (m := 6) (q := 2) hf_316 hil_360.2 (by decide) (by decide)))).symm, (fun _ => (congrArg Prod.snd (hR_310.trans (itR_again (f := 1) (m := 6) (q := 2) hf_316 hil_360.2 (by decide) (by decide)))).symm)⟩⟩, by rw [htS]; exact hP9, hD9⟩, hS.F htS⟩) hS.2.2 dX7_items_98
        · skip
          refine lv_iload_n hx hb dX7_items_85 rfl (lv_at hl 3 rfl) ?_
          refine lv_aload_n hx hb dX7_items_86 rfl (lv_at hl 2 rfl) ?_
          refine ky_Vi (As := []) (rest := [.int 0]) ⟨hx, hb, hml, hown, hts⟩ ⟨hK, hN⟩ hZ hP hD hS hA [1, 2] [0] (wc := [(Mm, .inr (7, [.int zth, .ref Mt, .int (nI tp), .int (nI max_300), .int zwrx_301, .ref Mrr, .ref Mrh, .ref Mrc, .int (nI rh), .int (nI rc), .ref Mn, .ref Mf, .ref Mr, .ref Mh, .int zhp, .int zcc, .ref Ma, .ref Mas, .ref Msn, .ref Mac, .ref Mat])), (Mt, .inl (g 0, 160, .inl fmt))]) (wr := [(Mrr, .inl (g 0, 3, .inl F_307))]) rfl rfl rfl rfl (by decide) (r_X7_ahead l D g H.size Mm zth Mt tp max_300 zwrx_301 Mrr Mrh Mrc rh rc Mn Mf Mr Mh zhp zcc Ma Mas Msn Mac Mat fmt (show tp ≤ 160 by omega) (show max_300 ≤ tp by omega)) (cwV 0 hts gX7_items_X7_ahead rfl rfl rfl (by decide +kernel) ⟨(Nat.le_of_ble_eq_true rfl), (Nat.le_of_ble_eq_true rfl)⟩) 1 7 rfl rfl rfl rfl hl.1 rfl (Nat.le_of_ble_eq_true rfl) dX7_items_87 ⟨(Nat.le_of_ble_eq_true rfl), (Nat.le_of_ble_eq_true rfl)⟩ (fun r_362 u H locs hw hP2 hD2 hS2 => ?_)
          clear hP hD hS
          obtain ⟨max_363, rfl, rfl, hf_364, hf_365, hf_366⟩ := hw
          have hPD : PD D A [(Mrr, .inl (g 0, 3, .inl F_307)), (Mm, .inr (7, [.int zth, .ref Mt, .int (nI tp), .int (nI max_363), .int zwrx_301, .ref Mrr, .ref Mrh, .ref Mrc, .int (nI rh), .int (nI rc), .ref Mn, .ref Mf, .ref Mr, .ref Mh, .int zhp, .int zcc, .ref Ma, .ref Mas, .ref Msn, .ref Mac, .ref Mat])), (Mt, .inl (g 0, 160, .inl fmt))] H := ⟨hP2, hD2⟩
          have hS := hS2; clear hP2 hD2 hS2; have hP := hPD.1; have hD := hPD.2; clear hPD
          refine W.widen (k := 0) (n := 0) (Nat.le_of_ble_eq_true rfl) (Nat.le_of_ble_eq_true rfl) ?_
          refine lv_topi (fun y_367 hey_367 => ?_)
          refine ky_Si (As := [.int 0, .int y_367]) (rest := []) ⟨hx, hb, hml, hown, hts⟩ ⟨hK, hN⟩ hZ hP hD hS hA [] [0, 1, 2] (wc := []) (wr := [(Mrr, .inl (g 0, 3, .inl F_307)), (Mm, .inr (7, [.int zth, .ref Mt, .int (nI tp), .int (nI max_363), .int zwrx_301, .ref Mrr, .ref Mrh, .ref Mrc, .int (nI rh), .int (nI rc), .ref Mn, .ref Mf, .ref Mr, .ref Mh, .int zhp, .int zcc, .ref Ma, .ref Mas, .ref Msn, .ref Mac, .ref Mat])), (Mt, .inl (g 0, 160, .inl fmt))]) rfl rfl rfl rfl (by decide) (r_X7_itemBy_0 l D g H.size y_367) (va_cwS 2 hts gX7_items_X7_itemBy rfl rfl rfl (by decide +kernel) ⟨(Nat.le_of_ble_eq_true rfl), (Nat.le_of_ble_eq_true rfl)⟩) rfl hl.1 rfl (Nat.le_of_ble_eq_true rfl) dX7_items_90 ⟨(Nat.le_of_ble_eq_true rfl), (Nat.le_of_ble_eq_true rfl)⟩ (fun r_368 u H locs hw hP2 hD2 hS2 => ?_)
          clear hP hD hS
          obtain ⟨rfl, rfl⟩ := hw
          have hPD : PD D A [(Mrr, .inl (g 0, 3, .inl F_307)), (Mm, .inr (7, [.int zth, .ref Mt, .int (nI tp), .int (nI max_363), .int zwrx_301, .ref Mrr, .ref Mrh, .ref Mrc, .int (nI rh), .int (nI rc), .ref Mn, .ref Mf, .ref Mr, .ref Mh, .int zhp, .int zcc, .ref Ma, .ref Mas, .ref Msn, .ref Mac, .ref Mat])), (Mt, .inl (g 0, 160, .inl fmt))] H := ⟨hP2, hD2⟩
          have hS := hS2; clear hP2 hD2 hS2; have hP := hPD.1; have hD := hPD.2; clear hPD
          refine W.widen (k := 0) (n := 0) (Nat.le_of_ble_eq_true rfl) (Nat.le_of_ble_eq_true rfl) ?_
          refine lv_istore (lv' := [(5, .int (itK 0 y_367)), (4, .int 6), (0, .ref Mm), (1, .int 0), (2, .ref Mrr), (3, .int 0)]) hx hb dX7_items_93 hl (by decide) rfl (fun ls hl => ?_)
          refine lv_goto (tgt := 20) hx hb dX7_items_95 (by decide) ?_
          refine lv_aload_n hx hb dX7_items_20 rfl (lv_at hl 2 rfl) ?_
          refine va_get (D := D) (ci := 7) (v := .int zwrx_301) (C := RX7) (T := TX7) (N := 21) hx hb hts iX7 hown hK hP 1 rfl rfl 4 (by decide) f71 (fun _ h9 => h9) rfl dX7_items_21 ?_
          refine lv_iconst (v := (-1)) hx hb dX7_items_24 (by decide) ?_
          refine lv_icmp_ne (tgt := 98) hx hb dX7_items_25 (by decide) (fun _ => ?_) (fun cb => absurd cb (cw_308))
          have hPD9 : PD D A [(Mm, .inr (7, [.int zth, .ref Mt, .int (nI tp), .int (nI max_363), .int zwrx_301, .ref Mrr, .ref Mrh, .ref Mrc, .int (nI rh), .int (nI rc), .ref Mn, .ref Mf, .ref Mr, .ref Mh, .int zhp, .int zcc, .ref Ma, .ref Mas, .ref Msn, .ref Mac, .ref Mat])), (Mt, .inl (g 0, 160, .inl fmt)), (Mrr, .inl (g 0, 3, .inl F_307))] H := ⟨hP.sub [1, 2, 0] rfl, hD.sub [1, 2, 0] (by decide) rfl⟩
          have hP9 := hPD9.1; have hD9 := hPD9.2
          subst hQ
          refine W.widen (k := 0) (n := 0) (Nat.le_of_ble_eq_true rfl) (Nat.le_of_ble_eq_true rfl) ?_
          exact W.vret hx hb hr (fun tS htS _ => ⟨⟨_, rfl, ⟨max_363, zwrx_301, F_307, rfl, ⟨(hF_307), (show max_363 ≤ tp by omega), (show ma ≤ max_363 by omega), ((congrArg Prod.fst hR_209).trans ((itR_w (f := 2) (m := 2) (q := 2) hf_215 hil_295.1 hil_295.2 (by decide) (by decide) (fun q => cw_308 (hf_303.2.2.2.1.trans q))).trans hf_303.2.2.2.1.symm)).symm, (fun q => absurd q cw_308)⟩⟩, by rw [htS]; exact hP9, hD9⟩, hS.F htS⟩) hS.2.2 dX7_items_98
    · skip
      refine lv_iload_n hx hb dX7_items_85 rfl (lv_at hl 3 rfl) ?_
      refine lv_aload_n hx hb dX7_items_86 rfl (lv_at hl 2 rfl) ?_
      refine ky_Vi (As := []) (rest := [.int 0]) ⟨hx, hb, hml, hown, hts⟩ ⟨hK, hN⟩ hZ hP hD hS hA [1, 2] [0] (wc := [(Mm, .inr (7, [.int zth, .ref Mt, .int (nI tp), .int (nI max_199), .int zwrx_200, .ref Mrr, .ref Mrh, .ref Mrc, .int (nI rh), .int (nI rc), .ref Mn, .ref Mf, .ref Mr, .ref Mh, .int zhp, .int zcc, .ref Ma, .ref Mas, .ref Msn, .ref Mac, .ref Mat])), (Mt, .inl (g 0, 160, .inl fmt))]) (wr := [(Mrr, .inl (g 0, 3, .inl F_206))]) rfl rfl rfl rfl (by decide) (r_X7_ahead l D g H.size Mm zth Mt tp max_199 zwrx_200 Mrr Mrh Mrc rh rc Mn Mf Mr Mh zhp zcc Ma Mas Msn Mac Mat fmt (show tp ≤ 160 by omega) (show max_199 ≤ tp by omega)) (cwV 0 hts gX7_items_X7_ahead rfl rfl rfl (by decide +kernel) ⟨(Nat.le_of_ble_eq_true rfl), (Nat.le_of_ble_eq_true rfl)⟩) 1 7 rfl rfl rfl rfl hl.1 rfl (Nat.le_of_ble_eq_true rfl) dX7_items_87 ⟨(Nat.le_of_ble_eq_true rfl), (Nat.le_of_ble_eq_true rfl)⟩ (fun r_369 u H locs hw hP2 hD2 hS2 => ?_)
      clear hP hD hS
      obtain ⟨max_370, rfl, rfl, hf_371, hf_372, hf_373⟩ := hw
      have hPD : PD D A [(Mrr, .inl (g 0, 3, .inl F_206)), (Mm, .inr (7, [.int zth, .ref Mt, .int (nI tp), .int (nI max_370), .int zwrx_200, .ref Mrr, .ref Mrh, .ref Mrc, .int (nI rh), .int (nI rc), .ref Mn, .ref Mf, .ref Mr, .ref Mh, .int zhp, .int zcc, .ref Ma, .ref Mas, .ref Msn, .ref Mac, .ref Mat])), (Mt, .inl (g 0, 160, .inl fmt))] H := ⟨hP2, hD2⟩
      have hS := hS2; clear hP2 hD2 hS2; have hP := hPD.1; have hD := hPD.2; clear hPD
      refine W.widen (k := 0) (n := 0) (Nat.le_of_ble_eq_true rfl) (Nat.le_of_ble_eq_true rfl) ?_
      refine lv_topi (fun y_374 hey_374 => ?_)
      refine ky_Si (As := [.int 0, .int y_374]) (rest := []) ⟨hx, hb, hml, hown, hts⟩ ⟨hK, hN⟩ hZ hP hD hS hA [] [0, 1, 2] (wc := []) (wr := [(Mrr, .inl (g 0, 3, .inl F_206)), (Mm, .inr (7, [.int zth, .ref Mt, .int (nI tp), .int (nI max_370), .int zwrx_200, .ref Mrr, .ref Mrh, .ref Mrc, .int (nI rh), .int (nI rc), .ref Mn, .ref Mf, .ref Mr, .ref Mh, .int zhp, .int zcc, .ref Ma, .ref Mas, .ref Msn, .ref Mac, .ref Mat])), (Mt, .inl (g 0, 160, .inl fmt))]) rfl rfl rfl rfl (by decide) (r_X7_itemBy_0 l D g H.size y_374) (va_cwS 2 hts gX7_items_X7_itemBy rfl rfl rfl (by decide +kernel) ⟨(Nat.le_of_ble_eq_true rfl), (Nat.le_of_ble_eq_true rfl)⟩) rfl hl.1 rfl (Nat.le_of_ble_eq_true rfl) dX7_items_90 ⟨(Nat.le_of_ble_eq_true rfl), (Nat.le_of_ble_eq_true rfl)⟩ (fun r_375 u H locs hw hP2 hD2 hS2 => ?_)
      clear hP hD hS
      obtain ⟨rfl, rfl⟩ := hw
      have hPD : PD D A [(Mrr, .inl (g 0, 3, .inl F_206)), (Mm, .inr (7, [.int zth, .ref Mt, .int (nI tp), .int (nI max_370), .int zwrx_200, .ref Mrr, .ref Mrh, .ref Mrc, .int (nI rh), .int (nI rc), .ref Mn, .ref Mf, .ref Mr, .ref Mh, .int zhp, .int zcc, .ref Ma, .ref Mas, .ref Msn, .ref Mac, .ref Mat])), (Mt, .inl (g 0, 160, .inl fmt))] H := ⟨hP2, hD2⟩
      have hS := hS2; clear hP2 hD2 hS2; have hP := hPD.1; have hD := hPD.2; clear hPD
      refine W.widen (k := 0) (n := 0) (Nat.le_of_ble_eq_true rfl) (Nat.le_of_ble_eq_true rfl) ?_
      refine lv_istore (lv' := [(5, .int (itK 0 y_374)), (4, .int 2), (0, .ref Mm), (1, .int 0), (2, .ref Mrr), (3, .int 0)]) hx hb dX7_items_93 hl (by decide) rfl (fun ls hl => ?_)
      refine lv_goto (tgt := 20) hx hb dX7_items_95 (by decide) ?_
      refine lv_aload_n hx hb dX7_items_20 rfl (lv_at hl 2 rfl) ?_
      refine va_get (D := D) (ci := 7) (v := .int zwrx_200) (C := RX7) (T := TX7) (N := 21) hx hb hts iX7 hown hK hP 1 rfl rfl 4 (by decide) f71 (fun _ h9 => h9) rfl dX7_items_21 ?_
      refine lv_iconst (v := (-1)) hx hb dX7_items_24 (by decide) ?_
      refine lv_icmp_ne (tgt := 98) hx hb dX7_items_25 (by decide) (fun _ => ?_) (fun cb => absurd cb (cw_207))
      have hPD9 : PD D A [(Mm, .inr (7, [.int zth, .ref Mt, .int (nI tp), .int (nI max_370), .int zwrx_200, .ref Mrr, .ref Mrh, .ref Mrc, .int (nI rh), .int (nI rc), .ref Mn, .ref Mf, .ref Mr, .ref Mh, .int zhp, .int zcc, .ref Ma, .ref Mas, .ref Msn, .ref Mac, .ref Mat])), (Mt, .inl (g 0, 160, .inl fmt)), (Mrr, .inl (g 0, 3, .inl F_206))] H := ⟨hP.sub [1, 2, 0] rfl, hD.sub [1, 2, 0] (by decide) rfl⟩
      have hP9 := hPD9.1; have hD9 := hPD9.2
      subst hQ
      refine W.widen (k := 0) (n := 0) (Nat.le_of_ble_eq_true rfl) (Nat.le_of_ble_eq_true rfl) ?_
      exact W.vret hx hb hr (fun tS htS _ => ⟨⟨_, rfl, ⟨max_370, zwrx_200, F_206, rfl, ⟨(hF_206), (show max_370 ≤ tp by omega), (show ma ≤ max_370 by omega), (((itR_w (f := 3) (m := 0) (q := 1) hf_8 hil_194.1 hil_194.2 (by decide) (by decide) (fun q => cw_207 (hf_202.2.2.2.1.trans q))).trans hf_202.2.2.2.1.symm)).symm, (fun q => absurd q cw_207)⟩⟩, by rw [htS]; exact hP9, hD9⟩, hS.F htS⟩) hS.2.2 dX7_items_98
  · skip
    refine lv_eqi (y := 2) (qi_11) ?_
    have hil_376 := iv_lt (k := 0) (q := 2) hey_9.symm qi_11 (by decide); have hil_376a := hil_376.1
    refine lv_istore (lv' := [(5, .int 2), (4, .int 0), (0, .ref Mm), (1, .int 0), (2, .ref Mrr), (3, .int 0)]) hx hb dX7_items_18 hl (by decide) rfl (fun ls hl => ?_)
    refine lv_aload_n hx hb dX7_items_20 rfl (lv_at hl 2 rfl) ?_
    refine va_get (D := D) (ci := 7) (v := .int (-1)) (C := RX7) (T := TX7) (N := 21) hx hb hts iX7 hown hK hP 1 rfl rfl 4 (by decide) f71 (fun _ h9 => h9) rfl dX7_items_21 ?_
    refine lv_iconst (v := (-1)) hx hb dX7_items_24 (by decide) ?_
    refine lv_icmp_ne (tgt := 98) hx hb dX7_items_25 (by decide) (fun cb => absurd (by decide) cb) (fun _ => ?_)
    refine lv_iload hx hb dX7_items_28 (lv_at hl 0 rfl) ?_
    refine lv_iconst (v := (-1)) hx hb dX7_items_30 (by decide) ?_
    refine lv_icmp_eq (tgt := 98) hx hb dX7_items_31 (by decide) (fun cb => absurd cb (by decide)) (fun _ => ?_)
    refine lv_iload hx hb dX7_items_34 (lv_at hl 1 rfl) ?_
    refine lv_iload hx hb dX7_items_36 (lv_at hl 0 rfl) ?_
    refine ky_Si (As := [.int 0, .int 2]) (rest := []) ⟨hx, hb, hml, hown, hts⟩ ⟨hK, hN⟩ hZ hP hD hS hA [] [0, 1, 2] (wc := []) (wr := [(Mrr, .inl (g 0, 3, .inl frrx_2)), (Mm, .inr (7, [.int zth, .ref Mt, .int (nI tp), .int (nI max_5), .int (-1), .ref Mrr, .ref Mrh, .ref Mrc, .int (nI rh), .int (nI rc), .ref Mn, .ref Mf, .ref Mr, .ref Mh, .int zhp, .int zcc, .ref Ma, .ref Mas, .ref Msn, .ref Mac, .ref Mat])), (Mt, .inl (g 0, 160, .inl fmt))]) rfl rfl rfl rfl (by decide) (r_X7_has_02 l D g H.size) (va_cwS 2 hts gX7_items_X7_has rfl rfl rfl (by decide +kernel) ⟨(Nat.le_of_ble_eq_true rfl), (Nat.le_of_ble_eq_true rfl)⟩) rfl hl.1 rfl (Nat.le_of_ble_eq_true rfl) dX7_items_38 ⟨(Nat.le_of_ble_eq_true rfl), (Nat.le_of_ble_eq_true rfl)⟩ (fun r_377 u H locs hw hP2 hD2 hS2 => ?_)
    clear hP hD hS
    obtain ⟨rfl, rfl⟩ := hw
    have hPD : PD D A [(Mrr, .inl (g 0, 3, .inl frrx_2)), (Mm, .inr (7, [.int zth, .ref Mt, .int (nI tp), .int (nI max_5), .int (-1), .ref Mrr, .ref Mrh, .ref Mrc, .int (nI rh), .int (nI rc), .ref Mn, .ref Mf, .ref Mr, .ref Mh, .int zhp, .int zcc, .ref Ma, .ref Mas, .ref Msn, .ref Mac, .ref Mat])), (Mt, .inl (g 0, 160, .inl fmt))] H := ⟨hP2, hD2⟩
    have hS := hS2; clear hP2 hD2 hS2; have hP := hPD.1; have hD := hPD.2; clear hPD
    refine W.widen (k := 0) (n := 0) (Nat.le_of_ble_eq_true rfl) (Nat.le_of_ble_eq_true rfl) ?_
    refine lv_if_ne (tgt := 98) hx hb dX7_items_41 (by decide) (fun cb => absurd (by decide) cb) (fun _ => ?_)
    refine lv_iload hx hb dX7_items_44 (lv_at hl 1 rfl) ?_
    refine lv_iconst (v := 1) hx hb dX7_items_46 (by decide) ?_
    refine lv_iload hx hb dX7_items_47 (lv_at hl 0 rfl) ?_
    refine lv_ishl hx hb dX7_items_49 ?_
    refine lv_eqi (y := 4) (by decide) ?_
    refine lv_ior hx hb dX7_items_50 ?_
    refine lv_eqi (y := 4) (by decide) ?_
    refine lv_istore (lv' := [(4, .int 4), (5, .int 2), (0, .ref Mm), (1, .int 0), (2, .ref Mrr), (3, .int 0)]) hx hb dX7_items_51 hl (by decide) rfl (fun ls hl => ?_)
    refine lv_aload_n hx hb dX7_items_53 rfl (lv_at hl 2 rfl) ?_
    refine lv_dup hx hb dX7_items_54 rfl ?_
    refine va_get (D := D) (ci := 7) (v := .int (nI max_5)) (C := RX7) (T := TX7) (N := 21) hx hb hts iX7 hown hK hP 1 rfl rfl 3 (by decide) f64 (fun _ h9 => h9) rfl dX7_items_55 ?_
    refine lv_iconst (v := 1) hx hb dX7_items_58 (by decide) ?_
    refine lv_iadd hx hb dX7_items_59 ?_
    refine lv_eqi (y := (nI (max_5 + 1))) (nI_add (max_5) (1)) ?_
    refine va_put (D := D) (ci := 7) (v := .int (nI (max_5 + 1))) (ty := .int) (C := RX7) (T := TX7) (N := 21) hx hb hts iX7 tyX7 tyX7_ok nmX7 hown hK hP hD hS 1 rfl rfl 3 (by decide) f64 (fun _ h9 => h9) rfl (by decide +kernel) (rfl) (rfl) (Nat.le_of_ble_eq_true rfl) dX7_items_60 (fun H locs hP2 hD2 hS2 => ?_)
    clear hP hD hS
    have hPD : PD D A [(Mrr, .inl (g 0, 3, .inl frrx_2)), (Mm, .inr (7, [.int zth, .ref Mt, .int (nI tp), .int (nI (max_5 + 1)), .int (-1), .ref Mrr, .ref Mrh, .ref Mrc, .int (nI rh), .int (nI rc), .ref Mn, .ref Mf, .ref Mr, .ref Mh, .int zhp, .int zcc, .ref Ma, .ref Mas, .ref Msn, .ref Mac, .ref Mat])), (Mt, .inl (g 0, 160, .inl fmt))] H := ⟨hP2, hD2⟩
    have hS := hS2; clear hP2 hD2 hS2; have hP := hPD.1; have hD := hPD.2; clear hPD
    refine lv_aload_n hx hb dX7_items_63 rfl (lv_at hl 4 rfl) ?_
    refine lv_iload_n hx hb dX7_items_64 rfl (lv_at hl 5 rfl) ?_
    refine lv_iload hx hb dX7_items_65 (lv_at hl 1 rfl) ?_
    refine lv_iadd hx hb dX7_items_67 ?_
    refine lv_eqi (y := 2) (by decide) ?_
    refine lv_aload_n hx hb dX7_items_68 rfl (lv_at hl 2 rfl) ?_
    refine lv_iload_n hx hb dX7_items_69 rfl (lv_at hl 3 rfl) ?_
    refine lv_iload hx hb dX7_items_70 (lv_at hl 1 rfl) ?_
    refine ky_Si (As := [.int 0, .int 2]) (rest := [.ref Mm, .int 2, .ref Mrr]) ⟨hx, hb, hml, hown, hts⟩ ⟨hK, hN⟩ hZ hP hD hS hA [] [0, 1, 2] (wc := []) (wr := [(Mrr, .inl (g 0, 3, .inl frrx_2)), (Mm, .inr (7, [.int zth, .ref Mt, .int (nI tp), .int (nI (max_5 + 1)), .int (-1), .ref Mrr, .ref Mrh, .ref Mrc, .int (nI rh), .int (nI rc), .ref Mn, .ref Mf, .ref Mr, .ref Mh, .int zhp, .int zcc, .ref Ma, .ref Mas, .ref Msn, .ref Mac, .ref Mat])), (Mt, .inl (g 0, 160, .inl fmt))]) rfl rfl rfl rfl (by decide) (r_X7_lowest_02 l D g H.size) (va_cwS 2 hts gX7_items_X7_lowest rfl rfl rfl (by decide +kernel) ⟨(Nat.le_of_ble_eq_true rfl), (Nat.le_of_ble_eq_true rfl)⟩) rfl hl.1 rfl (Nat.le_of_ble_eq_true rfl) dX7_items_72 ⟨(Nat.le_of_ble_eq_true rfl), (Nat.le_of_ble_eq_true rfl)⟩ (fun r_378 u H locs hw hP2 hD2 hS2 => ?_)
    clear hP hD hS
    obtain ⟨rfl, rfl⟩ := hw
    have hPD : PD D A [(Mrr, .inl (g 0, 3, .inl frrx_2)), (Mm, .inr (7, [.int zth, .ref Mt, .int (nI tp), .int (nI (max_5 + 1)), .int (-1), .ref Mrr, .ref Mrh, .ref Mrc, .int (nI rh), .int (nI rc), .ref Mn, .ref Mf, .ref Mr, .ref Mh, .int zhp, .int zcc, .ref Ma, .ref Mas, .ref Msn, .ref Mac, .ref Mat])), (Mt, .inl (g 0, 160, .inl fmt))] H := ⟨hP2, hD2⟩
    have hS := hS2; clear hP2 hD2 hS2; have hP := hPD.1; have hD := hPD.2; clear hPD
    refine W.widen (k := 0) (n := 0) (Nat.le_of_ble_eq_true rfl) (Nat.le_of_ble_eq_true rfl) ?_
    refine lv_iload_n hx hb dX7_items_75 rfl (lv_at hl 3 rfl) ?_
    refine lv_iload hx hb dX7_items_76 (lv_at hl 1 rfl) ?_
    refine ky_Si (As := [.int 0, .int 2]) (rest := [.int 0, .ref Mm, .int 2, .ref Mrr]) ⟨hx, hb, hml, hown, hts⟩ ⟨hK, hN⟩ hZ hP hD hS hA [] [0, 1, 2] (wc := []) (wr := [(Mrr, .inl (g 0, 3, .inl frrx_2)), (Mm, .inr (7, [.int zth, .ref Mt, .int (nI tp), .int (nI (max_5 + 1)), .int (-1), .ref Mrr, .ref Mrh, .ref Mrc, .int (nI rh), .int (nI rc), .ref Mn, .ref Mf, .ref Mr, .ref Mh, .int zhp, .int zcc, .ref Ma, .ref Mas, .ref Msn, .ref Mac, .ref Mat])), (Mt, .inl (g 0, 160, .inl fmt))]) rfl rfl rfl rfl (by decide) (r_X7_highest_02 l D g H.size) (va_cwS 2 hts gX7_items_X7_highest rfl rfl rfl (by decide +kernel) ⟨(Nat.le_of_ble_eq_true rfl), (Nat.le_of_ble_eq_true rfl)⟩) rfl hl.1 rfl (Nat.le_of_ble_eq_true rfl) dX7_items_78 ⟨(Nat.le_of_ble_eq_true rfl), (Nat.le_of_ble_eq_true rfl)⟩ (fun r_379 u H locs hw hP2 hD2 hS2 => ?_)
    clear hP hD hS
    obtain ⟨rfl, rfl⟩ := hw
    have hPD : PD D A [(Mrr, .inl (g 0, 3, .inl frrx_2)), (Mm, .inr (7, [.int zth, .ref Mt, .int (nI tp), .int (nI (max_5 + 1)), .int (-1), .ref Mrr, .ref Mrh, .ref Mrc, .int (nI rh), .int (nI rc), .ref Mn, .ref Mf, .ref Mr, .ref Mh, .int zhp, .int zcc, .ref Ma, .ref Mas, .ref Msn, .ref Mac, .ref Mat])), (Mt, .inl (g 0, 160, .inl fmt))] H := ⟨hP2, hD2⟩
    have hS := hS2; clear hP2 hD2 hS2; have hP := hPD.1; have hD := hPD.2; clear hPD
    refine W.widen (k := 0) (n := 0) (Nat.le_of_ble_eq_true rfl) (Nat.le_of_ble_eq_true rfl) ?_
    refine ky_Vi (As := [.int 0, .int 9]) (rest := [.int 2, .ref Mrr]) ⟨hx, hb, hml, hown, hts⟩ ⟨hK, hN⟩ hZ hP hD hS hA [1, 2] [0] (wc := [(Mm, .inr (7, [.int zth, .ref Mt, .int (nI tp), .int (nI (max_5 + 1)), .int (-1), .ref Mrr, .ref Mrh, .ref Mrc, .int (nI rh), .int (nI rc), .ref Mn, .ref Mf, .ref Mr, .ref Mh, .int zhp, .int zcc, .ref Ma, .ref Mas, .ref Msn, .ref Mac, .ref Mat])), (Mt, .inl (g 0, 160, .inl fmt))]) (wr := [(Mrr, .inl (g 0, 3, .inl frrx_2))]) rfl rfl rfl rfl (by decide) (r_X7_number l D g H.size Mm 0 9 zth Mt tp (max_5 + 1) Mrr Mrh Mrc rh rc Mn Mf Mr Mh zhp zcc Ma Mas Msn Mac Mat fmt (show tp ≤ 160 by omega) (show (max_5 + 1) ≤ tp by omega) (show 0 ≤ 1 by omega)) (cwV 2 hts gX7_items_X7_number rfl rfl rfl (by decide +kernel) ⟨(Nat.le_of_ble_eq_true rfl), (Nat.le_of_ble_eq_true rfl)⟩) 1 7 rfl rfl rfl rfl hl.1 rfl (Nat.le_of_ble_eq_true rfl) dX7_items_81 ⟨(Nat.le_of_ble_eq_true rfl), (Nat.le_of_ble_eq_true rfl)⟩ (fun r_380 u H locs hw hP2 hD2 hS2 => ?_)
    clear hP hD hS
    obtain ⟨max_381, zwrx_382, nx_383, rfl, rfl, hf_384⟩ := hw
    have hg_385 := hf_384.1
    have hg_386 := hf_384.2.1
    have hg_387 := hf_384.2.2.1
    have hPD : PD D A [(Mrr, .inl (g 0, 3, .inl frrx_2)), (Mm, .inr (7, [.int zth, .ref Mt, .int (nI tp), .int (nI max_381), .int zwrx_382, .ref Mrr, .ref Mrh, .ref Mrc, .int (nI rh), .int (nI rc), .ref Mn, .ref Mf, .ref Mr, .ref Mh, .int zhp, .int zcc, .ref Ma, .ref Mas, .ref Msn, .ref Mac, .ref Mat])), (Mt, .inl (g 0, 160, .inl fmt))] H := ⟨hP2, hD2⟩
    have hS := hS2; clear hP2 hD2 hS2; have hP := hPD.1; have hD := hPD.2; clear hPD
    refine W.widen (k := 0) (n := 0) (Nat.le_of_ble_eq_true rfl) (Nat.le_of_ble_eq_true rfl) ?_
    refine va_iast hx hb hK hP hD hS 0 0 rfl rfl (by unfold vp_in; decide) dX7_items_84 (fun H locs hP2 hD2 hS2 => ?_)
    clear hP hD hS
    have hPD : PD D A [(Mrr, .inl (g 0, 3, .inl (upd frrx_2 2 (nI nx_383)))), (Mm, .inr (7, [.int zth, .ref Mt, .int (nI tp), .int (nI max_381), .int zwrx_382, .ref Mrr, .ref Mrh, .ref Mrc, .int (nI rh), .int (nI rc), .ref Mn, .ref Mf, .ref Mr, .ref Mh, .int zhp, .int zcc, .ref Ma, .ref Mas, .ref Msn, .ref Mac, .ref Mat])), (Mt, .inl (g 0, 160, .inl fmt))] H := ⟨hP2, hD2⟩
    have hS := hS2; clear hP2 hD2 hS2; have hP := hPD.1; have hD := hPD.2; clear hPD
    have hF_388 : n1 (upd frrx_2 2 (nI nx_383)) := n1_upd (hf_3) (n := nx_383) (show nx_383 ≤ 99 by omega)
    generalize upd frrx_2 2 (nI nx_383) = F_388 at hP hD hF_388
    by_cases cw_389 : zwrx_382 = -1
    · skip
      have hPq_390 := hP; have hDq_390 := hD; have hSq_390 := hS; have hlq_390 := hl; clear hP hD hS hl
      subst cw_389
      have hP := hPq_390; have hD := hDq_390; have hS := hSq_390; have hl := hlq_390; clear hPq_390 hDq_390 hSq_390 hlq_390
      have hne_392 := hf_384.2.2.2.2 rfl
      have hR_391 : itR fmt tp 0 4 0 ma = itR fmt tp 0 3 4 max_381 := (itR_go (f := 3) (m := 0) (q := 2) hf_8 hil_376.1 hil_376.2 (by decide) (by decide) hf_384.2.2.2.1.symm).trans (by rw [hne_392])
      refine lv_iload_n hx hb dX7_items_85 rfl (lv_at hl 3 rfl) ?_
      refine lv_aload_n hx hb dX7_items_86 rfl (lv_at hl 2 rfl) ?_
      refine ky_Vi (As := []) (rest := [.int 0]) ⟨hx, hb, hml, hown, hts⟩ ⟨hK, hN⟩ hZ hP hD hS hA [1, 2] [0] (wc := [(Mm, .inr (7, [.int zth, .ref Mt, .int (nI tp), .int (nI max_381), .int (-1), .ref Mrr, .ref Mrh, .ref Mrc, .int (nI rh), .int (nI rc), .ref Mn, .ref Mf, .ref Mr, .ref Mh, .int zhp, .int zcc, .ref Ma, .ref Mas, .ref Msn, .ref Mac, .ref Mat])), (Mt, .inl (g 0, 160, .inl fmt))]) (wr := [(Mrr, .inl (g 0, 3, .inl F_388))]) rfl rfl rfl rfl (by decide) (r_X7_ahead l D g H.size Mm zth Mt tp max_381 (-1) Mrr Mrh Mrc rh rc Mn Mf Mr Mh zhp zcc Ma Mas Msn Mac Mat fmt (show tp ≤ 160 by omega) (show max_381 ≤ tp by omega)) (cwV 0 hts gX7_items_X7_ahead rfl rfl rfl (by decide +kernel) ⟨(Nat.le_of_ble_eq_true rfl), (Nat.le_of_ble_eq_true rfl)⟩) 1 7 rfl rfl rfl rfl hl.1 rfl (Nat.le_of_ble_eq_true rfl) dX7_items_87 ⟨(Nat.le_of_ble_eq_true rfl), (Nat.le_of_ble_eq_true rfl)⟩ (fun r_393 u H locs hw hP2 hD2 hS2 => ?_)
      clear hP hD hS
      obtain ⟨max_394, rfl, rfl, hf_395, hf_396, hf_397⟩ := hw
      have hPD : PD D A [(Mrr, .inl (g 0, 3, .inl F_388)), (Mm, .inr (7, [.int zth, .ref Mt, .int (nI tp), .int (nI max_394), .int (-1), .ref Mrr, .ref Mrh, .ref Mrc, .int (nI rh), .int (nI rc), .ref Mn, .ref Mf, .ref Mr, .ref Mh, .int zhp, .int zcc, .ref Ma, .ref Mas, .ref Msn, .ref Mac, .ref Mat])), (Mt, .inl (g 0, 160, .inl fmt))] H := ⟨hP2, hD2⟩
      have hS := hS2; clear hP2 hD2 hS2; have hP := hPD.1; have hD := hPD.2; clear hPD
      refine W.widen (k := 0) (n := 0) (Nat.le_of_ble_eq_true rfl) (Nat.le_of_ble_eq_true rfl) ?_
      refine lv_topi (fun y_398 hey_398 => ?_)
      refine ky_Si (As := [.int 0, .int y_398]) (rest := []) ⟨hx, hb, hml, hown, hts⟩ ⟨hK, hN⟩ hZ hP hD hS hA [] [0, 1, 2] (wc := []) (wr := [(Mrr, .inl (g 0, 3, .inl F_388)), (Mm, .inr (7, [.int zth, .ref Mt, .int (nI tp), .int (nI max_394), .int (-1), .ref Mrr, .ref Mrh, .ref Mrc, .int (nI rh), .int (nI rc), .ref Mn, .ref Mf, .ref Mr, .ref Mh, .int zhp, .int zcc, .ref Ma, .ref Mas, .ref Msn, .ref Mac, .ref Mat])), (Mt, .inl (g 0, 160, .inl fmt))]) rfl rfl rfl rfl (by decide) (r_X7_itemBy_0 l D g H.size y_398) (va_cwS 2 hts gX7_items_X7_itemBy rfl rfl rfl (by decide +kernel) ⟨(Nat.le_of_ble_eq_true rfl), (Nat.le_of_ble_eq_true rfl)⟩) rfl hl.1 rfl (Nat.le_of_ble_eq_true rfl) dX7_items_90 ⟨(Nat.le_of_ble_eq_true rfl), (Nat.le_of_ble_eq_true rfl)⟩ (fun r_399 u H locs hw hP2 hD2 hS2 => ?_)
      clear hP hD hS
      obtain ⟨rfl, rfl⟩ := hw
      have hPD : PD D A [(Mrr, .inl (g 0, 3, .inl F_388)), (Mm, .inr (7, [.int zth, .ref Mt, .int (nI tp), .int (nI max_394), .int (-1), .ref Mrr, .ref Mrh, .ref Mrc, .int (nI rh), .int (nI rc), .ref Mn, .ref Mf, .ref Mr, .ref Mh, .int zhp, .int zcc, .ref Ma, .ref Mas, .ref Msn, .ref Mac, .ref Mat])), (Mt, .inl (g 0, 160, .inl fmt))] H := ⟨hP2, hD2⟩
      have hS := hS2; clear hP2 hD2 hS2; have hP := hPD.1; have hD := hPD.2; clear hPD
      refine W.widen (k := 0) (n := 0) (Nat.le_of_ble_eq_true rfl) (Nat.le_of_ble_eq_true rfl) ?_
      rcases itK_c 0 y_398 with qi_400 | qi_400 | qi_400 | qi_400
      · skip
        refine lv_eqi (y := (-1)) (qi_400) ?_
        refine lv_istore (lv' := [(5, .int (-1)), (4, .int 4), (0, .ref Mm), (1, .int 0), (2, .ref Mrr), (3, .int 0)]) hx hb dX7_items_93 hl (by decide) rfl (fun ls hl => ?_)
        refine lv_goto (tgt := 20) hx hb dX7_items_95 (by decide) ?_
        refine lv_aload_n hx hb dX7_items_20 rfl (lv_at hl 2 rfl) ?_
        refine va_get (D := D) (ci := 7) (v := .int (-1)) (C := RX7) (T := TX7) (N := 21) hx hb hts iX7 hown hK hP 1 rfl rfl 4 (by decide) f71 (fun _ h9 => h9) rfl dX7_items_21 ?_
        refine lv_iconst (v := (-1)) hx hb dX7_items_24 (by decide) ?_
        refine lv_icmp_ne (tgt := 98) hx hb dX7_items_25 (by decide) (fun cb => absurd (by decide) cb) (fun _ => ?_)
        refine lv_iload hx hb dX7_items_28 (lv_at hl 0 rfl) ?_
        refine lv_iconst (v := (-1)) hx hb dX7_items_30 (by decide) ?_
        refine lv_icmp_eq (tgt := 98) hx hb dX7_items_31 (by decide) (fun _ => ?_) (fun cb => absurd (by decide) cb)
        have hPD9 : PD D A [(Mm, .inr (7, [.int zth, .ref Mt, .int (nI tp), .int (nI max_394), .int (-1), .ref Mrr, .ref Mrh, .ref Mrc, .int (nI rh), .int (nI rc), .ref Mn, .ref Mf, .ref Mr, .ref Mh, .int zhp, .int zcc, .ref Ma, .ref Mas, .ref Msn, .ref Mac, .ref Mat])), (Mt, .inl (g 0, 160, .inl fmt)), (Mrr, .inl (g 0, 3, .inl F_388))] H := ⟨hP.sub [1, 2, 0] rfl, hD.sub [1, 2, 0] (by decide) rfl⟩
        have hP9 := hPD9.1; have hD9 := hPD9.2
        subst hQ
        refine W.widen (k := 0) (n := 0) (Nat.le_of_ble_eq_true rfl) (Nat.le_of_ble_eq_true rfl) ?_
        exact W.vret hx hb hr (fun tS htS _ => ⟨⟨_, rfl, ⟨max_394, (-1), F_388, rfl, ⟨(hF_388), (show max_394 ≤ tp by omega), (show ma ≤ max_394 by omega), (congrArg Prod.fst (hR_391.trans (iv_m (f := 2) (m := 4) hf_397 hey_398.symm qi_400))).symm, (fun _ => (congrArg Prod.snd (hR_391.trans (iv_m (f := 2) (m := 4) hf_397 hey_398.symm qi_400))).symm)⟩⟩, by rw [htS]; exact hP9, hD9⟩, hS.F htS⟩) hS.2.2 dX7_items_98
      · skip
        refine lv_eqi (y := 0) (qi_400) ?_
        have hil_401 := iv_lt (k := 0) (q := 0) hey_398.symm qi_400 (by decide); have hil_401a := hil_401.1
        refine lv_istore (lv' := [(5, .int 0), (4, .int 4), (0, .ref Mm), (1, .int 0), (2, .ref Mrr), (3, .int 0)]) hx hb dX7_items_93 hl (by decide) rfl (fun ls hl => ?_)
        refine lv_goto (tgt := 20) hx hb dX7_items_95 (by decide) ?_
        refine lv_aload_n hx hb dX7_items_20 rfl (lv_at hl 2 rfl) ?_
        refine va_get (D := D) (ci := 7) (v := .int (-1)) (C := RX7) (T := TX7) (N := 21) hx hb hts iX7 hown hK hP 1 rfl rfl 4 (by decide) f71 (fun _ h9 => h9) rfl dX7_items_21 ?_
        refine lv_iconst (v := (-1)) hx hb dX7_items_24 (by decide) ?_
        refine lv_icmp_ne (tgt := 98) hx hb dX7_items_25 (by decide) (fun cb => absurd (by decide) cb) (fun _ => ?_)
        refine lv_iload hx hb dX7_items_28 (lv_at hl 0 rfl) ?_
        refine lv_iconst (v := (-1)) hx hb dX7_items_30 (by decide) ?_
        refine lv_icmp_eq (tgt := 98) hx hb dX7_items_31 (by decide) (fun cb => absurd cb (by decide)) (fun _ => ?_)
        refine lv_iload hx hb dX7_items_34 (lv_at hl 1 rfl) ?_
        refine lv_iload hx hb dX7_items_36 (lv_at hl 0 rfl) ?_
        refine ky_Si (As := [.int 4, .int 0]) (rest := []) ⟨hx, hb, hml, hown, hts⟩ ⟨hK, hN⟩ hZ hP hD hS hA [] [0, 1, 2] (wc := []) (wr := [(Mrr, .inl (g 0, 3, .inl F_388)), (Mm, .inr (7, [.int zth, .ref Mt, .int (nI tp), .int (nI max_394), .int (-1), .ref Mrr, .ref Mrh, .ref Mrc, .int (nI rh), .int (nI rc), .ref Mn, .ref Mf, .ref Mr, .ref Mh, .int zhp, .int zcc, .ref Ma, .ref Mas, .ref Msn, .ref Mac, .ref Mat])), (Mt, .inl (g 0, 160, .inl fmt))]) rfl rfl rfl rfl (by decide) (r_X7_has_40 l D g H.size) (va_cwS 2 hts gX7_items_X7_has rfl rfl rfl (by decide +kernel) ⟨(Nat.le_of_ble_eq_true rfl), (Nat.le_of_ble_eq_true rfl)⟩) rfl hl.1 rfl (Nat.le_of_ble_eq_true rfl) dX7_items_38 ⟨(Nat.le_of_ble_eq_true rfl), (Nat.le_of_ble_eq_true rfl)⟩ (fun r_402 u H locs hw hP2 hD2 hS2 => ?_)
        clear hP hD hS
        obtain ⟨rfl, rfl⟩ := hw
        have hPD : PD D A [(Mrr, .inl (g 0, 3, .inl F_388)), (Mm, .inr (7, [.int zth, .ref Mt, .int (nI tp), .int (nI max_394), .int (-1), .ref Mrr, .ref Mrh, .ref Mrc, .int (nI rh), .int (nI rc), .ref Mn, .ref Mf, .ref Mr, .ref Mh, .int zhp, .int zcc, .ref Ma, .ref Mas, .ref Msn, .ref Mac, .ref Mat])), (Mt, .inl (g 0, 160, .inl fmt))] H := ⟨hP2, hD2⟩
        have hS := hS2; clear hP2 hD2 hS2; have hP := hPD.1; have hD := hPD.2; clear hPD
        refine W.widen (k := 0) (n := 0) (Nat.le_of_ble_eq_true rfl) (Nat.le_of_ble_eq_true rfl) ?_
        refine lv_if_ne (tgt := 98) hx hb dX7_items_41 (by decide) (fun cb => absurd (by decide) cb) (fun _ => ?_)
        refine lv_iload hx hb dX7_items_44 (lv_at hl 1 rfl) ?_
        refine lv_iconst (v := 1) hx hb dX7_items_46 (by decide) ?_
        refine lv_iload hx hb dX7_items_47 (lv_at hl 0 rfl) ?_
        refine lv_ishl hx hb dX7_items_49 ?_
        refine lv_eqi (y := 1) (by decide) ?_
        refine lv_ior hx hb dX7_items_50 ?_
        refine lv_eqi (y := 5) (by decide) ?_
        refine lv_istore (lv' := [(4, .int 5), (5, .int 0), (0, .ref Mm), (1, .int 0), (2, .ref Mrr), (3, .int 0)]) hx hb dX7_items_51 hl (by decide) rfl (fun ls hl => ?_)
        refine lv_aload_n hx hb dX7_items_53 rfl (lv_at hl 2 rfl) ?_
        refine lv_dup hx hb dX7_items_54 rfl ?_
        refine va_get (D := D) (ci := 7) (v := .int (nI max_394)) (C := RX7) (T := TX7) (N := 21) hx hb hts iX7 hown hK hP 1 rfl rfl 3 (by decide) f64 (fun _ h9 => h9) rfl dX7_items_55 ?_
        refine lv_iconst (v := 1) hx hb dX7_items_58 (by decide) ?_
        refine lv_iadd hx hb dX7_items_59 ?_
        refine lv_eqi (y := (nI (max_394 + 1))) (nI_add (max_394) (1)) ?_
        refine va_put (D := D) (ci := 7) (v := .int (nI (max_394 + 1))) (ty := .int) (C := RX7) (T := TX7) (N := 21) hx hb hts iX7 tyX7 tyX7_ok nmX7 hown hK hP hD hS 1 rfl rfl 3 (by decide) f64 (fun _ h9 => h9) rfl (by decide +kernel) (rfl) (rfl) (Nat.le_of_ble_eq_true rfl) dX7_items_60 (fun H locs hP2 hD2 hS2 => ?_)
        clear hP hD hS
        have hPD : PD D A [(Mrr, .inl (g 0, 3, .inl F_388)), (Mm, .inr (7, [.int zth, .ref Mt, .int (nI tp), .int (nI (max_394 + 1)), .int (-1), .ref Mrr, .ref Mrh, .ref Mrc, .int (nI rh), .int (nI rc), .ref Mn, .ref Mf, .ref Mr, .ref Mh, .int zhp, .int zcc, .ref Ma, .ref Mas, .ref Msn, .ref Mac, .ref Mat])), (Mt, .inl (g 0, 160, .inl fmt))] H := ⟨hP2, hD2⟩
        have hS := hS2; clear hP2 hD2 hS2; have hP := hPD.1; have hD := hPD.2; clear hPD
        refine lv_aload_n hx hb dX7_items_63 rfl (lv_at hl 4 rfl) ?_
        refine lv_iload_n hx hb dX7_items_64 rfl (lv_at hl 5 rfl) ?_
        refine lv_iload hx hb dX7_items_65 (lv_at hl 1 rfl) ?_
        refine lv_iadd hx hb dX7_items_67 ?_
        refine lv_eqi (y := 0) (by decide) ?_
        refine lv_aload_n hx hb dX7_items_68 rfl (lv_at hl 2 rfl) ?_
        refine lv_iload_n hx hb dX7_items_69 rfl (lv_at hl 3 rfl) ?_
        refine lv_iload hx hb dX7_items_70 (lv_at hl 1 rfl) ?_
        refine ky_Si (As := [.int 0, .int 0]) (rest := [.ref Mm, .int 0, .ref Mrr]) ⟨hx, hb, hml, hown, hts⟩ ⟨hK, hN⟩ hZ hP hD hS hA [] [0, 1, 2] (wc := []) (wr := [(Mrr, .inl (g 0, 3, .inl F_388)), (Mm, .inr (7, [.int zth, .ref Mt, .int (nI tp), .int (nI (max_394 + 1)), .int (-1), .ref Mrr, .ref Mrh, .ref Mrc, .int (nI rh), .int (nI rc), .ref Mn, .ref Mf, .ref Mr, .ref Mh, .int zhp, .int zcc, .ref Ma, .ref Mas, .ref Msn, .ref Mac, .ref Mat])), (Mt, .inl (g 0, 160, .inl fmt))]) rfl rfl rfl rfl (by decide) (r_X7_lowest_00 l D g H.size) (va_cwS 2 hts gX7_items_X7_lowest rfl rfl rfl (by decide +kernel) ⟨(Nat.le_of_ble_eq_true rfl), (Nat.le_of_ble_eq_true rfl)⟩) rfl hl.1 rfl (Nat.le_of_ble_eq_true rfl) dX7_items_72 ⟨(Nat.le_of_ble_eq_true rfl), (Nat.le_of_ble_eq_true rfl)⟩ (fun r_403 u H locs hw hP2 hD2 hS2 => ?_)
        clear hP hD hS
        obtain ⟨rfl, rfl⟩ := hw
        have hPD : PD D A [(Mrr, .inl (g 0, 3, .inl F_388)), (Mm, .inr (7, [.int zth, .ref Mt, .int (nI tp), .int (nI (max_394 + 1)), .int (-1), .ref Mrr, .ref Mrh, .ref Mrc, .int (nI rh), .int (nI rc), .ref Mn, .ref Mf, .ref Mr, .ref Mh, .int zhp, .int zcc, .ref Ma, .ref Mas, .ref Msn, .ref Mac, .ref Mat])), (Mt, .inl (g 0, 160, .inl fmt))] H := ⟨hP2, hD2⟩
        have hS := hS2; clear hP2 hD2 hS2; have hP := hPD.1; have hD := hPD.2; clear hPD
        refine W.widen (k := 0) (n := 0) (Nat.le_of_ble_eq_true rfl) (Nat.le_of_ble_eq_true rfl) ?_
        refine lv_iload_n hx hb dX7_items_75 rfl (lv_at hl 3 rfl) ?_
        refine lv_iload hx hb dX7_items_76 (lv_at hl 1 rfl) ?_
        refine ky_Si (As := [.int 0, .int 0]) (rest := [.int 1, .ref Mm, .int 0, .ref Mrr]) ⟨hx, hb, hml, hown, hts⟩ ⟨hK, hN⟩ hZ hP hD hS hA [] [0, 1, 2] (wc := []) (wr := [(Mrr, .inl (g 0, 3, .inl F_388)), (Mm, .inr (7, [.int zth, .ref Mt, .int (nI tp), .int (nI (max_394 + 1)), .int (-1), .ref Mrr, .ref Mrh, .ref Mrc, .int (nI rh), .int (nI rc), .ref Mn, .ref Mf, .ref Mr, .ref Mh, .int zhp, .int zcc, .ref Ma, .ref Mas, .ref Msn, .ref Mac, .ref Mat])), (Mt, .inl (g 0, 160, .inl fmt))]) rfl rfl rfl rfl (by decide) (r_X7_highest_00 l D g H.size) (va_cwS 2 hts gX7_items_X7_highest rfl rfl rfl (by decide +kernel) ⟨(Nat.le_of_ble_eq_true rfl), (Nat.le_of_ble_eq_true rfl)⟩) rfl hl.1 rfl (Nat.le_of_ble_eq_true rfl) dX7_items_78 ⟨(Nat.le_of_ble_eq_true rfl), (Nat.le_of_ble_eq_true rfl)⟩ (fun r_404 u H locs hw hP2 hD2 hS2 => ?_)
        clear hP hD hS
        obtain ⟨rfl, rfl⟩ := hw
        have hPD : PD D A [(Mrr, .inl (g 0, 3, .inl F_388)), (Mm, .inr (7, [.int zth, .ref Mt, .int (nI tp), .int (nI (max_394 + 1)), .int (-1), .ref Mrr, .ref Mrh, .ref Mrc, .int (nI rh), .int (nI rc), .ref Mn, .ref Mf, .ref Mr, .ref Mh, .int zhp, .int zcc, .ref Ma, .ref Mas, .ref Msn, .ref Mac, .ref Mat])), (Mt, .inl (g 0, 160, .inl fmt))] H := ⟨hP2, hD2⟩
        have hS := hS2; clear hP2 hD2 hS2; have hP := hPD.1; have hD := hPD.2; clear hPD
        refine W.widen (k := 0) (n := 0) (Nat.le_of_ble_eq_true rfl) (Nat.le_of_ble_eq_true rfl) ?_
        refine ky_Vi (As := [.int 1, .int 4]) (rest := [.int 0, .ref Mrr]) ⟨hx, hb, hml, hown, hts⟩ ⟨hK, hN⟩ hZ hP hD hS hA [1, 2] [0] (wc := [(Mm, .inr (7, [.int zth, .ref Mt, .int (nI tp), .int (nI (max_394 + 1)), .int (-1), .ref Mrr, .ref Mrh, .ref Mrc, .int (nI rh), .int (nI rc), .ref Mn, .ref Mf, .ref Mr, .ref Mh, .int zhp, .int zcc, .ref Ma, .ref Mas, .ref Msn, .ref Mac, .ref Mat])), (Mt, .inl (g 0, 160, .inl fmt))]) (wr := [(Mrr, .inl (g 0, 3, .inl F_388))]) rfl rfl rfl rfl (by decide) (r_X7_number l D g H.size Mm 1 4 zth Mt tp (max_394 + 1) Mrr Mrh Mrc rh rc Mn Mf Mr Mh zhp zcc Ma Mas Msn Mac Mat fmt (show tp ≤ 160 by omega) (show (max_394 + 1) ≤ tp by omega) (show 1 ≤ 1 by omega)) (cwV 2 hts gX7_items_X7_number rfl rfl rfl (by decide +kernel) ⟨(Nat.le_of_ble_eq_true rfl), (Nat.le_of_ble_eq_true rfl)⟩) 1 7 rfl rfl rfl rfl hl.1 rfl (Nat.le_of_ble_eq_true rfl) dX7_items_81 ⟨(Nat.le_of_ble_eq_true rfl), (Nat.le_of_ble_eq_true rfl)⟩ (fun r_405 u H locs hw hP2 hD2 hS2 => ?_)
        clear hP hD hS
        obtain ⟨max_406, zwrx_407, nx_408, rfl, rfl, hf_409⟩ := hw
        have hg_410 := hf_409.1
        have hg_411 := hf_409.2.1
        have hg_412 := hf_409.2.2.1
        have hPD : PD D A [(Mrr, .inl (g 0, 3, .inl F_388)), (Mm, .inr (7, [.int zth, .ref Mt, .int (nI tp), .int (nI max_406), .int zwrx_407, .ref Mrr, .ref Mrh, .ref Mrc, .int (nI rh), .int (nI rc), .ref Mn, .ref Mf, .ref Mr, .ref Mh, .int zhp, .int zcc, .ref Ma, .ref Mas, .ref Msn, .ref Mac, .ref Mat])), (Mt, .inl (g 0, 160, .inl fmt))] H := ⟨hP2, hD2⟩
        have hS := hS2; clear hP2 hD2 hS2; have hP := hPD.1; have hD := hPD.2; clear hPD
        refine W.widen (k := 0) (n := 0) (Nat.le_of_ble_eq_true rfl) (Nat.le_of_ble_eq_true rfl) ?_
        refine va_iast hx hb hK hP hD hS 0 0 rfl rfl (by unfold vp_in; decide) dX7_items_84 (fun H locs hP2 hD2 hS2 => ?_)
        clear hP hD hS
        have hPD : PD D A [(Mrr, .inl (g 0, 3, .inl (upd F_388 0 (nI nx_408)))), (Mm, .inr (7, [.int zth, .ref Mt, .int (nI tp), .int (nI max_406), .int zwrx_407, .ref Mrr, .ref Mrh, .ref Mrc, .int (nI rh), .int (nI rc), .ref Mn, .ref Mf, .ref Mr, .ref Mh, .int zhp, .int zcc, .ref Ma, .ref Mas, .ref Msn, .ref Mac, .ref Mat])), (Mt, .inl (g 0, 160, .inl fmt))] H := ⟨hP2, hD2⟩
        have hS := hS2; clear hP2 hD2 hS2; have hP := hPD.1; have hD := hPD.2; clear hPD
        have hF_413 : n1 (upd F_388 0 (nI nx_408)) := n1_upd (hF_388) (n := nx_408) (show nx_408 ≤ 99 by omega)
        generalize upd F_388 0 (nI nx_408) = F_413 at hP hD hF_413
        by_cases cw_414 : zwrx_407 = -1
        · skip
          have hPq_415 := hP; have hDq_415 := hD; have hSq_415 := hS; have hlq_415 := hl; clear hP hD hS hl
          subst cw_414
          have hP := hPq_415; have hD := hDq_415; have hS := hSq_415; have hl := hlq_415; clear hPq_415 hDq_415 hSq_415 hlq_415
          have hne_417 := hf_409.2.2.2.2 rfl
          have hR_416 : itR fmt tp 0 4 0 ma = itR fmt tp 0 2 5 max_406 := hR_391.trans ((itR_go (f := 2) (m := 4) (q := 0) hf_397 hil_401.1 hil_401.2 (by decide) (by decide) hf_409.2.2.2.1.symm).trans (by rw [hne_417]))
          refine lv_iload_n hx hb dX7_items_85 rfl (lv_at hl 3 rfl) ?_
          refine lv_aload_n hx hb dX7_items_86 rfl (lv_at hl 2 rfl) ?_
          refine ky_Vi (As := []) (rest := [.int 0]) ⟨hx, hb, hml, hown, hts⟩ ⟨hK, hN⟩ hZ hP hD hS hA [1, 2] [0] (wc := [(Mm, .inr (7, [.int zth, .ref Mt, .int (nI tp), .int (nI max_406), .int (-1), .ref Mrr, .ref Mrh, .ref Mrc, .int (nI rh), .int (nI rc), .ref Mn, .ref Mf, .ref Mr, .ref Mh, .int zhp, .int zcc, .ref Ma, .ref Mas, .ref Msn, .ref Mac, .ref Mat])), (Mt, .inl (g 0, 160, .inl fmt))]) (wr := [(Mrr, .inl (g 0, 3, .inl F_413))]) rfl rfl rfl rfl (by decide) (r_X7_ahead l D g H.size Mm zth Mt tp max_406 (-1) Mrr Mrh Mrc rh rc Mn Mf Mr Mh zhp zcc Ma Mas Msn Mac Mat fmt (show tp ≤ 160 by omega) (show max_406 ≤ tp by omega)) (cwV 0 hts gX7_items_X7_ahead rfl rfl rfl (by decide +kernel) ⟨(Nat.le_of_ble_eq_true rfl), (Nat.le_of_ble_eq_true rfl)⟩) 1 7 rfl rfl rfl rfl hl.1 rfl (Nat.le_of_ble_eq_true rfl) dX7_items_87 ⟨(Nat.le_of_ble_eq_true rfl), (Nat.le_of_ble_eq_true rfl)⟩ (fun r_418 u H locs hw hP2 hD2 hS2 => ?_)
          clear hP hD hS
          obtain ⟨max_419, rfl, rfl, hf_420, hf_421, hf_422⟩ := hw
          have hPD : PD D A [(Mrr, .inl (g 0, 3, .inl F_413)), (Mm, .inr (7, [.int zth, .ref Mt, .int (nI tp), .int (nI max_419), .int (-1), .ref Mrr, .ref Mrh, .ref Mrc, .int (nI rh), .int (nI rc), .ref Mn, .ref Mf, .ref Mr, .ref Mh, .int zhp, .int zcc, .ref Ma, .ref Mas, .ref Msn, .ref Mac, .ref Mat])), (Mt, .inl (g 0, 160, .inl fmt))] H := ⟨hP2, hD2⟩
          have hS := hS2; clear hP2 hD2 hS2; have hP := hPD.1; have hD := hPD.2; clear hPD
          refine W.widen (k := 0) (n := 0) (Nat.le_of_ble_eq_true rfl) (Nat.le_of_ble_eq_true rfl) ?_
          refine lv_topi (fun y_423 hey_423 => ?_)
          refine ky_Si (As := [.int 0, .int y_423]) (rest := []) ⟨hx, hb, hml, hown, hts⟩ ⟨hK, hN⟩ hZ hP hD hS hA [] [0, 1, 2] (wc := []) (wr := [(Mrr, .inl (g 0, 3, .inl F_413)), (Mm, .inr (7, [.int zth, .ref Mt, .int (nI tp), .int (nI max_419), .int (-1), .ref Mrr, .ref Mrh, .ref Mrc, .int (nI rh), .int (nI rc), .ref Mn, .ref Mf, .ref Mr, .ref Mh, .int zhp, .int zcc, .ref Ma, .ref Mas, .ref Msn, .ref Mac, .ref Mat])), (Mt, .inl (g 0, 160, .inl fmt))]) rfl rfl rfl rfl (by decide) (r_X7_itemBy_0 l D g H.size y_423) (va_cwS 2 hts gX7_items_X7_itemBy rfl rfl rfl (by decide +kernel) ⟨(Nat.le_of_ble_eq_true rfl), (Nat.le_of_ble_eq_true rfl)⟩) rfl hl.1 rfl (Nat.le_of_ble_eq_true rfl) dX7_items_90 ⟨(Nat.le_of_ble_eq_true rfl), (Nat.le_of_ble_eq_true rfl)⟩ (fun r_424 u H locs hw hP2 hD2 hS2 => ?_)
          clear hP hD hS
          obtain ⟨rfl, rfl⟩ := hw
          have hPD : PD D A [(Mrr, .inl (g 0, 3, .inl F_413)), (Mm, .inr (7, [.int zth, .ref Mt, .int (nI tp), .int (nI max_419), .int (-1), .ref Mrr, .ref Mrh, .ref Mrc, .int (nI rh), .int (nI rc), .ref Mn, .ref Mf, .ref Mr, .ref Mh, .int zhp, .int zcc, .ref Ma, .ref Mas, .ref Msn, .ref Mac, .ref Mat])), (Mt, .inl (g 0, 160, .inl fmt))] H := ⟨hP2, hD2⟩
          have hS := hS2; clear hP2 hD2 hS2; have hP := hPD.1; have hD := hPD.2; clear hPD
          refine W.widen (k := 0) (n := 0) (Nat.le_of_ble_eq_true rfl) (Nat.le_of_ble_eq_true rfl) ?_
          rcases itK_c 0 y_423 with qi_425 | qi_425 | qi_425 | qi_425
          · skip
            refine lv_eqi (y := (-1)) (qi_425) ?_
            refine lv_istore (lv' := [(5, .int (-1)), (4, .int 5), (0, .ref Mm), (1, .int 0), (2, .ref Mrr), (3, .int 0)]) hx hb dX7_items_93 hl (by decide) rfl (fun ls hl => ?_)
            refine lv_goto (tgt := 20) hx hb dX7_items_95 (by decide) ?_
            refine lv_aload_n hx hb dX7_items_20 rfl (lv_at hl 2 rfl) ?_
            refine va_get (D := D) (ci := 7) (v := .int (-1)) (C := RX7) (T := TX7) (N := 21) hx hb hts iX7 hown hK hP 1 rfl rfl 4 (by decide) f71 (fun _ h9 => h9) rfl dX7_items_21 ?_
            refine lv_iconst (v := (-1)) hx hb dX7_items_24 (by decide) ?_
            refine lv_icmp_ne (tgt := 98) hx hb dX7_items_25 (by decide) (fun cb => absurd (by decide) cb) (fun _ => ?_)
            refine lv_iload hx hb dX7_items_28 (lv_at hl 0 rfl) ?_
            refine lv_iconst (v := (-1)) hx hb dX7_items_30 (by decide) ?_
            refine lv_icmp_eq (tgt := 98) hx hb dX7_items_31 (by decide) (fun _ => ?_) (fun cb => absurd (by decide) cb)
            have hPD9 : PD D A [(Mm, .inr (7, [.int zth, .ref Mt, .int (nI tp), .int (nI max_419), .int (-1), .ref Mrr, .ref Mrh, .ref Mrc, .int (nI rh), .int (nI rc), .ref Mn, .ref Mf, .ref Mr, .ref Mh, .int zhp, .int zcc, .ref Ma, .ref Mas, .ref Msn, .ref Mac, .ref Mat])), (Mt, .inl (g 0, 160, .inl fmt)), (Mrr, .inl (g 0, 3, .inl F_413))] H := ⟨hP.sub [1, 2, 0] rfl, hD.sub [1, 2, 0] (by decide) rfl⟩
            have hP9 := hPD9.1; have hD9 := hPD9.2
            subst hQ
            refine W.widen (k := 0) (n := 0) (Nat.le_of_ble_eq_true rfl) (Nat.le_of_ble_eq_true rfl) ?_
            exact W.vret hx hb hr (fun tS htS _ => ⟨⟨_, rfl, ⟨max_419, (-1), F_413, rfl, ⟨(hF_413), (show max_419 ≤ tp by omega), (show ma ≤ max_419 by omega), (congrArg Prod.fst (hR_416.trans (iv_m (f := 1) (m := 5) hf_422 hey_423.symm qi_425))).symm, (fun _ => (congrArg Prod.snd (hR_416.trans (iv_m (f := 1) (m := 5) hf_422 hey_423.symm qi_425))).symm)⟩⟩, by rw [htS]; exact hP9, hD9⟩, hS.F htS⟩) hS.2.2 dX7_items_98
          · skip
            refine lv_eqi (y := 0) (qi_425) ?_
            have hil_426 := iv_lt (k := 0) (q := 0) hey_423.symm qi_425 (by decide); have hil_426a := hil_426.1
            refine lv_istore (lv' := [(5, .int 0), (4, .int 5), (0, .ref Mm), (1, .int 0), (2, .ref Mrr), (3, .int 0)]) hx hb dX7_items_93 hl (by decide) rfl (fun ls hl => ?_)
            refine lv_goto (tgt := 20) hx hb dX7_items_95 (by decide) ?_
            refine lv_aload_n hx hb dX7_items_20 rfl (lv_at hl 2 rfl) ?_
            refine va_get (D := D) (ci := 7) (v := .int (-1)) (C := RX7) (T := TX7) (N := 21) hx hb hts iX7 hown hK hP 1 rfl rfl 4 (by decide) f71 (fun _ h9 => h9) rfl dX7_items_21 ?_
            refine lv_iconst (v := (-1)) hx hb dX7_items_24 (by decide) ?_
            refine lv_icmp_ne (tgt := 98) hx hb dX7_items_25 (by decide) (fun cb => absurd (by decide) cb) (fun _ => ?_)
            refine lv_iload hx hb dX7_items_28 (lv_at hl 0 rfl) ?_
            refine lv_iconst (v := (-1)) hx hb dX7_items_30 (by decide) ?_
            refine lv_icmp_eq (tgt := 98) hx hb dX7_items_31 (by decide) (fun cb => absurd cb (by decide)) (fun _ => ?_)
            refine lv_iload hx hb dX7_items_34 (lv_at hl 1 rfl) ?_
            refine lv_iload hx hb dX7_items_36 (lv_at hl 0 rfl) ?_
            refine ky_Si (As := [.int 5, .int 0]) (rest := []) ⟨hx, hb, hml, hown, hts⟩ ⟨hK, hN⟩ hZ hP hD hS hA [] [0, 1, 2] (wc := []) (wr := [(Mrr, .inl (g 0, 3, .inl F_413)), (Mm, .inr (7, [.int zth, .ref Mt, .int (nI tp), .int (nI max_419), .int (-1), .ref Mrr, .ref Mrh, .ref Mrc, .int (nI rh), .int (nI rc), .ref Mn, .ref Mf, .ref Mr, .ref Mh, .int zhp, .int zcc, .ref Ma, .ref Mas, .ref Msn, .ref Mac, .ref Mat])), (Mt, .inl (g 0, 160, .inl fmt))]) rfl rfl rfl rfl (by decide) (r_X7_has_50 l D g H.size) (va_cwS 2 hts gX7_items_X7_has rfl rfl rfl (by decide +kernel) ⟨(Nat.le_of_ble_eq_true rfl), (Nat.le_of_ble_eq_true rfl)⟩) rfl hl.1 rfl (Nat.le_of_ble_eq_true rfl) dX7_items_38 ⟨(Nat.le_of_ble_eq_true rfl), (Nat.le_of_ble_eq_true rfl)⟩ (fun r_427 u H locs hw hP2 hD2 hS2 => ?_)
            clear hP hD hS
            obtain ⟨rfl, rfl⟩ := hw
            have hPD : PD D A [(Mrr, .inl (g 0, 3, .inl F_413)), (Mm, .inr (7, [.int zth, .ref Mt, .int (nI tp), .int (nI max_419), .int (-1), .ref Mrr, .ref Mrh, .ref Mrc, .int (nI rh), .int (nI rc), .ref Mn, .ref Mf, .ref Mr, .ref Mh, .int zhp, .int zcc, .ref Ma, .ref Mas, .ref Msn, .ref Mac, .ref Mat])), (Mt, .inl (g 0, 160, .inl fmt))] H := ⟨hP2, hD2⟩
            have hS := hS2; clear hP2 hD2 hS2; have hP := hPD.1; have hD := hPD.2; clear hPD
            refine W.widen (k := 0) (n := 0) (Nat.le_of_ble_eq_true rfl) (Nat.le_of_ble_eq_true rfl) ?_
            refine lv_if_ne (tgt := 98) hx hb dX7_items_41 (by decide) (fun _ => ?_) (fun cb => absurd cb (by decide))
            have hPD9 : PD D A [(Mm, .inr (7, [.int zth, .ref Mt, .int (nI tp), .int (nI max_419), .int (-1), .ref Mrr, .ref Mrh, .ref Mrc, .int (nI rh), .int (nI rc), .ref Mn, .ref Mf, .ref Mr, .ref Mh, .int zhp, .int zcc, .ref Ma, .ref Mas, .ref Msn, .ref Mac, .ref Mat])), (Mt, .inl (g 0, 160, .inl fmt)), (Mrr, .inl (g 0, 3, .inl F_413))] H := ⟨hP.sub [1, 2, 0] rfl, hD.sub [1, 2, 0] (by decide) rfl⟩
            have hP9 := hPD9.1; have hD9 := hPD9.2
            subst hQ
            refine W.widen (k := 0) (n := 0) (Nat.le_of_ble_eq_true rfl) (Nat.le_of_ble_eq_true rfl) ?_
            exact W.vret hx hb hr (fun tS htS _ => ⟨⟨_, rfl, ⟨max_419, (-1), F_413, rfl, ⟨(hF_413), (show max_419 ≤ tp by omega), (show ma ≤ max_419 by omega), (congrArg Prod.fst (hR_416.trans (itR_again (f := 1) (m := 5) (q := 0) hf_422 hil_426.2 (by decide) (by decide)))).symm, (fun _ => (congrArg Prod.snd (hR_416.trans (itR_again (f := 1) (m := 5) (q := 0) hf_422 hil_426.2 (by decide) (by decide)))).symm)⟩⟩, by rw [htS]; exact hP9, hD9⟩, hS.F htS⟩) hS.2.2 dX7_items_98
          · skip
            refine lv_eqi (y := 1) (qi_425) ?_
            have hil_428 := iv_lt (k := 0) (q := 1) hey_423.symm qi_425 (by decide); have hil_428a := hil_428.1
            refine lv_istore (lv' := [(5, .int 1), (4, .int 5), (0, .ref Mm), (1, .int 0), (2, .ref Mrr), (3, .int 0)]) hx hb dX7_items_93 hl (by decide) rfl (fun ls hl => ?_)
            refine lv_goto (tgt := 20) hx hb dX7_items_95 (by decide) ?_
            refine lv_aload_n hx hb dX7_items_20 rfl (lv_at hl 2 rfl) ?_
            refine va_get (D := D) (ci := 7) (v := .int (-1)) (C := RX7) (T := TX7) (N := 21) hx hb hts iX7 hown hK hP 1 rfl rfl 4 (by decide) f71 (fun _ h9 => h9) rfl dX7_items_21 ?_
            refine lv_iconst (v := (-1)) hx hb dX7_items_24 (by decide) ?_
            refine lv_icmp_ne (tgt := 98) hx hb dX7_items_25 (by decide) (fun cb => absurd (by decide) cb) (fun _ => ?_)
            refine lv_iload hx hb dX7_items_28 (lv_at hl 0 rfl) ?_
            refine lv_iconst (v := (-1)) hx hb dX7_items_30 (by decide) ?_
            refine lv_icmp_eq (tgt := 98) hx hb dX7_items_31 (by decide) (fun cb => absurd cb (by decide)) (fun _ => ?_)
            refine lv_iload hx hb dX7_items_34 (lv_at hl 1 rfl) ?_
            refine lv_iload hx hb dX7_items_36 (lv_at hl 0 rfl) ?_
            refine ky_Si (As := [.int 5, .int 1]) (rest := []) ⟨hx, hb, hml, hown, hts⟩ ⟨hK, hN⟩ hZ hP hD hS hA [] [0, 1, 2] (wc := []) (wr := [(Mrr, .inl (g 0, 3, .inl F_413)), (Mm, .inr (7, [.int zth, .ref Mt, .int (nI tp), .int (nI max_419), .int (-1), .ref Mrr, .ref Mrh, .ref Mrc, .int (nI rh), .int (nI rc), .ref Mn, .ref Mf, .ref Mr, .ref Mh, .int zhp, .int zcc, .ref Ma, .ref Mas, .ref Msn, .ref Mac, .ref Mat])), (Mt, .inl (g 0, 160, .inl fmt))]) rfl rfl rfl rfl (by decide) (r_X7_has_51 l D g H.size) (va_cwS 2 hts gX7_items_X7_has rfl rfl rfl (by decide +kernel) ⟨(Nat.le_of_ble_eq_true rfl), (Nat.le_of_ble_eq_true rfl)⟩) rfl hl.1 rfl (Nat.le_of_ble_eq_true rfl) dX7_items_38 ⟨(Nat.le_of_ble_eq_true rfl), (Nat.le_of_ble_eq_true rfl)⟩ (fun r_429 u H locs hw hP2 hD2 hS2 => ?_)
            clear hP hD hS
            obtain ⟨rfl, rfl⟩ := hw
            have hPD : PD D A [(Mrr, .inl (g 0, 3, .inl F_413)), (Mm, .inr (7, [.int zth, .ref Mt, .int (nI tp), .int (nI max_419), .int (-1), .ref Mrr, .ref Mrh, .ref Mrc, .int (nI rh), .int (nI rc), .ref Mn, .ref Mf, .ref Mr, .ref Mh, .int zhp, .int zcc, .ref Ma, .ref Mas, .ref Msn, .ref Mac, .ref Mat])), (Mt, .inl (g 0, 160, .inl fmt))] H := ⟨hP2, hD2⟩
            have hS := hS2; clear hP2 hD2 hS2; have hP := hPD.1; have hD := hPD.2; clear hPD
            refine W.widen (k := 0) (n := 0) (Nat.le_of_ble_eq_true rfl) (Nat.le_of_ble_eq_true rfl) ?_
            refine lv_if_ne (tgt := 98) hx hb dX7_items_41 (by decide) (fun cb => absurd (by decide) cb) (fun _ => ?_)
            refine lv_iload hx hb dX7_items_44 (lv_at hl 1 rfl) ?_
            refine lv_iconst (v := 1) hx hb dX7_items_46 (by decide) ?_
            refine lv_iload hx hb dX7_items_47 (lv_at hl 0 rfl) ?_
            refine lv_ishl hx hb dX7_items_49 ?_
            refine lv_eqi (y := 2) (by decide) ?_
            refine lv_ior hx hb dX7_items_50 ?_
            refine lv_eqi (y := 7) (by decide) ?_
            refine lv_istore (lv' := [(4, .int 7), (5, .int 1), (0, .ref Mm), (1, .int 0), (2, .ref Mrr), (3, .int 0)]) hx hb dX7_items_51 hl (by decide) rfl (fun ls hl => ?_)
            refine lv_aload_n hx hb dX7_items_53 rfl (lv_at hl 2 rfl) ?_
            refine lv_dup hx hb dX7_items_54 rfl ?_
            refine va_get (D := D) (ci := 7) (v := .int (nI max_419)) (C := RX7) (T := TX7) (N := 21) hx hb hts iX7 hown hK hP 1 rfl rfl 3 (by decide) f64 (fun _ h9 => h9) rfl dX7_items_55 ?_
            refine lv_iconst (v := 1) hx hb dX7_items_58 (by decide) ?_
            refine lv_iadd hx hb dX7_items_59 ?_
            refine lv_eqi (y := (nI (max_419 + 1))) (nI_add (max_419) (1)) ?_
            refine va_put (D := D) (ci := 7) (v := .int (nI (max_419 + 1))) (ty := .int) (C := RX7) (T := TX7) (N := 21) hx hb hts iX7 tyX7 tyX7_ok nmX7 hown hK hP hD hS 1 rfl rfl 3 (by decide) f64 (fun _ h9 => h9) rfl (by decide +kernel) (rfl) (rfl) (Nat.le_of_ble_eq_true rfl) dX7_items_60 (fun H locs hP2 hD2 hS2 => ?_)
            clear hP hD hS
            have hPD : PD D A [(Mrr, .inl (g 0, 3, .inl F_413)), (Mm, .inr (7, [.int zth, .ref Mt, .int (nI tp), .int (nI (max_419 + 1)), .int (-1), .ref Mrr, .ref Mrh, .ref Mrc, .int (nI rh), .int (nI rc), .ref Mn, .ref Mf, .ref Mr, .ref Mh, .int zhp, .int zcc, .ref Ma, .ref Mas, .ref Msn, .ref Mac, .ref Mat])), (Mt, .inl (g 0, 160, .inl fmt))] H := ⟨hP2, hD2⟩
            have hS := hS2; clear hP2 hD2 hS2; have hP := hPD.1; have hD := hPD.2; clear hPD
            refine lv_aload_n hx hb dX7_items_63 rfl (lv_at hl 4 rfl) ?_
            refine lv_iload_n hx hb dX7_items_64 rfl (lv_at hl 5 rfl) ?_
            refine lv_iload hx hb dX7_items_65 (lv_at hl 1 rfl) ?_
            refine lv_iadd hx hb dX7_items_67 ?_
            refine lv_eqi (y := 1) (by decide) ?_
            refine lv_aload_n hx hb dX7_items_68 rfl (lv_at hl 2 rfl) ?_
            refine lv_iload_n hx hb dX7_items_69 rfl (lv_at hl 3 rfl) ?_
            refine lv_iload hx hb dX7_items_70 (lv_at hl 1 rfl) ?_
            refine ky_Si (As := [.int 0, .int 1]) (rest := [.ref Mm, .int 1, .ref Mrr]) ⟨hx, hb, hml, hown, hts⟩ ⟨hK, hN⟩ hZ hP hD hS hA [] [0, 1, 2] (wc := []) (wr := [(Mrr, .inl (g 0, 3, .inl F_413)), (Mm, .inr (7, [.int zth, .ref Mt, .int (nI tp), .int (nI (max_419 + 1)), .int (-1), .ref Mrr, .ref Mrh, .ref Mrc, .int (nI rh), .int (nI rc), .ref Mn, .ref Mf, .ref Mr, .ref Mh, .int zhp, .int zcc, .ref Ma, .ref Mas, .ref Msn, .ref Mac, .ref Mat])), (Mt, .inl (g 0, 160, .inl fmt))]) rfl rfl rfl rfl (by decide) (r_X7_lowest_01 l D g H.size) (va_cwS 2 hts gX7_items_X7_lowest rfl rfl rfl (by decide +kernel) ⟨(Nat.le_of_ble_eq_true rfl), (Nat.le_of_ble_eq_true rfl)⟩) rfl hl.1 rfl (Nat.le_of_ble_eq_true rfl) dX7_items_72 ⟨(Nat.le_of_ble_eq_true rfl), (Nat.le_of_ble_eq_true rfl)⟩ (fun r_430 u H locs hw hP2 hD2 hS2 => ?_)
            clear hP hD hS
            obtain ⟨rfl, rfl⟩ := hw
            have hPD : PD D A [(Mrr, .inl (g 0, 3, .inl F_413)), (Mm, .inr (7, [.int zth, .ref Mt, .int (nI tp), .int (nI (max_419 + 1)), .int (-1), .ref Mrr, .ref Mrh, .ref Mrc, .int (nI rh), .int (nI rc), .ref Mn, .ref Mf, .ref Mr, .ref Mh, .int zhp, .int zcc, .ref Ma, .ref Mas, .ref Msn, .ref Mac, .ref Mat])), (Mt, .inl (g 0, 160, .inl fmt))] H := ⟨hP2, hD2⟩
            have hS := hS2; clear hP2 hD2 hS2; have hP := hPD.1; have hD := hPD.2; clear hPD
            refine W.widen (k := 0) (n := 0) (Nat.le_of_ble_eq_true rfl) (Nat.le_of_ble_eq_true rfl) ?_
            refine lv_iload_n hx hb dX7_items_75 rfl (lv_at hl 3 rfl) ?_
            refine lv_iload hx hb dX7_items_76 (lv_at hl 1 rfl) ?_
            refine ky_Si (As := [.int 0, .int 1]) (rest := [.int 0, .ref Mm, .int 1, .ref Mrr]) ⟨hx, hb, hml, hown, hts⟩ ⟨hK, hN⟩ hZ hP hD hS hA [] [0, 1, 2] (wc := []) (wr := [(Mrr, .inl (g 0, 3, .inl F_413)), (Mm, .inr (7, [.int zth, .ref Mt, .int (nI tp), .int (nI (max_419 + 1)), .int (-1), .ref Mrr, .ref Mrh, .ref Mrc, .int (nI rh), .int (nI rc), .ref Mn, .ref Mf, .ref Mr, .ref Mh, .int zhp, .int zcc, .ref Ma, .ref Mas, .ref Msn, .ref Mac, .ref Mat])), (Mt, .inl (g 0, 160, .inl fmt))]) rfl rfl rfl rfl (by decide) (r_X7_highest_01 l D g H.size) (va_cwS 2 hts gX7_items_X7_highest rfl rfl rfl (by decide +kernel) ⟨(Nat.le_of_ble_eq_true rfl), (Nat.le_of_ble_eq_true rfl)⟩) rfl hl.1 rfl (Nat.le_of_ble_eq_true rfl) dX7_items_78 ⟨(Nat.le_of_ble_eq_true rfl), (Nat.le_of_ble_eq_true rfl)⟩ (fun r_431 u H locs hw hP2 hD2 hS2 => ?_)
            clear hP hD hS
            obtain ⟨rfl, rfl⟩ := hw
            have hPD : PD D A [(Mrr, .inl (g 0, 3, .inl F_413)), (Mm, .inr (7, [.int zth, .ref Mt, .int (nI tp), .int (nI (max_419 + 1)), .int (-1), .ref Mrr, .ref Mrh, .ref Mrc, .int (nI rh), .int (nI rc), .ref Mn, .ref Mf, .ref Mr, .ref Mh, .int zhp, .int zcc, .ref Ma, .ref Mas, .ref Msn, .ref Mac, .ref Mat])), (Mt, .inl (g 0, 160, .inl fmt))] H := ⟨hP2, hD2⟩
            have hS := hS2; clear hP2 hD2 hS2; have hP := hPD.1; have hD := hPD.2; clear hPD
            refine W.widen (k := 0) (n := 0) (Nat.le_of_ble_eq_true rfl) (Nat.le_of_ble_eq_true rfl) ?_
            refine ky_Vi (As := [.int 0, .int 20]) (rest := [.int 1, .ref Mrr]) ⟨hx, hb, hml, hown, hts⟩ ⟨hK, hN⟩ hZ hP hD hS hA [1, 2] [0] (wc := [(Mm, .inr (7, [.int zth, .ref Mt, .int (nI tp), .int (nI (max_419 + 1)), .int (-1), .ref Mrr, .ref Mrh, .ref Mrc, .int (nI rh), .int (nI rc), .ref Mn, .ref Mf, .ref Mr, .ref Mh, .int zhp, .int zcc, .ref Ma, .ref Mas, .ref Msn, .ref Mac, .ref Mat])), (Mt, .inl (g 0, 160, .inl fmt))]) (wr := [(Mrr, .inl (g 0, 3, .inl F_413))]) rfl rfl rfl rfl (by decide) (r_X7_number l D g H.size Mm 0 20 zth Mt tp (max_419 + 1) Mrr Mrh Mrc rh rc Mn Mf Mr Mh zhp zcc Ma Mas Msn Mac Mat fmt (show tp ≤ 160 by omega) (show (max_419 + 1) ≤ tp by omega) (show 0 ≤ 1 by omega)) (cwV 2 hts gX7_items_X7_number rfl rfl rfl (by decide +kernel) ⟨(Nat.le_of_ble_eq_true rfl), (Nat.le_of_ble_eq_true rfl)⟩) 1 7 rfl rfl rfl rfl hl.1 rfl (Nat.le_of_ble_eq_true rfl) dX7_items_81 ⟨(Nat.le_of_ble_eq_true rfl), (Nat.le_of_ble_eq_true rfl)⟩ (fun r_432 u H locs hw hP2 hD2 hS2 => ?_)
            clear hP hD hS
            obtain ⟨max_433, zwrx_434, nx_435, rfl, rfl, hf_436⟩ := hw
            have hg_437 := hf_436.1
            have hg_438 := hf_436.2.1
            have hg_439 := hf_436.2.2.1
            have hPD : PD D A [(Mrr, .inl (g 0, 3, .inl F_413)), (Mm, .inr (7, [.int zth, .ref Mt, .int (nI tp), .int (nI max_433), .int zwrx_434, .ref Mrr, .ref Mrh, .ref Mrc, .int (nI rh), .int (nI rc), .ref Mn, .ref Mf, .ref Mr, .ref Mh, .int zhp, .int zcc, .ref Ma, .ref Mas, .ref Msn, .ref Mac, .ref Mat])), (Mt, .inl (g 0, 160, .inl fmt))] H := ⟨hP2, hD2⟩
            have hS := hS2; clear hP2 hD2 hS2; have hP := hPD.1; have hD := hPD.2; clear hPD
            refine W.widen (k := 0) (n := 0) (Nat.le_of_ble_eq_true rfl) (Nat.le_of_ble_eq_true rfl) ?_
            refine va_iast hx hb hK hP hD hS 0 0 rfl rfl (by unfold vp_in; decide) dX7_items_84 (fun H locs hP2 hD2 hS2 => ?_)
            clear hP hD hS
            have hPD : PD D A [(Mrr, .inl (g 0, 3, .inl (upd F_413 1 (nI nx_435)))), (Mm, .inr (7, [.int zth, .ref Mt, .int (nI tp), .int (nI max_433), .int zwrx_434, .ref Mrr, .ref Mrh, .ref Mrc, .int (nI rh), .int (nI rc), .ref Mn, .ref Mf, .ref Mr, .ref Mh, .int zhp, .int zcc, .ref Ma, .ref Mas, .ref Msn, .ref Mac, .ref Mat])), (Mt, .inl (g 0, 160, .inl fmt))] H := ⟨hP2, hD2⟩
            have hS := hS2; clear hP2 hD2 hS2; have hP := hPD.1; have hD := hPD.2; clear hPD
            have hF_440 : n1 (upd F_413 1 (nI nx_435)) := n1_upd (hF_413) (n := nx_435) (show nx_435 ≤ 99 by omega)
            generalize upd F_413 1 (nI nx_435) = F_440 at hP hD hF_440
            by_cases cw_441 : zwrx_434 = -1
            · skip
              have hPq_442 := hP; have hDq_442 := hD; have hSq_442 := hS; have hlq_442 := hl; clear hP hD hS hl
              subst cw_441
              have hP := hPq_442; have hD := hDq_442; have hS := hSq_442; have hl := hlq_442; clear hPq_442 hDq_442 hSq_442 hlq_442
              have hne_444 := hf_436.2.2.2.2 rfl
              have hR_443 : itR fmt tp 0 4 0 ma = itR fmt tp 0 1 7 max_433 := hR_416.trans ((itR_go (f := 1) (m := 5) (q := 1) hf_422 hil_428.1 hil_428.2 (by decide) (by decide) hf_436.2.2.2.1.symm).trans (by rw [hne_444]))
              refine lv_iload_n hx hb dX7_items_85 rfl (lv_at hl 3 rfl) ?_
              refine lv_aload_n hx hb dX7_items_86 rfl (lv_at hl 2 rfl) ?_
              refine ky_Vi (As := []) (rest := [.int 0]) ⟨hx, hb, hml, hown, hts⟩ ⟨hK, hN⟩ hZ hP hD hS hA [1, 2] [0] (wc := [(Mm, .inr (7, [.int zth, .ref Mt, .int (nI tp), .int (nI max_433), .int (-1), .ref Mrr, .ref Mrh, .ref Mrc, .int (nI rh), .int (nI rc), .ref Mn, .ref Mf, .ref Mr, .ref Mh, .int zhp, .int zcc, .ref Ma, .ref Mas, .ref Msn, .ref Mac, .ref Mat])), (Mt, .inl (g 0, 160, .inl fmt))]) (wr := [(Mrr, .inl (g 0, 3, .inl F_440))]) rfl rfl rfl rfl (by decide) (r_X7_ahead l D g H.size Mm zth Mt tp max_433 (-1) Mrr Mrh Mrc rh rc Mn Mf Mr Mh zhp zcc Ma Mas Msn Mac Mat fmt (show tp ≤ 160 by omega) (show max_433 ≤ tp by omega)) (cwV 0 hts gX7_items_X7_ahead rfl rfl rfl (by decide +kernel) ⟨(Nat.le_of_ble_eq_true rfl), (Nat.le_of_ble_eq_true rfl)⟩) 1 7 rfl rfl rfl rfl hl.1 rfl (Nat.le_of_ble_eq_true rfl) dX7_items_87 ⟨(Nat.le_of_ble_eq_true rfl), (Nat.le_of_ble_eq_true rfl)⟩ (fun r_445 u H locs hw hP2 hD2 hS2 => ?_)
              clear hP hD hS
              obtain ⟨max_446, rfl, rfl, hf_447, hf_448, hf_449⟩ := hw
              have hPD : PD D A [(Mrr, .inl (g 0, 3, .inl F_440)), (Mm, .inr (7, [.int zth, .ref Mt, .int (nI tp), .int (nI max_446), .int (-1), .ref Mrr, .ref Mrh, .ref Mrc, .int (nI rh), .int (nI rc), .ref Mn, .ref Mf, .ref Mr, .ref Mh, .int zhp, .int zcc, .ref Ma, .ref Mas, .ref Msn, .ref Mac, .ref Mat])), (Mt, .inl (g 0, 160, .inl fmt))] H := ⟨hP2, hD2⟩
              have hS := hS2; clear hP2 hD2 hS2; have hP := hPD.1; have hD := hPD.2; clear hPD
              refine W.widen (k := 0) (n := 0) (Nat.le_of_ble_eq_true rfl) (Nat.le_of_ble_eq_true rfl) ?_
              refine lv_topi (fun y_450 hey_450 => ?_)
              refine ky_Si (As := [.int 0, .int y_450]) (rest := []) ⟨hx, hb, hml, hown, hts⟩ ⟨hK, hN⟩ hZ hP hD hS hA [] [0, 1, 2] (wc := []) (wr := [(Mrr, .inl (g 0, 3, .inl F_440)), (Mm, .inr (7, [.int zth, .ref Mt, .int (nI tp), .int (nI max_446), .int (-1), .ref Mrr, .ref Mrh, .ref Mrc, .int (nI rh), .int (nI rc), .ref Mn, .ref Mf, .ref Mr, .ref Mh, .int zhp, .int zcc, .ref Ma, .ref Mas, .ref Msn, .ref Mac, .ref Mat])), (Mt, .inl (g 0, 160, .inl fmt))]) rfl rfl rfl rfl (by decide) (r_X7_itemBy_0 l D g H.size y_450) (va_cwS 2 hts gX7_items_X7_itemBy rfl rfl rfl (by decide +kernel) ⟨(Nat.le_of_ble_eq_true rfl), (Nat.le_of_ble_eq_true rfl)⟩) rfl hl.1 rfl (Nat.le_of_ble_eq_true rfl) dX7_items_90 ⟨(Nat.le_of_ble_eq_true rfl), (Nat.le_of_ble_eq_true rfl)⟩ (fun r_451 u H locs hw hP2 hD2 hS2 => ?_)
              clear hP hD hS
              obtain ⟨rfl, rfl⟩ := hw
              have hPD : PD D A [(Mrr, .inl (g 0, 3, .inl F_440)), (Mm, .inr (7, [.int zth, .ref Mt, .int (nI tp), .int (nI max_446), .int (-1), .ref Mrr, .ref Mrh, .ref Mrc, .int (nI rh), .int (nI rc), .ref Mn, .ref Mf, .ref Mr, .ref Mh, .int zhp, .int zcc, .ref Ma, .ref Mas, .ref Msn, .ref Mac, .ref Mat])), (Mt, .inl (g 0, 160, .inl fmt))] H := ⟨hP2, hD2⟩
              have hS := hS2; clear hP2 hD2 hS2; have hP := hPD.1; have hD := hPD.2; clear hPD
              refine W.widen (k := 0) (n := 0) (Nat.le_of_ble_eq_true rfl) (Nat.le_of_ble_eq_true rfl) ?_
              rcases itK_c 0 y_450 with qi_452 | qi_452 | qi_452 | qi_452
              · skip
                refine lv_eqi (y := (-1)) (qi_452) ?_
                refine lv_istore (lv' := [(5, .int (-1)), (4, .int 7), (0, .ref Mm), (1, .int 0), (2, .ref Mrr), (3, .int 0)]) hx hb dX7_items_93 hl (by decide) rfl (fun ls hl => ?_)
                refine lv_goto (tgt := 20) hx hb dX7_items_95 (by decide) ?_
                refine lv_aload_n hx hb dX7_items_20 rfl (lv_at hl 2 rfl) ?_
                refine va_get (D := D) (ci := 7) (v := .int (-1)) (C := RX7) (T := TX7) (N := 21) hx hb hts iX7 hown hK hP 1 rfl rfl 4 (by decide) f71 (fun _ h9 => h9) rfl dX7_items_21 ?_
                refine lv_iconst (v := (-1)) hx hb dX7_items_24 (by decide) ?_
                refine lv_icmp_ne (tgt := 98) hx hb dX7_items_25 (by decide) (fun cb => absurd (by decide) cb) (fun _ => ?_)
                refine lv_iload hx hb dX7_items_28 (lv_at hl 0 rfl) ?_
                refine lv_iconst (v := (-1)) hx hb dX7_items_30 (by decide) ?_
                refine lv_icmp_eq (tgt := 98) hx hb dX7_items_31 (by decide) (fun _ => ?_) (fun cb => absurd (by decide) cb)
                have hPD9 : PD D A [(Mm, .inr (7, [.int zth, .ref Mt, .int (nI tp), .int (nI max_446), .int (-1), .ref Mrr, .ref Mrh, .ref Mrc, .int (nI rh), .int (nI rc), .ref Mn, .ref Mf, .ref Mr, .ref Mh, .int zhp, .int zcc, .ref Ma, .ref Mas, .ref Msn, .ref Mac, .ref Mat])), (Mt, .inl (g 0, 160, .inl fmt)), (Mrr, .inl (g 0, 3, .inl F_440))] H := ⟨hP.sub [1, 2, 0] rfl, hD.sub [1, 2, 0] (by decide) rfl⟩
                have hP9 := hPD9.1; have hD9 := hPD9.2
                subst hQ
                refine W.widen (k := 0) (n := 0) (Nat.le_of_ble_eq_true rfl) (Nat.le_of_ble_eq_true rfl) ?_
                exact W.vret hx hb hr (fun tS htS _ => ⟨⟨_, rfl, ⟨max_446, (-1), F_440, rfl, ⟨(hF_440), (show max_446 ≤ tp by omega), (show ma ≤ max_446 by omega), (congrArg Prod.fst (hR_443.trans (iv_m (f := 0) (m := 7) hf_449 hey_450.symm qi_452))).symm, (fun _ => (congrArg Prod.snd (hR_443.trans (iv_m (f := 0) (m := 7) hf_449 hey_450.symm qi_452))).symm)⟩⟩, by rw [htS]; exact hP9, hD9⟩, hS.F htS⟩) hS.2.2 dX7_items_98
              · skip
                refine lv_eqi (y := 0) (qi_452) ?_
                have hil_453 := iv_lt (k := 0) (q := 0) hey_450.symm qi_452 (by decide); have hil_453a := hil_453.1
                refine lv_istore (lv' := [(5, .int 0), (4, .int 7), (0, .ref Mm), (1, .int 0), (2, .ref Mrr), (3, .int 0)]) hx hb dX7_items_93 hl (by decide) rfl (fun ls hl => ?_)
                refine lv_goto (tgt := 20) hx hb dX7_items_95 (by decide) ?_
                refine lv_aload_n hx hb dX7_items_20 rfl (lv_at hl 2 rfl) ?_
                refine va_get (D := D) (ci := 7) (v := .int (-1)) (C := RX7) (T := TX7) (N := 21) hx hb hts iX7 hown hK hP 1 rfl rfl 4 (by decide) f71 (fun _ h9 => h9) rfl dX7_items_21 ?_
                refine lv_iconst (v := (-1)) hx hb dX7_items_24 (by decide) ?_
                refine lv_icmp_ne (tgt := 98) hx hb dX7_items_25 (by decide) (fun cb => absurd (by decide) cb) (fun _ => ?_)
                refine lv_iload hx hb dX7_items_28 (lv_at hl 0 rfl) ?_
                refine lv_iconst (v := (-1)) hx hb dX7_items_30 (by decide) ?_
                refine lv_icmp_eq (tgt := 98) hx hb dX7_items_31 (by decide) (fun cb => absurd cb (by decide)) (fun _ => ?_)
                refine lv_iload hx hb dX7_items_34 (lv_at hl 1 rfl) ?_
                refine lv_iload hx hb dX7_items_36 (lv_at hl 0 rfl) ?_
                refine ky_Si (As := [.int 7, .int 0]) (rest := []) ⟨hx, hb, hml, hown, hts⟩ ⟨hK, hN⟩ hZ hP hD hS hA [] [0, 1, 2] (wc := []) (wr := [(Mrr, .inl (g 0, 3, .inl F_440)), (Mm, .inr (7, [.int zth, .ref Mt, .int (nI tp), .int (nI max_446), .int (-1), .ref Mrr, .ref Mrh, .ref Mrc, .int (nI rh), .int (nI rc), .ref Mn, .ref Mf, .ref Mr, .ref Mh, .int zhp, .int zcc, .ref Ma, .ref Mas, .ref Msn, .ref Mac, .ref Mat])), (Mt, .inl (g 0, 160, .inl fmt))]) rfl rfl rfl rfl (by decide) (r_X7_has_70 l D g H.size) (va_cwS 2 hts gX7_items_X7_has rfl rfl rfl (by decide +kernel) ⟨(Nat.le_of_ble_eq_true rfl), (Nat.le_of_ble_eq_true rfl)⟩) rfl hl.1 rfl (Nat.le_of_ble_eq_true rfl) dX7_items_38 ⟨(Nat.le_of_ble_eq_true rfl), (Nat.le_of_ble_eq_true rfl)⟩ (fun r_454 u H locs hw hP2 hD2 hS2 => ?_)
                clear hP hD hS
                obtain ⟨rfl, rfl⟩ := hw
                have hPD : PD D A [(Mrr, .inl (g 0, 3, .inl F_440)), (Mm, .inr (7, [.int zth, .ref Mt, .int (nI tp), .int (nI max_446), .int (-1), .ref Mrr, .ref Mrh, .ref Mrc, .int (nI rh), .int (nI rc), .ref Mn, .ref Mf, .ref Mr, .ref Mh, .int zhp, .int zcc, .ref Ma, .ref Mas, .ref Msn, .ref Mac, .ref Mat])), (Mt, .inl (g 0, 160, .inl fmt))] H := ⟨hP2, hD2⟩
                have hS := hS2; clear hP2 hD2 hS2; have hP := hPD.1; have hD := hPD.2; clear hPD
                refine W.widen (k := 0) (n := 0) (Nat.le_of_ble_eq_true rfl) (Nat.le_of_ble_eq_true rfl) ?_
                refine lv_if_ne (tgt := 98) hx hb dX7_items_41 (by decide) (fun _ => ?_) (fun cb => absurd cb (by decide))
                have hPD9 : PD D A [(Mm, .inr (7, [.int zth, .ref Mt, .int (nI tp), .int (nI max_446), .int (-1), .ref Mrr, .ref Mrh, .ref Mrc, .int (nI rh), .int (nI rc), .ref Mn, .ref Mf, .ref Mr, .ref Mh, .int zhp, .int zcc, .ref Ma, .ref Mas, .ref Msn, .ref Mac, .ref Mat])), (Mt, .inl (g 0, 160, .inl fmt)), (Mrr, .inl (g 0, 3, .inl F_440))] H := ⟨hP.sub [1, 2, 0] rfl, hD.sub [1, 2, 0] (by decide) rfl⟩
                have hP9 := hPD9.1; have hD9 := hPD9.2
                subst hQ
                refine W.widen (k := 0) (n := 0) (Nat.le_of_ble_eq_true rfl) (Nat.le_of_ble_eq_true rfl) ?_
                exact W.vret hx hb hr (fun tS htS _ => ⟨⟨_, rfl, ⟨max_446, (-1), F_440, rfl, ⟨(hF_440), (show max_446 ≤ tp by omega), (show ma ≤ max_446 by omega), (congrArg Prod.fst (hR_443.trans (itR_again (f := 0) (m := 7) (q := 0) hf_449 hil_453.2 (by decide) (by decide)))).symm, (fun _ => (congrArg Prod.snd (hR_443.trans (itR_again (f := 0) (m := 7) (q := 0) hf_449 hil_453.2 (by decide) (by decide)))).symm)⟩⟩, by rw [htS]; exact hP9, hD9⟩, hS.F htS⟩) hS.2.2 dX7_items_98
              · skip
                refine lv_eqi (y := 1) (qi_452) ?_
                have hil_455 := iv_lt (k := 0) (q := 1) hey_450.symm qi_452 (by decide); have hil_455a := hil_455.1
                refine lv_istore (lv' := [(5, .int 1), (4, .int 7), (0, .ref Mm), (1, .int 0), (2, .ref Mrr), (3, .int 0)]) hx hb dX7_items_93 hl (by decide) rfl (fun ls hl => ?_)
                refine lv_goto (tgt := 20) hx hb dX7_items_95 (by decide) ?_
                refine lv_aload_n hx hb dX7_items_20 rfl (lv_at hl 2 rfl) ?_
                refine va_get (D := D) (ci := 7) (v := .int (-1)) (C := RX7) (T := TX7) (N := 21) hx hb hts iX7 hown hK hP 1 rfl rfl 4 (by decide) f71 (fun _ h9 => h9) rfl dX7_items_21 ?_
                refine lv_iconst (v := (-1)) hx hb dX7_items_24 (by decide) ?_
                refine lv_icmp_ne (tgt := 98) hx hb dX7_items_25 (by decide) (fun cb => absurd (by decide) cb) (fun _ => ?_)
                refine lv_iload hx hb dX7_items_28 (lv_at hl 0 rfl) ?_
                refine lv_iconst (v := (-1)) hx hb dX7_items_30 (by decide) ?_
                refine lv_icmp_eq (tgt := 98) hx hb dX7_items_31 (by decide) (fun cb => absurd cb (by decide)) (fun _ => ?_)
                refine lv_iload hx hb dX7_items_34 (lv_at hl 1 rfl) ?_
                refine lv_iload hx hb dX7_items_36 (lv_at hl 0 rfl) ?_
                refine ky_Si (As := [.int 7, .int 1]) (rest := []) ⟨hx, hb, hml, hown, hts⟩ ⟨hK, hN⟩ hZ hP hD hS hA [] [0, 1, 2] (wc := []) (wr := [(Mrr, .inl (g 0, 3, .inl F_440)), (Mm, .inr (7, [.int zth, .ref Mt, .int (nI tp), .int (nI max_446), .int (-1), .ref Mrr, .ref Mrh, .ref Mrc, .int (nI rh), .int (nI rc), .ref Mn, .ref Mf, .ref Mr, .ref Mh, .int zhp, .int zcc, .ref Ma, .ref Mas, .ref Msn, .ref Mac, .ref Mat])), (Mt, .inl (g 0, 160, .inl fmt))]) rfl rfl rfl rfl (by decide) (r_X7_has_71 l D g H.size) (va_cwS 2 hts gX7_items_X7_has rfl rfl rfl (by decide +kernel) ⟨(Nat.le_of_ble_eq_true rfl), (Nat.le_of_ble_eq_true rfl)⟩) rfl hl.1 rfl (Nat.le_of_ble_eq_true rfl) dX7_items_38 ⟨(Nat.le_of_ble_eq_true rfl), (Nat.le_of_ble_eq_true rfl)⟩ (fun r_456 u H locs hw hP2 hD2 hS2 => ?_)
                clear hP hD hS
                obtain ⟨rfl, rfl⟩ := hw
                have hPD : PD D A [(Mrr, .inl (g 0, 3, .inl F_440)), (Mm, .inr (7, [.int zth, .ref Mt, .int (nI tp), .int (nI max_446), .int (-1), .ref Mrr, .ref Mrh, .ref Mrc, .int (nI rh), .int (nI rc), .ref Mn, .ref Mf, .ref Mr, .ref Mh, .int zhp, .int zcc, .ref Ma, .ref Mas, .ref Msn, .ref Mac, .ref Mat])), (Mt, .inl (g 0, 160, .inl fmt))] H := ⟨hP2, hD2⟩
                have hS := hS2; clear hP2 hD2 hS2; have hP := hPD.1; have hD := hPD.2; clear hPD
                refine W.widen (k := 0) (n := 0) (Nat.le_of_ble_eq_true rfl) (Nat.le_of_ble_eq_true rfl) ?_
                refine lv_if_ne (tgt := 98) hx hb dX7_items_41 (by decide) (fun _ => ?_) (fun cb => absurd cb (by decide))
                have hPD9 : PD D A [(Mm, .inr (7, [.int zth, .ref Mt, .int (nI tp), .int (nI max_446), .int (-1), .ref Mrr, .ref Mrh, .ref Mrc, .int (nI rh), .int (nI rc), .ref Mn, .ref Mf, .ref Mr, .ref Mh, .int zhp, .int zcc, .ref Ma, .ref Mas, .ref Msn, .ref Mac, .ref Mat])), (Mt, .inl (g 0, 160, .inl fmt)), (Mrr, .inl (g 0, 3, .inl F_440))] H := ⟨hP.sub [1, 2, 0] rfl, hD.sub [1, 2, 0] (by decide) rfl⟩
                have hP9 := hPD9.1; have hD9 := hPD9.2
                subst hQ
                refine W.widen (k := 0) (n := 0) (Nat.le_of_ble_eq_true rfl) (Nat.le_of_ble_eq_true rfl) ?_
                exact W.vret hx hb hr (fun tS htS _ => ⟨⟨_, rfl, ⟨max_446, (-1), F_440, rfl, ⟨(hF_440), (show max_446 ≤ tp by omega), (show ma ≤ max_446 by omega), (congrArg Prod.fst (hR_443.trans (itR_again (f := 0) (m := 7) (q := 1) hf_449 hil_455.2 (by decide) (by decide)))).symm, (fun _ => (congrArg Prod.snd (hR_443.trans (itR_again (f := 0) (m := 7) (q := 1) hf_449 hil_455.2 (by decide) (by decide)))).symm)⟩⟩, by rw [htS]; exact hP9, hD9⟩, hS.F htS⟩) hS.2.2 dX7_items_98
              · skip
                refine lv_eqi (y := 2) (qi_452) ?_
                have hil_457 := iv_lt (k := 0) (q := 2) hey_450.symm qi_452 (by decide); have hil_457a := hil_457.1
                refine lv_istore (lv' := [(5, .int 2), (4, .int 7), (0, .ref Mm), (1, .int 0), (2, .ref Mrr), (3, .int 0)]) hx hb dX7_items_93 hl (by decide) rfl (fun ls hl => ?_)
                refine lv_goto (tgt := 20) hx hb dX7_items_95 (by decide) ?_
                refine lv_aload_n hx hb dX7_items_20 rfl (lv_at hl 2 rfl) ?_
                refine va_get (D := D) (ci := 7) (v := .int (-1)) (C := RX7) (T := TX7) (N := 21) hx hb hts iX7 hown hK hP 1 rfl rfl 4 (by decide) f71 (fun _ h9 => h9) rfl dX7_items_21 ?_
                refine lv_iconst (v := (-1)) hx hb dX7_items_24 (by decide) ?_
                refine lv_icmp_ne (tgt := 98) hx hb dX7_items_25 (by decide) (fun cb => absurd (by decide) cb) (fun _ => ?_)
                refine lv_iload hx hb dX7_items_28 (lv_at hl 0 rfl) ?_
                refine lv_iconst (v := (-1)) hx hb dX7_items_30 (by decide) ?_
                refine lv_icmp_eq (tgt := 98) hx hb dX7_items_31 (by decide) (fun cb => absurd cb (by decide)) (fun _ => ?_)
                refine lv_iload hx hb dX7_items_34 (lv_at hl 1 rfl) ?_
                refine lv_iload hx hb dX7_items_36 (lv_at hl 0 rfl) ?_
                refine ky_Si (As := [.int 7, .int 2]) (rest := []) ⟨hx, hb, hml, hown, hts⟩ ⟨hK, hN⟩ hZ hP hD hS hA [] [0, 1, 2] (wc := []) (wr := [(Mrr, .inl (g 0, 3, .inl F_440)), (Mm, .inr (7, [.int zth, .ref Mt, .int (nI tp), .int (nI max_446), .int (-1), .ref Mrr, .ref Mrh, .ref Mrc, .int (nI rh), .int (nI rc), .ref Mn, .ref Mf, .ref Mr, .ref Mh, .int zhp, .int zcc, .ref Ma, .ref Mas, .ref Msn, .ref Mac, .ref Mat])), (Mt, .inl (g 0, 160, .inl fmt))]) rfl rfl rfl rfl (by decide) (r_X7_has_72 l D g H.size) (va_cwS 2 hts gX7_items_X7_has rfl rfl rfl (by decide +kernel) ⟨(Nat.le_of_ble_eq_true rfl), (Nat.le_of_ble_eq_true rfl)⟩) rfl hl.1 rfl (Nat.le_of_ble_eq_true rfl) dX7_items_38 ⟨(Nat.le_of_ble_eq_true rfl), (Nat.le_of_ble_eq_true rfl)⟩ (fun r_458 u H locs hw hP2 hD2 hS2 => ?_)
                clear hP hD hS
                obtain ⟨rfl, rfl⟩ := hw
                have hPD : PD D A [(Mrr, .inl (g 0, 3, .inl F_440)), (Mm, .inr (7, [.int zth, .ref Mt, .int (nI tp), .int (nI max_446), .int (-1), .ref Mrr, .ref Mrh, .ref Mrc, .int (nI rh), .int (nI rc), .ref Mn, .ref Mf, .ref Mr, .ref Mh, .int zhp, .int zcc, .ref Ma, .ref Mas, .ref Msn, .ref Mac, .ref Mat])), (Mt, .inl (g 0, 160, .inl fmt))] H := ⟨hP2, hD2⟩
                have hS := hS2; clear hP2 hD2 hS2; have hP := hPD.1; have hD := hPD.2; clear hPD
                refine W.widen (k := 0) (n := 0) (Nat.le_of_ble_eq_true rfl) (Nat.le_of_ble_eq_true rfl) ?_
                refine lv_if_ne (tgt := 98) hx hb dX7_items_41 (by decide) (fun _ => ?_) (fun cb => absurd cb (by decide))
                have hPD9 : PD D A [(Mm, .inr (7, [.int zth, .ref Mt, .int (nI tp), .int (nI max_446), .int (-1), .ref Mrr, .ref Mrh, .ref Mrc, .int (nI rh), .int (nI rc), .ref Mn, .ref Mf, .ref Mr, .ref Mh, .int zhp, .int zcc, .ref Ma, .ref Mas, .ref Msn, .ref Mac, .ref Mat])), (Mt, .inl (g 0, 160, .inl fmt)), (Mrr, .inl (g 0, 3, .inl F_440))] H := ⟨hP.sub [1, 2, 0] rfl, hD.sub [1, 2, 0] (by decide) rfl⟩
                have hP9 := hPD9.1; have hD9 := hPD9.2
                subst hQ
                refine W.widen (k := 0) (n := 0) (Nat.le_of_ble_eq_true rfl) (Nat.le_of_ble_eq_true rfl) ?_
                exact W.vret hx hb hr (fun tS htS _ => ⟨⟨_, rfl, ⟨max_446, (-1), F_440, rfl, ⟨(hF_440), (show max_446 ≤ tp by omega), (show ma ≤ max_446 by omega), (congrArg Prod.fst (hR_443.trans (itR_again (f := 0) (m := 7) (q := 2) hf_449 hil_457.2 (by decide) (by decide)))).symm, (fun _ => (congrArg Prod.snd (hR_443.trans (itR_again (f := 0) (m := 7) (q := 2) hf_449 hil_457.2 (by decide) (by decide)))).symm)⟩⟩, by rw [htS]; exact hP9, hD9⟩, hS.F htS⟩) hS.2.2 dX7_items_98
            · skip
              refine lv_iload_n hx hb dX7_items_85 rfl (lv_at hl 3 rfl) ?_
              refine lv_aload_n hx hb dX7_items_86 rfl (lv_at hl 2 rfl) ?_
              refine ky_Vi (As := []) (rest := [.int 0]) ⟨hx, hb, hml, hown, hts⟩ ⟨hK, hN⟩ hZ hP hD hS hA [1, 2] [0] (wc := [(Mm, .inr (7, [.int zth, .ref Mt, .int (nI tp), .int (nI max_433), .int zwrx_434, .ref Mrr, .ref Mrh, .ref Mrc, .int (nI rh), .int (nI rc), .ref Mn, .ref Mf, .ref Mr, .ref Mh, .int zhp, .int zcc, .ref Ma, .ref Mas, .ref Msn, .ref Mac, .ref Mat])), (Mt, .inl (g 0, 160, .inl fmt))]) (wr := [(Mrr, .inl (g 0, 3, .inl F_440))]) rfl rfl rfl rfl (by decide) (r_X7_ahead l D g H.size Mm zth Mt tp max_433 zwrx_434 Mrr Mrh Mrc rh rc Mn Mf Mr Mh zhp zcc Ma Mas Msn Mac Mat fmt (show tp ≤ 160 by omega) (show max_433 ≤ tp by omega)) (cwV 0 hts gX7_items_X7_ahead rfl rfl rfl (by decide +kernel) ⟨(Nat.le_of_ble_eq_true rfl), (Nat.le_of_ble_eq_true rfl)⟩) 1 7 rfl rfl rfl rfl hl.1 rfl (Nat.le_of_ble_eq_true rfl) dX7_items_87 ⟨(Nat.le_of_ble_eq_true rfl), (Nat.le_of_ble_eq_true rfl)⟩ (fun r_459 u H locs hw hP2 hD2 hS2 => ?_)
              clear hP hD hS
              obtain ⟨max_460, rfl, rfl, hf_461, hf_462, hf_463⟩ := hw
              have hPD : PD D A [(Mrr, .inl (g 0, 3, .inl F_440)), (Mm, .inr (7, [.int zth, .ref Mt, .int (nI tp), .int (nI max_460), .int zwrx_434, .ref Mrr, .ref Mrh, .ref Mrc, .int (nI rh), .int (nI rc), .ref Mn, .ref Mf, .ref Mr, .ref Mh, .int zhp, .int zcc, .ref Ma, .ref Mas, .ref Msn, .ref Mac, .ref Mat])), (Mt, .inl (g 0, 160, .inl fmt))] H := ⟨hP2, hD2⟩
              have hS := hS2; clear hP2 hD2 hS2; have hP := hPD.1; have hD := hPD.2; clear hPD
              refine W.widen (k := 0) (n := 0) (Nat.le_of_ble_eq_true rfl) (Nat.le_of_ble_eq_true rfl) ?_
              refine lv_topi (fun y_464 hey_464 => ?_)
              refine ky_Si (As := [.int 0, .int y_464]) (rest := []) ⟨hx, hb, hml, hown, hts⟩ ⟨hK, hN⟩ hZ hP hD hS hA [] [0, 1, 2] (wc := []) (wr := [(Mrr, .inl (g 0, 3, .inl F_440)), (Mm, .inr (7, [.int zth, .ref Mt, .int (nI tp), .int (nI max_460), .int zwrx_434, .ref Mrr, .ref Mrh, .ref Mrc, .int (nI rh), .int (nI rc), .ref Mn, .ref Mf, .ref Mr, .ref Mh, .int zhp, .int zcc, .ref Ma, .ref Mas, .ref Msn, .ref Mac, .ref Mat])), (Mt, .inl (g 0, 160, .inl fmt))]) rfl rfl rfl rfl (by decide) (r_X7_itemBy_0 l D g H.size y_464) (va_cwS 2 hts gX7_items_X7_itemBy rfl rfl rfl (by decide +kernel) ⟨(Nat.le_of_ble_eq_true rfl), (Nat.le_of_ble_eq_true rfl)⟩) rfl hl.1 rfl (Nat.le_of_ble_eq_true rfl) dX7_items_90 ⟨(Nat.le_of_ble_eq_true rfl), (Nat.le_of_ble_eq_true rfl)⟩ (fun r_465 u H locs hw hP2 hD2 hS2 => ?_)
              clear hP hD hS
              obtain ⟨rfl, rfl⟩ := hw
              have hPD : PD D A [(Mrr, .inl (g 0, 3, .inl F_440)), (Mm, .inr (7, [.int zth, .ref Mt, .int (nI tp), .int (nI max_460), .int zwrx_434, .ref Mrr, .ref Mrh, .ref Mrc, .int (nI rh), .int (nI rc), .ref Mn, .ref Mf, .ref Mr, .ref Mh, .int zhp, .int zcc, .ref Ma, .ref Mas, .ref Msn, .ref Mac, .ref Mat])), (Mt, .inl (g 0, 160, .inl fmt))] H := ⟨hP2, hD2⟩
              have hS := hS2; clear hP2 hD2 hS2; have hP := hPD.1; have hD := hPD.2; clear hPD
              refine W.widen (k := 0) (n := 0) (Nat.le_of_ble_eq_true rfl) (Nat.le_of_ble_eq_true rfl) ?_
              refine lv_istore (lv' := [(5, .int (itK 0 y_464)), (4, .int 7), (0, .ref Mm), (1, .int 0), (2, .ref Mrr), (3, .int 0)]) hx hb dX7_items_93 hl (by decide) rfl (fun ls hl => ?_)
              refine lv_goto (tgt := 20) hx hb dX7_items_95 (by decide) ?_
              refine lv_aload_n hx hb dX7_items_20 rfl (lv_at hl 2 rfl) ?_
              refine va_get (D := D) (ci := 7) (v := .int zwrx_434) (C := RX7) (T := TX7) (N := 21) hx hb hts iX7 hown hK hP 1 rfl rfl 4 (by decide) f71 (fun _ h9 => h9) rfl dX7_items_21 ?_
              refine lv_iconst (v := (-1)) hx hb dX7_items_24 (by decide) ?_
              refine lv_icmp_ne (tgt := 98) hx hb dX7_items_25 (by decide) (fun _ => ?_) (fun cb => absurd cb (cw_441))
              have hPD9 : PD D A [(Mm, .inr (7, [.int zth, .ref Mt, .int (nI tp), .int (nI max_460), .int zwrx_434, .ref Mrr, .ref Mrh, .ref Mrc, .int (nI rh), .int (nI rc), .ref Mn, .ref Mf, .ref Mr, .ref Mh, .int zhp, .int zcc, .ref Ma, .ref Mas, .ref Msn, .ref Mac, .ref Mat])), (Mt, .inl (g 0, 160, .inl fmt)), (Mrr, .inl (g 0, 3, .inl F_440))] H := ⟨hP.sub [1, 2, 0] rfl, hD.sub [1, 2, 0] (by decide) rfl⟩
              have hP9 := hPD9.1; have hD9 := hPD9.2
              subst hQ
              refine W.widen (k := 0) (n := 0) (Nat.le_of_ble_eq_true rfl) (Nat.le_of_ble_eq_true rfl) ?_
              exact W.vret hx hb hr (fun tS htS _ => ⟨⟨_, rfl, ⟨max_460, zwrx_434, F_440, rfl, ⟨(hF_440), (show max_460 ≤ tp by omega), (show ma ≤ max_460 by omega), ((congrArg Prod.fst hR_416).trans ((itR_w (f := 1) (m := 5) (q := 1) hf_422 hil_428.1 hil_428.2 (by decide) (by decide) (fun q => cw_441 (hf_436.2.2.2.1.trans q))).trans hf_436.2.2.2.1.symm)).symm, (fun q => absurd q cw_441)⟩⟩, by rw [htS]; exact hP9, hD9⟩, hS.F htS⟩) hS.2.2 dX7_items_98
          · skip
            refine lv_eqi (y := 2) (qi_425) ?_
            have hil_466 := iv_lt (k := 0) (q := 2) hey_423.symm qi_425 (by decide); have hil_466a := hil_466.1
            refine lv_istore (lv' := [(5, .int 2), (4, .int 5), (0, .ref Mm), (1, .int 0), (2, .ref Mrr), (3, .int 0)]) hx hb dX7_items_93 hl (by decide) rfl (fun ls hl => ?_)
            refine lv_goto (tgt := 20) hx hb dX7_items_95 (by decide) ?_
            refine lv_aload_n hx hb dX7_items_20 rfl (lv_at hl 2 rfl) ?_
            refine va_get (D := D) (ci := 7) (v := .int (-1)) (C := RX7) (T := TX7) (N := 21) hx hb hts iX7 hown hK hP 1 rfl rfl 4 (by decide) f71 (fun _ h9 => h9) rfl dX7_items_21 ?_
            refine lv_iconst (v := (-1)) hx hb dX7_items_24 (by decide) ?_
            refine lv_icmp_ne (tgt := 98) hx hb dX7_items_25 (by decide) (fun cb => absurd (by decide) cb) (fun _ => ?_)
            refine lv_iload hx hb dX7_items_28 (lv_at hl 0 rfl) ?_
            refine lv_iconst (v := (-1)) hx hb dX7_items_30 (by decide) ?_
            refine lv_icmp_eq (tgt := 98) hx hb dX7_items_31 (by decide) (fun cb => absurd cb (by decide)) (fun _ => ?_)
            refine lv_iload hx hb dX7_items_34 (lv_at hl 1 rfl) ?_
            refine lv_iload hx hb dX7_items_36 (lv_at hl 0 rfl) ?_
            refine ky_Si (As := [.int 5, .int 2]) (rest := []) ⟨hx, hb, hml, hown, hts⟩ ⟨hK, hN⟩ hZ hP hD hS hA [] [0, 1, 2] (wc := []) (wr := [(Mrr, .inl (g 0, 3, .inl F_413)), (Mm, .inr (7, [.int zth, .ref Mt, .int (nI tp), .int (nI max_419), .int (-1), .ref Mrr, .ref Mrh, .ref Mrc, .int (nI rh), .int (nI rc), .ref Mn, .ref Mf, .ref Mr, .ref Mh, .int zhp, .int zcc, .ref Ma, .ref Mas, .ref Msn, .ref Mac, .ref Mat])), (Mt, .inl (g 0, 160, .inl fmt))]) rfl rfl rfl rfl (by decide) (r_X7_has_52 l D g H.size) (va_cwS 2 hts gX7_items_X7_has rfl rfl rfl (by decide +kernel) ⟨(Nat.le_of_ble_eq_true rfl), (Nat.le_of_ble_eq_true rfl)⟩) rfl hl.1 rfl (Nat.le_of_ble_eq_true rfl) dX7_items_38 ⟨(Nat.le_of_ble_eq_true rfl), (Nat.le_of_ble_eq_true rfl)⟩ (fun r_467 u H locs hw hP2 hD2 hS2 => ?_)
            clear hP hD hS
            obtain ⟨rfl, rfl⟩ := hw
            have hPD : PD D A [(Mrr, .inl (g 0, 3, .inl F_413)), (Mm, .inr (7, [.int zth, .ref Mt, .int (nI tp), .int (nI max_419), .int (-1), .ref Mrr, .ref Mrh, .ref Mrc, .int (nI rh), .int (nI rc), .ref Mn, .ref Mf, .ref Mr, .ref Mh, .int zhp, .int zcc, .ref Ma, .ref Mas, .ref Msn, .ref Mac, .ref Mat])), (Mt, .inl (g 0, 160, .inl fmt))] H := ⟨hP2, hD2⟩
            have hS := hS2; clear hP2 hD2 hS2; have hP := hPD.1; have hD := hPD.2; clear hPD
            refine W.widen (k := 0) (n := 0) (Nat.le_of_ble_eq_true rfl) (Nat.le_of_ble_eq_true rfl) ?_
            refine lv_if_ne (tgt := 98) hx hb dX7_items_41 (by decide) (fun _ => ?_) (fun cb => absurd cb (by decide))
            have hPD9 : PD D A [(Mm, .inr (7, [.int zth, .ref Mt, .int (nI tp), .int (nI max_419), .int (-1), .ref Mrr, .ref Mrh, .ref Mrc, .int (nI rh), .int (nI rc), .ref Mn, .ref Mf, .ref Mr, .ref Mh, .int zhp, .int zcc, .ref Ma, .ref Mas, .ref Msn, .ref Mac, .ref Mat])), (Mt, .inl (g 0, 160, .inl fmt)), (Mrr, .inl (g 0, 3, .inl F_413))] H := ⟨hP.sub [1, 2, 0] rfl, hD.sub [1, 2, 0] (by decide) rfl⟩
            have hP9 := hPD9.1; have hD9 := hPD9.2
            subst hQ
            refine W.widen (k := 0) (n := 0) (Nat.le_of_ble_eq_true rfl) (Nat.le_of_ble_eq_true rfl) ?_
            exact W.vret hx hb hr (fun tS htS _ => ⟨⟨_, rfl, ⟨max_419, (-1), F_413, rfl, ⟨(hF_413), (show max_419 ≤ tp by omega), (show ma ≤ max_419 by omega), (congrArg Prod.fst (hR_416.trans (itR_again (f := 1) (m := 5) (q := 2) hf_422 hil_466.2 (by decide) (by decide)))).symm, (fun _ => (congrArg Prod.snd (hR_416.trans (itR_again (f := 1) (m := 5) (q := 2) hf_422 hil_466.2 (by decide) (by decide)))).symm)⟩⟩, by rw [htS]; exact hP9, hD9⟩, hS.F htS⟩) hS.2.2 dX7_items_98
        · skip
          refine lv_iload_n hx hb dX7_items_85 rfl (lv_at hl 3 rfl) ?_
          refine lv_aload_n hx hb dX7_items_86 rfl (lv_at hl 2 rfl) ?_
          refine ky_Vi (As := []) (rest := [.int 0]) ⟨hx, hb, hml, hown, hts⟩ ⟨hK, hN⟩ hZ hP hD hS hA [1, 2] [0] (wc := [(Mm, .inr (7, [.int zth, .ref Mt, .int (nI tp), .int (nI max_406), .int zwrx_407, .ref Mrr, .ref Mrh, .ref Mrc, .int (nI rh), .int (nI rc), .ref Mn, .ref Mf, .ref Mr, .ref Mh, .int zhp, .int zcc, .ref Ma, .ref Mas, .ref Msn, .ref Mac, .ref Mat])), (Mt, .inl (g 0, 160, .inl fmt))]) (wr := [(Mrr, .inl (g 0, 3, .inl F_413))]) rfl rfl rfl rfl (by decide) (r_X7_ahead l D g H.size Mm zth Mt tp max_406 zwrx_407 Mrr Mrh Mrc rh rc Mn Mf Mr Mh zhp zcc Ma Mas Msn Mac Mat fmt (show tp ≤ 160 by omega) (show max_406 ≤ tp by omega)) (cwV 0 hts gX7_items_X7_ahead rfl rfl rfl (by decide +kernel) ⟨(Nat.le_of_ble_eq_true rfl), (Nat.le_of_ble_eq_true rfl)⟩) 1 7 rfl rfl rfl rfl hl.1 rfl (Nat.le_of_ble_eq_true rfl) dX7_items_87 ⟨(Nat.le_of_ble_eq_true rfl), (Nat.le_of_ble_eq_true rfl)⟩ (fun r_468 u H locs hw hP2 hD2 hS2 => ?_)
          clear hP hD hS
          obtain ⟨max_469, rfl, rfl, hf_470, hf_471, hf_472⟩ := hw
          have hPD : PD D A [(Mrr, .inl (g 0, 3, .inl F_413)), (Mm, .inr (7, [.int zth, .ref Mt, .int (nI tp), .int (nI max_469), .int zwrx_407, .ref Mrr, .ref Mrh, .ref Mrc, .int (nI rh), .int (nI rc), .ref Mn, .ref Mf, .ref Mr, .ref Mh, .int zhp, .int zcc, .ref Ma, .ref Mas, .ref Msn, .ref Mac, .ref Mat])), (Mt, .inl (g 0, 160, .inl fmt))] H := ⟨hP2, hD2⟩
          have hS := hS2; clear hP2 hD2 hS2; have hP := hPD.1; have hD := hPD.2; clear hPD
          refine W.widen (k := 0) (n := 0) (Nat.le_of_ble_eq_true rfl) (Nat.le_of_ble_eq_true rfl) ?_
          refine lv_topi (fun y_473 hey_473 => ?_)
          refine ky_Si (As := [.int 0, .int y_473]) (rest := []) ⟨hx, hb, hml, hown, hts⟩ ⟨hK, hN⟩ hZ hP hD hS hA [] [0, 1, 2] (wc := []) (wr := [(Mrr, .inl (g 0, 3, .inl F_413)), (Mm, .inr (7, [.int zth, .ref Mt, .int (nI tp), .int (nI max_469), .int zwrx_407, .ref Mrr, .ref Mrh, .ref Mrc, .int (nI rh), .int (nI rc), .ref Mn, .ref Mf, .ref Mr, .ref Mh, .int zhp, .int zcc, .ref Ma, .ref Mas, .ref Msn, .ref Mac, .ref Mat])), (Mt, .inl (g 0, 160, .inl fmt))]) rfl rfl rfl rfl (by decide) (r_X7_itemBy_0 l D g H.size y_473) (va_cwS 2 hts gX7_items_X7_itemBy rfl rfl rfl (by decide +kernel) ⟨(Nat.le_of_ble_eq_true rfl), (Nat.le_of_ble_eq_true rfl)⟩) rfl hl.1 rfl (Nat.le_of_ble_eq_true rfl) dX7_items_90 ⟨(Nat.le_of_ble_eq_true rfl), (Nat.le_of_ble_eq_true rfl)⟩ (fun r_474 u H locs hw hP2 hD2 hS2 => ?_)
          clear hP hD hS
          obtain ⟨rfl, rfl⟩ := hw
          have hPD : PD D A [(Mrr, .inl (g 0, 3, .inl F_413)), (Mm, .inr (7, [.int zth, .ref Mt, .int (nI tp), .int (nI max_469), .int zwrx_407, .ref Mrr, .ref Mrh, .ref Mrc, .int (nI rh), .int (nI rc), .ref Mn, .ref Mf, .ref Mr, .ref Mh, .int zhp, .int zcc, .ref Ma, .ref Mas, .ref Msn, .ref Mac, .ref Mat])), (Mt, .inl (g 0, 160, .inl fmt))] H := ⟨hP2, hD2⟩
          have hS := hS2; clear hP2 hD2 hS2; have hP := hPD.1; have hD := hPD.2; clear hPD
          refine W.widen (k := 0) (n := 0) (Nat.le_of_ble_eq_true rfl) (Nat.le_of_ble_eq_true rfl) ?_
          refine lv_istore (lv' := [(5, .int (itK 0 y_473)), (4, .int 5), (0, .ref Mm), (1, .int 0), (2, .ref Mrr), (3, .int 0)]) hx hb dX7_items_93 hl (by decide) rfl (fun ls hl => ?_)
          refine lv_goto (tgt := 20) hx hb dX7_items_95 (by decide) ?_
          refine lv_aload_n hx hb dX7_items_20 rfl (lv_at hl 2 rfl) ?_
          refine va_get (D := D) (ci := 7) (v := .int zwrx_407) (C := RX7) (T := TX7) (N := 21) hx hb hts iX7 hown hK hP 1 rfl rfl 4 (by decide) f71 (fun _ h9 => h9) rfl dX7_items_21 ?_
          refine lv_iconst (v := (-1)) hx hb dX7_items_24 (by decide) ?_
          refine lv_icmp_ne (tgt := 98) hx hb dX7_items_25 (by decide) (fun _ => ?_) (fun cb => absurd cb (cw_414))
          have hPD9 : PD D A [(Mm, .inr (7, [.int zth, .ref Mt, .int (nI tp), .int (nI max_469), .int zwrx_407, .ref Mrr, .ref Mrh, .ref Mrc, .int (nI rh), .int (nI rc), .ref Mn, .ref Mf, .ref Mr, .ref Mh, .int zhp, .int zcc, .ref Ma, .ref Mas, .ref Msn, .ref Mac, .ref Mat])), (Mt, .inl (g 0, 160, .inl fmt)), (Mrr, .inl (g 0, 3, .inl F_413))] H := ⟨hP.sub [1, 2, 0] rfl, hD.sub [1, 2, 0] (by decide) rfl⟩
          have hP9 := hPD9.1; have hD9 := hPD9.2
          subst hQ
          refine W.widen (k := 0) (n := 0) (Nat.le_of_ble_eq_true rfl) (Nat.le_of_ble_eq_true rfl) ?_
          exact W.vret hx hb hr (fun tS htS _ => ⟨⟨_, rfl, ⟨max_469, zwrx_407, F_413, rfl, ⟨(hF_413), (show max_469 ≤ tp by omega), (show ma ≤ max_469 by omega), ((congrArg Prod.fst hR_391).trans ((itR_w (f := 2) (m := 4) (q := 0) hf_397 hil_401.1 hil_401.2 (by decide) (by decide) (fun q => cw_414 (hf_409.2.2.2.1.trans q))).trans hf_409.2.2.2.1.symm)).symm, (fun q => absurd q cw_414)⟩⟩, by rw [htS]; exact hP9, hD9⟩, hS.F htS⟩) hS.2.2 dX7_items_98
      · skip
        refine lv_eqi (y := 1) (qi_400) ?_
        have hil_475 := iv_lt (k := 0) (q := 1) hey_398.symm qi_400 (by decide); have hil_475a := hil_475.1
        refine lv_istore (lv' := [(5, .int 1), (4, .int 4), (0, .ref Mm), (1, .int 0), (2, .ref Mrr), (3, .int 0)]) hx hb dX7_items_93 hl (by decide) rfl (fun ls hl => ?_)
        refine lv_goto (tgt := 20) hx hb dX7_items_95 (by decide) ?_
        refine lv_aload_n hx hb dX7_items_20 rfl (lv_at hl 2 rfl) ?_
        refine va_get (D := D) (ci := 7) (v := .int (-1)) (C := RX7) (T := TX7) (N := 21) hx hb hts iX7 hown hK hP 1 rfl rfl 4 (by decide) f71 (fun _ h9 => h9) rfl dX7_items_21 ?_
        refine lv_iconst (v := (-1)) hx hb dX7_items_24 (by decide) ?_
        refine lv_icmp_ne (tgt := 98) hx hb dX7_items_25 (by decide) (fun cb => absurd (by decide) cb) (fun _ => ?_)
        refine lv_iload hx hb dX7_items_28 (lv_at hl 0 rfl) ?_
        refine lv_iconst (v := (-1)) hx hb dX7_items_30 (by decide) ?_
        refine lv_icmp_eq (tgt := 98) hx hb dX7_items_31 (by decide) (fun cb => absurd cb (by decide)) (fun _ => ?_)
        refine lv_iload hx hb dX7_items_34 (lv_at hl 1 rfl) ?_
        refine lv_iload hx hb dX7_items_36 (lv_at hl 0 rfl) ?_
        refine ky_Si (As := [.int 4, .int 1]) (rest := []) ⟨hx, hb, hml, hown, hts⟩ ⟨hK, hN⟩ hZ hP hD hS hA [] [0, 1, 2] (wc := []) (wr := [(Mrr, .inl (g 0, 3, .inl F_388)), (Mm, .inr (7, [.int zth, .ref Mt, .int (nI tp), .int (nI max_394), .int (-1), .ref Mrr, .ref Mrh, .ref Mrc, .int (nI rh), .int (nI rc), .ref Mn, .ref Mf, .ref Mr, .ref Mh, .int zhp, .int zcc, .ref Ma, .ref Mas, .ref Msn, .ref Mac, .ref Mat])), (Mt, .inl (g 0, 160, .inl fmt))]) rfl rfl rfl rfl (by decide) (r_X7_has_41 l D g H.size) (va_cwS 2 hts gX7_items_X7_has rfl rfl rfl (by decide +kernel) ⟨(Nat.le_of_ble_eq_true rfl), (Nat.le_of_ble_eq_true rfl)⟩) rfl hl.1 rfl (Nat.le_of_ble_eq_true rfl) dX7_items_38 ⟨(Nat.le_of_ble_eq_true rfl), (Nat.le_of_ble_eq_true rfl)⟩ (fun r_476 u H locs hw hP2 hD2 hS2 => ?_)
        clear hP hD hS
        obtain ⟨rfl, rfl⟩ := hw
        have hPD : PD D A [(Mrr, .inl (g 0, 3, .inl F_388)), (Mm, .inr (7, [.int zth, .ref Mt, .int (nI tp), .int (nI max_394), .int (-1), .ref Mrr, .ref Mrh, .ref Mrc, .int (nI rh), .int (nI rc), .ref Mn, .ref Mf, .ref Mr, .ref Mh, .int zhp, .int zcc, .ref Ma, .ref Mas, .ref Msn, .ref Mac, .ref Mat])), (Mt, .inl (g 0, 160, .inl fmt))] H := ⟨hP2, hD2⟩
        have hS := hS2; clear hP2 hD2 hS2; have hP := hPD.1; have hD := hPD.2; clear hPD
        refine W.widen (k := 0) (n := 0) (Nat.le_of_ble_eq_true rfl) (Nat.le_of_ble_eq_true rfl) ?_
        refine lv_if_ne (tgt := 98) hx hb dX7_items_41 (by decide) (fun cb => absurd (by decide) cb) (fun _ => ?_)
        refine lv_iload hx hb dX7_items_44 (lv_at hl 1 rfl) ?_
        refine lv_iconst (v := 1) hx hb dX7_items_46 (by decide) ?_
        refine lv_iload hx hb dX7_items_47 (lv_at hl 0 rfl) ?_
        refine lv_ishl hx hb dX7_items_49 ?_
        refine lv_eqi (y := 2) (by decide) ?_
        refine lv_ior hx hb dX7_items_50 ?_
        refine lv_eqi (y := 6) (by decide) ?_
        refine lv_istore (lv' := [(4, .int 6), (5, .int 1), (0, .ref Mm), (1, .int 0), (2, .ref Mrr), (3, .int 0)]) hx hb dX7_items_51 hl (by decide) rfl (fun ls hl => ?_)
        refine lv_aload_n hx hb dX7_items_53 rfl (lv_at hl 2 rfl) ?_
        refine lv_dup hx hb dX7_items_54 rfl ?_
        refine va_get (D := D) (ci := 7) (v := .int (nI max_394)) (C := RX7) (T := TX7) (N := 21) hx hb hts iX7 hown hK hP 1 rfl rfl 3 (by decide) f64 (fun _ h9 => h9) rfl dX7_items_55 ?_
        refine lv_iconst (v := 1) hx hb dX7_items_58 (by decide) ?_
        refine lv_iadd hx hb dX7_items_59 ?_
        refine lv_eqi (y := (nI (max_394 + 1))) (nI_add (max_394) (1)) ?_
        refine va_put (D := D) (ci := 7) (v := .int (nI (max_394 + 1))) (ty := .int) (C := RX7) (T := TX7) (N := 21) hx hb hts iX7 tyX7 tyX7_ok nmX7 hown hK hP hD hS 1 rfl rfl 3 (by decide) f64 (fun _ h9 => h9) rfl (by decide +kernel) (rfl) (rfl) (Nat.le_of_ble_eq_true rfl) dX7_items_60 (fun H locs hP2 hD2 hS2 => ?_)
        clear hP hD hS
        have hPD : PD D A [(Mrr, .inl (g 0, 3, .inl F_388)), (Mm, .inr (7, [.int zth, .ref Mt, .int (nI tp), .int (nI (max_394 + 1)), .int (-1), .ref Mrr, .ref Mrh, .ref Mrc, .int (nI rh), .int (nI rc), .ref Mn, .ref Mf, .ref Mr, .ref Mh, .int zhp, .int zcc, .ref Ma, .ref Mas, .ref Msn, .ref Mac, .ref Mat])), (Mt, .inl (g 0, 160, .inl fmt))] H := ⟨hP2, hD2⟩
        have hS := hS2; clear hP2 hD2 hS2; have hP := hPD.1; have hD := hPD.2; clear hPD
        refine lv_aload_n hx hb dX7_items_63 rfl (lv_at hl 4 rfl) ?_
        refine lv_iload_n hx hb dX7_items_64 rfl (lv_at hl 5 rfl) ?_
        refine lv_iload hx hb dX7_items_65 (lv_at hl 1 rfl) ?_
        refine lv_iadd hx hb dX7_items_67 ?_
        refine lv_eqi (y := 1) (by decide) ?_
        refine lv_aload_n hx hb dX7_items_68 rfl (lv_at hl 2 rfl) ?_
        refine lv_iload_n hx hb dX7_items_69 rfl (lv_at hl 3 rfl) ?_
        refine lv_iload hx hb dX7_items_70 (lv_at hl 1 rfl) ?_
        refine ky_Si (As := [.int 0, .int 1]) (rest := [.ref Mm, .int 1, .ref Mrr]) ⟨hx, hb, hml, hown, hts⟩ ⟨hK, hN⟩ hZ hP hD hS hA [] [0, 1, 2] (wc := []) (wr := [(Mrr, .inl (g 0, 3, .inl F_388)), (Mm, .inr (7, [.int zth, .ref Mt, .int (nI tp), .int (nI (max_394 + 1)), .int (-1), .ref Mrr, .ref Mrh, .ref Mrc, .int (nI rh), .int (nI rc), .ref Mn, .ref Mf, .ref Mr, .ref Mh, .int zhp, .int zcc, .ref Ma, .ref Mas, .ref Msn, .ref Mac, .ref Mat])), (Mt, .inl (g 0, 160, .inl fmt))]) rfl rfl rfl rfl (by decide) (r_X7_lowest_01 l D g H.size) (va_cwS 2 hts gX7_items_X7_lowest rfl rfl rfl (by decide +kernel) ⟨(Nat.le_of_ble_eq_true rfl), (Nat.le_of_ble_eq_true rfl)⟩) rfl hl.1 rfl (Nat.le_of_ble_eq_true rfl) dX7_items_72 ⟨(Nat.le_of_ble_eq_true rfl), (Nat.le_of_ble_eq_true rfl)⟩ (fun r_477 u H locs hw hP2 hD2 hS2 => ?_)
        clear hP hD hS
        obtain ⟨rfl, rfl⟩ := hw
        have hPD : PD D A [(Mrr, .inl (g 0, 3, .inl F_388)), (Mm, .inr (7, [.int zth, .ref Mt, .int (nI tp), .int (nI (max_394 + 1)), .int (-1), .ref Mrr, .ref Mrh, .ref Mrc, .int (nI rh), .int (nI rc), .ref Mn, .ref Mf, .ref Mr, .ref Mh, .int zhp, .int zcc, .ref Ma, .ref Mas, .ref Msn, .ref Mac, .ref Mat])), (Mt, .inl (g 0, 160, .inl fmt))] H := ⟨hP2, hD2⟩
        have hS := hS2; clear hP2 hD2 hS2; have hP := hPD.1; have hD := hPD.2; clear hPD
        refine W.widen (k := 0) (n := 0) (Nat.le_of_ble_eq_true rfl) (Nat.le_of_ble_eq_true rfl) ?_
        refine lv_iload_n hx hb dX7_items_75 rfl (lv_at hl 3 rfl) ?_
        refine lv_iload hx hb dX7_items_76 (lv_at hl 1 rfl) ?_
        refine ky_Si (As := [.int 0, .int 1]) (rest := [.int 0, .ref Mm, .int 1, .ref Mrr]) ⟨hx, hb, hml, hown, hts⟩ ⟨hK, hN⟩ hZ hP hD hS hA [] [0, 1, 2] (wc := []) (wr := [(Mrr, .inl (g 0, 3, .inl F_388)), (Mm, .inr (7, [.int zth, .ref Mt, .int (nI tp), .int (nI (max_394 + 1)), .int (-1), .ref Mrr, .ref Mrh, .ref Mrc, .int (nI rh), .int (nI rc), .ref Mn, .ref Mf, .ref Mr, .ref Mh, .int zhp, .int zcc, .ref Ma, .ref Mas, .ref Msn, .ref Mac, .ref Mat])), (Mt, .inl (g 0, 160, .inl fmt))]) rfl rfl rfl rfl (by decide) (r_X7_highest_01 l D g H.size) (va_cwS 2 hts gX7_items_X7_highest rfl rfl rfl (by decide +kernel) ⟨(Nat.le_of_ble_eq_true rfl), (Nat.le_of_ble_eq_true rfl)⟩) rfl hl.1 rfl (Nat.le_of_ble_eq_true rfl) dX7_items_78 ⟨(Nat.le_of_ble_eq_true rfl), (Nat.le_of_ble_eq_true rfl)⟩ (fun r_478 u H locs hw hP2 hD2 hS2 => ?_)
        clear hP hD hS
        obtain ⟨rfl, rfl⟩ := hw
        have hPD : PD D A [(Mrr, .inl (g 0, 3, .inl F_388)), (Mm, .inr (7, [.int zth, .ref Mt, .int (nI tp), .int (nI (max_394 + 1)), .int (-1), .ref Mrr, .ref Mrh, .ref Mrc, .int (nI rh), .int (nI rc), .ref Mn, .ref Mf, .ref Mr, .ref Mh, .int zhp, .int zcc, .ref Ma, .ref Mas, .ref Msn, .ref Mac, .ref Mat])), (Mt, .inl (g 0, 160, .inl fmt))] H := ⟨hP2, hD2⟩
        have hS := hS2; clear hP2 hD2 hS2; have hP := hPD.1; have hD := hPD.2; clear hPD
        refine W.widen (k := 0) (n := 0) (Nat.le_of_ble_eq_true rfl) (Nat.le_of_ble_eq_true rfl) ?_
        refine ky_Vi (As := [.int 0, .int 20]) (rest := [.int 1, .ref Mrr]) ⟨hx, hb, hml, hown, hts⟩ ⟨hK, hN⟩ hZ hP hD hS hA [1, 2] [0] (wc := [(Mm, .inr (7, [.int zth, .ref Mt, .int (nI tp), .int (nI (max_394 + 1)), .int (-1), .ref Mrr, .ref Mrh, .ref Mrc, .int (nI rh), .int (nI rc), .ref Mn, .ref Mf, .ref Mr, .ref Mh, .int zhp, .int zcc, .ref Ma, .ref Mas, .ref Msn, .ref Mac, .ref Mat])), (Mt, .inl (g 0, 160, .inl fmt))]) (wr := [(Mrr, .inl (g 0, 3, .inl F_388))]) rfl rfl rfl rfl (by decide) (r_X7_number l D g H.size Mm 0 20 zth Mt tp (max_394 + 1) Mrr Mrh Mrc rh rc Mn Mf Mr Mh zhp zcc Ma Mas Msn Mac Mat fmt (show tp ≤ 160 by omega) (show (max_394 + 1) ≤ tp by omega) (show 0 ≤ 1 by omega)) (cwV 2 hts gX7_items_X7_number rfl rfl rfl (by decide +kernel) ⟨(Nat.le_of_ble_eq_true rfl), (Nat.le_of_ble_eq_true rfl)⟩) 1 7 rfl rfl rfl rfl hl.1 rfl (Nat.le_of_ble_eq_true rfl) dX7_items_81 ⟨(Nat.le_of_ble_eq_true rfl), (Nat.le_of_ble_eq_true rfl)⟩ (fun r_479 u H locs hw hP2 hD2 hS2 => ?_)
        clear hP hD hS
        obtain ⟨max_480, zwrx_481, nx_482, rfl, rfl, hf_483⟩ := hw
        have hg_484 := hf_483.1
        have hg_485 := hf_483.2.1
        have hg_486 := hf_483.2.2.1
        have hPD : PD D A [(Mrr, .inl (g 0, 3, .inl F_388)), (Mm, .inr (7, [.int zth, .ref Mt, .int (nI tp), .int (nI max_480), .int zwrx_481, .ref Mrr, .ref Mrh, .ref Mrc, .int (nI rh), .int (nI rc), .ref Mn, .ref Mf, .ref Mr, .ref Mh, .int zhp, .int zcc, .ref Ma, .ref Mas, .ref Msn, .ref Mac, .ref Mat])), (Mt, .inl (g 0, 160, .inl fmt))] H := ⟨hP2, hD2⟩
        have hS := hS2; clear hP2 hD2 hS2; have hP := hPD.1; have hD := hPD.2; clear hPD
        refine W.widen (k := 0) (n := 0) (Nat.le_of_ble_eq_true rfl) (Nat.le_of_ble_eq_true rfl) ?_
        refine va_iast hx hb hK hP hD hS 0 0 rfl rfl (by unfold vp_in; decide) dX7_items_84 (fun H locs hP2 hD2 hS2 => ?_)
        clear hP hD hS
        have hPD : PD D A [(Mrr, .inl (g 0, 3, .inl (upd F_388 1 (nI nx_482)))), (Mm, .inr (7, [.int zth, .ref Mt, .int (nI tp), .int (nI max_480), .int zwrx_481, .ref Mrr, .ref Mrh, .ref Mrc, .int (nI rh), .int (nI rc), .ref Mn, .ref Mf, .ref Mr, .ref Mh, .int zhp, .int zcc, .ref Ma, .ref Mas, .ref Msn, .ref Mac, .ref Mat])), (Mt, .inl (g 0, 160, .inl fmt))] H := ⟨hP2, hD2⟩
        have hS := hS2; clear hP2 hD2 hS2; have hP := hPD.1; have hD := hPD.2; clear hPD
        have hF_487 : n1 (upd F_388 1 (nI nx_482)) := n1_upd (hF_388) (n := nx_482) (show nx_482 ≤ 99 by omega)
        generalize upd F_388 1 (nI nx_482) = F_487 at hP hD hF_487
        by_cases cw_488 : zwrx_481 = -1
        · skip
          have hPq_489 := hP; have hDq_489 := hD; have hSq_489 := hS; have hlq_489 := hl; clear hP hD hS hl
          subst cw_488
          have hP := hPq_489; have hD := hDq_489; have hS := hSq_489; have hl := hlq_489; clear hPq_489 hDq_489 hSq_489 hlq_489
          have hne_491 := hf_483.2.2.2.2 rfl
          have hR_490 : itR fmt tp 0 4 0 ma = itR fmt tp 0 2 6 max_480 := hR_391.trans ((itR_go (f := 2) (m := 4) (q := 1) hf_397 hil_475.1 hil_475.2 (by decide) (by decide) hf_483.2.2.2.1.symm).trans (by rw [hne_491]))
          refine lv_iload_n hx hb dX7_items_85 rfl (lv_at hl 3 rfl) ?_
          refine lv_aload_n hx hb dX7_items_86 rfl (lv_at hl 2 rfl) ?_
          refine ky_Vi (As := []) (rest := [.int 0]) ⟨hx, hb, hml, hown, hts⟩ ⟨hK, hN⟩ hZ hP hD hS hA [1, 2] [0] (wc := [(Mm, .inr (7, [.int zth, .ref Mt, .int (nI tp), .int (nI max_480), .int (-1), .ref Mrr, .ref Mrh, .ref Mrc, .int (nI rh), .int (nI rc), .ref Mn, .ref Mf, .ref Mr, .ref Mh, .int zhp, .int zcc, .ref Ma, .ref Mas, .ref Msn, .ref Mac, .ref Mat])), (Mt, .inl (g 0, 160, .inl fmt))]) (wr := [(Mrr, .inl (g 0, 3, .inl F_487))]) rfl rfl rfl rfl (by decide) (r_X7_ahead l D g H.size Mm zth Mt tp max_480 (-1) Mrr Mrh Mrc rh rc Mn Mf Mr Mh zhp zcc Ma Mas Msn Mac Mat fmt (show tp ≤ 160 by omega) (show max_480 ≤ tp by omega)) (cwV 0 hts gX7_items_X7_ahead rfl rfl rfl (by decide +kernel) ⟨(Nat.le_of_ble_eq_true rfl), (Nat.le_of_ble_eq_true rfl)⟩) 1 7 rfl rfl rfl rfl hl.1 rfl (Nat.le_of_ble_eq_true rfl) dX7_items_87 ⟨(Nat.le_of_ble_eq_true rfl), (Nat.le_of_ble_eq_true rfl)⟩ (fun r_492 u H locs hw hP2 hD2 hS2 => ?_)
          clear hP hD hS
          obtain ⟨max_493, rfl, rfl, hf_494, hf_495, hf_496⟩ := hw
          have hPD : PD D A [(Mrr, .inl (g 0, 3, .inl F_487)), (Mm, .inr (7, [.int zth, .ref Mt, .int (nI tp), .int (nI max_493), .int (-1), .ref Mrr, .ref Mrh, .ref Mrc, .int (nI rh), .int (nI rc), .ref Mn, .ref Mf, .ref Mr, .ref Mh, .int zhp, .int zcc, .ref Ma, .ref Mas, .ref Msn, .ref Mac, .ref Mat])), (Mt, .inl (g 0, 160, .inl fmt))] H := ⟨hP2, hD2⟩
          have hS := hS2; clear hP2 hD2 hS2; have hP := hPD.1; have hD := hPD.2; clear hPD
          refine W.widen (k := 0) (n := 0) (Nat.le_of_ble_eq_true rfl) (Nat.le_of_ble_eq_true rfl) ?_
          refine lv_topi (fun y_497 hey_497 => ?_)
          refine ky_Si (As := [.int 0, .int y_497]) (rest := []) ⟨hx, hb, hml, hown, hts⟩ ⟨hK, hN⟩ hZ hP hD hS hA [] [0, 1, 2] (wc := []) (wr := [(Mrr, .inl (g 0, 3, .inl F_487)), (Mm, .inr (7, [.int zth, .ref Mt, .int (nI tp), .int (nI max_493), .int (-1), .ref Mrr, .ref Mrh, .ref Mrc, .int (nI rh), .int (nI rc), .ref Mn, .ref Mf, .ref Mr, .ref Mh, .int zhp, .int zcc, .ref Ma, .ref Mas, .ref Msn, .ref Mac, .ref Mat])), (Mt, .inl (g 0, 160, .inl fmt))]) rfl rfl rfl rfl (by decide) (r_X7_itemBy_0 l D g H.size y_497) (va_cwS 2 hts gX7_items_X7_itemBy rfl rfl rfl (by decide +kernel) ⟨(Nat.le_of_ble_eq_true rfl), (Nat.le_of_ble_eq_true rfl)⟩) rfl hl.1 rfl (Nat.le_of_ble_eq_true rfl) dX7_items_90 ⟨(Nat.le_of_ble_eq_true rfl), (Nat.le_of_ble_eq_true rfl)⟩ (fun r_498 u H locs hw hP2 hD2 hS2 => ?_)
          clear hP hD hS
          obtain ⟨rfl, rfl⟩ := hw
          have hPD : PD D A [(Mrr, .inl (g 0, 3, .inl F_487)), (Mm, .inr (7, [.int zth, .ref Mt, .int (nI tp), .int (nI max_493), .int (-1), .ref Mrr, .ref Mrh, .ref Mrc, .int (nI rh), .int (nI rc), .ref Mn, .ref Mf, .ref Mr, .ref Mh, .int zhp, .int zcc, .ref Ma, .ref Mas, .ref Msn, .ref Mac, .ref Mat])), (Mt, .inl (g 0, 160, .inl fmt))] H := ⟨hP2, hD2⟩
          have hS := hS2; clear hP2 hD2 hS2; have hP := hPD.1; have hD := hPD.2; clear hPD
          refine W.widen (k := 0) (n := 0) (Nat.le_of_ble_eq_true rfl) (Nat.le_of_ble_eq_true rfl) ?_
          rcases itK_c 0 y_497 with qi_499 | qi_499 | qi_499 | qi_499
          · skip
            refine lv_eqi (y := (-1)) (qi_499) ?_
            refine lv_istore (lv' := [(5, .int (-1)), (4, .int 6), (0, .ref Mm), (1, .int 0), (2, .ref Mrr), (3, .int 0)]) hx hb dX7_items_93 hl (by decide) rfl (fun ls hl => ?_)
            refine lv_goto (tgt := 20) hx hb dX7_items_95 (by decide) ?_
            refine lv_aload_n hx hb dX7_items_20 rfl (lv_at hl 2 rfl) ?_
            refine va_get (D := D) (ci := 7) (v := .int (-1)) (C := RX7) (T := TX7) (N := 21) hx hb hts iX7 hown hK hP 1 rfl rfl 4 (by decide) f71 (fun _ h9 => h9) rfl dX7_items_21 ?_
            refine lv_iconst (v := (-1)) hx hb dX7_items_24 (by decide) ?_
            refine lv_icmp_ne (tgt := 98) hx hb dX7_items_25 (by decide) (fun cb => absurd (by decide) cb) (fun _ => ?_)
            refine lv_iload hx hb dX7_items_28 (lv_at hl 0 rfl) ?_
            refine lv_iconst (v := (-1)) hx hb dX7_items_30 (by decide) ?_
            refine lv_icmp_eq (tgt := 98) hx hb dX7_items_31 (by decide) (fun _ => ?_) (fun cb => absurd (by decide) cb)
            have hPD9 : PD D A [(Mm, .inr (7, [.int zth, .ref Mt, .int (nI tp), .int (nI max_493), .int (-1), .ref Mrr, .ref Mrh, .ref Mrc, .int (nI rh), .int (nI rc), .ref Mn, .ref Mf, .ref Mr, .ref Mh, .int zhp, .int zcc, .ref Ma, .ref Mas, .ref Msn, .ref Mac, .ref Mat])), (Mt, .inl (g 0, 160, .inl fmt)), (Mrr, .inl (g 0, 3, .inl F_487))] H := ⟨hP.sub [1, 2, 0] rfl, hD.sub [1, 2, 0] (by decide) rfl⟩
            have hP9 := hPD9.1; have hD9 := hPD9.2
            subst hQ
            refine W.widen (k := 0) (n := 0) (Nat.le_of_ble_eq_true rfl) (Nat.le_of_ble_eq_true rfl) ?_
            exact W.vret hx hb hr (fun tS htS _ => ⟨⟨_, rfl, ⟨max_493, (-1), F_487, rfl, ⟨(hF_487), (show max_493 ≤ tp by omega), (show ma ≤ max_493 by omega), (congrArg Prod.fst (hR_490.trans (iv_m (f := 1) (m := 6) hf_496 hey_497.symm qi_499))).symm, (fun _ => (congrArg Prod.snd (hR_490.trans (iv_m (f := 1) (m := 6) hf_496 hey_497.symm qi_499))).symm)⟩⟩, by rw [htS]; exact hP9, hD9⟩, hS.F htS⟩) hS.2.2 dX7_items_98
          · skip
            refine lv_eqi (y := 0) (qi_499) ?_
            have hil_500 := iv_lt (k := 0) (q := 0) hey_497.symm qi_499 (by decide); have hil_500a := hil_500.1
            refine lv_istore (lv' := [(5, .int 0), (4, .int 6), (0, .ref Mm), (1, .int 0), (2, .ref Mrr), (3, .int 0)]) hx hb dX7_items_93 hl (by decide) rfl (fun ls hl => ?_)
            refine lv_goto (tgt := 20) hx hb dX7_items_95 (by decide) ?_
            refine lv_aload_n hx hb dX7_items_20 rfl (lv_at hl 2 rfl) ?_
            refine va_get (D := D) (ci := 7) (v := .int (-1)) (C := RX7) (T := TX7) (N := 21) hx hb hts iX7 hown hK hP 1 rfl rfl 4 (by decide) f71 (fun _ h9 => h9) rfl dX7_items_21 ?_
            refine lv_iconst (v := (-1)) hx hb dX7_items_24 (by decide) ?_
            refine lv_icmp_ne (tgt := 98) hx hb dX7_items_25 (by decide) (fun cb => absurd (by decide) cb) (fun _ => ?_)
            refine lv_iload hx hb dX7_items_28 (lv_at hl 0 rfl) ?_
            refine lv_iconst (v := (-1)) hx hb dX7_items_30 (by decide) ?_
            refine lv_icmp_eq (tgt := 98) hx hb dX7_items_31 (by decide) (fun cb => absurd cb (by decide)) (fun _ => ?_)
            refine lv_iload hx hb dX7_items_34 (lv_at hl 1 rfl) ?_
            refine lv_iload hx hb dX7_items_36 (lv_at hl 0 rfl) ?_
            refine ky_Si (As := [.int 6, .int 0]) (rest := []) ⟨hx, hb, hml, hown, hts⟩ ⟨hK, hN⟩ hZ hP hD hS hA [] [0, 1, 2] (wc := []) (wr := [(Mrr, .inl (g 0, 3, .inl F_487)), (Mm, .inr (7, [.int zth, .ref Mt, .int (nI tp), .int (nI max_493), .int (-1), .ref Mrr, .ref Mrh, .ref Mrc, .int (nI rh), .int (nI rc), .ref Mn, .ref Mf, .ref Mr, .ref Mh, .int zhp, .int zcc, .ref Ma, .ref Mas, .ref Msn, .ref Mac, .ref Mat])), (Mt, .inl (g 0, 160, .inl fmt))]) rfl rfl rfl rfl (by decide) (r_X7_has_60 l D g H.size) (va_cwS 2 hts gX7_items_X7_has rfl rfl rfl (by decide +kernel) ⟨(Nat.le_of_ble_eq_true rfl), (Nat.le_of_ble_eq_true rfl)⟩) rfl hl.1 rfl (Nat.le_of_ble_eq_true rfl) dX7_items_38 ⟨(Nat.le_of_ble_eq_true rfl), (Nat.le_of_ble_eq_true rfl)⟩ (fun r_501 u H locs hw hP2 hD2 hS2 => ?_)
            clear hP hD hS
            obtain ⟨rfl, rfl⟩ := hw
            have hPD : PD D A [(Mrr, .inl (g 0, 3, .inl F_487)), (Mm, .inr (7, [.int zth, .ref Mt, .int (nI tp), .int (nI max_493), .int (-1), .ref Mrr, .ref Mrh, .ref Mrc, .int (nI rh), .int (nI rc), .ref Mn, .ref Mf, .ref Mr, .ref Mh, .int zhp, .int zcc, .ref Ma, .ref Mas, .ref Msn, .ref Mac, .ref Mat])), (Mt, .inl (g 0, 160, .inl fmt))] H := ⟨hP2, hD2⟩
            have hS := hS2; clear hP2 hD2 hS2; have hP := hPD.1; have hD := hPD.2; clear hPD
            refine W.widen (k := 0) (n := 0) (Nat.le_of_ble_eq_true rfl) (Nat.le_of_ble_eq_true rfl) ?_
            refine lv_if_ne (tgt := 98) hx hb dX7_items_41 (by decide) (fun cb => absurd (by decide) cb) (fun _ => ?_)
            refine lv_iload hx hb dX7_items_44 (lv_at hl 1 rfl) ?_
            refine lv_iconst (v := 1) hx hb dX7_items_46 (by decide) ?_
            refine lv_iload hx hb dX7_items_47 (lv_at hl 0 rfl) ?_
            refine lv_ishl hx hb dX7_items_49 ?_
            refine lv_eqi (y := 1) (by decide) ?_
            refine lv_ior hx hb dX7_items_50 ?_
            refine lv_eqi (y := 7) (by decide) ?_
            refine lv_istore (lv' := [(4, .int 7), (5, .int 0), (0, .ref Mm), (1, .int 0), (2, .ref Mrr), (3, .int 0)]) hx hb dX7_items_51 hl (by decide) rfl (fun ls hl => ?_)
            refine lv_aload_n hx hb dX7_items_53 rfl (lv_at hl 2 rfl) ?_
            refine lv_dup hx hb dX7_items_54 rfl ?_
            refine va_get (D := D) (ci := 7) (v := .int (nI max_493)) (C := RX7) (T := TX7) (N := 21) hx hb hts iX7 hown hK hP 1 rfl rfl 3 (by decide) f64 (fun _ h9 => h9) rfl dX7_items_55 ?_
            refine lv_iconst (v := 1) hx hb dX7_items_58 (by decide) ?_
            refine lv_iadd hx hb dX7_items_59 ?_
            refine lv_eqi (y := (nI (max_493 + 1))) (nI_add (max_493) (1)) ?_
            refine va_put (D := D) (ci := 7) (v := .int (nI (max_493 + 1))) (ty := .int) (C := RX7) (T := TX7) (N := 21) hx hb hts iX7 tyX7 tyX7_ok nmX7 hown hK hP hD hS 1 rfl rfl 3 (by decide) f64 (fun _ h9 => h9) rfl (by decide +kernel) (rfl) (rfl) (Nat.le_of_ble_eq_true rfl) dX7_items_60 (fun H locs hP2 hD2 hS2 => ?_)
            clear hP hD hS
            have hPD : PD D A [(Mrr, .inl (g 0, 3, .inl F_487)), (Mm, .inr (7, [.int zth, .ref Mt, .int (nI tp), .int (nI (max_493 + 1)), .int (-1), .ref Mrr, .ref Mrh, .ref Mrc, .int (nI rh), .int (nI rc), .ref Mn, .ref Mf, .ref Mr, .ref Mh, .int zhp, .int zcc, .ref Ma, .ref Mas, .ref Msn, .ref Mac, .ref Mat])), (Mt, .inl (g 0, 160, .inl fmt))] H := ⟨hP2, hD2⟩
            have hS := hS2; clear hP2 hD2 hS2; have hP := hPD.1; have hD := hPD.2; clear hPD
            refine lv_aload_n hx hb dX7_items_63 rfl (lv_at hl 4 rfl) ?_
            refine lv_iload_n hx hb dX7_items_64 rfl (lv_at hl 5 rfl) ?_
            refine lv_iload hx hb dX7_items_65 (lv_at hl 1 rfl) ?_
            refine lv_iadd hx hb dX7_items_67 ?_
            refine lv_eqi (y := 0) (by decide) ?_
            refine lv_aload_n hx hb dX7_items_68 rfl (lv_at hl 2 rfl) ?_
            refine lv_iload_n hx hb dX7_items_69 rfl (lv_at hl 3 rfl) ?_
            refine lv_iload hx hb dX7_items_70 (lv_at hl 1 rfl) ?_
            refine ky_Si (As := [.int 0, .int 0]) (rest := [.ref Mm, .int 0, .ref Mrr]) ⟨hx, hb, hml, hown, hts⟩ ⟨hK, hN⟩ hZ hP hD hS hA [] [0, 1, 2] (wc := []) (wr := [(Mrr, .inl (g 0, 3, .inl F_487)), (Mm, .inr (7, [.int zth, .ref Mt, .int (nI tp), .int (nI (max_493 + 1)), .int (-1), .ref Mrr, .ref Mrh, .ref Mrc, .int (nI rh), .int (nI rc), .ref Mn, .ref Mf, .ref Mr, .ref Mh, .int zhp, .int zcc, .ref Ma, .ref Mas, .ref Msn, .ref Mac, .ref Mat])), (Mt, .inl (g 0, 160, .inl fmt))]) rfl rfl rfl rfl (by decide) (r_X7_lowest_00 l D g H.size) (va_cwS 2 hts gX7_items_X7_lowest rfl rfl rfl (by decide +kernel) ⟨(Nat.le_of_ble_eq_true rfl), (Nat.le_of_ble_eq_true rfl)⟩) rfl hl.1 rfl (Nat.le_of_ble_eq_true rfl) dX7_items_72 ⟨(Nat.le_of_ble_eq_true rfl), (Nat.le_of_ble_eq_true rfl)⟩ (fun r_502 u H locs hw hP2 hD2 hS2 => ?_)
            clear hP hD hS
            obtain ⟨rfl, rfl⟩ := hw
            have hPD : PD D A [(Mrr, .inl (g 0, 3, .inl F_487)), (Mm, .inr (7, [.int zth, .ref Mt, .int (nI tp), .int (nI (max_493 + 1)), .int (-1), .ref Mrr, .ref Mrh, .ref Mrc, .int (nI rh), .int (nI rc), .ref Mn, .ref Mf, .ref Mr, .ref Mh, .int zhp, .int zcc, .ref Ma, .ref Mas, .ref Msn, .ref Mac, .ref Mat])), (Mt, .inl (g 0, 160, .inl fmt))] H := ⟨hP2, hD2⟩
            have hS := hS2; clear hP2 hD2 hS2; have hP := hPD.1; have hD := hPD.2; clear hPD
            refine W.widen (k := 0) (n := 0) (Nat.le_of_ble_eq_true rfl) (Nat.le_of_ble_eq_true rfl) ?_
            refine lv_iload_n hx hb dX7_items_75 rfl (lv_at hl 3 rfl) ?_
            refine lv_iload hx hb dX7_items_76 (lv_at hl 1 rfl) ?_
            refine ky_Si (As := [.int 0, .int 0]) (rest := [.int 1, .ref Mm, .int 0, .ref Mrr]) ⟨hx, hb, hml, hown, hts⟩ ⟨hK, hN⟩ hZ hP hD hS hA [] [0, 1, 2] (wc := []) (wr := [(Mrr, .inl (g 0, 3, .inl F_487)), (Mm, .inr (7, [.int zth, .ref Mt, .int (nI tp), .int (nI (max_493 + 1)), .int (-1), .ref Mrr, .ref Mrh, .ref Mrc, .int (nI rh), .int (nI rc), .ref Mn, .ref Mf, .ref Mr, .ref Mh, .int zhp, .int zcc, .ref Ma, .ref Mas, .ref Msn, .ref Mac, .ref Mat])), (Mt, .inl (g 0, 160, .inl fmt))]) rfl rfl rfl rfl (by decide) (r_X7_highest_00 l D g H.size) (va_cwS 2 hts gX7_items_X7_highest rfl rfl rfl (by decide +kernel) ⟨(Nat.le_of_ble_eq_true rfl), (Nat.le_of_ble_eq_true rfl)⟩) rfl hl.1 rfl (Nat.le_of_ble_eq_true rfl) dX7_items_78 ⟨(Nat.le_of_ble_eq_true rfl), (Nat.le_of_ble_eq_true rfl)⟩ (fun r_503 u H locs hw hP2 hD2 hS2 => ?_)
            clear hP hD hS
            obtain ⟨rfl, rfl⟩ := hw
            have hPD : PD D A [(Mrr, .inl (g 0, 3, .inl F_487)), (Mm, .inr (7, [.int zth, .ref Mt, .int (nI tp), .int (nI (max_493 + 1)), .int (-1), .ref Mrr, .ref Mrh, .ref Mrc, .int (nI rh), .int (nI rc), .ref Mn, .ref Mf, .ref Mr, .ref Mh, .int zhp, .int zcc, .ref Ma, .ref Mas, .ref Msn, .ref Mac, .ref Mat])), (Mt, .inl (g 0, 160, .inl fmt))] H := ⟨hP2, hD2⟩
            have hS := hS2; clear hP2 hD2 hS2; have hP := hPD.1; have hD := hPD.2; clear hPD
            refine W.widen (k := 0) (n := 0) (Nat.le_of_ble_eq_true rfl) (Nat.le_of_ble_eq_true rfl) ?_
            refine ky_Vi (As := [.int 1, .int 4]) (rest := [.int 0, .ref Mrr]) ⟨hx, hb, hml, hown, hts⟩ ⟨hK, hN⟩ hZ hP hD hS hA [1, 2] [0] (wc := [(Mm, .inr (7, [.int zth, .ref Mt, .int (nI tp), .int (nI (max_493 + 1)), .int (-1), .ref Mrr, .ref Mrh, .ref Mrc, .int (nI rh), .int (nI rc), .ref Mn, .ref Mf, .ref Mr, .ref Mh, .int zhp, .int zcc, .ref Ma, .ref Mas, .ref Msn, .ref Mac, .ref Mat])), (Mt, .inl (g 0, 160, .inl fmt))]) (wr := [(Mrr, .inl (g 0, 3, .inl F_487))]) rfl rfl rfl rfl (by decide) (r_X7_number l D g H.size Mm 1 4 zth Mt tp (max_493 + 1) Mrr Mrh Mrc rh rc Mn Mf Mr Mh zhp zcc Ma Mas Msn Mac Mat fmt (show tp ≤ 160 by omega) (show (max_493 + 1) ≤ tp by omega) (show 1 ≤ 1 by omega)) (cwV 2 hts gX7_items_X7_number rfl rfl rfl (by decide +kernel) ⟨(Nat.le_of_ble_eq_true rfl), (Nat.le_of_ble_eq_true rfl)⟩) 1 7 rfl rfl rfl rfl hl.1 rfl (Nat.le_of_ble_eq_true rfl) dX7_items_81 ⟨(Nat.le_of_ble_eq_true rfl), (Nat.le_of_ble_eq_true rfl)⟩ (fun r_504 u H locs hw hP2 hD2 hS2 => ?_)
            clear hP hD hS
            obtain ⟨max_505, zwrx_506, nx_507, rfl, rfl, hf_508⟩ := hw
            have hg_509 := hf_508.1
            have hg_510 := hf_508.2.1
            have hg_511 := hf_508.2.2.1
            have hPD : PD D A [(Mrr, .inl (g 0, 3, .inl F_487)), (Mm, .inr (7, [.int zth, .ref Mt, .int (nI tp), .int (nI max_505), .int zwrx_506, .ref Mrr, .ref Mrh, .ref Mrc, .int (nI rh), .int (nI rc), .ref Mn, .ref Mf, .ref Mr, .ref Mh, .int zhp, .int zcc, .ref Ma, .ref Mas, .ref Msn, .ref Mac, .ref Mat])), (Mt, .inl (g 0, 160, .inl fmt))] H := ⟨hP2, hD2⟩
            have hS := hS2; clear hP2 hD2 hS2; have hP := hPD.1; have hD := hPD.2; clear hPD
            refine W.widen (k := 0) (n := 0) (Nat.le_of_ble_eq_true rfl) (Nat.le_of_ble_eq_true rfl) ?_
            refine va_iast hx hb hK hP hD hS 0 0 rfl rfl (by unfold vp_in; decide) dX7_items_84 (fun H locs hP2 hD2 hS2 => ?_)
            clear hP hD hS
            have hPD : PD D A [(Mrr, .inl (g 0, 3, .inl (upd F_487 0 (nI nx_507)))), (Mm, .inr (7, [.int zth, .ref Mt, .int (nI tp), .int (nI max_505), .int zwrx_506, .ref Mrr, .ref Mrh, .ref Mrc, .int (nI rh), .int (nI rc), .ref Mn, .ref Mf, .ref Mr, .ref Mh, .int zhp, .int zcc, .ref Ma, .ref Mas, .ref Msn, .ref Mac, .ref Mat])), (Mt, .inl (g 0, 160, .inl fmt))] H := ⟨hP2, hD2⟩
            have hS := hS2; clear hP2 hD2 hS2; have hP := hPD.1; have hD := hPD.2; clear hPD
            have hF_512 : n1 (upd F_487 0 (nI nx_507)) := n1_upd (hF_487) (n := nx_507) (show nx_507 ≤ 99 by omega)
            generalize upd F_487 0 (nI nx_507) = F_512 at hP hD hF_512
            by_cases cw_513 : zwrx_506 = -1
            · skip
              have hPq_514 := hP; have hDq_514 := hD; have hSq_514 := hS; have hlq_514 := hl; clear hP hD hS hl
              subst cw_513
              have hP := hPq_514; have hD := hDq_514; have hS := hSq_514; have hl := hlq_514; clear hPq_514 hDq_514 hSq_514 hlq_514
              have hne_516 := hf_508.2.2.2.2 rfl
              have hR_515 : itR fmt tp 0 4 0 ma = itR fmt tp 0 1 7 max_505 := hR_490.trans ((itR_go (f := 1) (m := 6) (q := 0) hf_496 hil_500.1 hil_500.2 (by decide) (by decide) hf_508.2.2.2.1.symm).trans (by rw [hne_516]))
              refine lv_iload_n hx hb dX7_items_85 rfl (lv_at hl 3 rfl) ?_
              refine lv_aload_n hx hb dX7_items_86 rfl (lv_at hl 2 rfl) ?_
              refine ky_Vi (As := []) (rest := [.int 0]) ⟨hx, hb, hml, hown, hts⟩ ⟨hK, hN⟩ hZ hP hD hS hA [1, 2] [0] (wc := [(Mm, .inr (7, [.int zth, .ref Mt, .int (nI tp), .int (nI max_505), .int (-1), .ref Mrr, .ref Mrh, .ref Mrc, .int (nI rh), .int (nI rc), .ref Mn, .ref Mf, .ref Mr, .ref Mh, .int zhp, .int zcc, .ref Ma, .ref Mas, .ref Msn, .ref Mac, .ref Mat])), (Mt, .inl (g 0, 160, .inl fmt))]) (wr := [(Mrr, .inl (g 0, 3, .inl F_512))]) rfl rfl rfl rfl (by decide) (r_X7_ahead l D g H.size Mm zth Mt tp max_505 (-1) Mrr Mrh Mrc rh rc Mn Mf Mr Mh zhp zcc Ma Mas Msn Mac Mat fmt (show tp ≤ 160 by omega) (show max_505 ≤ tp by omega)) (cwV 0 hts gX7_items_X7_ahead rfl rfl rfl (by decide +kernel) ⟨(Nat.le_of_ble_eq_true rfl), (Nat.le_of_ble_eq_true rfl)⟩) 1 7 rfl rfl rfl rfl hl.1 rfl (Nat.le_of_ble_eq_true rfl) dX7_items_87 ⟨(Nat.le_of_ble_eq_true rfl), (Nat.le_of_ble_eq_true rfl)⟩ (fun r_517 u H locs hw hP2 hD2 hS2 => ?_)
              clear hP hD hS
              obtain ⟨max_518, rfl, rfl, hf_519, hf_520, hf_521⟩ := hw
              have hPD : PD D A [(Mrr, .inl (g 0, 3, .inl F_512)), (Mm, .inr (7, [.int zth, .ref Mt, .int (nI tp), .int (nI max_518), .int (-1), .ref Mrr, .ref Mrh, .ref Mrc, .int (nI rh), .int (nI rc), .ref Mn, .ref Mf, .ref Mr, .ref Mh, .int zhp, .int zcc, .ref Ma, .ref Mas, .ref Msn, .ref Mac, .ref Mat])), (Mt, .inl (g 0, 160, .inl fmt))] H := ⟨hP2, hD2⟩
              have hS := hS2; clear hP2 hD2 hS2; have hP := hPD.1; have hD := hPD.2; clear hPD
              refine W.widen (k := 0) (n := 0) (Nat.le_of_ble_eq_true rfl) (Nat.le_of_ble_eq_true rfl) ?_
              refine lv_topi (fun y_522 hey_522 => ?_)
              refine ky_Si (As := [.int 0, .int y_522]) (rest := []) ⟨hx, hb, hml, hown, hts⟩ ⟨hK, hN⟩ hZ hP hD hS hA [] [0, 1, 2] (wc := []) (wr := [(Mrr, .inl (g 0, 3, .inl F_512)), (Mm, .inr (7, [.int zth, .ref Mt, .int (nI tp), .int (nI max_518), .int (-1), .ref Mrr, .ref Mrh, .ref Mrc, .int (nI rh), .int (nI rc), .ref Mn, .ref Mf, .ref Mr, .ref Mh, .int zhp, .int zcc, .ref Ma, .ref Mas, .ref Msn, .ref Mac, .ref Mat])), (Mt, .inl (g 0, 160, .inl fmt))]) rfl rfl rfl rfl (by decide) (r_X7_itemBy_0 l D g H.size y_522) (va_cwS 2 hts gX7_items_X7_itemBy rfl rfl rfl (by decide +kernel) ⟨(Nat.le_of_ble_eq_true rfl), (Nat.le_of_ble_eq_true rfl)⟩) rfl hl.1 rfl (Nat.le_of_ble_eq_true rfl) dX7_items_90 ⟨(Nat.le_of_ble_eq_true rfl), (Nat.le_of_ble_eq_true rfl)⟩ (fun r_523 u H locs hw hP2 hD2 hS2 => ?_)
              clear hP hD hS
              obtain ⟨rfl, rfl⟩ := hw
              have hPD : PD D A [(Mrr, .inl (g 0, 3, .inl F_512)), (Mm, .inr (7, [.int zth, .ref Mt, .int (nI tp), .int (nI max_518), .int (-1), .ref Mrr, .ref Mrh, .ref Mrc, .int (nI rh), .int (nI rc), .ref Mn, .ref Mf, .ref Mr, .ref Mh, .int zhp, .int zcc, .ref Ma, .ref Mas, .ref Msn, .ref Mac, .ref Mat])), (Mt, .inl (g 0, 160, .inl fmt))] H := ⟨hP2, hD2⟩
              have hS := hS2; clear hP2 hD2 hS2; have hP := hPD.1; have hD := hPD.2; clear hPD
              refine W.widen (k := 0) (n := 0) (Nat.le_of_ble_eq_true rfl) (Nat.le_of_ble_eq_true rfl) ?_
              rcases itK_c 0 y_522 with qi_524 | qi_524 | qi_524 | qi_524
              · skip
                refine lv_eqi (y := (-1)) (qi_524) ?_
                refine lv_istore (lv' := [(5, .int (-1)), (4, .int 7), (0, .ref Mm), (1, .int 0), (2, .ref Mrr), (3, .int 0)]) hx hb dX7_items_93 hl (by decide) rfl (fun ls hl => ?_)
                refine lv_goto (tgt := 20) hx hb dX7_items_95 (by decide) ?_
                refine lv_aload_n hx hb dX7_items_20 rfl (lv_at hl 2 rfl) ?_
                refine va_get (D := D) (ci := 7) (v := .int (-1)) (C := RX7) (T := TX7) (N := 21) hx hb hts iX7 hown hK hP 1 rfl rfl 4 (by decide) f71 (fun _ h9 => h9) rfl dX7_items_21 ?_
                refine lv_iconst (v := (-1)) hx hb dX7_items_24 (by decide) ?_
                refine lv_icmp_ne (tgt := 98) hx hb dX7_items_25 (by decide) (fun cb => absurd (by decide) cb) (fun _ => ?_)
                refine lv_iload hx hb dX7_items_28 (lv_at hl 0 rfl) ?_
                refine lv_iconst (v := (-1)) hx hb dX7_items_30 (by decide) ?_
                refine lv_icmp_eq (tgt := 98) hx hb dX7_items_31 (by decide) (fun _ => ?_) (fun cb => absurd (by decide) cb)
                have hPD9 : PD D A [(Mm, .inr (7, [.int zth, .ref Mt, .int (nI tp), .int (nI max_518), .int (-1), .ref Mrr, .ref Mrh, .ref Mrc, .int (nI rh), .int (nI rc), .ref Mn, .ref Mf, .ref Mr, .ref Mh, .int zhp, .int zcc, .ref Ma, .ref Mas, .ref Msn, .ref Mac, .ref Mat])), (Mt, .inl (g 0, 160, .inl fmt)), (Mrr, .inl (g 0, 3, .inl F_512))] H := ⟨hP.sub [1, 2, 0] rfl, hD.sub [1, 2, 0] (by decide) rfl⟩
                have hP9 := hPD9.1; have hD9 := hPD9.2
                subst hQ
                refine W.widen (k := 0) (n := 0) (Nat.le_of_ble_eq_true rfl) (Nat.le_of_ble_eq_true rfl) ?_
                exact W.vret hx hb hr (fun tS htS _ => ⟨⟨_, rfl, ⟨max_518, (-1), F_512, rfl, ⟨(hF_512), (show max_518 ≤ tp by omega), (show ma ≤ max_518 by omega), (congrArg Prod.fst (hR_515.trans (iv_m (f := 0) (m := 7) hf_521 hey_522.symm qi_524))).symm, (fun _ => (congrArg Prod.snd (hR_515.trans (iv_m (f := 0) (m := 7) hf_521 hey_522.symm qi_524))).symm)⟩⟩, by rw [htS]; exact hP9, hD9⟩, hS.F htS⟩) hS.2.2 dX7_items_98
              · skip
                refine lv_eqi (y := 0) (qi_524) ?_
                have hil_525 := iv_lt (k := 0) (q := 0) hey_522.symm qi_524 (by decide); have hil_525a := hil_525.1
                refine lv_istore (lv' := [(5, .int 0), (4, .int 7), (0, .ref Mm), (1, .int 0), (2, .ref Mrr), (3, .int 0)]) hx hb dX7_items_93 hl (by decide) rfl (fun ls hl => ?_)
                refine lv_goto (tgt := 20) hx hb dX7_items_95 (by decide) ?_
                refine lv_aload_n hx hb dX7_items_20 rfl (lv_at hl 2 rfl) ?_
                refine va_get (D := D) (ci := 7) (v := .int (-1)) (C := RX7) (T := TX7) (N := 21) hx hb hts iX7 hown hK hP 1 rfl rfl 4 (by decide) f71 (fun _ h9 => h9) rfl dX7_items_21 ?_
                refine lv_iconst (v := (-1)) hx hb dX7_items_24 (by decide) ?_
                refine lv_icmp_ne (tgt := 98) hx hb dX7_items_25 (by decide) (fun cb => absurd (by decide) cb) (fun _ => ?_)
                refine lv_iload hx hb dX7_items_28 (lv_at hl 0 rfl) ?_
                refine lv_iconst (v := (-1)) hx hb dX7_items_30 (by decide) ?_
                refine lv_icmp_eq (tgt := 98) hx hb dX7_items_31 (by decide) (fun cb => absurd cb (by decide)) (fun _ => ?_)
                refine lv_iload hx hb dX7_items_34 (lv_at hl 1 rfl) ?_
                refine lv_iload hx hb dX7_items_36 (lv_at hl 0 rfl) ?_
                refine ky_Si (As := [.int 7, .int 0]) (rest := []) ⟨hx, hb, hml, hown, hts⟩ ⟨hK, hN⟩ hZ hP hD hS hA [] [0, 1, 2] (wc := []) (wr := [(Mrr, .inl (g 0, 3, .inl F_512)), (Mm, .inr (7, [.int zth, .ref Mt, .int (nI tp), .int (nI max_518), .int (-1), .ref Mrr, .ref Mrh, .ref Mrc, .int (nI rh), .int (nI rc), .ref Mn, .ref Mf, .ref Mr, .ref Mh, .int zhp, .int zcc, .ref Ma, .ref Mas, .ref Msn, .ref Mac, .ref Mat])), (Mt, .inl (g 0, 160, .inl fmt))]) rfl rfl rfl rfl (by decide) (r_X7_has_70 l D g H.size) (va_cwS 2 hts gX7_items_X7_has rfl rfl rfl (by decide +kernel) ⟨(Nat.le_of_ble_eq_true rfl), (Nat.le_of_ble_eq_true rfl)⟩) rfl hl.1 rfl (Nat.le_of_ble_eq_true rfl) dX7_items_38 ⟨(Nat.le_of_ble_eq_true rfl), (Nat.le_of_ble_eq_true rfl)⟩ (fun r_526 u H locs hw hP2 hD2 hS2 => ?_)
                clear hP hD hS
                obtain ⟨rfl, rfl⟩ := hw
                have hPD : PD D A [(Mrr, .inl (g 0, 3, .inl F_512)), (Mm, .inr (7, [.int zth, .ref Mt, .int (nI tp), .int (nI max_518), .int (-1), .ref Mrr, .ref Mrh, .ref Mrc, .int (nI rh), .int (nI rc), .ref Mn, .ref Mf, .ref Mr, .ref Mh, .int zhp, .int zcc, .ref Ma, .ref Mas, .ref Msn, .ref Mac, .ref Mat])), (Mt, .inl (g 0, 160, .inl fmt))] H := ⟨hP2, hD2⟩
                have hS := hS2; clear hP2 hD2 hS2; have hP := hPD.1; have hD := hPD.2; clear hPD
                refine W.widen (k := 0) (n := 0) (Nat.le_of_ble_eq_true rfl) (Nat.le_of_ble_eq_true rfl) ?_
                refine lv_if_ne (tgt := 98) hx hb dX7_items_41 (by decide) (fun _ => ?_) (fun cb => absurd cb (by decide))
                have hPD9 : PD D A [(Mm, .inr (7, [.int zth, .ref Mt, .int (nI tp), .int (nI max_518), .int (-1), .ref Mrr, .ref Mrh, .ref Mrc, .int (nI rh), .int (nI rc), .ref Mn, .ref Mf, .ref Mr, .ref Mh, .int zhp, .int zcc, .ref Ma, .ref Mas, .ref Msn, .ref Mac, .ref Mat])), (Mt, .inl (g 0, 160, .inl fmt)), (Mrr, .inl (g 0, 3, .inl F_512))] H := ⟨hP.sub [1, 2, 0] rfl, hD.sub [1, 2, 0] (by decide) rfl⟩
                have hP9 := hPD9.1; have hD9 := hPD9.2
                subst hQ
                refine W.widen (k := 0) (n := 0) (Nat.le_of_ble_eq_true rfl) (Nat.le_of_ble_eq_true rfl) ?_
                exact W.vret hx hb hr (fun tS htS _ => ⟨⟨_, rfl, ⟨max_518, (-1), F_512, rfl, ⟨(hF_512), (show max_518 ≤ tp by omega), (show ma ≤ max_518 by omega), (congrArg Prod.fst (hR_515.trans (itR_again (f := 0) (m := 7) (q := 0) hf_521 hil_525.2 (by decide) (by decide)))).symm, (fun _ => (congrArg Prod.snd (hR_515.trans (itR_again (f := 0) (m := 7) (q := 0) hf_521 hil_525.2 (by decide) (by decide)))).symm)⟩⟩, by rw [htS]; exact hP9, hD9⟩, hS.F htS⟩) hS.2.2 dX7_items_98
              · skip
                refine lv_eqi (y := 1) (qi_524) ?_
                have hil_527 := iv_lt (k := 0) (q := 1) hey_522.symm qi_524 (by decide); have hil_527a := hil_527.1
                refine lv_istore (lv' := [(5, .int 1), (4, .int 7), (0, .ref Mm), (1, .int 0), (2, .ref Mrr), (3, .int 0)]) hx hb dX7_items_93 hl (by decide) rfl (fun ls hl => ?_)
                refine lv_goto (tgt := 20) hx hb dX7_items_95 (by decide) ?_
                refine lv_aload_n hx hb dX7_items_20 rfl (lv_at hl 2 rfl) ?_
                refine va_get (D := D) (ci := 7) (v := .int (-1)) (C := RX7) (T := TX7) (N := 21) hx hb hts iX7 hown hK hP 1 rfl rfl 4 (by decide) f71 (fun _ h9 => h9) rfl dX7_items_21 ?_
                refine lv_iconst (v := (-1)) hx hb dX7_items_24 (by decide) ?_
                refine lv_icmp_ne (tgt := 98) hx hb dX7_items_25 (by decide) (fun cb => absurd (by decide) cb) (fun _ => ?_)
                refine lv_iload hx hb dX7_items_28 (lv_at hl 0 rfl) ?_
                refine lv_iconst (v := (-1)) hx hb dX7_items_30 (by decide) ?_
                refine lv_icmp_eq (tgt := 98) hx hb dX7_items_31 (by decide) (fun cb => absurd cb (by decide)) (fun _ => ?_)
                refine lv_iload hx hb dX7_items_34 (lv_at hl 1 rfl) ?_
                refine lv_iload hx hb dX7_items_36 (lv_at hl 0 rfl) ?_
                refine ky_Si (As := [.int 7, .int 1]) (rest := []) ⟨hx, hb, hml, hown, hts⟩ ⟨hK, hN⟩ hZ hP hD hS hA [] [0, 1, 2] (wc := []) (wr := [(Mrr, .inl (g 0, 3, .inl F_512)), (Mm, .inr (7, [.int zth, .ref Mt, .int (nI tp), .int (nI max_518), .int (-1), .ref Mrr, .ref Mrh, .ref Mrc, .int (nI rh), .int (nI rc), .ref Mn, .ref Mf, .ref Mr, .ref Mh, .int zhp, .int zcc, .ref Ma, .ref Mas, .ref Msn, .ref Mac, .ref Mat])), (Mt, .inl (g 0, 160, .inl fmt))]) rfl rfl rfl rfl (by decide) (r_X7_has_71 l D g H.size) (va_cwS 2 hts gX7_items_X7_has rfl rfl rfl (by decide +kernel) ⟨(Nat.le_of_ble_eq_true rfl), (Nat.le_of_ble_eq_true rfl)⟩) rfl hl.1 rfl (Nat.le_of_ble_eq_true rfl) dX7_items_38 ⟨(Nat.le_of_ble_eq_true rfl), (Nat.le_of_ble_eq_true rfl)⟩ (fun r_528 u H locs hw hP2 hD2 hS2 => ?_)
                clear hP hD hS
                obtain ⟨rfl, rfl⟩ := hw
                have hPD : PD D A [(Mrr, .inl (g 0, 3, .inl F_512)), (Mm, .inr (7, [.int zth, .ref Mt, .int (nI tp), .int (nI max_518), .int (-1), .ref Mrr, .ref Mrh, .ref Mrc, .int (nI rh), .int (nI rc), .ref Mn, .ref Mf, .ref Mr, .ref Mh, .int zhp, .int zcc, .ref Ma, .ref Mas, .ref Msn, .ref Mac, .ref Mat])), (Mt, .inl (g 0, 160, .inl fmt))] H := ⟨hP2, hD2⟩
                have hS := hS2; clear hP2 hD2 hS2; have hP := hPD.1; have hD := hPD.2; clear hPD
                refine W.widen (k := 0) (n := 0) (Nat.le_of_ble_eq_true rfl) (Nat.le_of_ble_eq_true rfl) ?_
                refine lv_if_ne (tgt := 98) hx hb dX7_items_41 (by decide) (fun _ => ?_) (fun cb => absurd cb (by decide))
                have hPD9 : PD D A [(Mm, .inr (7, [.int zth, .ref Mt, .int (nI tp), .int (nI max_518), .int (-1), .ref Mrr, .ref Mrh, .ref Mrc, .int (nI rh), .int (nI rc), .ref Mn, .ref Mf, .ref Mr, .ref Mh, .int zhp, .int zcc, .ref Ma, .ref Mas, .ref Msn, .ref Mac, .ref Mat])), (Mt, .inl (g 0, 160, .inl fmt)), (Mrr, .inl (g 0, 3, .inl F_512))] H := ⟨hP.sub [1, 2, 0] rfl, hD.sub [1, 2, 0] (by decide) rfl⟩
                have hP9 := hPD9.1; have hD9 := hPD9.2
                subst hQ
                refine W.widen (k := 0) (n := 0) (Nat.le_of_ble_eq_true rfl) (Nat.le_of_ble_eq_true rfl) ?_
                exact W.vret hx hb hr (fun tS htS _ => ⟨⟨_, rfl, ⟨max_518, (-1), F_512, rfl, ⟨(hF_512), (show max_518 ≤ tp by omega), (show ma ≤ max_518 by omega), (congrArg Prod.fst (hR_515.trans (itR_again (f := 0) (m := 7) (q := 1) hf_521 hil_527.2 (by decide) (by decide)))).symm, (fun _ => (congrArg Prod.snd (hR_515.trans (itR_again (f := 0) (m := 7) (q := 1) hf_521 hil_527.2 (by decide) (by decide)))).symm)⟩⟩, by rw [htS]; exact hP9, hD9⟩, hS.F htS⟩) hS.2.2 dX7_items_98
              · skip
                refine lv_eqi (y := 2) (qi_524) ?_
                have hil_529 := iv_lt (k := 0) (q := 2) hey_522.symm qi_524 (by decide); have hil_529a := hil_529.1
                refine lv_istore (lv' := [(5, .int 2), (4, .int 7), (0, .ref Mm), (1, .int 0), (2, .ref Mrr), (3, .int 0)]) hx hb dX7_items_93 hl (by decide) rfl (fun ls hl => ?_)
                refine lv_goto (tgt := 20) hx hb dX7_items_95 (by decide) ?_
                refine lv_aload_n hx hb dX7_items_20 rfl (lv_at hl 2 rfl) ?_
                refine va_get (D := D) (ci := 7) (v := .int (-1)) (C := RX7) (T := TX7) (N := 21) hx hb hts iX7 hown hK hP 1 rfl rfl 4 (by decide) f71 (fun _ h9 => h9) rfl dX7_items_21 ?_
                refine lv_iconst (v := (-1)) hx hb dX7_items_24 (by decide) ?_
                refine lv_icmp_ne (tgt := 98) hx hb dX7_items_25 (by decide) (fun cb => absurd (by decide) cb) (fun _ => ?_)
                refine lv_iload hx hb dX7_items_28 (lv_at hl 0 rfl) ?_
                refine lv_iconst (v := (-1)) hx hb dX7_items_30 (by decide) ?_
                refine lv_icmp_eq (tgt := 98) hx hb dX7_items_31 (by decide) (fun cb => absurd cb (by decide)) (fun _ => ?_)
                refine lv_iload hx hb dX7_items_34 (lv_at hl 1 rfl) ?_
                refine lv_iload hx hb dX7_items_36 (lv_at hl 0 rfl) ?_
                refine ky_Si (As := [.int 7, .int 2]) (rest := []) ⟨hx, hb, hml, hown, hts⟩ ⟨hK, hN⟩ hZ hP hD hS hA [] [0, 1, 2] (wc := []) (wr := [(Mrr, .inl (g 0, 3, .inl F_512)), (Mm, .inr (7, [.int zth, .ref Mt, .int (nI tp), .int (nI max_518), .int (-1), .ref Mrr, .ref Mrh, .ref Mrc, .int (nI rh), .int (nI rc), .ref Mn, .ref Mf, .ref Mr, .ref Mh, .int zhp, .int zcc, .ref Ma, .ref Mas, .ref Msn, .ref Mac, .ref Mat])), (Mt, .inl (g 0, 160, .inl fmt))]) rfl rfl rfl rfl (by decide) (r_X7_has_72 l D g H.size) (va_cwS 2 hts gX7_items_X7_has rfl rfl rfl (by decide +kernel) ⟨(Nat.le_of_ble_eq_true rfl), (Nat.le_of_ble_eq_true rfl)⟩) rfl hl.1 rfl (Nat.le_of_ble_eq_true rfl) dX7_items_38 ⟨(Nat.le_of_ble_eq_true rfl), (Nat.le_of_ble_eq_true rfl)⟩ (fun r_530 u H locs hw hP2 hD2 hS2 => ?_)
                clear hP hD hS
                obtain ⟨rfl, rfl⟩ := hw
                have hPD : PD D A [(Mrr, .inl (g 0, 3, .inl F_512)), (Mm, .inr (7, [.int zth, .ref Mt, .int (nI tp), .int (nI max_518), .int (-1), .ref Mrr, .ref Mrh, .ref Mrc, .int (nI rh), .int (nI rc), .ref Mn, .ref Mf, .ref Mr, .ref Mh, .int zhp, .int zcc, .ref Ma, .ref Mas, .ref Msn, .ref Mac, .ref Mat])), (Mt, .inl (g 0, 160, .inl fmt))] H := ⟨hP2, hD2⟩
                have hS := hS2; clear hP2 hD2 hS2; have hP := hPD.1; have hD := hPD.2; clear hPD
                refine W.widen (k := 0) (n := 0) (Nat.le_of_ble_eq_true rfl) (Nat.le_of_ble_eq_true rfl) ?_
                refine lv_if_ne (tgt := 98) hx hb dX7_items_41 (by decide) (fun _ => ?_) (fun cb => absurd cb (by decide))
                have hPD9 : PD D A [(Mm, .inr (7, [.int zth, .ref Mt, .int (nI tp), .int (nI max_518), .int (-1), .ref Mrr, .ref Mrh, .ref Mrc, .int (nI rh), .int (nI rc), .ref Mn, .ref Mf, .ref Mr, .ref Mh, .int zhp, .int zcc, .ref Ma, .ref Mas, .ref Msn, .ref Mac, .ref Mat])), (Mt, .inl (g 0, 160, .inl fmt)), (Mrr, .inl (g 0, 3, .inl F_512))] H := ⟨hP.sub [1, 2, 0] rfl, hD.sub [1, 2, 0] (by decide) rfl⟩
                have hP9 := hPD9.1; have hD9 := hPD9.2
                subst hQ
                refine W.widen (k := 0) (n := 0) (Nat.le_of_ble_eq_true rfl) (Nat.le_of_ble_eq_true rfl) ?_
                exact W.vret hx hb hr (fun tS htS _ => ⟨⟨_, rfl, ⟨max_518, (-1), F_512, rfl, ⟨(hF_512), (show max_518 ≤ tp by omega), (show ma ≤ max_518 by omega), (congrArg Prod.fst (hR_515.trans (itR_again (f := 0) (m := 7) (q := 2) hf_521 hil_529.2 (by decide) (by decide)))).symm, (fun _ => (congrArg Prod.snd (hR_515.trans (itR_again (f := 0) (m := 7) (q := 2) hf_521 hil_529.2 (by decide) (by decide)))).symm)⟩⟩, by rw [htS]; exact hP9, hD9⟩, hS.F htS⟩) hS.2.2 dX7_items_98
            · skip
              refine lv_iload_n hx hb dX7_items_85 rfl (lv_at hl 3 rfl) ?_
              refine lv_aload_n hx hb dX7_items_86 rfl (lv_at hl 2 rfl) ?_
              refine ky_Vi (As := []) (rest := [.int 0]) ⟨hx, hb, hml, hown, hts⟩ ⟨hK, hN⟩ hZ hP hD hS hA [1, 2] [0] (wc := [(Mm, .inr (7, [.int zth, .ref Mt, .int (nI tp), .int (nI max_505), .int zwrx_506, .ref Mrr, .ref Mrh, .ref Mrc, .int (nI rh), .int (nI rc), .ref Mn, .ref Mf, .ref Mr, .ref Mh, .int zhp, .int zcc, .ref Ma, .ref Mas, .ref Msn, .ref Mac, .ref Mat])), (Mt, .inl (g 0, 160, .inl fmt))]) (wr := [(Mrr, .inl (g 0, 3, .inl F_512))]) rfl rfl rfl rfl (by decide) (r_X7_ahead l D g H.size Mm zth Mt tp max_505 zwrx_506 Mrr Mrh Mrc rh rc Mn Mf Mr Mh zhp zcc Ma Mas Msn Mac Mat fmt (show tp ≤ 160 by omega) (show max_505 ≤ tp by omega)) (cwV 0 hts gX7_items_X7_ahead rfl rfl rfl (by decide +kernel) ⟨(Nat.le_of_ble_eq_true rfl), (Nat.le_of_ble_eq_true rfl)⟩) 1 7 rfl rfl rfl rfl hl.1 rfl (Nat.le_of_ble_eq_true rfl) dX7_items_87 ⟨(Nat.le_of_ble_eq_true rfl), (Nat.le_of_ble_eq_true rfl)⟩ (fun r_531 u H locs hw hP2 hD2 hS2 => ?_)
              clear hP hD hS
              obtain ⟨max_532, rfl, rfl, hf_533, hf_534, hf_535⟩ := hw
              have hPD : PD D A [(Mrr, .inl (g 0, 3, .inl F_512)), (Mm, .inr (7, [.int zth, .ref Mt, .int (nI tp), .int (nI max_532), .int zwrx_506, .ref Mrr, .ref Mrh, .ref Mrc, .int (nI rh), .int (nI rc), .ref Mn, .ref Mf, .ref Mr, .ref Mh, .int zhp, .int zcc, .ref Ma, .ref Mas, .ref Msn, .ref Mac, .ref Mat])), (Mt, .inl (g 0, 160, .inl fmt))] H := ⟨hP2, hD2⟩
              have hS := hS2; clear hP2 hD2 hS2; have hP := hPD.1; have hD := hPD.2; clear hPD
              refine W.widen (k := 0) (n := 0) (Nat.le_of_ble_eq_true rfl) (Nat.le_of_ble_eq_true rfl) ?_
              refine lv_topi (fun y_536 hey_536 => ?_)
              refine ky_Si (As := [.int 0, .int y_536]) (rest := []) ⟨hx, hb, hml, hown, hts⟩ ⟨hK, hN⟩ hZ hP hD hS hA [] [0, 1, 2] (wc := []) (wr := [(Mrr, .inl (g 0, 3, .inl F_512)), (Mm, .inr (7, [.int zth, .ref Mt, .int (nI tp), .int (nI max_532), .int zwrx_506, .ref Mrr, .ref Mrh, .ref Mrc, .int (nI rh), .int (nI rc), .ref Mn, .ref Mf, .ref Mr, .ref Mh, .int zhp, .int zcc, .ref Ma, .ref Mas, .ref Msn, .ref Mac, .ref Mat])), (Mt, .inl (g 0, 160, .inl fmt))]) rfl rfl rfl rfl (by decide) (r_X7_itemBy_0 l D g H.size y_536) (va_cwS 2 hts gX7_items_X7_itemBy rfl rfl rfl (by decide +kernel) ⟨(Nat.le_of_ble_eq_true rfl), (Nat.le_of_ble_eq_true rfl)⟩) rfl hl.1 rfl (Nat.le_of_ble_eq_true rfl) dX7_items_90 ⟨(Nat.le_of_ble_eq_true rfl), (Nat.le_of_ble_eq_true rfl)⟩ (fun r_537 u H locs hw hP2 hD2 hS2 => ?_)
              clear hP hD hS
              obtain ⟨rfl, rfl⟩ := hw
              have hPD : PD D A [(Mrr, .inl (g 0, 3, .inl F_512)), (Mm, .inr (7, [.int zth, .ref Mt, .int (nI tp), .int (nI max_532), .int zwrx_506, .ref Mrr, .ref Mrh, .ref Mrc, .int (nI rh), .int (nI rc), .ref Mn, .ref Mf, .ref Mr, .ref Mh, .int zhp, .int zcc, .ref Ma, .ref Mas, .ref Msn, .ref Mac, .ref Mat])), (Mt, .inl (g 0, 160, .inl fmt))] H := ⟨hP2, hD2⟩
              have hS := hS2; clear hP2 hD2 hS2; have hP := hPD.1; have hD := hPD.2; clear hPD
              refine W.widen (k := 0) (n := 0) (Nat.le_of_ble_eq_true rfl) (Nat.le_of_ble_eq_true rfl) ?_
              refine lv_istore (lv' := [(5, .int (itK 0 y_536)), (4, .int 7), (0, .ref Mm), (1, .int 0), (2, .ref Mrr), (3, .int 0)]) hx hb dX7_items_93 hl (by decide) rfl (fun ls hl => ?_)
              refine lv_goto (tgt := 20) hx hb dX7_items_95 (by decide) ?_
              refine lv_aload_n hx hb dX7_items_20 rfl (lv_at hl 2 rfl) ?_
              refine va_get (D := D) (ci := 7) (v := .int zwrx_506) (C := RX7) (T := TX7) (N := 21) hx hb hts iX7 hown hK hP 1 rfl rfl 4 (by decide) f71 (fun _ h9 => h9) rfl dX7_items_21 ?_
              refine lv_iconst (v := (-1)) hx hb dX7_items_24 (by decide) ?_
              refine lv_icmp_ne (tgt := 98) hx hb dX7_items_25 (by decide) (fun _ => ?_) (fun cb => absurd cb (cw_513))
              have hPD9 : PD D A [(Mm, .inr (7, [.int zth, .ref Mt, .int (nI tp), .int (nI max_532), .int zwrx_506, .ref Mrr, .ref Mrh, .ref Mrc, .int (nI rh), .int (nI rc), .ref Mn, .ref Mf, .ref Mr, .ref Mh, .int zhp, .int zcc, .ref Ma, .ref Mas, .ref Msn, .ref Mac, .ref Mat])), (Mt, .inl (g 0, 160, .inl fmt)), (Mrr, .inl (g 0, 3, .inl F_512))] H := ⟨hP.sub [1, 2, 0] rfl, hD.sub [1, 2, 0] (by decide) rfl⟩
              have hP9 := hPD9.1; have hD9 := hPD9.2
              subst hQ
              refine W.widen (k := 0) (n := 0) (Nat.le_of_ble_eq_true rfl) (Nat.le_of_ble_eq_true rfl) ?_
              exact W.vret hx hb hr (fun tS htS _ => ⟨⟨_, rfl, ⟨max_532, zwrx_506, F_512, rfl, ⟨(hF_512), (show max_532 ≤ tp by omega), (show ma ≤ max_532 by omega), ((congrArg Prod.fst hR_490).trans ((itR_w (f := 1) (m := 6) (q := 0) hf_496 hil_500.1 hil_500.2 (by decide) (by decide) (fun q => cw_513 (hf_508.2.2.2.1.trans q))).trans hf_508.2.2.2.1.symm)).symm, (fun q => absurd q cw_513)⟩⟩, by rw [htS]; exact hP9, hD9⟩, hS.F htS⟩) hS.2.2 dX7_items_98
          · skip
            refine lv_eqi (y := 1) (qi_499) ?_
            have hil_538 := iv_lt (k := 0) (q := 1) hey_497.symm qi_499 (by decide); have hil_538a := hil_538.1
            refine lv_istore (lv' := [(5, .int 1), (4, .int 6), (0, .ref Mm), (1, .int 0), (2, .ref Mrr), (3, .int 0)]) hx hb dX7_items_93 hl (by decide) rfl (fun ls hl => ?_)
            refine lv_goto (tgt := 20) hx hb dX7_items_95 (by decide) ?_
            refine lv_aload_n hx hb dX7_items_20 rfl (lv_at hl 2 rfl) ?_
            refine va_get (D := D) (ci := 7) (v := .int (-1)) (C := RX7) (T := TX7) (N := 21) hx hb hts iX7 hown hK hP 1 rfl rfl 4 (by decide) f71 (fun _ h9 => h9) rfl dX7_items_21 ?_
            refine lv_iconst (v := (-1)) hx hb dX7_items_24 (by decide) ?_
            refine lv_icmp_ne (tgt := 98) hx hb dX7_items_25 (by decide) (fun cb => absurd (by decide) cb) (fun _ => ?_)
            refine lv_iload hx hb dX7_items_28 (lv_at hl 0 rfl) ?_
            refine lv_iconst (v := (-1)) hx hb dX7_items_30 (by decide) ?_
            refine lv_icmp_eq (tgt := 98) hx hb dX7_items_31 (by decide) (fun cb => absurd cb (by decide)) (fun _ => ?_)
            refine lv_iload hx hb dX7_items_34 (lv_at hl 1 rfl) ?_
            refine lv_iload hx hb dX7_items_36 (lv_at hl 0 rfl) ?_
            refine ky_Si (As := [.int 6, .int 1]) (rest := []) ⟨hx, hb, hml, hown, hts⟩ ⟨hK, hN⟩ hZ hP hD hS hA [] [0, 1, 2] (wc := []) (wr := [(Mrr, .inl (g 0, 3, .inl F_487)), (Mm, .inr (7, [.int zth, .ref Mt, .int (nI tp), .int (nI max_493), .int (-1), .ref Mrr, .ref Mrh, .ref Mrc, .int (nI rh), .int (nI rc), .ref Mn, .ref Mf, .ref Mr, .ref Mh, .int zhp, .int zcc, .ref Ma, .ref Mas, .ref Msn, .ref Mac, .ref Mat])), (Mt, .inl (g 0, 160, .inl fmt))]) rfl rfl rfl rfl (by decide) (r_X7_has_61 l D g H.size) (va_cwS 2 hts gX7_items_X7_has rfl rfl rfl (by decide +kernel) ⟨(Nat.le_of_ble_eq_true rfl), (Nat.le_of_ble_eq_true rfl)⟩) rfl hl.1 rfl (Nat.le_of_ble_eq_true rfl) dX7_items_38 ⟨(Nat.le_of_ble_eq_true rfl), (Nat.le_of_ble_eq_true rfl)⟩ (fun r_539 u H locs hw hP2 hD2 hS2 => ?_)
            clear hP hD hS
            obtain ⟨rfl, rfl⟩ := hw
            have hPD : PD D A [(Mrr, .inl (g 0, 3, .inl F_487)), (Mm, .inr (7, [.int zth, .ref Mt, .int (nI tp), .int (nI max_493), .int (-1), .ref Mrr, .ref Mrh, .ref Mrc, .int (nI rh), .int (nI rc), .ref Mn, .ref Mf, .ref Mr, .ref Mh, .int zhp, .int zcc, .ref Ma, .ref Mas, .ref Msn, .ref Mac, .ref Mat])), (Mt, .inl (g 0, 160, .inl fmt))] H := ⟨hP2, hD2⟩
            have hS := hS2; clear hP2 hD2 hS2; have hP := hPD.1; have hD := hPD.2; clear hPD
            refine W.widen (k := 0) (n := 0) (Nat.le_of_ble_eq_true rfl) (Nat.le_of_ble_eq_true rfl) ?_
            refine lv_if_ne (tgt := 98) hx hb dX7_items_41 (by decide) (fun _ => ?_) (fun cb => absurd cb (by decide))
            have hPD9 : PD D A [(Mm, .inr (7, [.int zth, .ref Mt, .int (nI tp), .int (nI max_493), .int (-1), .ref Mrr, .ref Mrh, .ref Mrc, .int (nI rh), .int (nI rc), .ref Mn, .ref Mf, .ref Mr, .ref Mh, .int zhp, .int zcc, .ref Ma, .ref Mas, .ref Msn, .ref Mac, .ref Mat])), (Mt, .inl (g 0, 160, .inl fmt)), (Mrr, .inl (g 0, 3, .inl F_487))] H := ⟨hP.sub [1, 2, 0] rfl, hD.sub [1, 2, 0] (by decide) rfl⟩
            have hP9 := hPD9.1; have hD9 := hPD9.2
            subst hQ
            refine W.widen (k := 0) (n := 0) (Nat.le_of_ble_eq_true rfl) (Nat.le_of_ble_eq_true rfl) ?_
            exact W.vret hx hb hr (fun tS htS _ => ⟨⟨_, rfl, ⟨max_493, (-1), F_487, rfl, ⟨(hF_487), (show max_493 ≤ tp by omega), (show ma ≤ max_493 by omega), (congrArg Prod.fst (hR_490.trans (itR_again (f := 1) (m := 6) (q := 1) hf_496 hil_538.2 (by decide) (by decide)))).symm, (fun _ => (congrArg Prod.snd (hR_490.trans (itR_again (f := 1) (m := 6) (q := 1) hf_496 hil_538.2 (by decide) (by decide)))).symm)⟩⟩, by rw [htS]; exact hP9, hD9⟩, hS.F htS⟩) hS.2.2 dX7_items_98
          · skip
            refine lv_eqi (y := 2) (qi_499) ?_
            have hil_540 := iv_lt (k := 0) (q := 2) hey_497.symm qi_499 (by decide); have hil_540a := hil_540.1
            refine lv_istore (lv' := [(5, .int 2), (4, .int 6), (0, .ref Mm), (1, .int 0), (2, .ref Mrr), (3, .int 0)]) hx hb dX7_items_93 hl (by decide) rfl (fun ls hl => ?_)
            refine lv_goto (tgt := 20) hx hb dX7_items_95 (by decide) ?_
            refine lv_aload_n hx hb dX7_items_20 rfl (lv_at hl 2 rfl) ?_
            refine va_get (D := D) (ci := 7) (v := .int (-1)) (C := RX7) (T := TX7) (N := 21) hx hb hts iX7 hown hK hP 1 rfl rfl 4 (by decide) f71 (fun _ h9 => h9) rfl dX7_items_21 ?_
            refine lv_iconst (v := (-1)) hx hb dX7_items_24 (by decide) ?_
            refine lv_icmp_ne (tgt := 98) hx hb dX7_items_25 (by decide) (fun cb => absurd (by decide) cb) (fun _ => ?_)
            refine lv_iload hx hb dX7_items_28 (lv_at hl 0 rfl) ?_
            refine lv_iconst (v := (-1)) hx hb dX7_items_30 (by decide) ?_
            refine lv_icmp_eq (tgt := 98) hx hb dX7_items_31 (by decide) (fun cb => absurd cb (by decide)) (fun _ => ?_)
            refine lv_iload hx hb dX7_items_34 (lv_at hl 1 rfl) ?_
            refine lv_iload hx hb dX7_items_36 (lv_at hl 0 rfl) ?_
            refine ky_Si (As := [.int 6, .int 2]) (rest := []) ⟨hx, hb, hml, hown, hts⟩ ⟨hK, hN⟩ hZ hP hD hS hA [] [0, 1, 2] (wc := []) (wr := [(Mrr, .inl (g 0, 3, .inl F_487)), (Mm, .inr (7, [.int zth, .ref Mt, .int (nI tp), .int (nI max_493), .int (-1), .ref Mrr, .ref Mrh, .ref Mrc, .int (nI rh), .int (nI rc), .ref Mn, .ref Mf, .ref Mr, .ref Mh, .int zhp, .int zcc, .ref Ma, .ref Mas, .ref Msn, .ref Mac, .ref Mat])), (Mt, .inl (g 0, 160, .inl fmt))]) rfl rfl rfl rfl (by decide) (r_X7_has_62 l D g H.size) (va_cwS 2 hts gX7_items_X7_has rfl rfl rfl (by decide +kernel) ⟨(Nat.le_of_ble_eq_true rfl), (Nat.le_of_ble_eq_true rfl)⟩) rfl hl.1 rfl (Nat.le_of_ble_eq_true rfl) dX7_items_38 ⟨(Nat.le_of_ble_eq_true rfl), (Nat.le_of_ble_eq_true rfl)⟩ (fun r_541 u H locs hw hP2 hD2 hS2 => ?_)
            clear hP hD hS
            obtain ⟨rfl, rfl⟩ := hw
            have hPD : PD D A [(Mrr, .inl (g 0, 3, .inl F_487)), (Mm, .inr (7, [.int zth, .ref Mt, .int (nI tp), .int (nI max_493), .int (-1), .ref Mrr, .ref Mrh, .ref Mrc, .int (nI rh), .int (nI rc), .ref Mn, .ref Mf, .ref Mr, .ref Mh, .int zhp, .int zcc, .ref Ma, .ref Mas, .ref Msn, .ref Mac, .ref Mat])), (Mt, .inl (g 0, 160, .inl fmt))] H := ⟨hP2, hD2⟩
            have hS := hS2; clear hP2 hD2 hS2; have hP := hPD.1; have hD := hPD.2; clear hPD
            refine W.widen (k := 0) (n := 0) (Nat.le_of_ble_eq_true rfl) (Nat.le_of_ble_eq_true rfl) ?_
            refine lv_if_ne (tgt := 98) hx hb dX7_items_41 (by decide) (fun _ => ?_) (fun cb => absurd cb (by decide))
            have hPD9 : PD D A [(Mm, .inr (7, [.int zth, .ref Mt, .int (nI tp), .int (nI max_493), .int (-1), .ref Mrr, .ref Mrh, .ref Mrc, .int (nI rh), .int (nI rc), .ref Mn, .ref Mf, .ref Mr, .ref Mh, .int zhp, .int zcc, .ref Ma, .ref Mas, .ref Msn, .ref Mac, .ref Mat])), (Mt, .inl (g 0, 160, .inl fmt)), (Mrr, .inl (g 0, 3, .inl F_487))] H := ⟨hP.sub [1, 2, 0] rfl, hD.sub [1, 2, 0] (by decide) rfl⟩
            have hP9 := hPD9.1; have hD9 := hPD9.2
            subst hQ
            refine W.widen (k := 0) (n := 0) (Nat.le_of_ble_eq_true rfl) (Nat.le_of_ble_eq_true rfl) ?_
            exact W.vret hx hb hr (fun tS htS _ => ⟨⟨_, rfl, ⟨max_493, (-1), F_487, rfl, ⟨(hF_487), (show max_493 ≤ tp by omega), (show ma ≤ max_493 by omega), (congrArg Prod.fst (hR_490.trans (itR_again (f := 1) (m := 6) (q := 2) hf_496 hil_540.2 (by decide) (by decide)))).symm, (fun _ => (congrArg Prod.snd (hR_490.trans (itR_again (f := 1) (m := 6) (q := 2) hf_496 hil_540.2 (by decide) (by decide)))).symm)⟩⟩, by rw [htS]; exact hP9, hD9⟩, hS.F htS⟩) hS.2.2 dX7_items_98
        · skip
          refine lv_iload_n hx hb dX7_items_85 rfl (lv_at hl 3 rfl) ?_
          refine lv_aload_n hx hb dX7_items_86 rfl (lv_at hl 2 rfl) ?_
          refine ky_Vi (As := []) (rest := [.int 0]) ⟨hx, hb, hml, hown, hts⟩ ⟨hK, hN⟩ hZ hP hD hS hA [1, 2] [0] (wc := [(Mm, .inr (7, [.int zth, .ref Mt, .int (nI tp), .int (nI max_480), .int zwrx_481, .ref Mrr, .ref Mrh, .ref Mrc, .int (nI rh), .int (nI rc), .ref Mn, .ref Mf, .ref Mr, .ref Mh, .int zhp, .int zcc, .ref Ma, .ref Mas, .ref Msn, .ref Mac, .ref Mat])), (Mt, .inl (g 0, 160, .inl fmt))]) (wr := [(Mrr, .inl (g 0, 3, .inl F_487))]) rfl rfl rfl rfl (by decide) (r_X7_ahead l D g H.size Mm zth Mt tp max_480 zwrx_481 Mrr Mrh Mrc rh rc Mn Mf Mr Mh zhp zcc Ma Mas Msn Mac Mat fmt (show tp ≤ 160 by omega) (show max_480 ≤ tp by omega)) (cwV 0 hts gX7_items_X7_ahead rfl rfl rfl (by decide +kernel) ⟨(Nat.le_of_ble_eq_true rfl), (Nat.le_of_ble_eq_true rfl)⟩) 1 7 rfl rfl rfl rfl hl.1 rfl (Nat.le_of_ble_eq_true rfl) dX7_items_87 ⟨(Nat.le_of_ble_eq_true rfl), (Nat.le_of_ble_eq_true rfl)⟩ (fun r_542 u H locs hw hP2 hD2 hS2 => ?_)
          clear hP hD hS
          obtain ⟨max_543, rfl, rfl, hf_544, hf_545, hf_546⟩ := hw
          have hPD : PD D A [(Mrr, .inl (g 0, 3, .inl F_487)), (Mm, .inr (7, [.int zth, .ref Mt, .int (nI tp), .int (nI max_543), .int zwrx_481, .ref Mrr, .ref Mrh, .ref Mrc, .int (nI rh), .int (nI rc), .ref Mn, .ref Mf, .ref Mr, .ref Mh, .int zhp, .int zcc, .ref Ma, .ref Mas, .ref Msn, .ref Mac, .ref Mat])), (Mt, .inl (g 0, 160, .inl fmt))] H := ⟨hP2, hD2⟩
          have hS := hS2; clear hP2 hD2 hS2; have hP := hPD.1; have hD := hPD.2; clear hPD
          refine W.widen (k := 0) (n := 0) (Nat.le_of_ble_eq_true rfl) (Nat.le_of_ble_eq_true rfl) ?_
          refine lv_topi (fun y_547 hey_547 => ?_)
          refine ky_Si (As := [.int 0, .int y_547]) (rest := []) ⟨hx, hb, hml, hown, hts⟩ ⟨hK, hN⟩ hZ hP hD hS hA [] [0, 1, 2] (wc := []) (wr := [(Mrr, .inl (g 0, 3, .inl F_487)), (Mm, .inr (7, [.int zth, .ref Mt, .int (nI tp), .int (nI max_543), .int zwrx_481, .ref Mrr, .ref Mrh, .ref Mrc, .int (nI rh), .int (nI rc), .ref Mn, .ref Mf, .ref Mr, .ref Mh, .int zhp, .int zcc, .ref Ma, .ref Mas, .ref Msn, .ref Mac, .ref Mat])), (Mt, .inl (g 0, 160, .inl fmt))]) rfl rfl rfl rfl (by decide) (r_X7_itemBy_0 l D g H.size y_547) (va_cwS 2 hts gX7_items_X7_itemBy rfl rfl rfl (by decide +kernel) ⟨(Nat.le_of_ble_eq_true rfl), (Nat.le_of_ble_eq_true rfl)⟩) rfl hl.1 rfl (Nat.le_of_ble_eq_true rfl) dX7_items_90 ⟨(Nat.le_of_ble_eq_true rfl), (Nat.le_of_ble_eq_true rfl)⟩ (fun r_548 u H locs hw hP2 hD2 hS2 => ?_)
          clear hP hD hS
          obtain ⟨rfl, rfl⟩ := hw
          have hPD : PD D A [(Mrr, .inl (g 0, 3, .inl F_487)), (Mm, .inr (7, [.int zth, .ref Mt, .int (nI tp), .int (nI max_543), .int zwrx_481, .ref Mrr, .ref Mrh, .ref Mrc, .int (nI rh), .int (nI rc), .ref Mn, .ref Mf, .ref Mr, .ref Mh, .int zhp, .int zcc, .ref Ma, .ref Mas, .ref Msn, .ref Mac, .ref Mat])), (Mt, .inl (g 0, 160, .inl fmt))] H := ⟨hP2, hD2⟩
          have hS := hS2; clear hP2 hD2 hS2; have hP := hPD.1; have hD := hPD.2; clear hPD
          refine W.widen (k := 0) (n := 0) (Nat.le_of_ble_eq_true rfl) (Nat.le_of_ble_eq_true rfl) ?_
          refine lv_istore (lv' := [(5, .int (itK 0 y_547)), (4, .int 6), (0, .ref Mm), (1, .int 0), (2, .ref Mrr), (3, .int 0)]) hx hb dX7_items_93 hl (by decide) rfl (fun ls hl => ?_)
          refine lv_goto (tgt := 20) hx hb dX7_items_95 (by decide) ?_
          refine lv_aload_n hx hb dX7_items_20 rfl (lv_at hl 2 rfl) ?_
          refine va_get (D := D) (ci := 7) (v := .int zwrx_481) (C := RX7) (T := TX7) (N := 21) hx hb hts iX7 hown hK hP 1 rfl rfl 4 (by decide) f71 (fun _ h9 => h9) rfl dX7_items_21 ?_
          refine lv_iconst (v := (-1)) hx hb dX7_items_24 (by decide) ?_
          refine lv_icmp_ne (tgt := 98) hx hb dX7_items_25 (by decide) (fun _ => ?_) (fun cb => absurd cb (cw_488))
          have hPD9 : PD D A [(Mm, .inr (7, [.int zth, .ref Mt, .int (nI tp), .int (nI max_543), .int zwrx_481, .ref Mrr, .ref Mrh, .ref Mrc, .int (nI rh), .int (nI rc), .ref Mn, .ref Mf, .ref Mr, .ref Mh, .int zhp, .int zcc, .ref Ma, .ref Mas, .ref Msn, .ref Mac, .ref Mat])), (Mt, .inl (g 0, 160, .inl fmt)), (Mrr, .inl (g 0, 3, .inl F_487))] H := ⟨hP.sub [1, 2, 0] rfl, hD.sub [1, 2, 0] (by decide) rfl⟩
          have hP9 := hPD9.1; have hD9 := hPD9.2
          subst hQ
          refine W.widen (k := 0) (n := 0) (Nat.le_of_ble_eq_true rfl) (Nat.le_of_ble_eq_true rfl) ?_
          exact W.vret hx hb hr (fun tS htS _ => ⟨⟨_, rfl, ⟨max_543, zwrx_481, F_487, rfl, ⟨(hF_487), (show max_543 ≤ tp by omega), (show ma ≤ max_543 by omega), ((congrArg Prod.fst hR_391).trans ((itR_w (f := 2) (m := 4) (q := 1) hf_397 hil_475.1 hil_475.2 (by decide) (by decide) (fun q => cw_488 (hf_483.2.2.2.1.trans q))).trans hf_483.2.2.2.1.symm)).symm, (fun q => absurd q cw_488)⟩⟩, by rw [htS]; exact hP9, hD9⟩, hS.F htS⟩) hS.2.2 dX7_items_98
      · skip
        refine lv_eqi (y := 2) (qi_400) ?_
        have hil_549 := iv_lt (k := 0) (q := 2) hey_398.symm qi_400 (by decide); have hil_549a := hil_549.1
        refine lv_istore (lv' := [(5, .int 2), (4, .int 4), (0, .ref Mm), (1, .int 0), (2, .ref Mrr), (3, .int 0)]) hx hb dX7_items_93 hl (by decide) rfl (fun ls hl => ?_)
        refine lv_goto (tgt := 20) hx hb dX7_items_95 (by decide) ?_
        refine lv_aload_n hx hb dX7_items_20 rfl (lv_at hl 2 rfl) ?_
        refine va_get (D := D) (ci := 7) (v := .int (-1)) (C := RX7) (T := TX7) (N := 21) hx hb hts iX7 hown hK hP 1 rfl rfl 4 (by decide) f71 (fun _ h9 => h9) rfl dX7_items_21 ?_
        refine lv_iconst (v := (-1)) hx hb dX7_items_24 (by decide) ?_
        refine lv_icmp_ne (tgt := 98) hx hb dX7_items_25 (by decide) (fun cb => absurd (by decide) cb) (fun _ => ?_)
        refine lv_iload hx hb dX7_items_28 (lv_at hl 0 rfl) ?_
        refine lv_iconst (v := (-1)) hx hb dX7_items_30 (by decide) ?_
        refine lv_icmp_eq (tgt := 98) hx hb dX7_items_31 (by decide) (fun cb => absurd cb (by decide)) (fun _ => ?_)
        refine lv_iload hx hb dX7_items_34 (lv_at hl 1 rfl) ?_
        refine lv_iload hx hb dX7_items_36 (lv_at hl 0 rfl) ?_
        refine ky_Si (As := [.int 4, .int 2]) (rest := []) ⟨hx, hb, hml, hown, hts⟩ ⟨hK, hN⟩ hZ hP hD hS hA [] [0, 1, 2] (wc := []) (wr := [(Mrr, .inl (g 0, 3, .inl F_388)), (Mm, .inr (7, [.int zth, .ref Mt, .int (nI tp), .int (nI max_394), .int (-1), .ref Mrr, .ref Mrh, .ref Mrc, .int (nI rh), .int (nI rc), .ref Mn, .ref Mf, .ref Mr, .ref Mh, .int zhp, .int zcc, .ref Ma, .ref Mas, .ref Msn, .ref Mac, .ref Mat])), (Mt, .inl (g 0, 160, .inl fmt))]) rfl rfl rfl rfl (by decide) (r_X7_has_42 l D g H.size) (va_cwS 2 hts gX7_items_X7_has rfl rfl rfl (by decide +kernel) ⟨(Nat.le_of_ble_eq_true rfl), (Nat.le_of_ble_eq_true rfl)⟩) rfl hl.1 rfl (Nat.le_of_ble_eq_true rfl) dX7_items_38 ⟨(Nat.le_of_ble_eq_true rfl), (Nat.le_of_ble_eq_true rfl)⟩ (fun r_550 u H locs hw hP2 hD2 hS2 => ?_)
        clear hP hD hS
        obtain ⟨rfl, rfl⟩ := hw
        have hPD : PD D A [(Mrr, .inl (g 0, 3, .inl F_388)), (Mm, .inr (7, [.int zth, .ref Mt, .int (nI tp), .int (nI max_394), .int (-1), .ref Mrr, .ref Mrh, .ref Mrc, .int (nI rh), .int (nI rc), .ref Mn, .ref Mf, .ref Mr, .ref Mh, .int zhp, .int zcc, .ref Ma, .ref Mas, .ref Msn, .ref Mac, .ref Mat])), (Mt, .inl (g 0, 160, .inl fmt))] H := ⟨hP2, hD2⟩
        have hS := hS2; clear hP2 hD2 hS2; have hP := hPD.1; have hD := hPD.2; clear hPD
        refine W.widen (k := 0) (n := 0) (Nat.le_of_ble_eq_true rfl) (Nat.le_of_ble_eq_true rfl) ?_
        refine lv_if_ne (tgt := 98) hx hb dX7_items_41 (by decide) (fun _ => ?_) (fun cb => absurd cb (by decide))
        have hPD9 : PD D A [(Mm, .inr (7, [.int zth, .ref Mt, .int (nI tp), .int (nI max_394), .int (-1), .ref Mrr, .ref Mrh, .ref Mrc, .int (nI rh), .int (nI rc), .ref Mn, .ref Mf, .ref Mr, .ref Mh, .int zhp, .int zcc, .ref Ma, .ref Mas, .ref Msn, .ref Mac, .ref Mat])), (Mt, .inl (g 0, 160, .inl fmt)), (Mrr, .inl (g 0, 3, .inl F_388))] H := ⟨hP.sub [1, 2, 0] rfl, hD.sub [1, 2, 0] (by decide) rfl⟩
        have hP9 := hPD9.1; have hD9 := hPD9.2
        subst hQ
        refine W.widen (k := 0) (n := 0) (Nat.le_of_ble_eq_true rfl) (Nat.le_of_ble_eq_true rfl) ?_
        exact W.vret hx hb hr (fun tS htS _ => ⟨⟨_, rfl, ⟨max_394, (-1), F_388, rfl, ⟨(hF_388), (show max_394 ≤ tp by omega), (show ma ≤ max_394 by omega), (congrArg Prod.fst (hR_391.trans (itR_again (f := 2) (m := 4) (q := 2) hf_397 hil_549.2 (by decide) (by decide)))).symm, (fun _ => (congrArg Prod.snd (hR_391.trans (itR_again (f := 2) (m := 4) (q := 2) hf_397 hil_549.2 (by decide) (by decide)))).symm)⟩⟩, by rw [htS]; exact hP9, hD9⟩, hS.F htS⟩) hS.2.2 dX7_items_98
    · skip
      refine lv_iload_n hx hb dX7_items_85 rfl (lv_at hl 3 rfl) ?_
      refine lv_aload_n hx hb dX7_items_86 rfl (lv_at hl 2 rfl) ?_
      refine ky_Vi (As := []) (rest := [.int 0]) ⟨hx, hb, hml, hown, hts⟩ ⟨hK, hN⟩ hZ hP hD hS hA [1, 2] [0] (wc := [(Mm, .inr (7, [.int zth, .ref Mt, .int (nI tp), .int (nI max_381), .int zwrx_382, .ref Mrr, .ref Mrh, .ref Mrc, .int (nI rh), .int (nI rc), .ref Mn, .ref Mf, .ref Mr, .ref Mh, .int zhp, .int zcc, .ref Ma, .ref Mas, .ref Msn, .ref Mac, .ref Mat])), (Mt, .inl (g 0, 160, .inl fmt))]) (wr := [(Mrr, .inl (g 0, 3, .inl F_388))]) rfl rfl rfl rfl (by decide) (r_X7_ahead l D g H.size Mm zth Mt tp max_381 zwrx_382 Mrr Mrh Mrc rh rc Mn Mf Mr Mh zhp zcc Ma Mas Msn Mac Mat fmt (show tp ≤ 160 by omega) (show max_381 ≤ tp by omega)) (cwV 0 hts gX7_items_X7_ahead rfl rfl rfl (by decide +kernel) ⟨(Nat.le_of_ble_eq_true rfl), (Nat.le_of_ble_eq_true rfl)⟩) 1 7 rfl rfl rfl rfl hl.1 rfl (Nat.le_of_ble_eq_true rfl) dX7_items_87 ⟨(Nat.le_of_ble_eq_true rfl), (Nat.le_of_ble_eq_true rfl)⟩ (fun r_551 u H locs hw hP2 hD2 hS2 => ?_)
      clear hP hD hS
      obtain ⟨max_552, rfl, rfl, hf_553, hf_554, hf_555⟩ := hw
      have hPD : PD D A [(Mrr, .inl (g 0, 3, .inl F_388)), (Mm, .inr (7, [.int zth, .ref Mt, .int (nI tp), .int (nI max_552), .int zwrx_382, .ref Mrr, .ref Mrh, .ref Mrc, .int (nI rh), .int (nI rc), .ref Mn, .ref Mf, .ref Mr, .ref Mh, .int zhp, .int zcc, .ref Ma, .ref Mas, .ref Msn, .ref Mac, .ref Mat])), (Mt, .inl (g 0, 160, .inl fmt))] H := ⟨hP2, hD2⟩
      have hS := hS2; clear hP2 hD2 hS2; have hP := hPD.1; have hD := hPD.2; clear hPD
      refine W.widen (k := 0) (n := 0) (Nat.le_of_ble_eq_true rfl) (Nat.le_of_ble_eq_true rfl) ?_
      refine lv_topi (fun y_556 hey_556 => ?_)
      refine ky_Si (As := [.int 0, .int y_556]) (rest := []) ⟨hx, hb, hml, hown, hts⟩ ⟨hK, hN⟩ hZ hP hD hS hA [] [0, 1, 2] (wc := []) (wr := [(Mrr, .inl (g 0, 3, .inl F_388)), (Mm, .inr (7, [.int zth, .ref Mt, .int (nI tp), .int (nI max_552), .int zwrx_382, .ref Mrr, .ref Mrh, .ref Mrc, .int (nI rh), .int (nI rc), .ref Mn, .ref Mf, .ref Mr, .ref Mh, .int zhp, .int zcc, .ref Ma, .ref Mas, .ref Msn, .ref Mac, .ref Mat])), (Mt, .inl (g 0, 160, .inl fmt))]) rfl rfl rfl rfl (by decide) (r_X7_itemBy_0 l D g H.size y_556) (va_cwS 2 hts gX7_items_X7_itemBy rfl rfl rfl (by decide +kernel) ⟨(Nat.le_of_ble_eq_true rfl), (Nat.le_of_ble_eq_true rfl)⟩) rfl hl.1 rfl (Nat.le_of_ble_eq_true rfl) dX7_items_90 ⟨(Nat.le_of_ble_eq_true rfl), (Nat.le_of_ble_eq_true rfl)⟩ (fun r_557 u H locs hw hP2 hD2 hS2 => ?_)
      clear hP hD hS
      obtain ⟨rfl, rfl⟩ := hw
      have hPD : PD D A [(Mrr, .inl (g 0, 3, .inl F_388)), (Mm, .inr (7, [.int zth, .ref Mt, .int (nI tp), .int (nI max_552), .int zwrx_382, .ref Mrr, .ref Mrh, .ref Mrc, .int (nI rh), .int (nI rc), .ref Mn, .ref Mf, .ref Mr, .ref Mh, .int zhp, .int zcc, .ref Ma, .ref Mas, .ref Msn, .ref Mac, .ref Mat])), (Mt, .inl (g 0, 160, .inl fmt))] H := ⟨hP2, hD2⟩
      have hS := hS2; clear hP2 hD2 hS2; have hP := hPD.1; have hD := hPD.2; clear hPD
      refine W.widen (k := 0) (n := 0) (Nat.le_of_ble_eq_true rfl) (Nat.le_of_ble_eq_true rfl) ?_
      refine lv_istore (lv' := [(5, .int (itK 0 y_556)), (4, .int 4), (0, .ref Mm), (1, .int 0), (2, .ref Mrr), (3, .int 0)]) hx hb dX7_items_93 hl (by decide) rfl (fun ls hl => ?_)
      refine lv_goto (tgt := 20) hx hb dX7_items_95 (by decide) ?_
      refine lv_aload_n hx hb dX7_items_20 rfl (lv_at hl 2 rfl) ?_
      refine va_get (D := D) (ci := 7) (v := .int zwrx_382) (C := RX7) (T := TX7) (N := 21) hx hb hts iX7 hown hK hP 1 rfl rfl 4 (by decide) f71 (fun _ h9 => h9) rfl dX7_items_21 ?_
      refine lv_iconst (v := (-1)) hx hb dX7_items_24 (by decide) ?_
      refine lv_icmp_ne (tgt := 98) hx hb dX7_items_25 (by decide) (fun _ => ?_) (fun cb => absurd cb (cw_389))
      have hPD9 : PD D A [(Mm, .inr (7, [.int zth, .ref Mt, .int (nI tp), .int (nI max_552), .int zwrx_382, .ref Mrr, .ref Mrh, .ref Mrc, .int (nI rh), .int (nI rc), .ref Mn, .ref Mf, .ref Mr, .ref Mh, .int zhp, .int zcc, .ref Ma, .ref Mas, .ref Msn, .ref Mac, .ref Mat])), (Mt, .inl (g 0, 160, .inl fmt)), (Mrr, .inl (g 0, 3, .inl F_388))] H := ⟨hP.sub [1, 2, 0] rfl, hD.sub [1, 2, 0] (by decide) rfl⟩
      have hP9 := hPD9.1; have hD9 := hPD9.2
      subst hQ
      refine W.widen (k := 0) (n := 0) (Nat.le_of_ble_eq_true rfl) (Nat.le_of_ble_eq_true rfl) ?_
      exact W.vret hx hb hr (fun tS htS _ => ⟨⟨_, rfl, ⟨max_552, zwrx_382, F_388, rfl, ⟨(hF_388), (show max_552 ≤ tp by omega), (show ma ≤ max_552 by omega), (((itR_w (f := 3) (m := 0) (q := 2) hf_8 hil_376.1 hil_376.2 (by decide) (by decide) (fun q => cw_389 (hf_384.2.2.2.1.trans q))).trans hf_384.2.2.2.1.symm)).symm, (fun q => absurd q cw_389)⟩⟩, by rw [htS]; exact hP9, hD9⟩, hS.F htS⟩) hS.2.2 dX7_items_98
