set_option maxHeartbeats 4000000 in
set_option maxRecDepth 100000 in
/-- outside(n, lo, hi) -/
theorem c_X6_outside (l : Launch) (D : va_G) (g : Nat → ClassId) (sz : Nat) (n : Int32) (lo : Int32) (hi : Int32) : Met l yX6_outside wsX6_outside ({ frames := 0, cells := 0, slots := 0, locals := 0 }) (va_Pc [.int n, .int lo, .int hi] (pre D g sz [])) (va_Qi (fun (r : Int32) (u : va_W) => u = [] ∧ r = (if n < lo ∨ hi < n then 1 else 0)) (wd D (va_A [] sz)) (va_A [] sz)) 0 0 (va_A [] sz) := by
  refine Met.ofW (cc := cX6_outside) (maxL := 3) (ret := (some .boolean)) (by decide) rfl ?_
  intro p e s m args below meth c s₁ B hml hv
  obtain ⟨rfl, hsz, hP, ⟨hK, hN⟩, hD0, hZ⟩ := hv
  have hx := B.exec
  have hb := B.bytes
  have hr := B.returns
  have hts := atoms_spec (ws := wsX6_outside) B.pre
  have hown : s.vm.findClass RX6 = some m.cls := findClass_of_methodNamed B.named
  have hlocks := B.notSynchronized
  clear B
  subst hsz
  have hD := hD0.self (sz := s.heap.size)
  clear hD0
  generalize hAe : va_A [] s.heap.size = A at hD hZ ⊢
  have hA : ∀ q : Nat, s.heap.size ≤ q → A q := fun q h => by rw [← hAe]; exact Or.inr h
  have hS : va_S A s.heap s.heap [] := va_S.rf
  have hl := lv_entry ([.int n, .int lo, .int hi]) (n := 3) (Nat.le_of_ble_eq_true rfl)
  rw [lg_entry_eq]
  generalize (lg_sl ([.int n, .int lo, .int hi]) ++ List.replicate (3 - (lg_sl ([.int n, .int lo, .int hi])).length) Slot.unset).toArray = ls at hl ⊢
  have hl : lv_has ls 3 [(0, .int n), (1, .int lo), (2, .int hi)] := hl
  generalize hQ : MQ below _ _ s _ _ _ = Q
  generalize hH : s.heap = H at hP ⊢
  have hS : va_S A s.heap H [] := by rw [← hH]; exact hS
  clear hH
  refine lv_iload_n hx hb dX6_outside_0 rfl (lv_at hl 0 rfl) ?_
  refine lv_iload_n hx hb dX6_outside_1 rfl (lv_at hl 1 rfl) ?_
  refine lv_icmp_lt (tgt := 10) hx hb dX6_outside_2 (by decide) (fun cb_1 => ?_) (fun cb_1 => ?_)
  · skip
    refine lv_iconst (v := 1) hx hb dX6_outside_10 (by decide) ?_
    refine lv_goto (tgt := 15) hx hb dX6_outside_11 (by decide) ?_
    have hP9 := hP.sub (ws' := []) [] rfl
    have hD9 := hD.sub (ws' := []) [] (by decide) rfl
    subst hQ
    refine W.widen (k := 0) (n := 0) (Nat.le_of_ble_eq_true rfl) (Nat.le_of_ble_eq_true rfl) ?_
    exact W.zret (v := 1) (ty := .boolean) hx hb hr (rfl) (fun tS htS _ => ⟨⟨_, _, rfl, ⟨rfl, (if_pos (Or.inl cb_1)).symm⟩, by rw [htS]; exact hP9, hD9⟩, hS.F htS⟩) hS.2.2 dX6_outside_15
  · skip
    refine lv_iload_n hx hb dX6_outside_5 rfl (lv_at hl 0 rfl) ?_
    refine lv_iload_n hx hb dX6_outside_6 rfl (lv_at hl 2 rfl) ?_
    refine lv_icmp_le (tgt := 14) hx hb dX6_outside_7 (by decide) (fun cb_2 => ?_) (fun cb_2 => ?_)
    · skip
      refine lv_iconst (v := 0) hx hb dX6_outside_14 (by decide) ?_
      have hP9 := hP.sub (ws' := []) [] rfl
      have hD9 := hD.sub (ws' := []) [] (by decide) rfl
      subst hQ
      refine W.widen (k := 0) (n := 0) (Nat.le_of_ble_eq_true rfl) (Nat.le_of_ble_eq_true rfl) ?_
      exact W.zret (v := 0) (ty := .boolean) hx hb hr (rfl) (fun tS htS _ => ⟨⟨_, _, rfl, ⟨rfl, (if_neg (fun h => h.elim cb_1 (fun h => absurd h (Int32.not_lt.mpr cb_2)))).symm⟩, by rw [htS]; exact hP9, hD9⟩, hS.F htS⟩) hS.2.2 dX6_outside_15
    · skip
      refine lv_iconst (v := 1) hx hb dX6_outside_10 (by decide) ?_
      refine lv_goto (tgt := 15) hx hb dX6_outside_11 (by decide) ?_
      have hP9 := hP.sub (ws' := []) [] rfl
      have hD9 := hD.sub (ws' := []) [] (by decide) rfl
      subst hQ
      refine W.widen (k := 0) (n := 0) (Nat.le_of_ble_eq_true rfl) (Nat.le_of_ble_eq_true rfl) ?_
      exact W.zret (v := 1) (ty := .boolean) hx hb hr (rfl) (fun tS htS _ => ⟨⟨_, _, rfl, ⟨rfl, (if_pos (Or.inr (Int32.not_le.mp cb_2))).symm⟩, by rw [htS]; exact hP9, hD9⟩, hS.F htS⟩) hS.2.2 dX6_outside_15
set_option maxHeartbeats 4000000 in
set_option maxRecDepth 100000 in
/-- in(v, lo, hi) -/
theorem c_X7_in (l : Launch) (D : va_G) (g : Nat → ClassId) (sz : Nat) (v : Int32) (lo : Int32) (hi : Int32) : Met l yX7_in wsX7_in ({ frames := 0, cells := 0, slots := 0, locals := 0 }) (va_Pc [.int v, .int lo, .int hi] (pre D g sz [])) (va_Qi (fun (r : Int32) (u : va_W) => u = [] ∧ r = (if lo ≤ v ∧ v ≤ hi then 1 else 0)) (wd D (va_A [] sz)) (va_A [] sz)) 0 0 (va_A [] sz) := by
  refine Met.ofW (cc := cX7_in) (maxL := 3) (ret := (some .boolean)) (by decide) rfl ?_
  intro p e s m args below meth c s₁ B hml hv
  obtain ⟨rfl, hsz, hP, ⟨hK, hN⟩, hD0, hZ⟩ := hv
  have hx := B.exec
  have hb := B.bytes
  have hr := B.returns
  have hts := atoms_spec (ws := wsX7_in) B.pre
  have hown : s.vm.findClass RX7 = some m.cls := findClass_of_methodNamed B.named
  have hlocks := B.notSynchronized
  clear B
  subst hsz
  have hD := hD0.self (sz := s.heap.size)
  clear hD0
  generalize hAe : va_A [] s.heap.size = A at hD hZ ⊢
  have hA : ∀ q : Nat, s.heap.size ≤ q → A q := fun q h => by rw [← hAe]; exact Or.inr h
  have hS : va_S A s.heap s.heap [] := va_S.rf
  have hl := lv_entry ([.int v, .int lo, .int hi]) (n := 3) (Nat.le_of_ble_eq_true rfl)
  rw [lg_entry_eq]
  generalize (lg_sl ([.int v, .int lo, .int hi]) ++ List.replicate (3 - (lg_sl ([.int v, .int lo, .int hi])).length) Slot.unset).toArray = ls at hl ⊢
  have hl : lv_has ls 3 [(0, .int v), (1, .int lo), (2, .int hi)] := hl
  generalize hQ : MQ below _ _ s _ _ _ = Q
  generalize hH : s.heap = H at hP ⊢
  have hS : va_S A s.heap H [] := by rw [← hH]; exact hS
  clear hH
  refine lv_iload_n hx hb dX7_in_0 rfl (lv_at hl 0 rfl) ?_
  refine lv_iload_n hx hb dX7_in_1 rfl (lv_at hl 1 rfl) ?_
  refine lv_icmp_lt (tgt := 14) hx hb dX7_in_2 (by decide) (fun cb_1 => ?_) (fun cb_1 => ?_)
  · skip
    refine lv_iconst (v := 0) hx hb dX7_in_14 (by decide) ?_
    have hP9 := hP.sub (ws' := []) [] rfl
    have hD9 := hD.sub (ws' := []) [] (by decide) rfl
    subst hQ
    refine W.widen (k := 0) (n := 0) (Nat.le_of_ble_eq_true rfl) (Nat.le_of_ble_eq_true rfl) ?_
    exact W.zret (v := 0) (ty := .boolean) hx hb hr (rfl) (fun tS htS _ => ⟨⟨_, _, rfl, ⟨rfl, (if_neg (fun h => absurd h.1 (Int32.not_le.mpr cb_1))).symm⟩, by rw [htS]; exact hP9, hD9⟩, hS.F htS⟩) hS.2.2 dX7_in_15
  · skip
    refine lv_iload_n hx hb dX7_in_5 rfl (lv_at hl 0 rfl) ?_
    refine lv_iload_n hx hb dX7_in_6 rfl (lv_at hl 2 rfl) ?_
    refine lv_icmp_gt (tgt := 14) hx hb dX7_in_7 (by decide) (fun cb_2 => ?_) (fun cb_2 => ?_)
    · skip
      refine lv_iconst (v := 0) hx hb dX7_in_14 (by decide) ?_
      have hP9 := hP.sub (ws' := []) [] rfl
      have hD9 := hD.sub (ws' := []) [] (by decide) rfl
      subst hQ
      refine W.widen (k := 0) (n := 0) (Nat.le_of_ble_eq_true rfl) (Nat.le_of_ble_eq_true rfl) ?_
      exact W.zret (v := 0) (ty := .boolean) hx hb hr (rfl) (fun tS htS _ => ⟨⟨_, _, rfl, ⟨rfl, (if_neg (fun h => absurd h.2 (Int32.not_le.mpr cb_2))).symm⟩, by rw [htS]; exact hP9, hD9⟩, hS.F htS⟩) hS.2.2 dX7_in_15
    · skip
      refine lv_iconst (v := 1) hx hb dX7_in_10 (by decide) ?_
      refine lv_goto (tgt := 15) hx hb dX7_in_11 (by decide) ?_
      have hP9 := hP.sub (ws' := []) [] rfl
      have hD9 := hD.sub (ws' := []) [] (by decide) rfl
      subst hQ
      refine W.widen (k := 0) (n := 0) (Nat.le_of_ble_eq_true rfl) (Nat.le_of_ble_eq_true rfl) ?_
      exact W.zret (v := 1) (ty := .boolean) hx hb hr (rfl) (fun tS htS _ => ⟨⟨_, _, rfl, ⟨rfl, (if_pos ⟨Int32.not_lt.mp cb_1, Int32.not_lt.mp cb_2⟩).symm⟩, by rw [htS]; exact hP9, hD9⟩, hS.F htS⟩) hS.2.2 dX7_in_15
set_option maxHeartbeats 4000000 in
set_option maxRecDepth 100000 in
/-- isHop on an object without a NET -/
theorem c_X6_isHop (l : Launch) (D : va_G) (g : Nat → ClassId) (sz : Nat) (x : Nat) (xt : Nat) (tl : Int32) (xr : Nat) (xd : Nat) (xn : Nat) (xa : Nat) (xs : Nat) (xy : Nat) (p0 : Int32) : Met l yX6_isHop wsX6_isHop ({ frames := 0, cells := 0, slots := 0, locals := 0 }) (va_Pc [.ref x, .int p0] (pre D g sz [(x, .inr (6, [.ref xt, .int tl, .ref xr, .ref xd, .ref xn, .ref xa, .ref xs, .ref xy, .int 0]))])) (va_Qi (fun (r : Int32) (u : va_W) => u = [(x, .inr (6, [.ref xt, .int tl, .ref xr, .ref xd, .ref xn, .ref xa, .ref xs, .ref xy, .int 0]))] ∧ r = 0) (wd D (va_A [(x, .inr (6, [.ref xt, .int tl, .ref xr, .ref xd, .ref xn, .ref xa, .ref xs, .ref xy, .int 0]))] sz)) (va_A [(x, .inr (6, [.ref xt, .int tl, .ref xr, .ref xd, .ref xn, .ref xa, .ref xs, .ref xy, .int 0]))] sz)) 0 0 (va_A [(x, .inr (6, [.ref xt, .int tl, .ref xr, .ref xd, .ref xn, .ref xa, .ref xs, .ref xy, .int 0]))] sz) := by
  refine Met.ofW (cc := cX6_isHop) (maxL := 2) (ret := (some .boolean)) (by decide) rfl ?_
  intro p e s m args below meth c s₁ B hml hv
  obtain ⟨rfl, hsz, hP, ⟨hK, hN⟩, hD0, hZ⟩ := hv
  have hx := B.exec
  have hb := B.bytes
  have hr := B.returns
  have hts := atoms_spec (ws := wsX6_isHop) B.pre
  have hown : s.vm.findClass RX6 = some m.cls := findClass_of_methodNamed B.named
  have hlocks := B.notSynchronized
  clear B
  subst hsz
  have hD := hD0.self (sz := s.heap.size)
  clear hD0
  generalize hAe : va_A [(x, .inr (6, [.ref xt, .int tl, .ref xr, .ref xd, .ref xn, .ref xa, .ref xs, .ref xy, .int 0]))] s.heap.size = A at hD hZ ⊢
  have hA : ∀ q : Nat, s.heap.size ≤ q → A q := fun q h => by rw [← hAe]; exact Or.inr h
  have hS : va_S A s.heap s.heap [] := va_S.rf
  have f70 := hts (.fieldLink RX6 70 "HopCredits" "laid" "Z") (by decide +kernel)
  have iX6 : ∀ w ∈ u_ws RX6 TX6 9, w ∈ wsX6_isHop := by decide +kernel
  have hl := lv_entry ([.ref x, .int p0]) (n := 2) (Nat.le_of_ble_eq_true rfl)
  rw [lg_entry_eq]
  generalize (lg_sl ([.ref x, .int p0]) ++ List.replicate (2 - (lg_sl ([.ref x, .int p0])).length) Slot.unset).toArray = ls at hl ⊢
  have hl : lv_has ls 2 [(0, .ref x), (1, .int p0)] := hl
  generalize hQ : MQ below _ _ s _ _ _ = Q
  generalize hH : s.heap = H at hP ⊢
  have hS : va_S A s.heap H [] := by rw [← hH]; exact hS
  clear hH
  refine lv_aload_n hx hb dX6_isHop_0 rfl (lv_at hl 0 rfl) ?_
  refine va_get (D := D) (ci := 6) (v := .int 0) (C := RX6) (T := TX6) (N := 9) hx hb hts iX6 hown hK hP 0 rfl rfl 8 (by decide) f70 (fun _ h9 => h9) rfl dX6_isHop_1 ?_
  refine lv_if_eq (tgt := 26) hx hb dX6_isHop_4 (by decide) (fun _ => ?_) (fun cb => absurd (by decide) cb)
  refine lv_iconst (v := 0) hx hb dX6_isHop_26 (by decide) ?_
  have hP9 := hP.sub (ws' := [(x, .inr (6, [.ref xt, .int tl, .ref xr, .ref xd, .ref xn, .ref xa, .ref xs, .ref xy, .int 0]))]) [0] rfl
  have hD9 := hD.sub (ws' := [(x, .inr (6, [.ref xt, .int tl, .ref xr, .ref xd, .ref xn, .ref xa, .ref xs, .ref xy, .int 0]))]) [0] (by decide) rfl
  subst hQ
  refine W.widen (k := 0) (n := 0) (Nat.le_of_ble_eq_true rfl) (Nat.le_of_ble_eq_true rfl) ?_
  exact W.zret (v := 0) (ty := .boolean) hx hb hr (rfl) (fun tS htS _ => ⟨⟨_, _, rfl, ⟨rfl, rfl⟩, by rw [htS]; exact hP9, hD9⟩, hS.F htS⟩) hS.2.2 dX6_isHop_27
set_option maxHeartbeats 4000000 in
set_option maxRecDepth 100000 in
/-- isCircuit on an object without a NET -/
theorem c_X6_isCircuit (l : Launch) (D : va_G) (g : Nat → ClassId) (sz : Nat) (x : Nat) (xt : Nat) (tl : Int32) (xr : Nat) (xd : Nat) (xn : Nat) (xa : Nat) (xs : Nat) (xy : Nat) (p0 : Int32) : Met l yX6_isCircuit wsX6_isCircuit ({ frames := 0, cells := 0, slots := 0, locals := 0 }) (va_Pc [.ref x, .int p0] (pre D g sz [(x, .inr (6, [.ref xt, .int tl, .ref xr, .ref xd, .ref xn, .ref xa, .ref xs, .ref xy, .int 0]))])) (va_Qi (fun (r : Int32) (u : va_W) => u = [(x, .inr (6, [.ref xt, .int tl, .ref xr, .ref xd, .ref xn, .ref xa, .ref xs, .ref xy, .int 0]))] ∧ r = 0) (wd D (va_A [(x, .inr (6, [.ref xt, .int tl, .ref xr, .ref xd, .ref xn, .ref xa, .ref xs, .ref xy, .int 0]))] sz)) (va_A [(x, .inr (6, [.ref xt, .int tl, .ref xr, .ref xd, .ref xn, .ref xa, .ref xs, .ref xy, .int 0]))] sz)) 0 0 (va_A [(x, .inr (6, [.ref xt, .int tl, .ref xr, .ref xd, .ref xn, .ref xa, .ref xs, .ref xy, .int 0]))] sz) := by
  refine Met.ofW (cc := cX6_isCircuit) (maxL := 2) (ret := (some .boolean)) (by decide) rfl ?_
  intro p e s m args below meth c s₁ B hml hv
  obtain ⟨rfl, hsz, hP, ⟨hK, hN⟩, hD0, hZ⟩ := hv
  have hx := B.exec
  have hb := B.bytes
  have hr := B.returns
  have hts := atoms_spec (ws := wsX6_isCircuit) B.pre
  have hown : s.vm.findClass RX6 = some m.cls := findClass_of_methodNamed B.named
  have hlocks := B.notSynchronized
  clear B
  subst hsz
  have hD := hD0.self (sz := s.heap.size)
  clear hD0
  generalize hAe : va_A [(x, .inr (6, [.ref xt, .int tl, .ref xr, .ref xd, .ref xn, .ref xa, .ref xs, .ref xy, .int 0]))] s.heap.size = A at hD hZ ⊢
  have hA : ∀ q : Nat, s.heap.size ≤ q → A q := fun q h => by rw [← hAe]; exact Or.inr h
  have hS : va_S A s.heap s.heap [] := va_S.rf
  have f70 := hts (.fieldLink RX6 70 "HopCredits" "laid" "Z") (by decide +kernel)
  have iX6 : ∀ w ∈ u_ws RX6 TX6 9, w ∈ wsX6_isCircuit := by decide +kernel
  have hl := lv_entry ([.ref x, .int p0]) (n := 2) (Nat.le_of_ble_eq_true rfl)
  rw [lg_entry_eq]
  generalize (lg_sl ([.ref x, .int p0]) ++ List.replicate (2 - (lg_sl ([.ref x, .int p0])).length) Slot.unset).toArray = ls at hl ⊢
  have hl : lv_has ls 2 [(0, .ref x), (1, .int p0)] := hl
  generalize hQ : MQ below _ _ s _ _ _ = Q
  generalize hH : s.heap = H at hP ⊢
  have hS : va_S A s.heap H [] := by rw [← hH]; exact hS
  clear hH
  refine lv_aload_n hx hb dX6_isCircuit_0 rfl (lv_at hl 0 rfl) ?_
  refine va_get (D := D) (ci := 6) (v := .int 0) (C := RX6) (T := TX6) (N := 9) hx hb hts iX6 hown hK hP 0 rfl rfl 8 (by decide) f70 (fun _ h9 => h9) rfl dX6_isCircuit_1 ?_
  refine lv_if_eq (tgt := 26) hx hb dX6_isCircuit_4 (by decide) (fun _ => ?_) (fun cb => absurd (by decide) cb)
  refine lv_iconst (v := 0) hx hb dX6_isCircuit_26 (by decide) ?_
  have hP9 := hP.sub (ws' := [(x, .inr (6, [.ref xt, .int tl, .ref xr, .ref xd, .ref xn, .ref xa, .ref xs, .ref xy, .int 0]))]) [0] rfl
  have hD9 := hD.sub (ws' := [(x, .inr (6, [.ref xt, .int tl, .ref xr, .ref xd, .ref xn, .ref xa, .ref xs, .ref xy, .int 0]))]) [0] (by decide) rfl
  subst hQ
  refine W.widen (k := 0) (n := 0) (Nat.le_of_ble_eq_true rfl) (Nat.le_of_ble_eq_true rfl) ?_
  exact W.zret (v := 0) (ty := .boolean) hx hb hr (rfl) (fun tS htS _ => ⟨⟨_, _, rfl, ⟨rfl, rfl⟩, by rw [htS]; exact hP9, hD9⟩, hS.F htS⟩) hS.2.2 dX6_isCircuit_27
set_option maxHeartbeats 4000000 in
set_option maxRecDepth 100000 in
/-- isNode on an object without a NET -/
theorem c_X6_isNode (l : Launch) (D : va_G) (g : Nat → ClassId) (sz : Nat) (x : Nat) (xt : Nat) (tl : Int32) (xr : Nat) (xd : Nat) (xn : Nat) (xa : Nat) (xs : Nat) (xy : Nat) (p0 : Int32) : Met l yX6_isNode wsX6_isNode ({ frames := 0, cells := 0, slots := 0, locals := 0 }) (va_Pc [.ref x, .int p0] (pre D g sz [(x, .inr (6, [.ref xt, .int tl, .ref xr, .ref xd, .ref xn, .ref xa, .ref xs, .ref xy, .int 0]))])) (va_Qi (fun (r : Int32) (u : va_W) => u = [(x, .inr (6, [.ref xt, .int tl, .ref xr, .ref xd, .ref xn, .ref xa, .ref xs, .ref xy, .int 0]))] ∧ r = 0) (wd D (va_A [(x, .inr (6, [.ref xt, .int tl, .ref xr, .ref xd, .ref xn, .ref xa, .ref xs, .ref xy, .int 0]))] sz)) (va_A [(x, .inr (6, [.ref xt, .int tl, .ref xr, .ref xd, .ref xn, .ref xa, .ref xs, .ref xy, .int 0]))] sz)) 0 0 (va_A [(x, .inr (6, [.ref xt, .int tl, .ref xr, .ref xd, .ref xn, .ref xa, .ref xs, .ref xy, .int 0]))] sz) := by
  refine Met.ofW (cc := cX6_isNode) (maxL := 2) (ret := (some .boolean)) (by decide) rfl ?_
  intro p e s m args below meth c s₁ B hml hv
  obtain ⟨rfl, hsz, hP, ⟨hK, hN⟩, hD0, hZ⟩ := hv
  have hx := B.exec
  have hb := B.bytes
  have hr := B.returns
  have hts := atoms_spec (ws := wsX6_isNode) B.pre
  have hown : s.vm.findClass RX6 = some m.cls := findClass_of_methodNamed B.named
  have hlocks := B.notSynchronized
  clear B
  subst hsz
  have hD := hD0.self (sz := s.heap.size)
  clear hD0
  generalize hAe : va_A [(x, .inr (6, [.ref xt, .int tl, .ref xr, .ref xd, .ref xn, .ref xa, .ref xs, .ref xy, .int 0]))] s.heap.size = A at hD hZ ⊢
  have hA : ∀ q : Nat, s.heap.size ≤ q → A q := fun q h => by rw [← hAe]; exact Or.inr h
  have hS : va_S A s.heap s.heap [] := va_S.rf
  have f70 := hts (.fieldLink RX6 70 "HopCredits" "laid" "Z") (by decide +kernel)
  have iX6 : ∀ w ∈ u_ws RX6 TX6 9, w ∈ wsX6_isNode := by decide +kernel
  have hl := lv_entry ([.ref x, .int p0]) (n := 2) (Nat.le_of_ble_eq_true rfl)
  rw [lg_entry_eq]
  generalize (lg_sl ([.ref x, .int p0]) ++ List.replicate (2 - (lg_sl ([.ref x, .int p0])).length) Slot.unset).toArray = ls at hl ⊢
  have hl : lv_has ls 2 [(0, .ref x), (1, .int p0)] := hl
  generalize hQ : MQ below _ _ s _ _ _ = Q
  generalize hH : s.heap = H at hP ⊢
  have hS : va_S A s.heap H [] := by rw [← hH]; exact hS
  clear hH
  refine lv_aload_n hx hb dX6_isNode_0 rfl (lv_at hl 0 rfl) ?_
  refine va_get (D := D) (ci := 6) (v := .int 0) (C := RX6) (T := TX6) (N := 9) hx hb hts iX6 hown hK hP 0 rfl rfl 8 (by decide) f70 (fun _ h9 => h9) rfl dX6_isNode_1 ?_
  refine lv_if_eq (tgt := 26) hx hb dX6_isNode_4 (by decide) (fun _ => ?_) (fun cb => absurd (by decide) cb)
  refine lv_iconst (v := 0) hx hb dX6_isNode_26 (by decide) ?_
  have hP9 := hP.sub (ws' := [(x, .inr (6, [.ref xt, .int tl, .ref xr, .ref xd, .ref xn, .ref xa, .ref xs, .ref xy, .int 0]))]) [0] rfl
  have hD9 := hD.sub (ws' := [(x, .inr (6, [.ref xt, .int tl, .ref xr, .ref xd, .ref xn, .ref xa, .ref xs, .ref xy, .int 0]))]) [0] (by decide) rfl
  subst hQ
  refine W.widen (k := 0) (n := 0) (Nat.le_of_ble_eq_true rfl) (Nat.le_of_ble_eq_true rfl) ?_
  exact W.zret (v := 0) (ty := .boolean) hx hb hr (rfl) (fun tS htS _ => ⟨⟨_, _, rfl, ⟨rfl, rfl⟩, by rw [htS]; exact hP9, hD9⟩, hS.F htS⟩) hS.2.2 dX6_isNode_27
set_option maxHeartbeats 4000000 in
set_option maxRecDepth 100000 in
/-- isLane on an object without a NET -/
theorem c_X6_isLane (l : Launch) (D : va_G) (g : Nat → ClassId) (sz : Nat) (x : Nat) (xt : Nat) (tl : Int32) (xr : Nat) (xd : Nat) (xn : Nat) (xa : Nat) (xs : Nat) (xy : Nat) (p0 : Int32) (p1 : Int32) : Met l yX6_isLane wsX6_isLane ({ frames := 1, cells := 0, slots := 0, locals := 21 }) (va_Pc [.ref x, .int p0, .int p1] (pre D g sz [(x, .inr (6, [.ref xt, .int tl, .ref xr, .ref xd, .ref xn, .ref xa, .ref xs, .ref xy, .int 0]))])) (va_Qi (fun (r : Int32) (u : va_W) => u = [(x, .inr (6, [.ref xt, .int tl, .ref xr, .ref xd, .ref xn, .ref xa, .ref xs, .ref xy, .int 0]))] ∧ r = 0) (wd D (va_A [(x, .inr (6, [.ref xt, .int tl, .ref xr, .ref xd, .ref xn, .ref xa, .ref xs, .ref xy, .int 0]))] sz)) (va_A [(x, .inr (6, [.ref xt, .int tl, .ref xr, .ref xd, .ref xn, .ref xa, .ref xs, .ref xy, .int 0]))] sz)) 0 0 (va_A [(x, .inr (6, [.ref xt, .int tl, .ref xr, .ref xd, .ref xn, .ref xa, .ref xs, .ref xy, .int 0]))] sz) := by
  refine Met.ofW (cc := cX6_isLane) (maxL := 3) (ret := (some .boolean)) (by decide) rfl ?_
  intro p e s m args below meth c s₁ B hml hv
  obtain ⟨rfl, hsz, hP, ⟨hK, hN⟩, hD0, hZ⟩ := hv
  have hx := B.exec
  have hb := B.bytes
  have hr := B.returns
  have hts := atoms_spec (ws := wsX6_isLane) B.pre
  have hown : s.vm.findClass RX6 = some m.cls := findClass_of_methodNamed B.named
  have hlocks := B.notSynchronized
  clear B
  subst hsz
  have hD := hD0.self (sz := s.heap.size)
  clear hD0
  generalize hAe : va_A [(x, .inr (6, [.ref xt, .int tl, .ref xr, .ref xd, .ref xn, .ref xa, .ref xs, .ref xy, .int 0]))] s.heap.size = A at hD hZ ⊢
  have hA : ∀ q : Nat, s.heap.size ≤ q → A q := fun q h => by rw [← hAe]; exact Or.inr h
  have hS : va_S A s.heap s.heap [] := va_S.rf
  have hl := lv_entry ([.ref x, .int p0, .int p1]) (n := 3) (Nat.le_of_ble_eq_true rfl)
  rw [lg_entry_eq]
  generalize (lg_sl ([.ref x, .int p0, .int p1]) ++ List.replicate (3 - (lg_sl ([.ref x, .int p0, .int p1])).length) Slot.unset).toArray = ls at hl ⊢
  have hl : lv_has ls 3 [(0, .ref x), (1, .int p0), (2, .int p1)] := hl
  generalize hQ : MQ below _ _ s _ _ _ = Q
  generalize hH : s.heap = H at hP ⊢
  have hS : va_S A s.heap H [] := by rw [← hH]; exact hS
  clear hH
  refine lv_aload_n hx hb dX6_isLane_0 rfl (lv_at hl 0 rfl) ?_
  refine lv_iload_n hx hb dX6_isLane_1 rfl (lv_at hl 1 rfl) ?_
  refine ky_Vi (As := [.int p0]) (rest := []) ⟨hx, hb, hml, hown, hts⟩ ⟨hK, hN⟩ hZ hP hD hS hA [0] [] (wc := [(x, .inr (6, [.ref xt, .int tl, .ref xr, .ref xd, .ref xn, .ref xa, .ref xs, .ref xy, .int 0]))]) (wr := []) rfl rfl rfl rfl (by decide) (c_X6_isHop l D g H.size x xt tl xr xd xn xa xs xy p0) (cwV 1 hts gX6_isLane_X6_isHop rfl rfl rfl (by decide +kernel) ⟨(Nat.le_of_ble_eq_true rfl), (Nat.le_of_ble_eq_true rfl)⟩) 0 6 rfl rfl rfl rfl hl.1 rfl (Nat.le_of_ble_eq_true rfl) dX6_isLane_2 ⟨(Nat.le_of_ble_eq_true rfl), (Nat.le_of_ble_eq_true rfl)⟩ (fun r_1 u H locs hw hP hD hS => ?_)
  obtain ⟨rfl, rfl⟩ := hw
  have hP : va_P D vwCl [(x, .inr (6, [.ref xt, .int tl, .ref xr, .ref xd, .ref xn, .ref xa, .ref xs, .ref xy, .int 0]))] H := hP
  have hD : va_D A [(x, .inr (6, [.ref xt, .int tl, .ref xr, .ref xd, .ref xn, .ref xa, .ref xs, .ref xy, .int 0]))] := hD
  refine W.widen (k := 0) (n := 0) (Nat.le_of_ble_eq_true rfl) (Nat.le_of_ble_eq_true rfl) ?_
  refine lv_if_eq (tgt := 20) hx hb dX6_isLane_5 (by decide) (fun _ => ?_) (fun cb => absurd (by decide) cb)
  refine lv_iconst (v := 0) hx hb dX6_isLane_20 (by decide) ?_
  have hP9 := hP.sub (ws' := [(x, .inr (6, [.ref xt, .int tl, .ref xr, .ref xd, .ref xn, .ref xa, .ref xs, .ref xy, .int 0]))]) [0] rfl
  have hD9 := hD.sub (ws' := [(x, .inr (6, [.ref xt, .int tl, .ref xr, .ref xd, .ref xn, .ref xa, .ref xs, .ref xy, .int 0]))]) [0] (by decide) rfl
  subst hQ
  refine W.widen (k := 0) (n := 0) (Nat.le_of_ble_eq_true rfl) (Nat.le_of_ble_eq_true rfl) ?_
  exact W.zret (v := 0) (ty := .boolean) hx hb hr (rfl) (fun tS htS _ => ⟨⟨_, _, rfl, ⟨rfl, rfl⟩, by rw [htS]; exact hP9, hD9⟩, hS.F htS⟩) hS.2.2 dX6_isLane_21
set_option maxHeartbeats 4000000 in
set_option maxRecDepth 100000 in
/-- refuse(0) -/
theorem c_X6_refuse (l : Launch) (D : va_G) (g : Nat → ClassId) (sz : Nat) (x : Nat) (xt : Nat) (tl : Int32) (xr : Nat) (xd : Nat) (xn : Nat) (xa : Nat) (xs : Nat) (xy : Nat) (f : Nat → Int32) : Met l yX6_refuse wsX6_refuse ({ frames := 0, cells := 0, slots := 0, locals := 0 }) (va_Pc [.ref x, .int 0] (pre D g sz [(x, .inr (6, [.ref xt, .int tl, .ref xr, .ref xd, .ref xn, .ref xa, .ref xs, .ref xy, .int 0])), (xr, .inl (g 0, 4, .inl f))])) (va_Qi (fun (r : Int32) (u : va_W) => u = [(x, .inr (6, [.ref xt, .int tl, .ref xr, .ref xd, .ref xn, .ref xa, .ref xs, .ref xy, .int 0])), (xr, .inl (g 0, 4, .inl (upd f 0 (f 0 + 1))))] ∧ r = (-1)) (wd D (va_A [(x, .inr (6, [.ref xt, .int tl, .ref xr, .ref xd, .ref xn, .ref xa, .ref xs, .ref xy, .int 0])), (xr, .inl (g 0, 4, .inl f))] sz)) (va_A [(x, .inr (6, [.ref xt, .int tl, .ref xr, .ref xd, .ref xn, .ref xa, .ref xs, .ref xy, .int 0])), (xr, .inl (g 0, 4, .inl f))] sz)) 0 0 (va_A [(x, .inr (6, [.ref xt, .int tl, .ref xr, .ref xd, .ref xn, .ref xa, .ref xs, .ref xy, .int 0])), (xr, .inl (g 0, 4, .inl f))] sz) := by
  refine Met.ofW (cc := cX6_refuse) (maxL := 2) (ret := (some .int)) (by decide) rfl ?_
  intro p e s m args below meth c s₁ B hml hv
  obtain ⟨rfl, hsz, hP, ⟨hK, hN⟩, hD0, hZ⟩ := hv
  have hx := B.exec
  have hb := B.bytes
  have hr := B.returns
  have hts := atoms_spec (ws := wsX6_refuse) B.pre
  have hown : s.vm.findClass RX6 = some m.cls := findClass_of_methodNamed B.named
  have hlocks := B.notSynchronized
  clear B
  subst hsz
  have hD := hD0.self (sz := s.heap.size)
  clear hD0
  generalize hAe : va_A [(x, .inr (6, [.ref xt, .int tl, .ref xr, .ref xd, .ref xn, .ref xa, .ref xs, .ref xy, .int 0])), (xr, .inl (g 0, 4, .inl f))] s.heap.size = A at hD hZ ⊢
  have hA : ∀ q : Nat, s.heap.size ≤ q → A q := fun q h => by rw [← hAe]; exact Or.inr h
  have hS : va_S A s.heap s.heap [] := va_S.rf
  have f13 := hts (.fieldLink RX6 13 "HopCredits" "refused" "[I") (by decide +kernel)
  have iX6 : ∀ w ∈ u_ws RX6 TX6 9, w ∈ wsX6_refuse := by decide +kernel
  have hl := lv_entry ([.ref x, .int 0]) (n := 2) (Nat.le_of_ble_eq_true rfl)
  rw [lg_entry_eq]
  generalize (lg_sl ([.ref x, .int 0]) ++ List.replicate (2 - (lg_sl ([.ref x, .int 0])).length) Slot.unset).toArray = ls at hl ⊢
  have hl : lv_has ls 2 [(0, .ref x), (1, .int 0)] := hl
  generalize hQ : MQ below _ _ s _ _ _ = Q
  generalize hH : s.heap = H at hP ⊢
  have hS : va_S A s.heap H [] := by rw [← hH]; exact hS
  clear hH
  refine lv_aload_n hx hb dX6_refuse_0 rfl (lv_at hl 0 rfl) ?_
  refine va_get (D := D) (ci := 6) (v := .ref xr) (C := RX6) (T := TX6) (N := 9) hx hb hts iX6 hown hK hP 0 rfl rfl 2 (by decide) f13 (fun _ h9 => h9) rfl dX6_refuse_1 ?_
  refine lv_iload_n hx hb dX6_refuse_4 rfl (lv_at hl 1 rfl) ?_
  refine lv_dup2_11 hx hb dX6_refuse_5 rfl rfl ?_
  refine va_iald hx hb hK hP 1 0 rfl rfl (by unfold vp_in; decide) dX6_refuse_6 ?_
  refine lv_eqi (y := (f 0)) (rfl) ?_
  refine lv_iconst (v := 1) hx hb dX6_refuse_7 (by decide) ?_
  refine lv_iadd hx hb dX6_refuse_8 ?_
  refine va_iast hx hb hK hP hD hS 1 0 rfl rfl (by unfold vp_in; decide) dX6_refuse_9 (fun H locs hP hD hS => ?_)
  have hP : va_P D vwCl [(x, .inr (6, [.ref xt, .int tl, .ref xr, .ref xd, .ref xn, .ref xa, .ref xs, .ref xy, .int 0])), (xr, .inl (g 0, 4, .inl (upd f 0 ((f 0) + 1))))] H := hP
  have hD : va_D A [(x, .inr (6, [.ref xt, .int tl, .ref xr, .ref xd, .ref xn, .ref xa, .ref xs, .ref xy, .int 0])), (xr, .inl (g 0, 4, .inl (upd f 0 ((f 0) + 1))))] := hD
  refine lv_iconst (v := (-1)) hx hb dX6_refuse_10 (by decide) ?_
  have hP9 := hP.sub (ws' := [(x, .inr (6, [.ref xt, .int tl, .ref xr, .ref xd, .ref xn, .ref xa, .ref xs, .ref xy, .int 0])), (xr, .inl (g 0, 4, .inl (upd f 0 ((f 0) + 1))))]) [0, 1] rfl
  have hD9 := hD.sub (ws' := [(x, .inr (6, [.ref xt, .int tl, .ref xr, .ref xd, .ref xn, .ref xa, .ref xs, .ref xy, .int 0])), (xr, .inl (g 0, 4, .inl (upd f 0 ((f 0) + 1))))]) [0, 1] (by decide) rfl
  subst hQ
  refine W.widen (k := 0) (n := 0) (Nat.le_of_ble_eq_true rfl) (Nat.le_of_ble_eq_true rfl) ?_
  exact W.iret (v := (-1)) hx hb hr (fun tS htS _ => ⟨⟨_, _, rfl, ⟨rfl, rfl⟩, by rw [htS]; exact hP9, hD9⟩, hS.F htS⟩) hS.2.2 dX6_refuse_11
set_option maxHeartbeats 4000000 in
set_option maxRecDepth 100000 in
/-- zoneRefusal on an object without a NET -/
theorem c_X6_zoneRefusal (l : Launch) (D : va_G) (g : Nat → ClassId) (sz : Nat) (x : Nat) (xt : Nat) (tl : Int32) (xr : Nat) (xd : Nat) (xn : Nat) (xa : Nat) (xs : Nat) (xy : Nat) (p0 : Int32) (p1 : Int32) (p2 : Int32) : Met l yX6_zoneRefusal wsX6_zoneRefusal ({ frames := 2, cells := 0, slots := 0, locals := 43 }) (va_Pc [.ref x, .int p0, .int p1, .int p2] (pre D g sz [(x, .inr (6, [.ref xt, .int tl, .ref xr, .ref xd, .ref xn, .ref xa, .ref xs, .ref xy, .int 0]))])) (va_Qi (fun (r : Int32) (u : va_W) => u = [(x, .inr (6, [.ref xt, .int tl, .ref xr, .ref xd, .ref xn, .ref xa, .ref xs, .ref xy, .int 0]))] ∧ r = 0) (wd D (va_A [(x, .inr (6, [.ref xt, .int tl, .ref xr, .ref xd, .ref xn, .ref xa, .ref xs, .ref xy, .int 0]))] sz)) (va_A [(x, .inr (6, [.ref xt, .int tl, .ref xr, .ref xd, .ref xn, .ref xa, .ref xs, .ref xy, .int 0]))] sz)) 0 0 (va_A [(x, .inr (6, [.ref xt, .int tl, .ref xr, .ref xd, .ref xn, .ref xa, .ref xs, .ref xy, .int 0]))] sz) := by
  refine Met.ofW (cc := cX6_zoneRefusal) (maxL := 5) (ret := (some .int)) (by decide) rfl ?_
  intro p e s m args below meth c s₁ B hml hv
  obtain ⟨rfl, hsz, hP, ⟨hK, hN⟩, hD0, hZ⟩ := hv
  have hx := B.exec
  have hb := B.bytes
  have hr := B.returns
  have hts := atoms_spec (ws := wsX6_zoneRefusal) B.pre
  have hown : s.vm.findClass RX6 = some m.cls := findClass_of_methodNamed B.named
  have hlocks := B.notSynchronized
  clear B
  subst hsz
  have hD := hD0.self (sz := s.heap.size)
  clear hD0
  generalize hAe : va_A [(x, .inr (6, [.ref xt, .int tl, .ref xr, .ref xd, .ref xn, .ref xa, .ref xs, .ref xy, .int 0]))] s.heap.size = A at hD hZ ⊢
  have hA : ∀ q : Nat, s.heap.size ≤ q → A q := fun q h => by rw [← hAe]; exact Or.inr h
  have hS : va_S A s.heap s.heap [] := va_S.rf
  have hl := lv_entry ([.ref x, .int p0, .int p1, .int p2]) (n := 5) (Nat.le_of_ble_eq_true rfl)
  rw [lg_entry_eq]
  generalize (lg_sl ([.ref x, .int p0, .int p1, .int p2]) ++ List.replicate (5 - (lg_sl ([.ref x, .int p0, .int p1, .int p2])).length) Slot.unset).toArray = ls at hl ⊢
  have hl : lv_has ls 5 [(0, .ref x), (1, .int p0), (2, .int p1), (3, .int p2)] := hl
  generalize hQ : MQ below _ _ s _ _ _ = Q
  generalize hH : s.heap = H at hP ⊢
  have hS : va_S A s.heap H [] := by rw [← hH]; exact hS
  clear hH
  refine lv_aload_n hx hb dX6_zoneRefusal_0 rfl (lv_at hl 0 rfl) ?_
  refine lv_iload_n hx hb dX6_zoneRefusal_1 rfl (lv_at hl 1 rfl) ?_
  refine lv_iload_n hx hb dX6_zoneRefusal_2 rfl (lv_at hl 2 rfl) ?_
  refine ky_Vi (As := [.int p0, .int p1]) (rest := []) ⟨hx, hb, hml, hown, hts⟩ ⟨hK, hN⟩ hZ hP hD hS hA [0] [] (wc := [(x, .inr (6, [.ref xt, .int tl, .ref xr, .ref xd, .ref xn, .ref xa, .ref xs, .ref xy, .int 0]))]) (wr := []) rfl rfl rfl rfl (by decide) (c_X6_isLane l D g H.size x xt tl xr xd xn xa xs xy p0 p1) (cwV 2 hts gX6_zoneRefusal_X6_isLane rfl rfl rfl (by decide +kernel) ⟨(Nat.le_of_ble_eq_true rfl), (Nat.le_of_ble_eq_true rfl)⟩) 0 6 rfl rfl rfl rfl hl.1 rfl (Nat.le_of_ble_eq_true rfl) dX6_zoneRefusal_3 ⟨(Nat.le_of_ble_eq_true rfl), (Nat.le_of_ble_eq_true rfl)⟩ (fun r_1 u H locs hw hP hD hS => ?_)
  obtain ⟨rfl, rfl⟩ := hw
  have hP : va_P D vwCl [(x, .inr (6, [.ref xt, .int tl, .ref xr, .ref xd, .ref xn, .ref xa, .ref xs, .ref xy, .int 0]))] H := hP
  have hD : va_D A [(x, .inr (6, [.ref xt, .int tl, .ref xr, .ref xd, .ref xn, .ref xa, .ref xs, .ref xy, .int 0]))] := hD
  refine W.widen (k := 0) (n := 0) (Nat.le_of_ble_eq_true rfl) (Nat.le_of_ble_eq_true rfl) ?_
  refine lv_if_ne (tgt := 11) hx hb dX6_zoneRefusal_6 (by decide) (fun cb => absurd (by decide) cb) (fun _ => ?_)
  refine lv_iconst (v := 0) hx hb dX6_zoneRefusal_9 (by decide) ?_
  have hP9 := hP.sub (ws' := [(x, .inr (6, [.ref xt, .int tl, .ref xr, .ref xd, .ref xn, .ref xa, .ref xs, .ref xy, .int 0]))]) [0] rfl
  have hD9 := hD.sub (ws' := [(x, .inr (6, [.ref xt, .int tl, .ref xr, .ref xd, .ref xn, .ref xa, .ref xs, .ref xy, .int 0]))]) [0] (by decide) rfl
  subst hQ
  refine W.widen (k := 0) (n := 0) (Nat.le_of_ble_eq_true rfl) (Nat.le_of_ble_eq_true rfl) ?_
  exact W.iret (v := 0) hx hb hr (fun tS htS _ => ⟨⟨_, _, rfl, ⟨rfl, rfl⟩, by rw [htS]; exact hP9, hD9⟩, hS.F htS⟩) hS.2.2 dX6_zoneRefusal_10
set_option maxHeartbeats 4000000 in
set_option maxRecDepth 100000 in
/-- rule on an object without a NET -/
theorem c_X6_rule (l : Launch) (D : va_G) (g : Nat → ClassId) (sz : Nat) (x : Nat) (xt : Nat) (tl : Int32) (xr : Nat) (xd : Nat) (xn : Nat) (xa : Nat) (xs : Nat) (xy : Nat) (p0 : Int32) : Met l yX6_rule wsX6_rule ({ frames := 0, cells := 0, slots := 0, locals := 0 }) (va_Pc [.ref x, .int p0] (pre D g sz [(x, .inr (6, [.ref xt, .int tl, .ref xr, .ref xd, .ref xn, .ref xa, .ref xs, .ref xy, .int 0]))])) (va_Qi (fun (r : Int32) (u : va_W) => u = [(x, .inr (6, [.ref xt, .int tl, .ref xr, .ref xd, .ref xn, .ref xa, .ref xs, .ref xy, .int 0]))] ∧ r = (-1000000)) (wd D (va_A [(x, .inr (6, [.ref xt, .int tl, .ref xr, .ref xd, .ref xn, .ref xa, .ref xs, .ref xy, .int 0]))] sz)) (va_A [(x, .inr (6, [.ref xt, .int tl, .ref xr, .ref xd, .ref xn, .ref xa, .ref xs, .ref xy, .int 0]))] sz)) 0 0 (va_A [(x, .inr (6, [.ref xt, .int tl, .ref xr, .ref xd, .ref xn, .ref xa, .ref xs, .ref xy, .int 0]))] sz) := by
  refine Met.ofW (cc := cX6_rule) (maxL := 2) (ret := (some .int)) (by decide) rfl ?_
  intro p e s m args below meth c s₁ B hml hv
  obtain ⟨rfl, hsz, hP, ⟨hK, hN⟩, hD0, hZ⟩ := hv
  have hx := B.exec
  have hb := B.bytes
  have hr := B.returns
  have hts := atoms_spec (ws := wsX6_rule) B.pre
  have hown : s.vm.findClass RX6 = some m.cls := findClass_of_methodNamed B.named
  have hlocks := B.notSynchronized
  clear B
  subst hsz
  have hD := hD0.self (sz := s.heap.size)
  clear hD0
  generalize hAe : va_A [(x, .inr (6, [.ref xt, .int tl, .ref xr, .ref xd, .ref xn, .ref xa, .ref xs, .ref xy, .int 0]))] s.heap.size = A at hD hZ ⊢
  have hA : ∀ q : Nat, s.heap.size ≤ q → A q := fun q h => by rw [← hAe]; exact Or.inr h
  have hS : va_S A s.heap s.heap [] := va_S.rf
  have f70 := hts (.fieldLink RX6 70 "HopCredits" "laid" "Z") (by decide +kernel)
  have k77 := hts (.constant RX6 77 (-1000000)) (by decide +kernel)
  have iX6 : ∀ w ∈ u_ws RX6 TX6 9, w ∈ wsX6_rule := by decide +kernel
  have hl := lv_entry ([.ref x, .int p0]) (n := 2) (Nat.le_of_ble_eq_true rfl)
  rw [lg_entry_eq]
  generalize (lg_sl ([.ref x, .int p0]) ++ List.replicate (2 - (lg_sl ([.ref x, .int p0])).length) Slot.unset).toArray = ls at hl ⊢
  have hl : lv_has ls 2 [(0, .ref x), (1, .int p0)] := hl
  generalize hQ : MQ below _ _ s _ _ _ = Q
  generalize hH : s.heap = H at hP ⊢
  have hS : va_S A s.heap H [] := by rw [← hH]; exact hS
  clear hH
  refine lv_aload_n hx hb dX6_rule_0 rfl (lv_at hl 0 rfl) ?_
  refine va_get (D := D) (ci := 6) (v := .int 0) (C := RX6) (T := TX6) (N := 9) hx hb hts iX6 hown hK hP 0 rfl rfl 8 (by decide) f70 (fun _ h9 => h9) rfl dX6_rule_1 ?_
  refine lv_if_ne (tgt := 10) hx hb dX6_rule_4 (by decide) (fun cb => absurd (by decide) cb) (fun _ => ?_)
  refine lv_ldc (v := (-1000000)) hx hb hown k77 dX6_rule_7 ?_
  have hP9 := hP.sub (ws' := [(x, .inr (6, [.ref xt, .int tl, .ref xr, .ref xd, .ref xn, .ref xa, .ref xs, .ref xy, .int 0]))]) [0] rfl
  have hD9 := hD.sub (ws' := [(x, .inr (6, [.ref xt, .int tl, .ref xr, .ref xd, .ref xn, .ref xa, .ref xs, .ref xy, .int 0]))]) [0] (by decide) rfl
  subst hQ
  refine W.widen (k := 0) (n := 0) (Nat.le_of_ble_eq_true rfl) (Nat.le_of_ble_eq_true rfl) ?_
  exact W.iret (v := (-1000000)) hx hb hr (fun tS htS _ => ⟨⟨_, _, rfl, ⟨rfl, rfl⟩, by rw [htS]; exact hP9, hD9⟩, hS.F htS⟩) hS.2.2 dX6_rule_9
set_option maxHeartbeats 4000000 in
set_option maxRecDepth 100000 in
/-- lane on an object without a NET -/
theorem c_X6_lane (l : Launch) (D : va_G) (g : Nat → ClassId) (sz : Nat) (x : Nat) (xt : Nat) (tl : Int32) (xr : Nat) (xd : Nat) (xn : Nat) (xa : Nat) (xs : Nat) (xy : Nat) (p0 : Int32) (p1 : Int32) (p2 : Int32) : Met l yX6_lane wsX6_lane ({ frames := 2, cells := 0, slots := 0, locals := 43 }) (va_Pc [.ref x, .int p0, .int p1, .int p2] (pre D g sz [(x, .inr (6, [.ref xt, .int tl, .ref xr, .ref xd, .ref xn, .ref xa, .ref xs, .ref xy, .int 0]))])) (va_Qi (fun (r : Int32) (u : va_W) => u = [(x, .inr (6, [.ref xt, .int tl, .ref xr, .ref xd, .ref xn, .ref xa, .ref xs, .ref xy, .int 0]))] ∧ r = (-1)) (wd D (va_A [(x, .inr (6, [.ref xt, .int tl, .ref xr, .ref xd, .ref xn, .ref xa, .ref xs, .ref xy, .int 0]))] sz)) (va_A [(x, .inr (6, [.ref xt, .int tl, .ref xr, .ref xd, .ref xn, .ref xa, .ref xs, .ref xy, .int 0]))] sz)) 0 0 (va_A [(x, .inr (6, [.ref xt, .int tl, .ref xr, .ref xd, .ref xn, .ref xa, .ref xs, .ref xy, .int 0]))] sz) := by
  refine Met.ofW (cc := cX6_lane) (maxL := 4) (ret := (some .int)) (by decide) rfl ?_
  intro p e s m args below meth c s₁ B hml hv
  obtain ⟨rfl, hsz, hP, ⟨hK, hN⟩, hD0, hZ⟩ := hv
  have hx := B.exec
  have hb := B.bytes
  have hr := B.returns
  have hts := atoms_spec (ws := wsX6_lane) B.pre
  have hown : s.vm.findClass RX6 = some m.cls := findClass_of_methodNamed B.named
  have hlocks := B.notSynchronized
  clear B
  subst hsz
  have hD := hD0.self (sz := s.heap.size)
  clear hD0
  generalize hAe : va_A [(x, .inr (6, [.ref xt, .int tl, .ref xr, .ref xd, .ref xn, .ref xa, .ref xs, .ref xy, .int 0]))] s.heap.size = A at hD hZ ⊢
  have hA : ∀ q : Nat, s.heap.size ≤ q → A q := fun q h => by rw [← hAe]; exact Or.inr h
  have hS : va_S A s.heap s.heap [] := va_S.rf
  have hl := lv_entry ([.ref x, .int p0, .int p1, .int p2]) (n := 4) (Nat.le_of_ble_eq_true rfl)
  rw [lg_entry_eq]
  generalize (lg_sl ([.ref x, .int p0, .int p1, .int p2]) ++ List.replicate (4 - (lg_sl ([.ref x, .int p0, .int p1, .int p2])).length) Slot.unset).toArray = ls at hl ⊢
  have hl : lv_has ls 4 [(0, .ref x), (1, .int p0), (2, .int p1), (3, .int p2)] := hl
  generalize hQ : MQ below _ _ s _ _ _ = Q
  generalize hH : s.heap = H at hP ⊢
  have hS : va_S A s.heap H [] := by rw [← hH]; exact hS
  clear hH
  refine lv_aload_n hx hb dX6_lane_0 rfl (lv_at hl 0 rfl) ?_
  refine lv_iload_n hx hb dX6_lane_1 rfl (lv_at hl 1 rfl) ?_
  refine lv_iload_n hx hb dX6_lane_2 rfl (lv_at hl 2 rfl) ?_
  refine ky_Vi (As := [.int p0, .int p1]) (rest := []) ⟨hx, hb, hml, hown, hts⟩ ⟨hK, hN⟩ hZ hP hD hS hA [0] [] (wc := [(x, .inr (6, [.ref xt, .int tl, .ref xr, .ref xd, .ref xn, .ref xa, .ref xs, .ref xy, .int 0]))]) (wr := []) rfl rfl rfl rfl (by decide) (c_X6_isLane l D g H.size x xt tl xr xd xn xa xs xy p0 p1) (cwV 2 hts gX6_lane_X6_isLane rfl rfl rfl (by decide +kernel) ⟨(Nat.le_of_ble_eq_true rfl), (Nat.le_of_ble_eq_true rfl)⟩) 0 6 rfl rfl rfl rfl hl.1 rfl (Nat.le_of_ble_eq_true rfl) dX6_lane_3 ⟨(Nat.le_of_ble_eq_true rfl), (Nat.le_of_ble_eq_true rfl)⟩ (fun r_1 u H locs hw hP hD hS => ?_)
  obtain ⟨rfl, rfl⟩ := hw
  have hP : va_P D vwCl [(x, .inr (6, [.ref xt, .int tl, .ref xr, .ref xd, .ref xn, .ref xa, .ref xs, .ref xy, .int 0]))] H := hP
  have hD : va_D A [(x, .inr (6, [.ref xt, .int tl, .ref xr, .ref xd, .ref xn, .ref xa, .ref xs, .ref xy, .int 0]))] := hD
  refine W.widen (k := 0) (n := 0) (Nat.le_of_ble_eq_true rfl) (Nat.le_of_ble_eq_true rfl) ?_
  refine lv_if_eq (tgt := 19) hx hb dX6_lane_6 (by decide) (fun _ => ?_) (fun cb => absurd (by decide) cb)
  refine lv_iconst (v := (-1)) hx hb dX6_lane_19 (by decide) ?_
  have hP9 := hP.sub (ws' := [(x, .inr (6, [.ref xt, .int tl, .ref xr, .ref xd, .ref xn, .ref xa, .ref xs, .ref xy, .int 0]))]) [0] rfl
  have hD9 := hD.sub (ws' := [(x, .inr (6, [.ref xt, .int tl, .ref xr, .ref xd, .ref xn, .ref xa, .ref xs, .ref xy, .int 0]))]) [0] (by decide) rfl
  subst hQ
  refine W.widen (k := 0) (n := 0) (Nat.le_of_ble_eq_true rfl) (Nat.le_of_ble_eq_true rfl) ?_
  exact W.iret (v := (-1)) hx hb hr (fun tS htS _ => ⟨⟨_, _, rfl, ⟨rfl, rfl⟩, by rw [htS]; exact hP9, hD9⟩, hS.F htS⟩) hS.2.2 dX6_lane_20
set_option maxHeartbeats 4000000 in
set_option maxRecDepth 100000 in
/-- buffer on an object without a NET -/
theorem c_X6_buffer (l : Launch) (D : va_G) (g : Nat → ClassId) (sz : Nat) (x : Nat) (xt : Nat) (tl : Int32) (xr : Nat) (xd : Nat) (xn : Nat) (xa : Nat) (xs : Nat) (xy : Nat) (p0 : Int32) (p1 : Int32) : Met l yX6_buffer wsX6_buffer ({ frames := 1, cells := 0, slots := 0, locals := 21 }) (va_Pc [.ref x, .int p0, .int p1] (pre D g sz [(x, .inr (6, [.ref xt, .int tl, .ref xr, .ref xd, .ref xn, .ref xa, .ref xs, .ref xy, .int 0]))])) (va_Qi (fun (r : Int32) (u : va_W) => u = [(x, .inr (6, [.ref xt, .int tl, .ref xr, .ref xd, .ref xn, .ref xa, .ref xs, .ref xy, .int 0]))] ∧ r = (-1)) (wd D (va_A [(x, .inr (6, [.ref xt, .int tl, .ref xr, .ref xd, .ref xn, .ref xa, .ref xs, .ref xy, .int 0]))] sz)) (va_A [(x, .inr (6, [.ref xt, .int tl, .ref xr, .ref xd, .ref xn, .ref xa, .ref xs, .ref xy, .int 0]))] sz)) 0 0 (va_A [(x, .inr (6, [.ref xt, .int tl, .ref xr, .ref xd, .ref xn, .ref xa, .ref xs, .ref xy, .int 0]))] sz) := by
  refine Met.ofW (cc := cX6_buffer) (maxL := 3) (ret := (some .int)) (by decide) rfl ?_
  intro p e s m args below meth c s₁ B hml hv
  obtain ⟨rfl, hsz, hP, ⟨hK, hN⟩, hD0, hZ⟩ := hv
  have hx := B.exec
  have hb := B.bytes
  have hr := B.returns
  have hts := atoms_spec (ws := wsX6_buffer) B.pre
  have hown : s.vm.findClass RX6 = some m.cls := findClass_of_methodNamed B.named
  have hlocks := B.notSynchronized
  clear B
  subst hsz
  have hD := hD0.self (sz := s.heap.size)
  clear hD0
  generalize hAe : va_A [(x, .inr (6, [.ref xt, .int tl, .ref xr, .ref xd, .ref xn, .ref xa, .ref xs, .ref xy, .int 0]))] s.heap.size = A at hD hZ ⊢
  have hA : ∀ q : Nat, s.heap.size ≤ q → A q := fun q h => by rw [← hAe]; exact Or.inr h
  have hS : va_S A s.heap s.heap [] := va_S.rf
  have hl := lv_entry ([.ref x, .int p0, .int p1]) (n := 3) (Nat.le_of_ble_eq_true rfl)
  rw [lg_entry_eq]
  generalize (lg_sl ([.ref x, .int p0, .int p1]) ++ List.replicate (3 - (lg_sl ([.ref x, .int p0, .int p1])).length) Slot.unset).toArray = ls at hl ⊢
  have hl : lv_has ls 3 [(0, .ref x), (1, .int p0), (2, .int p1)] := hl
  generalize hQ : MQ below _ _ s _ _ _ = Q
  generalize hH : s.heap = H at hP ⊢
  have hS : va_S A s.heap H [] := by rw [← hH]; exact hS
  clear hH
  refine lv_aload_n hx hb dX6_buffer_0 rfl (lv_at hl 0 rfl) ?_
  refine lv_iload_n hx hb dX6_buffer_1 rfl (lv_at hl 1 rfl) ?_
  refine ky_Vi (As := [.int p0]) (rest := []) ⟨hx, hb, hml, hown, hts⟩ ⟨hK, hN⟩ hZ hP hD hS hA [0] [] (wc := [(x, .inr (6, [.ref xt, .int tl, .ref xr, .ref xd, .ref xn, .ref xa, .ref xs, .ref xy, .int 0]))]) (wr := []) rfl rfl rfl rfl (by decide) (c_X6_isNode l D g H.size x xt tl xr xd xn xa xs xy p0) (cwV 1 hts gX6_buffer_X6_isNode rfl rfl rfl (by decide +kernel) ⟨(Nat.le_of_ble_eq_true rfl), (Nat.le_of_ble_eq_true rfl)⟩) 0 6 rfl rfl rfl rfl hl.1 rfl (Nat.le_of_ble_eq_true rfl) dX6_buffer_2 ⟨(Nat.le_of_ble_eq_true rfl), (Nat.le_of_ble_eq_true rfl)⟩ (fun r_1 u H locs hw hP hD hS => ?_)
  obtain ⟨rfl, rfl⟩ := hw
  have hP : va_P D vwCl [(x, .inr (6, [.ref xt, .int tl, .ref xr, .ref xd, .ref xn, .ref xa, .ref xs, .ref xy, .int 0]))] H := hP
  have hD : va_D A [(x, .inr (6, [.ref xt, .int tl, .ref xr, .ref xd, .ref xn, .ref xa, .ref xs, .ref xy, .int 0]))] := hD
  refine W.widen (k := 0) (n := 0) (Nat.le_of_ble_eq_true rfl) (Nat.le_of_ble_eq_true rfl) ?_
  refine lv_if_eq (tgt := 16) hx hb dX6_buffer_5 (by decide) (fun _ => ?_) (fun cb => absurd (by decide) cb)
  refine lv_iconst (v := (-1)) hx hb dX6_buffer_16 (by decide) ?_
  have hP9 := hP.sub (ws' := [(x, .inr (6, [.ref xt, .int tl, .ref xr, .ref xd, .ref xn, .ref xa, .ref xs, .ref xy, .int 0]))]) [0] rfl
  have hD9 := hD.sub (ws' := [(x, .inr (6, [.ref xt, .int tl, .ref xr, .ref xd, .ref xn, .ref xa, .ref xs, .ref xy, .int 0]))]) [0] (by decide) rfl
  subst hQ
  refine W.widen (k := 0) (n := 0) (Nat.le_of_ble_eq_true rfl) (Nat.le_of_ble_eq_true rfl) ?_
  exact W.iret (v := (-1)) hx hb hr (fun tS htS _ => ⟨⟨_, _, rfl, ⟨rfl, rfl⟩, by rw [htS]; exact hP9, hD9⟩, hS.F htS⟩) hS.2.2 dX6_buffer_17
set_option maxHeartbeats 4000000 in
set_option maxRecDepth 100000 in
/-- way on an object without a NET -/
theorem c_X6_way (l : Launch) (D : va_G) (g : Nat → ClassId) (sz : Nat) (x : Nat) (xt : Nat) (tl : Int32) (xr : Nat) (xd : Nat) (xn : Nat) (xa : Nat) (xs : Nat) (xy : Nat) (p0 : Int32) (p1 : Int32) (p2 : Int32) : Met l yX6_way wsX6_way ({ frames := 1, cells := 0, slots := 0, locals := 21 }) (va_Pc [.ref x, .int p0, .int p1, .int p2] (pre D g sz [(x, .inr (6, [.ref xt, .int tl, .ref xr, .ref xd, .ref xn, .ref xa, .ref xs, .ref xy, .int 0]))])) (va_Qi (fun (r : Int32) (u : va_W) => u = [(x, .inr (6, [.ref xt, .int tl, .ref xr, .ref xd, .ref xn, .ref xa, .ref xs, .ref xy, .int 0]))] ∧ r = (-1)) (wd D (va_A [(x, .inr (6, [.ref xt, .int tl, .ref xr, .ref xd, .ref xn, .ref xa, .ref xs, .ref xy, .int 0]))] sz)) (va_A [(x, .inr (6, [.ref xt, .int tl, .ref xr, .ref xd, .ref xn, .ref xa, .ref xs, .ref xy, .int 0]))] sz)) 0 0 (va_A [(x, .inr (6, [.ref xt, .int tl, .ref xr, .ref xd, .ref xn, .ref xa, .ref xs, .ref xy, .int 0]))] sz) := by
  refine Met.ofW (cc := cX6_way) (maxL := 7) (ret := (some .int)) (by decide) rfl ?_
  intro p e s m args below meth c s₁ B hml hv
  obtain ⟨rfl, hsz, hP, ⟨hK, hN⟩, hD0, hZ⟩ := hv
  have hx := B.exec
  have hb := B.bytes
  have hr := B.returns
  have hts := atoms_spec (ws := wsX6_way) B.pre
  have hown : s.vm.findClass RX6 = some m.cls := findClass_of_methodNamed B.named
  have hlocks := B.notSynchronized
  clear B
  subst hsz
  have hD := hD0.self (sz := s.heap.size)
  clear hD0
  generalize hAe : va_A [(x, .inr (6, [.ref xt, .int tl, .ref xr, .ref xd, .ref xn, .ref xa, .ref xs, .ref xy, .int 0]))] s.heap.size = A at hD hZ ⊢
  have hA : ∀ q : Nat, s.heap.size ≤ q → A q := fun q h => by rw [← hAe]; exact Or.inr h
  have hS : va_S A s.heap s.heap [] := va_S.rf
  have hl := lv_entry ([.ref x, .int p0, .int p1, .int p2]) (n := 7) (Nat.le_of_ble_eq_true rfl)
  rw [lg_entry_eq]
  generalize (lg_sl ([.ref x, .int p0, .int p1, .int p2]) ++ List.replicate (7 - (lg_sl ([.ref x, .int p0, .int p1, .int p2])).length) Slot.unset).toArray = ls at hl ⊢
  have hl : lv_has ls 7 [(0, .ref x), (1, .int p0), (2, .int p1), (3, .int p2)] := hl
  generalize hQ : MQ below _ _ s _ _ _ = Q
  generalize hH : s.heap = H at hP ⊢
  have hS : va_S A s.heap H [] := by rw [← hH]; exact hS
  clear hH
  refine lv_aload_n hx hb dX6_way_0 rfl (lv_at hl 0 rfl) ?_
  refine lv_iload_n hx hb dX6_way_1 rfl (lv_at hl 1 rfl) ?_
  refine ky_Vi (As := [.int p0]) (rest := []) ⟨hx, hb, hml, hown, hts⟩ ⟨hK, hN⟩ hZ hP hD hS hA [0] [] (wc := [(x, .inr (6, [.ref xt, .int tl, .ref xr, .ref xd, .ref xn, .ref xa, .ref xs, .ref xy, .int 0]))]) (wr := []) rfl rfl rfl rfl (by decide) (c_X6_isHop l D g H.size x xt tl xr xd xn xa xs xy p0) (cwV 1 hts gX6_way_X6_isHop rfl rfl rfl (by decide +kernel) ⟨(Nat.le_of_ble_eq_true rfl), (Nat.le_of_ble_eq_true rfl)⟩) 0 6 rfl rfl rfl rfl hl.1 rfl (Nat.le_of_ble_eq_true rfl) dX6_way_2 ⟨(Nat.le_of_ble_eq_true rfl), (Nat.le_of_ble_eq_true rfl)⟩ (fun r_1 u H locs hw hP hD hS => ?_)
  obtain ⟨rfl, rfl⟩ := hw
  have hP : va_P D vwCl [(x, .inr (6, [.ref xt, .int tl, .ref xr, .ref xd, .ref xn, .ref xa, .ref xs, .ref xy, .int 0]))] H := hP
  have hD : va_D A [(x, .inr (6, [.ref xt, .int tl, .ref xr, .ref xd, .ref xn, .ref xa, .ref xs, .ref xy, .int 0]))] := hD
  refine W.widen (k := 0) (n := 0) (Nat.le_of_ble_eq_true rfl) (Nat.le_of_ble_eq_true rfl) ?_
  refine lv_if_eq (tgt := 26) hx hb dX6_way_5 (by decide) (fun _ => ?_) (fun cb => absurd (by decide) cb)
  refine lv_iconst (v := (-1)) hx hb dX6_way_26 (by decide) ?_
  have hP9 := hP.sub (ws' := [(x, .inr (6, [.ref xt, .int tl, .ref xr, .ref xd, .ref xn, .ref xa, .ref xs, .ref xy, .int 0]))]) [0] rfl
  have hD9 := hD.sub (ws' := [(x, .inr (6, [.ref xt, .int tl, .ref xr, .ref xd, .ref xn, .ref xa, .ref xs, .ref xy, .int 0]))]) [0] (by decide) rfl
  subst hQ
  refine W.widen (k := 0) (n := 0) (Nat.le_of_ble_eq_true rfl) (Nat.le_of_ble_eq_true rfl) ?_
  exact W.iret (v := (-1)) hx hb hr (fun tS htS _ => ⟨⟨_, _, rfl, ⟨rfl, rfl⟩, by rw [htS]; exact hP9, hD9⟩, hS.F htS⟩) hS.2.2 dX6_way_27
set_option maxHeartbeats 4000000 in
set_option maxRecDepth 100000 in
/-- laneAhead on an object without a NET -/
theorem c_X6_laneAhead (l : Launch) (D : va_G) (g : Nat → ClassId) (sz : Nat) (x : Nat) (xt : Nat) (tl : Int32) (xr : Nat) (xd : Nat) (xn : Nat) (xa : Nat) (xs : Nat) (xy : Nat) (p0 : Int32) (p1 : Int32) (p2 : Int32) (p3 : Int32) : Met l yX6_laneAhead wsX6_laneAhead ({ frames := 2, cells := 0, slots := 0, locals := 43 }) (va_Pc [.ref x, .int p0, .int p1, .int p2, .int p3] (pre D g sz [(x, .inr (6, [.ref xt, .int tl, .ref xr, .ref xd, .ref xn, .ref xa, .ref xs, .ref xy, .int 0]))])) (va_Qi (fun (r : Int32) (u : va_W) => u = [(x, .inr (6, [.ref xt, .int tl, .ref xr, .ref xd, .ref xn, .ref xa, .ref xs, .ref xy, .int 0]))] ∧ r = (-1)) (wd D (va_A [(x, .inr (6, [.ref xt, .int tl, .ref xr, .ref xd, .ref xn, .ref xa, .ref xs, .ref xy, .int 0]))] sz)) (va_A [(x, .inr (6, [.ref xt, .int tl, .ref xr, .ref xd, .ref xn, .ref xa, .ref xs, .ref xy, .int 0]))] sz)) 0 0 (va_A [(x, .inr (6, [.ref xt, .int tl, .ref xr, .ref xd, .ref xn, .ref xa, .ref xs, .ref xy, .int 0]))] sz) := by
  refine Met.ofW (cc := cX6_laneAhead) (maxL := 5) (ret := (some .int)) (by decide) rfl ?_
  intro p e s m args below meth c s₁ B hml hv
  obtain ⟨rfl, hsz, hP, ⟨hK, hN⟩, hD0, hZ⟩ := hv
  have hx := B.exec
  have hb := B.bytes
  have hr := B.returns
  have hts := atoms_spec (ws := wsX6_laneAhead) B.pre
  have hown : s.vm.findClass RX6 = some m.cls := findClass_of_methodNamed B.named
  have hlocks := B.notSynchronized
  clear B
  subst hsz
  have hD := hD0.self (sz := s.heap.size)
  clear hD0
  generalize hAe : va_A [(x, .inr (6, [.ref xt, .int tl, .ref xr, .ref xd, .ref xn, .ref xa, .ref xs, .ref xy, .int 0]))] s.heap.size = A at hD hZ ⊢
  have hA : ∀ q : Nat, s.heap.size ≤ q → A q := fun q h => by rw [← hAe]; exact Or.inr h
  have hS : va_S A s.heap s.heap [] := va_S.rf
  have hl := lv_entry ([.ref x, .int p0, .int p1, .int p2, .int p3]) (n := 5) (Nat.le_of_ble_eq_true rfl)
  rw [lg_entry_eq]
  generalize (lg_sl ([.ref x, .int p0, .int p1, .int p2, .int p3]) ++ List.replicate (5 - (lg_sl ([.ref x, .int p0, .int p1, .int p2, .int p3])).length) Slot.unset).toArray = ls at hl ⊢
  have hl : lv_has ls 5 [(0, .ref x), (1, .int p0), (2, .int p1), (3, .int p2), (4, .int p3)] := hl
  generalize hQ : MQ below _ _ s _ _ _ = Q
  generalize hH : s.heap = H at hP ⊢
  have hS : va_S A s.heap H [] := by rw [← hH]; exact hS
  clear hH
  refine lv_aload_n hx hb dX6_laneAhead_0 rfl (lv_at hl 0 rfl) ?_
  refine lv_iload_n hx hb dX6_laneAhead_1 rfl (lv_at hl 1 rfl) ?_
  refine lv_iload_n hx hb dX6_laneAhead_2 rfl (lv_at hl 2 rfl) ?_
  refine ky_Vi (As := [.int p0, .int p1]) (rest := []) ⟨hx, hb, hml, hown, hts⟩ ⟨hK, hN⟩ hZ hP hD hS hA [0] [] (wc := [(x, .inr (6, [.ref xt, .int tl, .ref xr, .ref xd, .ref xn, .ref xa, .ref xs, .ref xy, .int 0]))]) (wr := []) rfl rfl rfl rfl (by decide) (c_X6_isLane l D g H.size x xt tl xr xd xn xa xs xy p0 p1) (cwV 2 hts gX6_laneAhead_X6_isLane rfl rfl rfl (by decide +kernel) ⟨(Nat.le_of_ble_eq_true rfl), (Nat.le_of_ble_eq_true rfl)⟩) 0 6 rfl rfl rfl rfl hl.1 rfl (Nat.le_of_ble_eq_true rfl) dX6_laneAhead_3 ⟨(Nat.le_of_ble_eq_true rfl), (Nat.le_of_ble_eq_true rfl)⟩ (fun r_1 u H locs hw hP hD hS => ?_)
  obtain ⟨rfl, rfl⟩ := hw
  have hP : va_P D vwCl [(x, .inr (6, [.ref xt, .int tl, .ref xr, .ref xd, .ref xn, .ref xa, .ref xs, .ref xy, .int 0]))] H := hP
  have hD : va_D A [(x, .inr (6, [.ref xt, .int tl, .ref xr, .ref xd, .ref xn, .ref xa, .ref xs, .ref xy, .int 0]))] := hD
  refine W.widen (k := 0) (n := 0) (Nat.le_of_ble_eq_true rfl) (Nat.le_of_ble_eq_true rfl) ?_
  refine lv_if_eq (tgt := 31) hx hb dX6_laneAhead_6 (by decide) (fun _ => ?_) (fun cb => absurd (by decide) cb)
  refine lv_iconst (v := (-1)) hx hb dX6_laneAhead_31 (by decide) ?_
  have hP9 := hP.sub (ws' := [(x, .inr (6, [.ref xt, .int tl, .ref xr, .ref xd, .ref xn, .ref xa, .ref xs, .ref xy, .int 0]))]) [0] rfl
  have hD9 := hD.sub (ws' := [(x, .inr (6, [.ref xt, .int tl, .ref xr, .ref xd, .ref xn, .ref xa, .ref xs, .ref xy, .int 0]))]) [0] (by decide) rfl
  subst hQ
  refine W.widen (k := 0) (n := 0) (Nat.le_of_ble_eq_true rfl) (Nat.le_of_ble_eq_true rfl) ?_
  exact W.iret (v := (-1)) hx hb hr (fun tS htS _ => ⟨⟨_, _, rfl, ⟨rfl, rfl⟩, by rw [htS]; exact hP9, hD9⟩, hS.F htS⟩) hS.2.2 dX6_laneAhead_32
set_option maxHeartbeats 4000000 in
set_option maxRecDepth 100000 in
/-- bufferAhead on an object without a NET -/
theorem c_X6_bufferAhead (l : Launch) (D : va_G) (g : Nat → ClassId) (sz : Nat) (x : Nat) (xt : Nat) (tl : Int32) (xr : Nat) (xd : Nat) (xn : Nat) (xa : Nat) (xs : Nat) (xy : Nat) (p0 : Int32) (p1 : Int32) (p2 : Int32) : Met l yX6_bufferAhead wsX6_bufferAhead ({ frames := 1, cells := 0, slots := 0, locals := 21 }) (va_Pc [.ref x, .int p0, .int p1, .int p2] (pre D g sz [(x, .inr (6, [.ref xt, .int tl, .ref xr, .ref xd, .ref xn, .ref xa, .ref xs, .ref xy, .int 0]))])) (va_Qi (fun (r : Int32) (u : va_W) => u = [(x, .inr (6, [.ref xt, .int tl, .ref xr, .ref xd, .ref xn, .ref xa, .ref xs, .ref xy, .int 0]))] ∧ r = (-1)) (wd D (va_A [(x, .inr (6, [.ref xt, .int tl, .ref xr, .ref xd, .ref xn, .ref xa, .ref xs, .ref xy, .int 0]))] sz)) (va_A [(x, .inr (6, [.ref xt, .int tl, .ref xr, .ref xd, .ref xn, .ref xa, .ref xs, .ref xy, .int 0]))] sz)) 0 0 (va_A [(x, .inr (6, [.ref xt, .int tl, .ref xr, .ref xd, .ref xn, .ref xa, .ref xs, .ref xy, .int 0]))] sz) := by
  refine Met.ofW (cc := cX6_bufferAhead) (maxL := 4) (ret := (some .int)) (by decide) rfl ?_
  intro p e s m args below meth c s₁ B hml hv
  obtain ⟨rfl, hsz, hP, ⟨hK, hN⟩, hD0, hZ⟩ := hv
  have hx := B.exec
  have hb := B.bytes
  have hr := B.returns
  have hts := atoms_spec (ws := wsX6_bufferAhead) B.pre
  have hown : s.vm.findClass RX6 = some m.cls := findClass_of_methodNamed B.named
  have hlocks := B.notSynchronized
  clear B
  subst hsz
  have hD := hD0.self (sz := s.heap.size)
  clear hD0
  generalize hAe : va_A [(x, .inr (6, [.ref xt, .int tl, .ref xr, .ref xd, .ref xn, .ref xa, .ref xs, .ref xy, .int 0]))] s.heap.size = A at hD hZ ⊢
  have hA : ∀ q : Nat, s.heap.size ≤ q → A q := fun q h => by rw [← hAe]; exact Or.inr h
  have hS : va_S A s.heap s.heap [] := va_S.rf
  have hl := lv_entry ([.ref x, .int p0, .int p1, .int p2]) (n := 4) (Nat.le_of_ble_eq_true rfl)
  rw [lg_entry_eq]
  generalize (lg_sl ([.ref x, .int p0, .int p1, .int p2]) ++ List.replicate (4 - (lg_sl ([.ref x, .int p0, .int p1, .int p2])).length) Slot.unset).toArray = ls at hl ⊢
  have hl : lv_has ls 4 [(0, .ref x), (1, .int p0), (2, .int p1), (3, .int p2)] := hl
  generalize hQ : MQ below _ _ s _ _ _ = Q
  generalize hH : s.heap = H at hP ⊢
  have hS : va_S A s.heap H [] := by rw [← hH]; exact hS
  clear hH
  refine lv_aload_n hx hb dX6_bufferAhead_0 rfl (lv_at hl 0 rfl) ?_
  refine lv_iload_n hx hb dX6_bufferAhead_1 rfl (lv_at hl 1 rfl) ?_
  refine ky_Vi (As := [.int p0]) (rest := []) ⟨hx, hb, hml, hown, hts⟩ ⟨hK, hN⟩ hZ hP hD hS hA [0] [] (wc := [(x, .inr (6, [.ref xt, .int tl, .ref xr, .ref xd, .ref xn, .ref xa, .ref xs, .ref xy, .int 0]))]) (wr := []) rfl rfl rfl rfl (by decide) (c_X6_isNode l D g H.size x xt tl xr xd xn xa xs xy p0) (cwV 1 hts gX6_bufferAhead_X6_isNode rfl rfl rfl (by decide +kernel) ⟨(Nat.le_of_ble_eq_true rfl), (Nat.le_of_ble_eq_true rfl)⟩) 0 6 rfl rfl rfl rfl hl.1 rfl (Nat.le_of_ble_eq_true rfl) dX6_bufferAhead_2 ⟨(Nat.le_of_ble_eq_true rfl), (Nat.le_of_ble_eq_true rfl)⟩ (fun r_1 u H locs hw hP hD hS => ?_)
  obtain ⟨rfl, rfl⟩ := hw
  have hP : va_P D vwCl [(x, .inr (6, [.ref xt, .int tl, .ref xr, .ref xd, .ref xn, .ref xa, .ref xs, .ref xy, .int 0]))] H := hP
  have hD : va_D A [(x, .inr (6, [.ref xt, .int tl, .ref xr, .ref xd, .ref xn, .ref xa, .ref xs, .ref xy, .int 0]))] := hD
  refine W.widen (k := 0) (n := 0) (Nat.le_of_ble_eq_true rfl) (Nat.le_of_ble_eq_true rfl) ?_
  refine lv_if_eq (tgt := 27) hx hb dX6_bufferAhead_5 (by decide) (fun _ => ?_) (fun cb => absurd (by decide) cb)
  refine lv_iconst (v := (-1)) hx hb dX6_bufferAhead_27 (by decide) ?_
  have hP9 := hP.sub (ws' := [(x, .inr (6, [.ref xt, .int tl, .ref xr, .ref xd, .ref xn, .ref xa, .ref xs, .ref xy, .int 0]))]) [0] rfl
  have hD9 := hD.sub (ws' := [(x, .inr (6, [.ref xt, .int tl, .ref xr, .ref xd, .ref xn, .ref xa, .ref xs, .ref xy, .int 0]))]) [0] (by decide) rfl
  subst hQ
  refine W.widen (k := 0) (n := 0) (Nat.le_of_ble_eq_true rfl) (Nat.le_of_ble_eq_true rfl) ?_
  exact W.iret (v := (-1)) hx hb hr (fun tS htS _ => ⟨⟨_, _, rfl, ⟨rfl, rfl⟩, by rw [htS]; exact hP9, hD9⟩, hS.F htS⟩) hS.2.2 dX6_bufferAhead_28
set_option maxHeartbeats 4000000 in
set_option maxRecDepth 100000 in
/-- delivered on an object without a NET -/
theorem c_X6_delivered (l : Launch) (D : va_G) (g : Nat → ClassId) (sz : Nat) (x : Nat) (xt : Nat) (tl : Int32) (xr : Nat) (xd : Nat) (xn : Nat) (xa : Nat) (xs : Nat) (xy : Nat) (p0 : Int32) (p1 : Int32) : Met l yX6_delivered wsX6_delivered ({ frames := 0, cells := 0, slots := 0, locals := 0 }) (va_Pc [.ref x, .int p0, .int p1] (pre D g sz [(x, .inr (6, [.ref xt, .int tl, .ref xr, .ref xd, .ref xn, .ref xa, .ref xs, .ref xy, .int 0]))])) (va_Qi (fun (r : Int32) (u : va_W) => u = [(x, .inr (6, [.ref xt, .int tl, .ref xr, .ref xd, .ref xn, .ref xa, .ref xs, .ref xy, .int 0]))] ∧ r = (-1)) (wd D (va_A [(x, .inr (6, [.ref xt, .int tl, .ref xr, .ref xd, .ref xn, .ref xa, .ref xs, .ref xy, .int 0]))] sz)) (va_A [(x, .inr (6, [.ref xt, .int tl, .ref xr, .ref xd, .ref xn, .ref xa, .ref xs, .ref xy, .int 0]))] sz)) 0 0 (va_A [(x, .inr (6, [.ref xt, .int tl, .ref xr, .ref xd, .ref xn, .ref xa, .ref xs, .ref xy, .int 0]))] sz) := by
  refine Met.ofW (cc := cX6_delivered) (maxL := 3) (ret := (some .int)) (by decide) rfl ?_
  intro p e s m args below meth c s₁ B hml hv
  obtain ⟨rfl, hsz, hP, ⟨hK, hN⟩, hD0, hZ⟩ := hv
  have hx := B.exec
  have hb := B.bytes
  have hr := B.returns
  have hts := atoms_spec (ws := wsX6_delivered) B.pre
  have hown : s.vm.findClass RX6 = some m.cls := findClass_of_methodNamed B.named
  have hlocks := B.notSynchronized
  clear B
  subst hsz
  have hD := hD0.self (sz := s.heap.size)
  clear hD0
  generalize hAe : va_A [(x, .inr (6, [.ref xt, .int tl, .ref xr, .ref xd, .ref xn, .ref xa, .ref xs, .ref xy, .int 0]))] s.heap.size = A at hD hZ ⊢
  have hA : ∀ q : Nat, s.heap.size ≤ q → A q := fun q h => by rw [← hAe]; exact Or.inr h
  have hS : va_S A s.heap s.heap [] := va_S.rf
  have f70 := hts (.fieldLink RX6 70 "HopCredits" "laid" "Z") (by decide +kernel)
  have iX6 : ∀ w ∈ u_ws RX6 TX6 9, w ∈ wsX6_delivered := by decide +kernel
  have hl := lv_entry ([.ref x, .int p0, .int p1]) (n := 3) (Nat.le_of_ble_eq_true rfl)
  rw [lg_entry_eq]
  generalize (lg_sl ([.ref x, .int p0, .int p1]) ++ List.replicate (3 - (lg_sl ([.ref x, .int p0, .int p1])).length) Slot.unset).toArray = ls at hl ⊢
  have hl : lv_has ls 3 [(0, .ref x), (1, .int p0), (2, .int p1)] := hl
  generalize hQ : MQ below _ _ s _ _ _ = Q
  generalize hH : s.heap = H at hP ⊢
  have hS : va_S A s.heap H [] := by rw [← hH]; exact hS
  clear hH
  refine lv_aload_n hx hb dX6_delivered_0 rfl (lv_at hl 0 rfl) ?_
  refine va_get (D := D) (ci := 6) (v := .int 0) (C := RX6) (T := TX6) (N := 9) hx hb hts iX6 hown hK hP 0 rfl rfl 8 (by decide) f70 (fun _ h9 => h9) rfl dX6_delivered_1 ?_
  refine lv_if_eq (tgt := 31) hx hb dX6_delivered_4 (by decide) (fun _ => ?_) (fun cb => absurd (by decide) cb)
  refine lv_iconst (v := (-1)) hx hb dX6_delivered_31 (by decide) ?_
  have hP9 := hP.sub (ws' := [(x, .inr (6, [.ref xt, .int tl, .ref xr, .ref xd, .ref xn, .ref xa, .ref xs, .ref xy, .int 0]))]) [0] rfl
  have hD9 := hD.sub (ws' := [(x, .inr (6, [.ref xt, .int tl, .ref xr, .ref xd, .ref xn, .ref xa, .ref xs, .ref xy, .int 0]))]) [0] (by decide) rfl
  subst hQ
  refine W.widen (k := 0) (n := 0) (Nat.le_of_ble_eq_true rfl) (Nat.le_of_ble_eq_true rfl) ?_
  exact W.iret (v := (-1)) hx hb hr (fun tS htS _ => ⟨⟨_, _, rfl, ⟨rfl, rfl⟩, by rw [htS]; exact hP9, hD9⟩, hS.F htS⟩) hS.2.2 dX6_delivered_32
set_option maxHeartbeats 4000000 in
set_option maxRecDepth 100000 in
/-- heldUp on an object without a NET -/
theorem c_X6_heldUp (l : Launch) (D : va_G) (g : Nat → ClassId) (sz : Nat) (x : Nat) (xt : Nat) (tl : Int32) (xr : Nat) (xd : Nat) (xn : Nat) (xa : Nat) (xs : Nat) (xy : Nat) (p0 : Int32) (p1 : Int32) : Met l yX6_heldUp wsX6_heldUp ({ frames := 2, cells := 0, slots := 0, locals := 43 }) (va_Pc [.ref x, .int p0, .int p1] (pre D g sz [(x, .inr (6, [.ref xt, .int tl, .ref xr, .ref xd, .ref xn, .ref xa, .ref xs, .ref xy, .int 0]))])) (va_Qi (fun (r : Int32) (u : va_W) => u = [(x, .inr (6, [.ref xt, .int tl, .ref xr, .ref xd, .ref xn, .ref xa, .ref xs, .ref xy, .int 0]))] ∧ r = (-1)) (wd D (va_A [(x, .inr (6, [.ref xt, .int tl, .ref xr, .ref xd, .ref xn, .ref xa, .ref xs, .ref xy, .int 0]))] sz)) (va_A [(x, .inr (6, [.ref xt, .int tl, .ref xr, .ref xd, .ref xn, .ref xa, .ref xs, .ref xy, .int 0]))] sz)) 0 0 (va_A [(x, .inr (6, [.ref xt, .int tl, .ref xr, .ref xd, .ref xn, .ref xa, .ref xs, .ref xy, .int 0]))] sz) := by
  refine Met.ofW (cc := cX6_heldUp) (maxL := 4) (ret := (some .int)) (by decide) rfl ?_
  intro p e s m args below meth c s₁ B hml hv
  obtain ⟨rfl, hsz, hP, ⟨hK, hN⟩, hD0, hZ⟩ := hv
  have hx := B.exec
  have hb := B.bytes
  have hr := B.returns
  have hts := atoms_spec (ws := wsX6_heldUp) B.pre
  have hown : s.vm.findClass RX6 = some m.cls := findClass_of_methodNamed B.named
  have hlocks := B.notSynchronized
  clear B
  subst hsz
  have hD := hD0.self (sz := s.heap.size)
  clear hD0
  generalize hAe : va_A [(x, .inr (6, [.ref xt, .int tl, .ref xr, .ref xd, .ref xn, .ref xa, .ref xs, .ref xy, .int 0]))] s.heap.size = A at hD hZ ⊢
  have hA : ∀ q : Nat, s.heap.size ≤ q → A q := fun q h => by rw [← hAe]; exact Or.inr h
  have hS : va_S A s.heap s.heap [] := va_S.rf
  have hl := lv_entry ([.ref x, .int p0, .int p1]) (n := 4) (Nat.le_of_ble_eq_true rfl)
  rw [lg_entry_eq]
  generalize (lg_sl ([.ref x, .int p0, .int p1]) ++ List.replicate (4 - (lg_sl ([.ref x, .int p0, .int p1])).length) Slot.unset).toArray = ls at hl ⊢
  have hl : lv_has ls 4 [(0, .ref x), (1, .int p0), (2, .int p1)] := hl
  generalize hQ : MQ below _ _ s _ _ _ = Q
  generalize hH : s.heap = H at hP ⊢
  have hS : va_S A s.heap H [] := by rw [← hH]; exact hS
  clear hH
  refine lv_aload_n hx hb dX6_heldUp_0 rfl (lv_at hl 0 rfl) ?_
  refine lv_iload_n hx hb dX6_heldUp_1 rfl (lv_at hl 1 rfl) ?_
  refine lv_iload_n hx hb dX6_heldUp_2 rfl (lv_at hl 2 rfl) ?_
  refine ky_Vi (As := [.int p0, .int p1]) (rest := []) ⟨hx, hb, hml, hown, hts⟩ ⟨hK, hN⟩ hZ hP hD hS hA [0] [] (wc := [(x, .inr (6, [.ref xt, .int tl, .ref xr, .ref xd, .ref xn, .ref xa, .ref xs, .ref xy, .int 0]))]) (wr := []) rfl rfl rfl rfl (by decide) (c_X6_isLane l D g H.size x xt tl xr xd xn xa xs xy p0 p1) (cwV 2 hts gX6_heldUp_X6_isLane rfl rfl rfl (by decide +kernel) ⟨(Nat.le_of_ble_eq_true rfl), (Nat.le_of_ble_eq_true rfl)⟩) 0 6 rfl rfl rfl rfl hl.1 rfl (Nat.le_of_ble_eq_true rfl) dX6_heldUp_3 ⟨(Nat.le_of_ble_eq_true rfl), (Nat.le_of_ble_eq_true rfl)⟩ (fun r_1 u H locs hw hP hD hS => ?_)
  obtain ⟨rfl, rfl⟩ := hw
  have hP : va_P D vwCl [(x, .inr (6, [.ref xt, .int tl, .ref xr, .ref xd, .ref xn, .ref xa, .ref xs, .ref xy, .int 0]))] H := hP
  have hD : va_D A [(x, .inr (6, [.ref xt, .int tl, .ref xr, .ref xd, .ref xn, .ref xa, .ref xs, .ref xy, .int 0]))] := hD
  refine W.widen (k := 0) (n := 0) (Nat.le_of_ble_eq_true rfl) (Nat.le_of_ble_eq_true rfl) ?_
  refine lv_if_ne (tgt := 11) hx hb dX6_heldUp_6 (by decide) (fun cb => absurd (by decide) cb) (fun _ => ?_)
  refine lv_iconst (v := (-1)) hx hb dX6_heldUp_9 (by decide) ?_
  have hP9 := hP.sub (ws' := [(x, .inr (6, [.ref xt, .int tl, .ref xr, .ref xd, .ref xn, .ref xa, .ref xs, .ref xy, .int 0]))]) [0] rfl
  have hD9 := hD.sub (ws' := [(x, .inr (6, [.ref xt, .int tl, .ref xr, .ref xd, .ref xn, .ref xa, .ref xs, .ref xy, .int 0]))]) [0] (by decide) rfl
  subst hQ
  refine W.widen (k := 0) (n := 0) (Nat.le_of_ble_eq_true rfl) (Nat.le_of_ble_eq_true rfl) ?_
  exact W.iret (v := (-1)) hx hb hr (fun tS htS _ => ⟨⟨_, _, rfl, ⟨rfl, rfl⟩, by rw [htS]; exact hP9, hD9⟩, hS.F htS⟩) hS.2.2 dX6_heldUp_10
set_option maxHeartbeats 4000000 in
set_option maxRecDepth 100000 in
/-- idle on an object without a NET -/
theorem c_X6_idle (l : Launch) (D : va_G) (g : Nat → ClassId) (sz : Nat) (x : Nat) (xt : Nat) (tl : Int32) (xr : Nat) (xd : Nat) (xn : Nat) (xa : Nat) (xs : Nat) (xy : Nat) (p0 : Int32) (p1 : Int32) : Met l yX6_idle wsX6_idle ({ frames := 1, cells := 0, slots := 0, locals := 21 }) (va_Pc [.ref x, .int p0, .int p1] (pre D g sz [(x, .inr (6, [.ref xt, .int tl, .ref xr, .ref xd, .ref xn, .ref xa, .ref xs, .ref xy, .int 0]))])) (va_Qi (fun (r : Int32) (u : va_W) => u = [(x, .inr (6, [.ref xt, .int tl, .ref xr, .ref xd, .ref xn, .ref xa, .ref xs, .ref xy, .int 0]))] ∧ r = (-1)) (wd D (va_A [(x, .inr (6, [.ref xt, .int tl, .ref xr, .ref xd, .ref xn, .ref xa, .ref xs, .ref xy, .int 0]))] sz)) (va_A [(x, .inr (6, [.ref xt, .int tl, .ref xr, .ref xd, .ref xn, .ref xa, .ref xs, .ref xy, .int 0]))] sz)) 0 0 (va_A [(x, .inr (6, [.ref xt, .int tl, .ref xr, .ref xd, .ref xn, .ref xa, .ref xs, .ref xy, .int 0]))] sz) := by
  refine Met.ofW (cc := cX6_idle) (maxL := 3) (ret := (some .int)) (by decide) rfl ?_
  intro p e s m args below meth c s₁ B hml hv
  obtain ⟨rfl, hsz, hP, ⟨hK, hN⟩, hD0, hZ⟩ := hv
  have hx := B.exec
  have hb := B.bytes
  have hr := B.returns
  have hts := atoms_spec (ws := wsX6_idle) B.pre
  have hown : s.vm.findClass RX6 = some m.cls := findClass_of_methodNamed B.named
  have hlocks := B.notSynchronized
  clear B
  subst hsz
  have hD := hD0.self (sz := s.heap.size)
  clear hD0
  generalize hAe : va_A [(x, .inr (6, [.ref xt, .int tl, .ref xr, .ref xd, .ref xn, .ref xa, .ref xs, .ref xy, .int 0]))] s.heap.size = A at hD hZ ⊢
  have hA : ∀ q : Nat, s.heap.size ≤ q → A q := fun q h => by rw [← hAe]; exact Or.inr h
  have hS : va_S A s.heap s.heap [] := va_S.rf
  have hl := lv_entry ([.ref x, .int p0, .int p1]) (n := 3) (Nat.le_of_ble_eq_true rfl)
  rw [lg_entry_eq]
  generalize (lg_sl ([.ref x, .int p0, .int p1]) ++ List.replicate (3 - (lg_sl ([.ref x, .int p0, .int p1])).length) Slot.unset).toArray = ls at hl ⊢
  have hl : lv_has ls 3 [(0, .ref x), (1, .int p0), (2, .int p1)] := hl
  generalize hQ : MQ below _ _ s _ _ _ = Q
  generalize hH : s.heap = H at hP ⊢
  have hS : va_S A s.heap H [] := by rw [← hH]; exact hS
  clear hH
  refine lv_aload_n hx hb dX6_idle_0 rfl (lv_at hl 0 rfl) ?_
  refine lv_iload_n hx hb dX6_idle_1 rfl (lv_at hl 1 rfl) ?_
  refine ky_Vi (As := [.int p0]) (rest := []) ⟨hx, hb, hml, hown, hts⟩ ⟨hK, hN⟩ hZ hP hD hS hA [0] [] (wc := [(x, .inr (6, [.ref xt, .int tl, .ref xr, .ref xd, .ref xn, .ref xa, .ref xs, .ref xy, .int 0]))]) (wr := []) rfl rfl rfl rfl (by decide) (c_X6_isHop l D g H.size x xt tl xr xd xn xa xs xy p0) (cwV 1 hts gX6_idle_X6_isHop rfl rfl rfl (by decide +kernel) ⟨(Nat.le_of_ble_eq_true rfl), (Nat.le_of_ble_eq_true rfl)⟩) 0 6 rfl rfl rfl rfl hl.1 rfl (Nat.le_of_ble_eq_true rfl) dX6_idle_2 ⟨(Nat.le_of_ble_eq_true rfl), (Nat.le_of_ble_eq_true rfl)⟩ (fun r_1 u H locs hw hP hD hS => ?_)
  obtain ⟨rfl, rfl⟩ := hw
  have hP : va_P D vwCl [(x, .inr (6, [.ref xt, .int tl, .ref xr, .ref xd, .ref xn, .ref xa, .ref xs, .ref xy, .int 0]))] H := hP
  have hD : va_D A [(x, .inr (6, [.ref xt, .int tl, .ref xr, .ref xd, .ref xn, .ref xa, .ref xs, .ref xy, .int 0]))] := hD
  refine W.widen (k := 0) (n := 0) (Nat.le_of_ble_eq_true rfl) (Nat.le_of_ble_eq_true rfl) ?_
  refine lv_if_eq (tgt := 19) hx hb dX6_idle_5 (by decide) (fun _ => ?_) (fun cb => absurd (by decide) cb)
  refine lv_iconst (v := (-1)) hx hb dX6_idle_19 (by decide) ?_
  have hP9 := hP.sub (ws' := [(x, .inr (6, [.ref xt, .int tl, .ref xr, .ref xd, .ref xn, .ref xa, .ref xs, .ref xy, .int 0]))]) [0] rfl
  have hD9 := hD.sub (ws' := [(x, .inr (6, [.ref xt, .int tl, .ref xr, .ref xd, .ref xn, .ref xa, .ref xs, .ref xy, .int 0]))]) [0] (by decide) rfl
  subst hQ
  refine W.widen (k := 0) (n := 0) (Nat.le_of_ble_eq_true rfl) (Nat.le_of_ble_eq_true rfl) ?_
  exact W.iret (v := (-1)) hx hb hr (fun tS htS _ => ⟨⟨_, _, rfl, ⟨rfl, rfl⟩, by rw [htS]; exact hP9, hD9⟩, hS.F htS⟩) hS.2.2 dX6_idle_20
set_option maxHeartbeats 4000000 in
set_option maxRecDepth 100000 in
/-- most on an object without a NET -/
theorem c_X6_most (l : Launch) (D : va_G) (g : Nat → ClassId) (sz : Nat) (x : Nat) (xt : Nat) (tl : Int32) (xr : Nat) (xd : Nat) (xn : Nat) (xa : Nat) (xs : Nat) (xy : Nat) (p0 : Int32) (p1 : Int32) (p2 : Int32) (p3 : Int32) : Met l yX6_most wsX6_most ({ frames := 1, cells := 0, slots := 0, locals := 21 }) (va_Pc [.ref x, .int p0, .int p1, .int p2, .int p3] (pre D g sz [(x, .inr (6, [.ref xt, .int tl, .ref xr, .ref xd, .ref xn, .ref xa, .ref xs, .ref xy, .int 0]))])) (va_Qi (fun (r : Int32) (u : va_W) => u = [(x, .inr (6, [.ref xt, .int tl, .ref xr, .ref xd, .ref xn, .ref xa, .ref xs, .ref xy, .int 0]))] ∧ r = (-1)) (wd D (va_A [(x, .inr (6, [.ref xt, .int tl, .ref xr, .ref xd, .ref xn, .ref xa, .ref xs, .ref xy, .int 0]))] sz)) (va_A [(x, .inr (6, [.ref xt, .int tl, .ref xr, .ref xd, .ref xn, .ref xa, .ref xs, .ref xy, .int 0]))] sz)) 0 0 (va_A [(x, .inr (6, [.ref xt, .int tl, .ref xr, .ref xd, .ref xn, .ref xa, .ref xs, .ref xy, .int 0]))] sz) := by
  refine Met.ofW (cc := cX6_most) (maxL := 7) (ret := (some .int)) (by decide) rfl ?_
  intro p e s m args below meth c s₁ B hml hv
  obtain ⟨rfl, hsz, hP, ⟨hK, hN⟩, hD0, hZ⟩ := hv
  have hx := B.exec
  have hb := B.bytes
  have hr := B.returns
  have hts := atoms_spec (ws := wsX6_most) B.pre
  have hown : s.vm.findClass RX6 = some m.cls := findClass_of_methodNamed B.named
  have hlocks := B.notSynchronized
  clear B
  subst hsz
  have hD := hD0.self (sz := s.heap.size)
  clear hD0
  generalize hAe : va_A [(x, .inr (6, [.ref xt, .int tl, .ref xr, .ref xd, .ref xn, .ref xa, .ref xs, .ref xy, .int 0]))] s.heap.size = A at hD hZ ⊢
  have hA : ∀ q : Nat, s.heap.size ≤ q → A q := fun q h => by rw [← hAe]; exact Or.inr h
  have hS : va_S A s.heap s.heap [] := va_S.rf
  have hl := lv_entry ([.ref x, .int p0, .int p1, .int p2, .int p3]) (n := 7) (Nat.le_of_ble_eq_true rfl)
  rw [lg_entry_eq]
  generalize (lg_sl ([.ref x, .int p0, .int p1, .int p2, .int p3]) ++ List.replicate (7 - (lg_sl ([.ref x, .int p0, .int p1, .int p2, .int p3])).length) Slot.unset).toArray = ls at hl ⊢
  have hl : lv_has ls 7 [(0, .ref x), (1, .int p0), (2, .int p1), (3, .int p2), (4, .int p3)] := hl
  generalize hQ : MQ below _ _ s _ _ _ = Q
  generalize hH : s.heap = H at hP ⊢
  have hS : va_S A s.heap H [] := by rw [← hH]; exact hS
  clear hH
  refine lv_aload_n hx hb dX6_most_0 rfl (lv_at hl 0 rfl) ?_
  refine lv_iload_n hx hb dX6_most_1 rfl (lv_at hl 1 rfl) ?_
  refine ky_Vi (As := [.int p0]) (rest := []) ⟨hx, hb, hml, hown, hts⟩ ⟨hK, hN⟩ hZ hP hD hS hA [0] [] (wc := [(x, .inr (6, [.ref xt, .int tl, .ref xr, .ref xd, .ref xn, .ref xa, .ref xs, .ref xy, .int 0]))]) (wr := []) rfl rfl rfl rfl (by decide) (c_X6_isNode l D g H.size x xt tl xr xd xn xa xs xy p0) (cwV 1 hts gX6_most_X6_isNode rfl rfl rfl (by decide +kernel) ⟨(Nat.le_of_ble_eq_true rfl), (Nat.le_of_ble_eq_true rfl)⟩) 0 6 rfl rfl rfl rfl hl.1 rfl (Nat.le_of_ble_eq_true rfl) dX6_most_2 ⟨(Nat.le_of_ble_eq_true rfl), (Nat.le_of_ble_eq_true rfl)⟩ (fun r_1 u H locs hw hP hD hS => ?_)
  obtain ⟨rfl, rfl⟩ := hw
  have hP : va_P D vwCl [(x, .inr (6, [.ref xt, .int tl, .ref xr, .ref xd, .ref xn, .ref xa, .ref xs, .ref xy, .int 0]))] H := hP
  have hD : va_D A [(x, .inr (6, [.ref xt, .int tl, .ref xr, .ref xd, .ref xn, .ref xa, .ref xs, .ref xy, .int 0]))] := hD
  refine W.widen (k := 0) (n := 0) (Nat.le_of_ble_eq_true rfl) (Nat.le_of_ble_eq_true rfl) ?_
  refine lv_if_eq (tgt := 37) hx hb dX6_most_5 (by decide) (fun _ => ?_) (fun cb => absurd (by decide) cb)
  refine lv_iconst (v := (-1)) hx hb dX6_most_37 (by decide) ?_
  have hP9 := hP.sub (ws' := [(x, .inr (6, [.ref xt, .int tl, .ref xr, .ref xd, .ref xn, .ref xa, .ref xs, .ref xy, .int 0]))]) [0] rfl
  have hD9 := hD.sub (ws' := [(x, .inr (6, [.ref xt, .int tl, .ref xr, .ref xd, .ref xn, .ref xa, .ref xs, .ref xy, .int 0]))]) [0] (by decide) rfl
  subst hQ
  refine W.widen (k := 0) (n := 0) (Nat.le_of_ble_eq_true rfl) (Nat.le_of_ble_eq_true rfl) ?_
  exact W.iret (v := (-1)) hx hb hr (fun tS htS _ => ⟨⟨_, _, rfl, ⟨rfl, rfl⟩, by rw [htS]; exact hP9, hD9⟩, hS.F htS⟩) hS.2.2 dX6_most_38
set_option maxHeartbeats 4000000 in
set_option maxRecDepth 100000 in
/-- healed on an object without a NET -/
theorem c_X6_healed (l : Launch) (D : va_G) (g : Nat → ClassId) (sz : Nat) (x : Nat) (xt : Nat) (tl : Int32) (xr : Nat) (xd : Nat) (xn : Nat) (xa : Nat) (xs : Nat) (xy : Nat) : Met l yX6_healed wsX6_healed ({ frames := 0, cells := 0, slots := 0, locals := 0 }) (va_Pc [.ref x] (pre D g sz [(x, .inr (6, [.ref xt, .int tl, .ref xr, .ref xd, .ref xn, .ref xa, .ref xs, .ref xy, .int 0]))])) (va_Qi (fun (r : Int32) (u : va_W) => u = [(x, .inr (6, [.ref xt, .int tl, .ref xr, .ref xd, .ref xn, .ref xa, .ref xs, .ref xy, .int 0]))] ∧ r = (-1)) (wd D (va_A [(x, .inr (6, [.ref xt, .int tl, .ref xr, .ref xd, .ref xn, .ref xa, .ref xs, .ref xy, .int 0]))] sz)) (va_A [(x, .inr (6, [.ref xt, .int tl, .ref xr, .ref xd, .ref xn, .ref xa, .ref xs, .ref xy, .int 0]))] sz)) 0 0 (va_A [(x, .inr (6, [.ref xt, .int tl, .ref xr, .ref xd, .ref xn, .ref xa, .ref xs, .ref xy, .int 0]))] sz) := by
  refine Met.ofW (cc := cX6_healed) (maxL := 2) (ret := (some .int)) (by decide) rfl ?_
  intro p e s m args below meth c s₁ B hml hv
  obtain ⟨rfl, hsz, hP, ⟨hK, hN⟩, hD0, hZ⟩ := hv
  have hx := B.exec
  have hb := B.bytes
  have hr := B.returns
  have hts := atoms_spec (ws := wsX6_healed) B.pre
  have hown : s.vm.findClass RX6 = some m.cls := findClass_of_methodNamed B.named
  have hlocks := B.notSynchronized
  clear B
  subst hsz
  have hD := hD0.self (sz := s.heap.size)
  clear hD0
  generalize hAe : va_A [(x, .inr (6, [.ref xt, .int tl, .ref xr, .ref xd, .ref xn, .ref xa, .ref xs, .ref xy, .int 0]))] s.heap.size = A at hD hZ ⊢
  have hA : ∀ q : Nat, s.heap.size ≤ q → A q := fun q h => by rw [← hAe]; exact Or.inr h
  have hS : va_S A s.heap s.heap [] := va_S.rf
  have f70 := hts (.fieldLink RX6 70 "HopCredits" "laid" "Z") (by decide +kernel)
  have iX6 : ∀ w ∈ u_ws RX6 TX6 9, w ∈ wsX6_healed := by decide +kernel
  have hl := lv_entry ([.ref x]) (n := 2) (Nat.le_of_ble_eq_true rfl)
  rw [lg_entry_eq]
  generalize (lg_sl ([.ref x]) ++ List.replicate (2 - (lg_sl ([.ref x])).length) Slot.unset).toArray = ls at hl ⊢
  have hl : lv_has ls 2 [(0, .ref x)] := hl
  generalize hQ : MQ below _ _ s _ _ _ = Q
  generalize hH : s.heap = H at hP ⊢
  have hS : va_S A s.heap H [] := by rw [← hH]; exact hS
  clear hH
  refine lv_aload_n hx hb dX6_healed_0 rfl (lv_at hl 0 rfl) ?_
  refine va_get (D := D) (ci := 6) (v := .int 0) (C := RX6) (T := TX6) (N := 9) hx hb hts iX6 hown hK hP 0 rfl rfl 8 (by decide) f70 (fun _ h9 => h9) rfl dX6_healed_1 ?_
  refine lv_if_ne (tgt := 9) hx hb dX6_healed_4 (by decide) (fun cb => absurd (by decide) cb) (fun _ => ?_)
  refine lv_iconst (v := (-1)) hx hb dX6_healed_7 (by decide) ?_
  have hP9 := hP.sub (ws' := [(x, .inr (6, [.ref xt, .int tl, .ref xr, .ref xd, .ref xn, .ref xa, .ref xs, .ref xy, .int 0]))]) [0] rfl
  have hD9 := hD.sub (ws' := [(x, .inr (6, [.ref xt, .int tl, .ref xr, .ref xd, .ref xn, .ref xa, .ref xs, .ref xy, .int 0]))]) [0] (by decide) rfl
  subst hQ
  refine W.widen (k := 0) (n := 0) (Nat.le_of_ble_eq_true rfl) (Nat.le_of_ble_eq_true rfl) ?_
  exact W.iret (v := (-1)) hx hb hr (fun tS htS _ => ⟨⟨_, _, rfl, ⟨rfl, rfl⟩, by rw [htS]; exact hP9, hD9⟩, hS.F htS⟩) hS.2.2 dX6_healed_8
set_option maxHeartbeats 4000000 in
set_option maxRecDepth 100000 in
/-- loss on an object without a NET -/
theorem c_X6_loss (l : Launch) (D : va_G) (g : Nat → ClassId) (sz : Nat) (x : Nat) (xt : Nat) (tl : Int32) (xr : Nat) (xd : Nat) (xn : Nat) (xa : Nat) (xs : Nat) (xy : Nat) (p0 : Int32) (p1 : Int32) : Met l yX6_loss wsX6_loss ({ frames := 0, cells := 0, slots := 0, locals := 0 }) (va_Pc [.ref x, .int p0, .int p1] (pre D g sz [(x, .inr (6, [.ref xt, .int tl, .ref xr, .ref xd, .ref xn, .ref xa, .ref xs, .ref xy, .int 0]))])) (va_Qi (fun (r : Int32) (u : va_W) => u = [(x, .inr (6, [.ref xt, .int tl, .ref xr, .ref xd, .ref xn, .ref xa, .ref xs, .ref xy, .int 0]))] ∧ r = (-1000000)) (wd D (va_A [(x, .inr (6, [.ref xt, .int tl, .ref xr, .ref xd, .ref xn, .ref xa, .ref xs, .ref xy, .int 0]))] sz)) (va_A [(x, .inr (6, [.ref xt, .int tl, .ref xr, .ref xd, .ref xn, .ref xa, .ref xs, .ref xy, .int 0]))] sz)) 0 0 (va_A [(x, .inr (6, [.ref xt, .int tl, .ref xr, .ref xd, .ref xn, .ref xa, .ref xs, .ref xy, .int 0]))] sz) := by
  refine Met.ofW (cc := cX6_loss) (maxL := 3) (ret := (some .int)) (by decide) rfl ?_
  intro p e s m args below meth c s₁ B hml hv
  obtain ⟨rfl, hsz, hP, ⟨hK, hN⟩, hD0, hZ⟩ := hv
  have hx := B.exec
  have hb := B.bytes
  have hr := B.returns
  have hts := atoms_spec (ws := wsX6_loss) B.pre
  have hown : s.vm.findClass RX6 = some m.cls := findClass_of_methodNamed B.named
  have hlocks := B.notSynchronized
  clear B
  subst hsz
  have hD := hD0.self (sz := s.heap.size)
  clear hD0
  generalize hAe : va_A [(x, .inr (6, [.ref xt, .int tl, .ref xr, .ref xd, .ref xn, .ref xa, .ref xs, .ref xy, .int 0]))] s.heap.size = A at hD hZ ⊢
  have hA : ∀ q : Nat, s.heap.size ≤ q → A q := fun q h => by rw [← hAe]; exact Or.inr h
  have hS : va_S A s.heap s.heap [] := va_S.rf
  have f70 := hts (.fieldLink RX6 70 "HopCredits" "laid" "Z") (by decide +kernel)
  have k77 := hts (.constant RX6 77 (-1000000)) (by decide +kernel)
  have iX6 : ∀ w ∈ u_ws RX6 TX6 9, w ∈ wsX6_loss := by decide +kernel
  have hl := lv_entry ([.ref x, .int p0, .int p1]) (n := 3) (Nat.le_of_ble_eq_true rfl)
  rw [lg_entry_eq]
  generalize (lg_sl ([.ref x, .int p0, .int p1]) ++ List.replicate (3 - (lg_sl ([.ref x, .int p0, .int p1])).length) Slot.unset).toArray = ls at hl ⊢
  have hl : lv_has ls 3 [(0, .ref x), (1, .int p0), (2, .int p1)] := hl
  generalize hQ : MQ below _ _ s _ _ _ = Q
  generalize hH : s.heap = H at hP ⊢
  have hS : va_S A s.heap H [] := by rw [← hH]; exact hS
  clear hH
  refine lv_aload_n hx hb dX6_loss_0 rfl (lv_at hl 0 rfl) ?_
  refine va_get (D := D) (ci := 6) (v := .int 0) (C := RX6) (T := TX6) (N := 9) hx hb hts iX6 hown hK hP 0 rfl rfl 8 (by decide) f70 (fun _ h9 => h9) rfl dX6_loss_1 ?_
  refine lv_if_eq (tgt := 28) hx hb dX6_loss_4 (by decide) (fun _ => ?_) (fun cb => absurd (by decide) cb)
  refine lv_ldc (v := (-1000000)) hx hb hown k77 dX6_loss_28 ?_
  have hP9 := hP.sub (ws' := [(x, .inr (6, [.ref xt, .int tl, .ref xr, .ref xd, .ref xn, .ref xa, .ref xs, .ref xy, .int 0]))]) [0] rfl
  have hD9 := hD.sub (ws' := [(x, .inr (6, [.ref xt, .int tl, .ref xr, .ref xd, .ref xn, .ref xa, .ref xs, .ref xy, .int 0]))]) [0] (by decide) rfl
  subst hQ
  refine W.widen (k := 0) (n := 0) (Nat.le_of_ble_eq_true rfl) (Nat.le_of_ble_eq_true rfl) ?_
  exact W.iret (v := (-1000000)) hx hb hr (fun tS htS _ => ⟨⟨_, _, rfl, ⟨rfl, rfl⟩, by rw [htS]; exact hP9, hD9⟩, hS.F htS⟩) hS.2.2 dX6_loss_30
set_option maxHeartbeats 4000000 in
set_option maxRecDepth 100000 in
/-- fair on an object without a NET -/
theorem c_X6_fair (l : Launch) (D : va_G) (g : Nat → ClassId) (sz : Nat) (x : Nat) (xt : Nat) (tl : Int32) (xr : Nat) (xd : Nat) (xn : Nat) (xa : Nat) (xs : Nat) (xy : Nat) (p0 : Int32) : Met l yX6_fair wsX6_fair ({ frames := 0, cells := 0, slots := 0, locals := 0 }) (va_Pc [.ref x, .int p0] (pre D g sz [(x, .inr (6, [.ref xt, .int tl, .ref xr, .ref xd, .ref xn, .ref xa, .ref xs, .ref xy, .int 0]))])) (va_Qi (fun (r : Int32) (u : va_W) => u = [(x, .inr (6, [.ref xt, .int tl, .ref xr, .ref xd, .ref xn, .ref xa, .ref xs, .ref xy, .int 0]))] ∧ r = (-1)) (wd D (va_A [(x, .inr (6, [.ref xt, .int tl, .ref xr, .ref xd, .ref xn, .ref xa, .ref xs, .ref xy, .int 0]))] sz)) (va_A [(x, .inr (6, [.ref xt, .int tl, .ref xr, .ref xd, .ref xn, .ref xa, .ref xs, .ref xy, .int 0]))] sz)) 0 0 (va_A [(x, .inr (6, [.ref xt, .int tl, .ref xr, .ref xd, .ref xn, .ref xa, .ref xs, .ref xy, .int 0]))] sz) := by
  refine Met.ofW (cc := cX6_fair) (maxL := 6) (ret := (some .int)) (by decide) rfl ?_
  intro p e s m args below meth c s₁ B hml hv
  obtain ⟨rfl, hsz, hP, ⟨hK, hN⟩, hD0, hZ⟩ := hv
  have hx := B.exec
  have hb := B.bytes
  have hr := B.returns
  have hts := atoms_spec (ws := wsX6_fair) B.pre
  have hown : s.vm.findClass RX6 = some m.cls := findClass_of_methodNamed B.named
  have hlocks := B.notSynchronized
  clear B
  subst hsz
  have hD := hD0.self (sz := s.heap.size)
  clear hD0
  generalize hAe : va_A [(x, .inr (6, [.ref xt, .int tl, .ref xr, .ref xd, .ref xn, .ref xa, .ref xs, .ref xy, .int 0]))] s.heap.size = A at hD hZ ⊢
  have hA : ∀ q : Nat, s.heap.size ≤ q → A q := fun q h => by rw [← hAe]; exact Or.inr h
  have hS : va_S A s.heap s.heap [] := va_S.rf
  have f70 := hts (.fieldLink RX6 70 "HopCredits" "laid" "Z") (by decide +kernel)
  have iX6 : ∀ w ∈ u_ws RX6 TX6 9, w ∈ wsX6_fair := by decide +kernel
  have hl := lv_entry ([.ref x, .int p0]) (n := 6) (Nat.le_of_ble_eq_true rfl)
  rw [lg_entry_eq]
  generalize (lg_sl ([.ref x, .int p0]) ++ List.replicate (6 - (lg_sl ([.ref x, .int p0])).length) Slot.unset).toArray = ls at hl ⊢
  have hl : lv_has ls 6 [(0, .ref x), (1, .int p0)] := hl
  generalize hQ : MQ below _ _ s _ _ _ = Q
  generalize hH : s.heap = H at hP ⊢
  have hS : va_S A s.heap H [] := by rw [← hH]; exact hS
  clear hH
  refine lv_aload_n hx hb dX6_fair_0 rfl (lv_at hl 0 rfl) ?_
  refine va_get (D := D) (ci := 6) (v := .int 0) (C := RX6) (T := TX6) (N := 9) hx hb hts iX6 hown hK hP 0 rfl rfl 8 (by decide) f70 (fun _ h9 => h9) rfl dX6_fair_1 ?_
  refine lv_if_eq (tgt := 18) hx hb dX6_fair_4 (by decide) (fun _ => ?_) (fun cb => absurd (by decide) cb)
  refine lv_iconst (v := (-1)) hx hb dX6_fair_18 (by decide) ?_
  have hP9 := hP.sub (ws' := [(x, .inr (6, [.ref xt, .int tl, .ref xr, .ref xd, .ref xn, .ref xa, .ref xs, .ref xy, .int 0]))]) [0] rfl
  have hD9 := hD.sub (ws' := [(x, .inr (6, [.ref xt, .int tl, .ref xr, .ref xd, .ref xn, .ref xa, .ref xs, .ref xy, .int 0]))]) [0] (by decide) rfl
  subst hQ
  refine W.widen (k := 0) (n := 0) (Nat.le_of_ble_eq_true rfl) (Nat.le_of_ble_eq_true rfl) ?_
  exact W.iret (v := (-1)) hx hb hr (fun tS htS _ => ⟨⟨_, _, rfl, ⟨rfl, rfl⟩, by rw [htS]; exact hP9, hD9⟩, hS.F htS⟩) hS.2.2 dX6_fair_19
set_option maxHeartbeats 4000000 in
set_option maxRecDepth 100000 in
/-- learns on an object without a NET -/
theorem c_X6_learns (l : Launch) (D : va_G) (g : Nat → ClassId) (sz : Nat) (x : Nat) (xt : Nat) (tl : Int32) (xr : Nat) (xd : Nat) (xn : Nat) (xa : Nat) (xs : Nat) (xy : Nat) (p0 : Int32) (p1 : Int32) : Met l yX6_learns wsX6_learns ({ frames := 2, cells := 0, slots := 0, locals := 43 }) (va_Pc [.ref x, .int p0, .int p1] (pre D g sz [(x, .inr (6, [.ref xt, .int tl, .ref xr, .ref xd, .ref xn, .ref xa, .ref xs, .ref xy, .int 0]))])) (va_Qi (fun (r : Int32) (u : va_W) => u = [(x, .inr (6, [.ref xt, .int tl, .ref xr, .ref xd, .ref xn, .ref xa, .ref xs, .ref xy, .int 0]))] ∧ r = (-1)) (wd D (va_A [(x, .inr (6, [.ref xt, .int tl, .ref xr, .ref xd, .ref xn, .ref xa, .ref xs, .ref xy, .int 0]))] sz)) (va_A [(x, .inr (6, [.ref xt, .int tl, .ref xr, .ref xd, .ref xn, .ref xa, .ref xs, .ref xy, .int 0]))] sz)) 0 0 (va_A [(x, .inr (6, [.ref xt, .int tl, .ref xr, .ref xd, .ref xn, .ref xa, .ref xs, .ref xy, .int 0]))] sz) := by
  refine Met.ofW (cc := cX6_learns) (maxL := 6) (ret := (some .int)) (by decide) rfl ?_
  intro p e s m args below meth c s₁ B hml hv
  obtain ⟨rfl, hsz, hP, ⟨hK, hN⟩, hD0, hZ⟩ := hv
  have hx := B.exec
  have hb := B.bytes
  have hr := B.returns
  have hts := atoms_spec (ws := wsX6_learns) B.pre
  have hown : s.vm.findClass RX6 = some m.cls := findClass_of_methodNamed B.named
  have hlocks := B.notSynchronized
  clear B
  subst hsz
  have hD := hD0.self (sz := s.heap.size)
  clear hD0
  generalize hAe : va_A [(x, .inr (6, [.ref xt, .int tl, .ref xr, .ref xd, .ref xn, .ref xa, .ref xs, .ref xy, .int 0]))] s.heap.size = A at hD hZ ⊢
  have hA : ∀ q : Nat, s.heap.size ≤ q → A q := fun q h => by rw [← hAe]; exact Or.inr h
  have hS : va_S A s.heap s.heap [] := va_S.rf
  have hl := lv_entry ([.ref x, .int p0, .int p1]) (n := 6) (Nat.le_of_ble_eq_true rfl)
  rw [lg_entry_eq]
  generalize (lg_sl ([.ref x, .int p0, .int p1]) ++ List.replicate (6 - (lg_sl ([.ref x, .int p0, .int p1])).length) Slot.unset).toArray = ls at hl ⊢
  have hl : lv_has ls 6 [(0, .ref x), (1, .int p0), (2, .int p1)] := hl
  generalize hQ : MQ below _ _ s _ _ _ = Q
  generalize hH : s.heap = H at hP ⊢
  have hS : va_S A s.heap H [] := by rw [← hH]; exact hS
  clear hH
  refine lv_aload_n hx hb dX6_learns_0 rfl (lv_at hl 0 rfl) ?_
  refine lv_iload_n hx hb dX6_learns_1 rfl (lv_at hl 1 rfl) ?_
  refine lv_iload_n hx hb dX6_learns_2 rfl (lv_at hl 2 rfl) ?_
  refine ky_Vi (As := [.int p0, .int p1]) (rest := []) ⟨hx, hb, hml, hown, hts⟩ ⟨hK, hN⟩ hZ hP hD hS hA [0] [] (wc := [(x, .inr (6, [.ref xt, .int tl, .ref xr, .ref xd, .ref xn, .ref xa, .ref xs, .ref xy, .int 0]))]) (wr := []) rfl rfl rfl rfl (by decide) (c_X6_isLane l D g H.size x xt tl xr xd xn xa xs xy p0 p1) (cwV 2 hts gX6_learns_X6_isLane rfl rfl rfl (by decide +kernel) ⟨(Nat.le_of_ble_eq_true rfl), (Nat.le_of_ble_eq_true rfl)⟩) 0 6 rfl rfl rfl rfl hl.1 rfl (Nat.le_of_ble_eq_true rfl) dX6_learns_3 ⟨(Nat.le_of_ble_eq_true rfl), (Nat.le_of_ble_eq_true rfl)⟩ (fun r_1 u H locs hw hP hD hS => ?_)
  obtain ⟨rfl, rfl⟩ := hw
  have hP : va_P D vwCl [(x, .inr (6, [.ref xt, .int tl, .ref xr, .ref xd, .ref xn, .ref xa, .ref xs, .ref xy, .int 0]))] H := hP
  have hD : va_D A [(x, .inr (6, [.ref xt, .int tl, .ref xr, .ref xd, .ref xn, .ref xa, .ref xs, .ref xy, .int 0]))] := hD
  refine W.widen (k := 0) (n := 0) (Nat.le_of_ble_eq_true rfl) (Nat.le_of_ble_eq_true rfl) ?_
  refine lv_if_ne (tgt := 11) hx hb dX6_learns_6 (by decide) (fun cb => absurd (by decide) cb) (fun _ => ?_)
  refine lv_iconst (v := (-1)) hx hb dX6_learns_9 (by decide) ?_
  have hP9 := hP.sub (ws' := [(x, .inr (6, [.ref xt, .int tl, .ref xr, .ref xd, .ref xn, .ref xa, .ref xs, .ref xy, .int 0]))]) [0] rfl
  have hD9 := hD.sub (ws' := [(x, .inr (6, [.ref xt, .int tl, .ref xr, .ref xd, .ref xn, .ref xa, .ref xs, .ref xy, .int 0]))]) [0] (by decide) rfl
  subst hQ
  refine W.widen (k := 0) (n := 0) (Nat.le_of_ble_eq_true rfl) (Nat.le_of_ble_eq_true rfl) ?_
  exact W.iret (v := (-1)) hx hb hr (fun tS htS _ => ⟨⟨_, _, rfl, ⟨rfl, rfl⟩, by rw [htS]; exact hP9, hD9⟩, hS.F htS⟩) hS.2.2 dX6_learns_10
set_option maxHeartbeats 4000000 in
set_option maxRecDepth 100000 in
/-- stuck on an object without a NET -/
theorem c_X6_stuck (l : Launch) (D : va_G) (g : Nat → ClassId) (sz : Nat) (x : Nat) (xt : Nat) (tl : Int32) (xr : Nat) (xd : Nat) (xn : Nat) (xa : Nat) (xs : Nat) (xy : Nat) : Met l yX6_stuck wsX6_stuck ({ frames := 0, cells := 0, slots := 0, locals := 0 }) (va_Pc [.ref x] (pre D g sz [(x, .inr (6, [.ref xt, .int tl, .ref xr, .ref xd, .ref xn, .ref xa, .ref xs, .ref xy, .int 0]))])) (va_Qi (fun (r : Int32) (u : va_W) => u = [(x, .inr (6, [.ref xt, .int tl, .ref xr, .ref xd, .ref xn, .ref xa, .ref xs, .ref xy, .int 0]))] ∧ r = 0) (wd D (va_A [(x, .inr (6, [.ref xt, .int tl, .ref xr, .ref xd, .ref xn, .ref xa, .ref xs, .ref xy, .int 0]))] sz)) (va_A [(x, .inr (6, [.ref xt, .int tl, .ref xr, .ref xd, .ref xn, .ref xa, .ref xs, .ref xy, .int 0]))] sz)) 0 0 (va_A [(x, .inr (6, [.ref xt, .int tl, .ref xr, .ref xd, .ref xn, .ref xa, .ref xs, .ref xy, .int 0]))] sz) := by
  refine Met.ofW (cc := cX6_stuck) (maxL := 2) (ret := (some .boolean)) (by decide) rfl ?_
  intro p e s m args below meth c s₁ B hml hv
  obtain ⟨rfl, hsz, hP, ⟨hK, hN⟩, hD0, hZ⟩ := hv
  have hx := B.exec
  have hb := B.bytes
  have hr := B.returns
  have hts := atoms_spec (ws := wsX6_stuck) B.pre
  have hown : s.vm.findClass RX6 = some m.cls := findClass_of_methodNamed B.named
  have hlocks := B.notSynchronized
  clear B
  subst hsz
  have hD := hD0.self (sz := s.heap.size)
  clear hD0
  generalize hAe : va_A [(x, .inr (6, [.ref xt, .int tl, .ref xr, .ref xd, .ref xn, .ref xa, .ref xs, .ref xy, .int 0]))] s.heap.size = A at hD hZ ⊢
  have hA : ∀ q : Nat, s.heap.size ≤ q → A q := fun q h => by rw [← hAe]; exact Or.inr h
  have hS : va_S A s.heap s.heap [] := va_S.rf
  have f70 := hts (.fieldLink RX6 70 "HopCredits" "laid" "Z") (by decide +kernel)
  have iX6 : ∀ w ∈ u_ws RX6 TX6 9, w ∈ wsX6_stuck := by decide +kernel
  have hl := lv_entry ([.ref x]) (n := 2) (Nat.le_of_ble_eq_true rfl)
  rw [lg_entry_eq]
  generalize (lg_sl ([.ref x]) ++ List.replicate (2 - (lg_sl ([.ref x])).length) Slot.unset).toArray = ls at hl ⊢
  have hl : lv_has ls 2 [(0, .ref x)] := hl
  generalize hQ : MQ below _ _ s _ _ _ = Q
  generalize hH : s.heap = H at hP ⊢
  have hS : va_S A s.heap H [] := by rw [← hH]; exact hS
  clear hH
  refine lv_aload_n hx hb dX6_stuck_0 rfl (lv_at hl 0 rfl) ?_
  refine va_get (D := D) (ci := 6) (v := .int 0) (C := RX6) (T := TX6) (N := 9) hx hb hts iX6 hown hK hP 0 rfl rfl 8 (by decide) f70 (fun _ h9 => h9) rfl dX6_stuck_1 ?_
  refine lv_if_eq (tgt := 17) hx hb dX6_stuck_4 (by decide) (fun _ => ?_) (fun cb => absurd (by decide) cb)
  refine lv_iconst (v := 0) hx hb dX6_stuck_17 (by decide) ?_
  have hP9 := hP.sub (ws' := [(x, .inr (6, [.ref xt, .int tl, .ref xr, .ref xd, .ref xn, .ref xa, .ref xs, .ref xy, .int 0]))]) [0] rfl
  have hD9 := hD.sub (ws' := [(x, .inr (6, [.ref xt, .int tl, .ref xr, .ref xd, .ref xn, .ref xa, .ref xs, .ref xy, .int 0]))]) [0] (by decide) rfl
  subst hQ
  refine W.widen (k := 0) (n := 0) (Nat.le_of_ble_eq_true rfl) (Nat.le_of_ble_eq_true rfl) ?_
  exact W.zret (v := 0) (ty := .boolean) hx hb hr (rfl) (fun tS htS _ => ⟨⟨_, _, rfl, ⟨rfl, rfl⟩, by rw [htS]; exact hP9, hD9⟩, hS.F htS⟩) hS.2.2 dX6_stuck_18
set_option maxHeartbeats 4000000 in
set_option maxRecDepth 100000 in
/-- would on an object without a NET -/
theorem c_X6_would (l : Launch) (D : va_G) (g : Nat → ClassId) (sz : Nat) (x : Nat) (xt : Nat) (tl : Int32) (xr : Nat) (xd : Nat) (xn : Nat) (xa : Nat) (xs : Nat) (xy : Nat) (p0 : Int32) (p1 : Int32) (p2 : Int32) (p3 : Int32) : Met l yX6_would wsX6_would ({ frames := 3, cells := 0, slots := 0, locals := 67 }) (va_Pc [.ref x, .int p0, .int p1, .int p2, .int p3] (pre D g sz [(x, .inr (6, [.ref xt, .int tl, .ref xr, .ref xd, .ref xn, .ref xa, .ref xs, .ref xy, .int 0]))])) (va_Qi (fun (r : Int32) (u : va_W) => u = [(x, .inr (6, [.ref xt, .int tl, .ref xr, .ref xd, .ref xn, .ref xa, .ref xs, .ref xy, .int 0]))] ∧ r = (-1)) (wd D (va_A [(x, .inr (6, [.ref xt, .int tl, .ref xr, .ref xd, .ref xn, .ref xa, .ref xs, .ref xy, .int 0]))] sz)) (va_A [(x, .inr (6, [.ref xt, .int tl, .ref xr, .ref xd, .ref xn, .ref xa, .ref xs, .ref xy, .int 0]))] sz)) 0 0 (va_A [(x, .inr (6, [.ref xt, .int tl, .ref xr, .ref xd, .ref xn, .ref xa, .ref xs, .ref xy, .int 0]))] sz) := by
  refine Met.ofW (cc := cX6_would) (maxL := 5) (ret := (some .int)) (by decide) rfl ?_
  intro p e s m args below meth c s₁ B hml hv
  obtain ⟨rfl, hsz, hP, ⟨hK, hN⟩, hD0, hZ⟩ := hv
  have hx := B.exec
  have hb := B.bytes
  have hr := B.returns
  have hts := atoms_spec (ws := wsX6_would) B.pre
  have hown : s.vm.findClass RX6 = some m.cls := findClass_of_methodNamed B.named
  have hlocks := B.notSynchronized
  clear B
  subst hsz
  have hD := hD0.self (sz := s.heap.size)
  clear hD0
  generalize hAe : va_A [(x, .inr (6, [.ref xt, .int tl, .ref xr, .ref xd, .ref xn, .ref xa, .ref xs, .ref xy, .int 0]))] s.heap.size = A at hD hZ ⊢
  have hA : ∀ q : Nat, s.heap.size ≤ q → A q := fun q h => by rw [← hAe]; exact Or.inr h
  have hS : va_S A s.heap s.heap [] := va_S.rf
  have hl := lv_entry ([.ref x, .int p0, .int p1, .int p2, .int p3]) (n := 5) (Nat.le_of_ble_eq_true rfl)
  rw [lg_entry_eq]
  generalize (lg_sl ([.ref x, .int p0, .int p1, .int p2, .int p3]) ++ List.replicate (5 - (lg_sl ([.ref x, .int p0, .int p1, .int p2, .int p3])).length) Slot.unset).toArray = ls at hl ⊢
  have hl : lv_has ls 5 [(0, .ref x), (1, .int p0), (2, .int p1), (3, .int p2), (4, .int p3)] := hl
  generalize hQ : MQ below _ _ s _ _ _ = Q
  generalize hH : s.heap = H at hP ⊢
  have hS : va_S A s.heap H [] := by rw [← hH]; exact hS
  clear hH
  refine lv_aload_n hx hb dX6_would_0 rfl (lv_at hl 0 rfl) ?_
  refine lv_iload_n hx hb dX6_would_1 rfl (lv_at hl 1 rfl) ?_
  refine lv_iload_n hx hb dX6_would_2 rfl (lv_at hl 2 rfl) ?_
  refine lv_iload_n hx hb dX6_would_3 rfl (lv_at hl 3 rfl) ?_
  refine ky_Vi (As := [.int p0, .int p1, .int p2]) (rest := []) ⟨hx, hb, hml, hown, hts⟩ ⟨hK, hN⟩ hZ hP hD hS hA [0] [] (wc := [(x, .inr (6, [.ref xt, .int tl, .ref xr, .ref xd, .ref xn, .ref xa, .ref xs, .ref xy, .int 0]))]) (wr := []) rfl rfl rfl rfl (by decide) (c_X6_zoneRefusal l D g H.size x xt tl xr xd xn xa xs xy p0 p1 p2) (cwV 3 hts gX6_would_X6_zoneRefusal rfl rfl rfl (by decide +kernel) ⟨(Nat.le_of_ble_eq_true rfl), (Nat.le_of_ble_eq_true rfl)⟩) 0 6 rfl rfl rfl rfl hl.1 rfl (Nat.le_of_ble_eq_true rfl) dX6_would_4 ⟨(Nat.le_of_ble_eq_true rfl), (Nat.le_of_ble_eq_true rfl)⟩ (fun r_1 u H locs hw hP hD hS => ?_)
  obtain ⟨rfl, rfl⟩ := hw
  have hP : va_P D vwCl [(x, .inr (6, [.ref xt, .int tl, .ref xr, .ref xd, .ref xn, .ref xa, .ref xs, .ref xy, .int 0]))] H := hP
  have hD : va_D A [(x, .inr (6, [.ref xt, .int tl, .ref xr, .ref xd, .ref xn, .ref xa, .ref xs, .ref xy, .int 0]))] := hD
  refine W.widen (k := 0) (n := 0) (Nat.le_of_ble_eq_true rfl) (Nat.le_of_ble_eq_true rfl) ?_
  refine lv_iconst (v := (-1)) hx hb dX6_would_7 (by decide) ?_
  refine lv_icmp_ne (tgt := 23) hx hb dX6_would_8 (by decide) (fun _ => ?_) (fun cb => absurd cb (by decide))
  refine lv_iconst (v := (-1)) hx hb dX6_would_23 (by decide) ?_
  have hP9 := hP.sub (ws' := [(x, .inr (6, [.ref xt, .int tl, .ref xr, .ref xd, .ref xn, .ref xa, .ref xs, .ref xy, .int 0]))]) [0] rfl
  have hD9 := hD.sub (ws' := [(x, .inr (6, [.ref xt, .int tl, .ref xr, .ref xd, .ref xn, .ref xa, .ref xs, .ref xy, .int 0]))]) [0] (by decide) rfl
  subst hQ
  refine W.widen (k := 0) (n := 0) (Nat.le_of_ble_eq_true rfl) (Nat.le_of_ble_eq_true rfl) ?_
  exact W.iret (v := (-1)) hx hb hr (fun tS htS _ => ⟨⟨_, _, rfl, ⟨rfl, rfl⟩, by rw [htS]; exact hP9, hD9⟩, hS.F htS⟩) hS.2.2 dX6_would_24
set_option maxHeartbeats 4000000 in
set_option maxRecDepth 100000 in
/-- bestZone on an object without a NET -/
theorem c_X6_bestZone (l : Launch) (D : va_G) (g : Nat → ClassId) (sz : Nat) (x : Nat) (xt : Nat) (tl : Int32) (xr : Nat) (xd : Nat) (xn : Nat) (xa : Nat) (xs : Nat) (xy : Nat) (p0 : Int32) (p1 : Int32) (p2 : Int32) : Met l yX6_bestZone wsX6_bestZone ({ frames := 2, cells := 0, slots := 0, locals := 43 }) (va_Pc [.ref x, .int p0, .int p1, .int p2] (pre D g sz [(x, .inr (6, [.ref xt, .int tl, .ref xr, .ref xd, .ref xn, .ref xa, .ref xs, .ref xy, .int 0]))])) (va_Qi (fun (r : Int32) (u : va_W) => u = [(x, .inr (6, [.ref xt, .int tl, .ref xr, .ref xd, .ref xn, .ref xa, .ref xs, .ref xy, .int 0]))] ∧ r = (-1)) (wd D (va_A [(x, .inr (6, [.ref xt, .int tl, .ref xr, .ref xd, .ref xn, .ref xa, .ref xs, .ref xy, .int 0]))] sz)) (va_A [(x, .inr (6, [.ref xt, .int tl, .ref xr, .ref xd, .ref xn, .ref xa, .ref xs, .ref xy, .int 0]))] sz)) 0 0 (va_A [(x, .inr (6, [.ref xt, .int tl, .ref xr, .ref xd, .ref xn, .ref xa, .ref xs, .ref xy, .int 0]))] sz) := by
  refine Met.ofW (cc := cX6_bestZone) (maxL := 9) (ret := (some .int)) (by decide) rfl ?_
  intro p e s m args below meth c s₁ B hml hv
  obtain ⟨rfl, hsz, hP, ⟨hK, hN⟩, hD0, hZ⟩ := hv
  have hx := B.exec
  have hb := B.bytes
  have hr := B.returns
  have hts := atoms_spec (ws := wsX6_bestZone) B.pre
  have hown : s.vm.findClass RX6 = some m.cls := findClass_of_methodNamed B.named
  have hlocks := B.notSynchronized
  clear B
  subst hsz
  have hD := hD0.self (sz := s.heap.size)
  clear hD0
  generalize hAe : va_A [(x, .inr (6, [.ref xt, .int tl, .ref xr, .ref xd, .ref xn, .ref xa, .ref xs, .ref xy, .int 0]))] s.heap.size = A at hD hZ ⊢
  have hA : ∀ q : Nat, s.heap.size ≤ q → A q := fun q h => by rw [← hAe]; exact Or.inr h
  have hS : va_S A s.heap s.heap [] := va_S.rf
  have hl := lv_entry ([.ref x, .int p0, .int p1, .int p2]) (n := 9) (Nat.le_of_ble_eq_true rfl)
  rw [lg_entry_eq]
  generalize (lg_sl ([.ref x, .int p0, .int p1, .int p2]) ++ List.replicate (9 - (lg_sl ([.ref x, .int p0, .int p1, .int p2])).length) Slot.unset).toArray = ls at hl ⊢
  have hl : lv_has ls 9 [(0, .ref x), (1, .int p0), (2, .int p1), (3, .int p2)] := hl
  generalize hQ : MQ below _ _ s _ _ _ = Q
  generalize hH : s.heap = H at hP ⊢
  have hS : va_S A s.heap H [] := by rw [← hH]; exact hS
  clear hH
  refine lv_aload_n hx hb dX6_bestZone_0 rfl (lv_at hl 0 rfl) ?_
  refine lv_iload_n hx hb dX6_bestZone_1 rfl (lv_at hl 1 rfl) ?_
  refine lv_iload_n hx hb dX6_bestZone_2 rfl (lv_at hl 2 rfl) ?_
  refine ky_Vi (As := [.int p0, .int p1]) (rest := []) ⟨hx, hb, hml, hown, hts⟩ ⟨hK, hN⟩ hZ hP hD hS hA [0] [] (wc := [(x, .inr (6, [.ref xt, .int tl, .ref xr, .ref xd, .ref xn, .ref xa, .ref xs, .ref xy, .int 0]))]) (wr := []) rfl rfl rfl rfl (by decide) (c_X6_isLane l D g H.size x xt tl xr xd xn xa xs xy p0 p1) (cwV 2 hts gX6_bestZone_X6_isLane rfl rfl rfl (by decide +kernel) ⟨(Nat.le_of_ble_eq_true rfl), (Nat.le_of_ble_eq_true rfl)⟩) 0 6 rfl rfl rfl rfl hl.1 rfl (Nat.le_of_ble_eq_true rfl) dX6_bestZone_3 ⟨(Nat.le_of_ble_eq_true rfl), (Nat.le_of_ble_eq_true rfl)⟩ (fun r_1 u H locs hw hP hD hS => ?_)
  obtain ⟨rfl, rfl⟩ := hw
  have hP : va_P D vwCl [(x, .inr (6, [.ref xt, .int tl, .ref xr, .ref xd, .ref xn, .ref xa, .ref xs, .ref xy, .int 0]))] H := hP
  have hD : va_D A [(x, .inr (6, [.ref xt, .int tl, .ref xr, .ref xd, .ref xn, .ref xa, .ref xs, .ref xy, .int 0]))] := hD
  refine W.widen (k := 0) (n := 0) (Nat.le_of_ble_eq_true rfl) (Nat.le_of_ble_eq_true rfl) ?_
  refine lv_if_eq (tgt := 19) hx hb dX6_bestZone_6 (by decide) (fun _ => ?_) (fun cb => absurd (by decide) cb)
  refine lv_iconst (v := (-1)) hx hb dX6_bestZone_19 (by decide) ?_
  have hP9 := hP.sub (ws' := [(x, .inr (6, [.ref xt, .int tl, .ref xr, .ref xd, .ref xn, .ref xa, .ref xs, .ref xy, .int 0]))]) [0] rfl
  have hD9 := hD.sub (ws' := [(x, .inr (6, [.ref xt, .int tl, .ref xr, .ref xd, .ref xn, .ref xa, .ref xs, .ref xy, .int 0]))]) [0] (by decide) rfl
  subst hQ
  refine W.widen (k := 0) (n := 0) (Nat.le_of_ble_eq_true rfl) (Nat.le_of_ble_eq_true rfl) ?_
  exact W.iret (v := (-1)) hx hb hr (fun tS htS _ => ⟨⟨_, _, rfl, ⟨rfl, rfl⟩, by rw [htS]; exact hP9, hD9⟩, hS.F htS⟩) hS.2.2 dX6_bestZone_20
set_option maxHeartbeats 4000000 in
set_option maxRecDepth 100000 in
/-- bears on an object without a NET -/
theorem c_X6_bears (l : Launch) (D : va_G) (g : Nat → ClassId) (sz : Nat) (x : Nat) (xt : Nat) (tl : Int32) (xr : Nat) (xd : Nat) (xn : Nat) (xa : Nat) (xs : Nat) (xy : Nat) (p0 : Int32) : Met l yX6_bears wsX6_bears ({ frames := 0, cells := 0, slots := 0, locals := 0 }) (va_Pc [.ref x, .int p0] (pre D g sz [(x, .inr (6, [.ref xt, .int tl, .ref xr, .ref xd, .ref xn, .ref xa, .ref xs, .ref xy, .int 0]))])) (va_Qi (fun (r : Int32) (u : va_W) => u = [(x, .inr (6, [.ref xt, .int tl, .ref xr, .ref xd, .ref xn, .ref xa, .ref xs, .ref xy, .int 0]))] ∧ r = (-1)) (wd D (va_A [(x, .inr (6, [.ref xt, .int tl, .ref xr, .ref xd, .ref xn, .ref xa, .ref xs, .ref xy, .int 0]))] sz)) (va_A [(x, .inr (6, [.ref xt, .int tl, .ref xr, .ref xd, .ref xn, .ref xa, .ref xs, .ref xy, .int 0]))] sz)) 0 0 (va_A [(x, .inr (6, [.ref xt, .int tl, .ref xr, .ref xd, .ref xn, .ref xa, .ref xs, .ref xy, .int 0]))] sz) := by
  refine Met.ofW (cc := cX6_bears) (maxL := 4) (ret := (some .int)) (by decide) rfl ?_
  intro p e s m args below meth c s₁ B hml hv
  obtain ⟨rfl, hsz, hP, ⟨hK, hN⟩, hD0, hZ⟩ := hv
  have hx := B.exec
  have hb := B.bytes
  have hr := B.returns
  have hts := atoms_spec (ws := wsX6_bears) B.pre
  have hown : s.vm.findClass RX6 = some m.cls := findClass_of_methodNamed B.named
  have hlocks := B.notSynchronized
  clear B
  subst hsz
  have hD := hD0.self (sz := s.heap.size)
  clear hD0
  generalize hAe : va_A [(x, .inr (6, [.ref xt, .int tl, .ref xr, .ref xd, .ref xn, .ref xa, .ref xs, .ref xy, .int 0]))] s.heap.size = A at hD hZ ⊢
  have hA : ∀ q : Nat, s.heap.size ≤ q → A q := fun q h => by rw [← hAe]; exact Or.inr h
  have hS : va_S A s.heap s.heap [] := va_S.rf
  have f70 := hts (.fieldLink RX6 70 "HopCredits" "laid" "Z") (by decide +kernel)
  have iX6 : ∀ w ∈ u_ws RX6 TX6 9, w ∈ wsX6_bears := by decide +kernel
  have hl := lv_entry ([.ref x, .int p0]) (n := 4) (Nat.le_of_ble_eq_true rfl)
  rw [lg_entry_eq]
  generalize (lg_sl ([.ref x, .int p0]) ++ List.replicate (4 - (lg_sl ([.ref x, .int p0])).length) Slot.unset).toArray = ls at hl ⊢
  have hl : lv_has ls 4 [(0, .ref x), (1, .int p0)] := hl
  generalize hQ : MQ below _ _ s _ _ _ = Q
  generalize hH : s.heap = H at hP ⊢
  have hS : va_S A s.heap H [] := by rw [← hH]; exact hS
  clear hH
  refine lv_aload_n hx hb dX6_bears_0 rfl (lv_at hl 0 rfl) ?_
  refine va_get (D := D) (ci := 6) (v := .int 0) (C := RX6) (T := TX6) (N := 9) hx hb hts iX6 hown hK hP 0 rfl rfl 8 (by decide) f70 (fun _ h9 => h9) rfl dX6_bears_1 ?_
  refine lv_if_eq (tgt := 18) hx hb dX6_bears_4 (by decide) (fun _ => ?_) (fun cb => absurd (by decide) cb)
  refine lv_iconst (v := (-1)) hx hb dX6_bears_18 (by decide) ?_
  have hP9 := hP.sub (ws' := [(x, .inr (6, [.ref xt, .int tl, .ref xr, .ref xd, .ref xn, .ref xa, .ref xs, .ref xy, .int 0]))]) [0] rfl
  have hD9 := hD.sub (ws' := [(x, .inr (6, [.ref xt, .int tl, .ref xr, .ref xd, .ref xn, .ref xa, .ref xs, .ref xy, .int 0]))]) [0] (by decide) rfl
  subst hQ
  refine W.widen (k := 0) (n := 0) (Nat.le_of_ble_eq_true rfl) (Nat.le_of_ble_eq_true rfl) ?_
  exact W.iret (v := (-1)) hx hb hr (fun tS htS _ => ⟨⟨_, _, rfl, ⟨rfl, rfl⟩, by rw [htS]; exact hP9, hD9⟩, hS.F htS⟩) hS.2.2 dX6_bears_19
set_option maxHeartbeats 4000000 in
set_option maxRecDepth 100000 in
/-- waits on an object without a NET -/
theorem c_X6_waits (l : Launch) (D : va_G) (g : Nat → ClassId) (sz : Nat) (x : Nat) (xt : Nat) (tl : Int32) (xr : Nat) (xd : Nat) (xn : Nat) (xa : Nat) (xs : Nat) (xy : Nat) (p0 : Int32) (p1 : Int32) (p2 : Int32) : Met l yX6_waits wsX6_waits ({ frames := 2, cells := 0, slots := 0, locals := 43 }) (va_Pc [.ref x, .int p0, .int p1, .int p2] (pre D g sz [(x, .inr (6, [.ref xt, .int tl, .ref xr, .ref xd, .ref xn, .ref xa, .ref xs, .ref xy, .int 0]))])) (va_Qi (fun (r : Int32) (u : va_W) => u = [(x, .inr (6, [.ref xt, .int tl, .ref xr, .ref xd, .ref xn, .ref xa, .ref xs, .ref xy, .int 0]))] ∧ r = (-1)) (wd D (va_A [(x, .inr (6, [.ref xt, .int tl, .ref xr, .ref xd, .ref xn, .ref xa, .ref xs, .ref xy, .int 0]))] sz)) (va_A [(x, .inr (6, [.ref xt, .int tl, .ref xr, .ref xd, .ref xn, .ref xa, .ref xs, .ref xy, .int 0]))] sz)) 0 0 (va_A [(x, .inr (6, [.ref xt, .int tl, .ref xr, .ref xd, .ref xn, .ref xa, .ref xs, .ref xy, .int 0]))] sz) := by
  refine Met.ofW (cc := cX6_waits) (maxL := 4) (ret := (some .int)) (by decide) rfl ?_
  intro p e s m args below meth c s₁ B hml hv
  obtain ⟨rfl, hsz, hP, ⟨hK, hN⟩, hD0, hZ⟩ := hv
  have hx := B.exec
  have hb := B.bytes
  have hr := B.returns
  have hts := atoms_spec (ws := wsX6_waits) B.pre
  have hown : s.vm.findClass RX6 = some m.cls := findClass_of_methodNamed B.named
  have hlocks := B.notSynchronized
  clear B
  subst hsz
  have hD := hD0.self (sz := s.heap.size)
  clear hD0
  generalize hAe : va_A [(x, .inr (6, [.ref xt, .int tl, .ref xr, .ref xd, .ref xn, .ref xa, .ref xs, .ref xy, .int 0]))] s.heap.size = A at hD hZ ⊢
  have hA : ∀ q : Nat, s.heap.size ≤ q → A q := fun q h => by rw [← hAe]; exact Or.inr h
  have hS : va_S A s.heap s.heap [] := va_S.rf
  have hl := lv_entry ([.ref x, .int p0, .int p1, .int p2]) (n := 4) (Nat.le_of_ble_eq_true rfl)
  rw [lg_entry_eq]
  generalize (lg_sl ([.ref x, .int p0, .int p1, .int p2]) ++ List.replicate (4 - (lg_sl ([.ref x, .int p0, .int p1, .int p2])).length) Slot.unset).toArray = ls at hl ⊢
  have hl : lv_has ls 4 [(0, .ref x), (1, .int p0), (2, .int p1), (3, .int p2)] := hl
  generalize hQ : MQ below _ _ s _ _ _ = Q
  generalize hH : s.heap = H at hP ⊢
  have hS : va_S A s.heap H [] := by rw [← hH]; exact hS
  clear hH
  refine lv_aload_n hx hb dX6_waits_0 rfl (lv_at hl 0 rfl) ?_
  refine lv_iload_n hx hb dX6_waits_1 rfl (lv_at hl 1 rfl) ?_
  refine lv_iload_n hx hb dX6_waits_2 rfl (lv_at hl 2 rfl) ?_
  refine ky_Vi (As := [.int p0, .int p1]) (rest := []) ⟨hx, hb, hml, hown, hts⟩ ⟨hK, hN⟩ hZ hP hD hS hA [0] [] (wc := [(x, .inr (6, [.ref xt, .int tl, .ref xr, .ref xd, .ref xn, .ref xa, .ref xs, .ref xy, .int 0]))]) (wr := []) rfl rfl rfl rfl (by decide) (c_X6_isLane l D g H.size x xt tl xr xd xn xa xs xy p0 p1) (cwV 2 hts gX6_waits_X6_isLane rfl rfl rfl (by decide +kernel) ⟨(Nat.le_of_ble_eq_true rfl), (Nat.le_of_ble_eq_true rfl)⟩) 0 6 rfl rfl rfl rfl hl.1 rfl (Nat.le_of_ble_eq_true rfl) dX6_waits_3 ⟨(Nat.le_of_ble_eq_true rfl), (Nat.le_of_ble_eq_true rfl)⟩ (fun r_1 u H locs hw hP hD hS => ?_)
  obtain ⟨rfl, rfl⟩ := hw
  have hP : va_P D vwCl [(x, .inr (6, [.ref xt, .int tl, .ref xr, .ref xd, .ref xn, .ref xa, .ref xs, .ref xy, .int 0]))] H := hP
  have hD : va_D A [(x, .inr (6, [.ref xt, .int tl, .ref xr, .ref xd, .ref xn, .ref xa, .ref xs, .ref xy, .int 0]))] := hD
  refine W.widen (k := 0) (n := 0) (Nat.le_of_ble_eq_true rfl) (Nat.le_of_ble_eq_true rfl) ?_
  refine lv_if_eq (tgt := 20) hx hb dX6_waits_6 (by decide) (fun _ => ?_) (fun cb => absurd (by decide) cb)
  refine lv_iconst (v := (-1)) hx hb dX6_waits_20 (by decide) ?_
  have hP9 := hP.sub (ws' := [(x, .inr (6, [.ref xt, .int tl, .ref xr, .ref xd, .ref xn, .ref xa, .ref xs, .ref xy, .int 0]))]) [0] rfl
  have hD9 := hD.sub (ws' := [(x, .inr (6, [.ref xt, .int tl, .ref xr, .ref xd, .ref xn, .ref xa, .ref xs, .ref xy, .int 0]))]) [0] (by decide) rfl
  subst hQ
  refine W.widen (k := 0) (n := 0) (Nat.le_of_ble_eq_true rfl) (Nat.le_of_ble_eq_true rfl) ?_
  exact W.iret (v := (-1)) hx hb hr (fun tS htS _ => ⟨⟨_, _, rfl, ⟨rfl, rfl⟩, by rw [htS]; exact hP9, hD9⟩, hS.F htS⟩) hS.2.2 dX6_waits_21
set_option maxHeartbeats 4000000 in
set_option maxRecDepth 100000 in
/-- worst on an object without a NET -/
theorem c_X6_worst (l : Launch) (D : va_G) (g : Nat → ClassId) (sz : Nat) (x : Nat) (xt : Nat) (tl : Int32) (xr : Nat) (xd : Nat) (xn : Nat) (xa : Nat) (xs : Nat) (xy : Nat) (p0 : Int32) (p1 : Int32) : Met l yX6_worst wsX6_worst ({ frames := 1, cells := 0, slots := 0, locals := 21 }) (va_Pc [.ref x, .int p0, .int p1] (pre D g sz [(x, .inr (6, [.ref xt, .int tl, .ref xr, .ref xd, .ref xn, .ref xa, .ref xs, .ref xy, .int 0]))])) (va_Qi (fun (r : Int32) (u : va_W) => u = [(x, .inr (6, [.ref xt, .int tl, .ref xr, .ref xd, .ref xn, .ref xa, .ref xs, .ref xy, .int 0]))] ∧ r = (-1)) (wd D (va_A [(x, .inr (6, [.ref xt, .int tl, .ref xr, .ref xd, .ref xn, .ref xa, .ref xs, .ref xy, .int 0]))] sz)) (va_A [(x, .inr (6, [.ref xt, .int tl, .ref xr, .ref xd, .ref xn, .ref xa, .ref xs, .ref xy, .int 0]))] sz)) 0 0 (va_A [(x, .inr (6, [.ref xt, .int tl, .ref xr, .ref xd, .ref xn, .ref xa, .ref xs, .ref xy, .int 0]))] sz) := by
  refine Met.ofW (cc := cX6_worst) (maxL := 6) (ret := (some .int)) (by decide) rfl ?_
  intro p e s m args below meth c s₁ B hml hv
  obtain ⟨rfl, hsz, hP, ⟨hK, hN⟩, hD0, hZ⟩ := hv
  have hx := B.exec
  have hb := B.bytes
  have hr := B.returns
  have hts := atoms_spec (ws := wsX6_worst) B.pre
  have hown : s.vm.findClass RX6 = some m.cls := findClass_of_methodNamed B.named
  have hlocks := B.notSynchronized
  clear B
  subst hsz
  have hD := hD0.self (sz := s.heap.size)
  clear hD0
  generalize hAe : va_A [(x, .inr (6, [.ref xt, .int tl, .ref xr, .ref xd, .ref xn, .ref xa, .ref xs, .ref xy, .int 0]))] s.heap.size = A at hD hZ ⊢
  have hA : ∀ q : Nat, s.heap.size ≤ q → A q := fun q h => by rw [← hAe]; exact Or.inr h
  have hS : va_S A s.heap s.heap [] := va_S.rf
  have hl := lv_entry ([.ref x, .int p0, .int p1]) (n := 6) (Nat.le_of_ble_eq_true rfl)
  rw [lg_entry_eq]
  generalize (lg_sl ([.ref x, .int p0, .int p1]) ++ List.replicate (6 - (lg_sl ([.ref x, .int p0, .int p1])).length) Slot.unset).toArray = ls at hl ⊢
  have hl : lv_has ls 6 [(0, .ref x), (1, .int p0), (2, .int p1)] := hl
  generalize hQ : MQ below _ _ s _ _ _ = Q
  generalize hH : s.heap = H at hP ⊢
  have hS : va_S A s.heap H [] := by rw [← hH]; exact hS
  clear hH
  refine lv_aload_n hx hb dX6_worst_0 rfl (lv_at hl 0 rfl) ?_
  refine lv_iload_n hx hb dX6_worst_1 rfl (lv_at hl 1 rfl) ?_
  refine ky_Vi (As := [.int p0]) (rest := []) ⟨hx, hb, hml, hown, hts⟩ ⟨hK, hN⟩ hZ hP hD hS hA [0] [] (wc := [(x, .inr (6, [.ref xt, .int tl, .ref xr, .ref xd, .ref xn, .ref xa, .ref xs, .ref xy, .int 0]))]) (wr := []) rfl rfl rfl rfl (by decide) (c_X6_isCircuit l D g H.size x xt tl xr xd xn xa xs xy p0) (cwV 1 hts gX6_worst_X6_isCircuit rfl rfl rfl (by decide +kernel) ⟨(Nat.le_of_ble_eq_true rfl), (Nat.le_of_ble_eq_true rfl)⟩) 0 6 rfl rfl rfl rfl hl.1 rfl (Nat.le_of_ble_eq_true rfl) dX6_worst_2 ⟨(Nat.le_of_ble_eq_true rfl), (Nat.le_of_ble_eq_true rfl)⟩ (fun r_1 u H locs hw hP hD hS => ?_)
  obtain ⟨rfl, rfl⟩ := hw
  have hP : va_P D vwCl [(x, .inr (6, [.ref xt, .int tl, .ref xr, .ref xd, .ref xn, .ref xa, .ref xs, .ref xy, .int 0]))] H := hP
  have hD : va_D A [(x, .inr (6, [.ref xt, .int tl, .ref xr, .ref xd, .ref xn, .ref xa, .ref xs, .ref xy, .int 0]))] := hD
  refine W.widen (k := 0) (n := 0) (Nat.le_of_ble_eq_true rfl) (Nat.le_of_ble_eq_true rfl) ?_
  refine lv_if_eq (tgt := 19) hx hb dX6_worst_5 (by decide) (fun _ => ?_) (fun cb => absurd (by decide) cb)
  refine lv_iconst (v := (-1)) hx hb dX6_worst_19 (by decide) ?_
  have hP9 := hP.sub (ws' := [(x, .inr (6, [.ref xt, .int tl, .ref xr, .ref xd, .ref xn, .ref xa, .ref xs, .ref xy, .int 0]))]) [0] rfl
  have hD9 := hD.sub (ws' := [(x, .inr (6, [.ref xt, .int tl, .ref xr, .ref xd, .ref xn, .ref xa, .ref xs, .ref xy, .int 0]))]) [0] (by decide) rfl
  subst hQ
  refine W.widen (k := 0) (n := 0) (Nat.le_of_ble_eq_true rfl) (Nat.le_of_ble_eq_true rfl) ?_
  exact W.iret (v := (-1)) hx hb hr (fun tS htS _ => ⟨⟨_, _, rfl, ⟨rfl, rfl⟩, by rw [htS]; exact hP9, hD9⟩, hS.F htS⟩) hS.2.2 dX6_worst_20
set_option maxHeartbeats 4000000 in
set_option maxRecDepth 100000 in
/-- busiest on an object without a NET -/
theorem c_X6_busiest (l : Launch) (D : va_G) (g : Nat → ClassId) (sz : Nat) (x : Nat) (xt : Nat) (tl : Int32) (xr : Nat) (xd : Nat) (xn : Nat) (xa : Nat) (xs : Nat) (xy : Nat) (p0 : Int32) : Met l yX6_busiest wsX6_busiest ({ frames := 0, cells := 0, slots := 0, locals := 0 }) (va_Pc [.ref x, .int p0] (pre D g sz [(x, .inr (6, [.ref xt, .int tl, .ref xr, .ref xd, .ref xn, .ref xa, .ref xs, .ref xy, .int 0]))])) (va_Qi (fun (r : Int32) (u : va_W) => u = [(x, .inr (6, [.ref xt, .int tl, .ref xr, .ref xd, .ref xn, .ref xa, .ref xs, .ref xy, .int 0]))] ∧ r = (-1)) (wd D (va_A [(x, .inr (6, [.ref xt, .int tl, .ref xr, .ref xd, .ref xn, .ref xa, .ref xs, .ref xy, .int 0]))] sz)) (va_A [(x, .inr (6, [.ref xt, .int tl, .ref xr, .ref xd, .ref xn, .ref xa, .ref xs, .ref xy, .int 0]))] sz)) 0 0 (va_A [(x, .inr (6, [.ref xt, .int tl, .ref xr, .ref xd, .ref xn, .ref xa, .ref xs, .ref xy, .int 0]))] sz) := by
  refine Met.ofW (cc := cX6_busiest) (maxL := 4) (ret := (some .int)) (by decide) rfl ?_
  intro p e s m args below meth c s₁ B hml hv
  obtain ⟨rfl, hsz, hP, ⟨hK, hN⟩, hD0, hZ⟩ := hv
  have hx := B.exec
  have hb := B.bytes
  have hr := B.returns
  have hts := atoms_spec (ws := wsX6_busiest) B.pre
  have hown : s.vm.findClass RX6 = some m.cls := findClass_of_methodNamed B.named
  have hlocks := B.notSynchronized
  clear B
  subst hsz
  have hD := hD0.self (sz := s.heap.size)
  clear hD0
  generalize hAe : va_A [(x, .inr (6, [.ref xt, .int tl, .ref xr, .ref xd, .ref xn, .ref xa, .ref xs, .ref xy, .int 0]))] s.heap.size = A at hD hZ ⊢
  have hA : ∀ q : Nat, s.heap.size ≤ q → A q := fun q h => by rw [← hAe]; exact Or.inr h
  have hS : va_S A s.heap s.heap [] := va_S.rf
  have f70 := hts (.fieldLink RX6 70 "HopCredits" "laid" "Z") (by decide +kernel)
  have iX6 : ∀ w ∈ u_ws RX6 TX6 9, w ∈ wsX6_busiest := by decide +kernel
  have hl := lv_entry ([.ref x, .int p0]) (n := 4) (Nat.le_of_ble_eq_true rfl)
  rw [lg_entry_eq]
  generalize (lg_sl ([.ref x, .int p0]) ++ List.replicate (4 - (lg_sl ([.ref x, .int p0])).length) Slot.unset).toArray = ls at hl ⊢
  have hl : lv_has ls 4 [(0, .ref x), (1, .int p0)] := hl
  generalize hQ : MQ below _ _ s _ _ _ = Q
  generalize hH : s.heap = H at hP ⊢
  have hS : va_S A s.heap H [] := by rw [← hH]; exact hS
  clear hH
  refine lv_aload_n hx hb dX6_busiest_0 rfl (lv_at hl 0 rfl) ?_
  refine va_get (D := D) (ci := 6) (v := .int 0) (C := RX6) (T := TX6) (N := 9) hx hb hts iX6 hown hK hP 0 rfl rfl 8 (by decide) f70 (fun _ h9 => h9) rfl dX6_busiest_1 ?_
  refine lv_if_eq (tgt := 18) hx hb dX6_busiest_4 (by decide) (fun _ => ?_) (fun cb => absurd (by decide) cb)
  refine lv_iconst (v := (-1)) hx hb dX6_busiest_18 (by decide) ?_
  have hP9 := hP.sub (ws' := [(x, .inr (6, [.ref xt, .int tl, .ref xr, .ref xd, .ref xn, .ref xa, .ref xs, .ref xy, .int 0]))]) [0] rfl
  have hD9 := hD.sub (ws' := [(x, .inr (6, [.ref xt, .int tl, .ref xr, .ref xd, .ref xn, .ref xa, .ref xs, .ref xy, .int 0]))]) [0] (by decide) rfl
  subst hQ
  refine W.widen (k := 0) (n := 0) (Nat.le_of_ble_eq_true rfl) (Nat.le_of_ble_eq_true rfl) ?_
  exact W.iret (v := (-1)) hx hb hr (fun tS htS _ => ⟨⟨_, _, rfl, ⟨rfl, rfl⟩, by rw [htS]; exact hP9, hD9⟩, hS.F htS⟩) hS.2.2 dX6_busiest_19
set_option maxHeartbeats 4000000 in
set_option maxRecDepth 100000 in
/-- aim on an object without a NET -/
theorem c_X6_aim (l : Launch) (D : va_G) (g : Nat → ClassId) (sz : Nat) (x : Nat) (xt : Nat) (tl : Int32) (xr : Nat) (xd : Nat) (xn : Nat) (xa : Nat) (xs : Nat) (xy : Nat) (p0 : Int32) (p1 : Int32) : Met l yX6_aim wsX6_aim ({ frames := 2, cells := 0, slots := 0, locals := 43 }) (va_Pc [.ref x, .int p0, .int p1] (pre D g sz [(x, .inr (6, [.ref xt, .int tl, .ref xr, .ref xd, .ref xn, .ref xa, .ref xs, .ref xy, .int 0]))])) (va_Qi (fun (r : Int32) (u : va_W) => u = [(x, .inr (6, [.ref xt, .int tl, .ref xr, .ref xd, .ref xn, .ref xa, .ref xs, .ref xy, .int 0]))] ∧ r = (-1)) (wd D (va_A [(x, .inr (6, [.ref xt, .int tl, .ref xr, .ref xd, .ref xn, .ref xa, .ref xs, .ref xy, .int 0]))] sz)) (va_A [(x, .inr (6, [.ref xt, .int tl, .ref xr, .ref xd, .ref xn, .ref xa, .ref xs, .ref xy, .int 0]))] sz)) 0 0 (va_A [(x, .inr (6, [.ref xt, .int tl, .ref xr, .ref xd, .ref xn, .ref xa, .ref xs, .ref xy, .int 0]))] sz) := by
  refine Met.ofW (cc := cX6_aim) (maxL := 3) (ret := (some .int)) (by decide) rfl ?_
  intro p e s m args below meth c s₁ B hml hv
  obtain ⟨rfl, hsz, hP, ⟨hK, hN⟩, hD0, hZ⟩ := hv
  have hx := B.exec
  have hb := B.bytes
  have hr := B.returns
  have hts := atoms_spec (ws := wsX6_aim) B.pre
  have hown : s.vm.findClass RX6 = some m.cls := findClass_of_methodNamed B.named
  have hlocks := B.notSynchronized
  clear B
  subst hsz
  have hD := hD0.self (sz := s.heap.size)
  clear hD0
  generalize hAe : va_A [(x, .inr (6, [.ref xt, .int tl, .ref xr, .ref xd, .ref xn, .ref xa, .ref xs, .ref xy, .int 0]))] s.heap.size = A at hD hZ ⊢
  have hA : ∀ q : Nat, s.heap.size ≤ q → A q := fun q h => by rw [← hAe]; exact Or.inr h
  have hS : va_S A s.heap s.heap [] := va_S.rf
  have hl := lv_entry ([.ref x, .int p0, .int p1]) (n := 3) (Nat.le_of_ble_eq_true rfl)
  rw [lg_entry_eq]
  generalize (lg_sl ([.ref x, .int p0, .int p1]) ++ List.replicate (3 - (lg_sl ([.ref x, .int p0, .int p1])).length) Slot.unset).toArray = ls at hl ⊢
  have hl : lv_has ls 3 [(0, .ref x), (1, .int p0), (2, .int p1)] := hl
  generalize hQ : MQ below _ _ s _ _ _ = Q
  generalize hH : s.heap = H at hP ⊢
  have hS : va_S A s.heap H [] := by rw [← hH]; exact hS
  clear hH
  refine lv_aload_n hx hb dX6_aim_0 rfl (lv_at hl 0 rfl) ?_
  refine lv_iload_n hx hb dX6_aim_1 rfl (lv_at hl 1 rfl) ?_
  refine lv_iload_n hx hb dX6_aim_2 rfl (lv_at hl 2 rfl) ?_
  refine ky_Vi (As := [.int p0, .int p1]) (rest := []) ⟨hx, hb, hml, hown, hts⟩ ⟨hK, hN⟩ hZ hP hD hS hA [0] [] (wc := [(x, .inr (6, [.ref xt, .int tl, .ref xr, .ref xd, .ref xn, .ref xa, .ref xs, .ref xy, .int 0]))]) (wr := []) rfl rfl rfl rfl (by decide) (c_X6_isLane l D g H.size x xt tl xr xd xn xa xs xy p0 p1) (cwV 2 hts gX6_aim_X6_isLane rfl rfl rfl (by decide +kernel) ⟨(Nat.le_of_ble_eq_true rfl), (Nat.le_of_ble_eq_true rfl)⟩) 0 6 rfl rfl rfl rfl hl.1 rfl (Nat.le_of_ble_eq_true rfl) dX6_aim_3 ⟨(Nat.le_of_ble_eq_true rfl), (Nat.le_of_ble_eq_true rfl)⟩ (fun r_1 u H locs hw hP hD hS => ?_)
  obtain ⟨rfl, rfl⟩ := hw
  have hP : va_P D vwCl [(x, .inr (6, [.ref xt, .int tl, .ref xr, .ref xd, .ref xn, .ref xa, .ref xs, .ref xy, .int 0]))] H := hP
  have hD : va_D A [(x, .inr (6, [.ref xt, .int tl, .ref xr, .ref xd, .ref xn, .ref xa, .ref xs, .ref xy, .int 0]))] := hD
  refine W.widen (k := 0) (n := 0) (Nat.le_of_ble_eq_true rfl) (Nat.le_of_ble_eq_true rfl) ?_
  refine lv_if_eq (tgt := 29) hx hb dX6_aim_6 (by decide) (fun _ => ?_) (fun cb => absurd (by decide) cb)
  refine lv_iconst (v := (-1)) hx hb dX6_aim_29 (by decide) ?_
  have hP9 := hP.sub (ws' := [(x, .inr (6, [.ref xt, .int tl, .ref xr, .ref xd, .ref xn, .ref xa, .ref xs, .ref xy, .int 0]))]) [0] rfl
  have hD9 := hD.sub (ws' := [(x, .inr (6, [.ref xt, .int tl, .ref xr, .ref xd, .ref xn, .ref xa, .ref xs, .ref xy, .int 0]))]) [0] (by decide) rfl
  subst hQ
  refine W.widen (k := 0) (n := 0) (Nat.le_of_ble_eq_true rfl) (Nat.le_of_ble_eq_true rfl) ?_
  exact W.iret (v := (-1)) hx hb hr (fun tS htS _ => ⟨⟨_, _, rfl, ⟨rfl, rfl⟩, by rw [htS]; exact hP9, hD9⟩, hS.F htS⟩) hS.2.2 dX6_aim_30
set_option maxHeartbeats 4000000 in
set_option maxRecDepth 100000 in
/-- room on an object without a NET -/
theorem c_X6_room (l : Launch) (D : va_G) (g : Nat → ClassId) (sz : Nat) (x : Nat) (xt : Nat) (tl : Int32) (xr : Nat) (xd : Nat) (xn : Nat) (xa : Nat) (xs : Nat) (xy : Nat) (p0 : Int32) (p1 : Int32) : Met l yX6_room wsX6_room ({ frames := 2, cells := 0, slots := 0, locals := 43 }) (va_Pc [.ref x, .int p0, .int p1] (pre D g sz [(x, .inr (6, [.ref xt, .int tl, .ref xr, .ref xd, .ref xn, .ref xa, .ref xs, .ref xy, .int 0]))])) (va_Qi (fun (r : Int32) (u : va_W) => u = [(x, .inr (6, [.ref xt, .int tl, .ref xr, .ref xd, .ref xn, .ref xa, .ref xs, .ref xy, .int 0]))] ∧ r = (-1)) (wd D (va_A [(x, .inr (6, [.ref xt, .int tl, .ref xr, .ref xd, .ref xn, .ref xa, .ref xs, .ref xy, .int 0]))] sz)) (va_A [(x, .inr (6, [.ref xt, .int tl, .ref xr, .ref xd, .ref xn, .ref xa, .ref xs, .ref xy, .int 0]))] sz)) 0 0 (va_A [(x, .inr (6, [.ref xt, .int tl, .ref xr, .ref xd, .ref xn, .ref xa, .ref xs, .ref xy, .int 0]))] sz) := by
  refine Met.ofW (cc := cX6_room) (maxL := 3) (ret := (some .int)) (by decide) rfl ?_
  intro p e s m args below meth c s₁ B hml hv
  obtain ⟨rfl, hsz, hP, ⟨hK, hN⟩, hD0, hZ⟩ := hv
  have hx := B.exec
  have hb := B.bytes
  have hr := B.returns
  have hts := atoms_spec (ws := wsX6_room) B.pre
  have hown : s.vm.findClass RX6 = some m.cls := findClass_of_methodNamed B.named
  have hlocks := B.notSynchronized
  clear B
  subst hsz
  have hD := hD0.self (sz := s.heap.size)
  clear hD0
  generalize hAe : va_A [(x, .inr (6, [.ref xt, .int tl, .ref xr, .ref xd, .ref xn, .ref xa, .ref xs, .ref xy, .int 0]))] s.heap.size = A at hD hZ ⊢
  have hA : ∀ q : Nat, s.heap.size ≤ q → A q := fun q h => by rw [← hAe]; exact Or.inr h
  have hS : va_S A s.heap s.heap [] := va_S.rf
  have hl := lv_entry ([.ref x, .int p0, .int p1]) (n := 3) (Nat.le_of_ble_eq_true rfl)
  rw [lg_entry_eq]
  generalize (lg_sl ([.ref x, .int p0, .int p1]) ++ List.replicate (3 - (lg_sl ([.ref x, .int p0, .int p1])).length) Slot.unset).toArray = ls at hl ⊢
  have hl : lv_has ls 3 [(0, .ref x), (1, .int p0), (2, .int p1)] := hl
  generalize hQ : MQ below _ _ s _ _ _ = Q
  generalize hH : s.heap = H at hP ⊢
  have hS : va_S A s.heap H [] := by rw [← hH]; exact hS
  clear hH
  refine lv_aload_n hx hb dX6_room_0 rfl (lv_at hl 0 rfl) ?_
  refine lv_iload_n hx hb dX6_room_1 rfl (lv_at hl 1 rfl) ?_
  refine lv_iload_n hx hb dX6_room_2 rfl (lv_at hl 2 rfl) ?_
  refine ky_Vi (As := [.int p0, .int p1]) (rest := []) ⟨hx, hb, hml, hown, hts⟩ ⟨hK, hN⟩ hZ hP hD hS hA [0] [] (wc := [(x, .inr (6, [.ref xt, .int tl, .ref xr, .ref xd, .ref xn, .ref xa, .ref xs, .ref xy, .int 0]))]) (wr := []) rfl rfl rfl rfl (by decide) (c_X6_isLane l D g H.size x xt tl xr xd xn xa xs xy p0 p1) (cwV 2 hts gX6_room_X6_isLane rfl rfl rfl (by decide +kernel) ⟨(Nat.le_of_ble_eq_true rfl), (Nat.le_of_ble_eq_true rfl)⟩) 0 6 rfl rfl rfl rfl hl.1 rfl (Nat.le_of_ble_eq_true rfl) dX6_room_3 ⟨(Nat.le_of_ble_eq_true rfl), (Nat.le_of_ble_eq_true rfl)⟩ (fun r_1 u H locs hw hP hD hS => ?_)
  obtain ⟨rfl, rfl⟩ := hw
  have hP : va_P D vwCl [(x, .inr (6, [.ref xt, .int tl, .ref xr, .ref xd, .ref xn, .ref xa, .ref xs, .ref xy, .int 0]))] H := hP
  have hD : va_D A [(x, .inr (6, [.ref xt, .int tl, .ref xr, .ref xd, .ref xn, .ref xa, .ref xs, .ref xy, .int 0]))] := hD
  refine W.widen (k := 0) (n := 0) (Nat.le_of_ble_eq_true rfl) (Nat.le_of_ble_eq_true rfl) ?_
  refine lv_if_eq (tgt := 18) hx hb dX6_room_6 (by decide) (fun _ => ?_) (fun cb => absurd (by decide) cb)
  refine lv_iconst (v := (-1)) hx hb dX6_room_18 (by decide) ?_
  have hP9 := hP.sub (ws' := [(x, .inr (6, [.ref xt, .int tl, .ref xr, .ref xd, .ref xn, .ref xa, .ref xs, .ref xy, .int 0]))]) [0] rfl
  have hD9 := hD.sub (ws' := [(x, .inr (6, [.ref xt, .int tl, .ref xr, .ref xd, .ref xn, .ref xa, .ref xs, .ref xy, .int 0]))]) [0] (by decide) rfl
  subst hQ
  refine W.widen (k := 0) (n := 0) (Nat.le_of_ble_eq_true rfl) (Nat.le_of_ble_eq_true rfl) ?_
  exact W.iret (v := (-1)) hx hb hr (fun tS htS _ => ⟨⟨_, _, rfl, ⟨rfl, rfl⟩, by rw [htS]; exact hP9, hD9⟩, hS.F htS⟩) hS.2.2 dX6_room_19
set_option maxHeartbeats 4000000 in
set_option maxRecDepth 100000 in
/-- trip on an object without a NET -/
theorem c_X6_trip (l : Launch) (D : va_G) (g : Nat → ClassId) (sz : Nat) (x : Nat) (xt : Nat) (tl : Int32) (xr : Nat) (xd : Nat) (xn : Nat) (xa : Nat) (xs : Nat) (xy : Nat) (p0 : Int32) (p1 : Int32) : Met l yX6_trip wsX6_trip ({ frames := 1, cells := 0, slots := 0, locals := 21 }) (va_Pc [.ref x, .int p0, .int p1] (pre D g sz [(x, .inr (6, [.ref xt, .int tl, .ref xr, .ref xd, .ref xn, .ref xa, .ref xs, .ref xy, .int 0]))])) (va_Qi (fun (r : Int32) (u : va_W) => u = [(x, .inr (6, [.ref xt, .int tl, .ref xr, .ref xd, .ref xn, .ref xa, .ref xs, .ref xy, .int 0]))] ∧ r = (-1)) (wd D (va_A [(x, .inr (6, [.ref xt, .int tl, .ref xr, .ref xd, .ref xn, .ref xa, .ref xs, .ref xy, .int 0]))] sz)) (va_A [(x, .inr (6, [.ref xt, .int tl, .ref xr, .ref xd, .ref xn, .ref xa, .ref xs, .ref xy, .int 0]))] sz)) 0 0 (va_A [(x, .inr (6, [.ref xt, .int tl, .ref xr, .ref xd, .ref xn, .ref xa, .ref xs, .ref xy, .int 0]))] sz) := by
  refine Met.ofW (cc := cX6_trip) (maxL := 3) (ret := (some .int)) (by decide) rfl ?_
  intro p e s m args below meth c s₁ B hml hv
  obtain ⟨rfl, hsz, hP, ⟨hK, hN⟩, hD0, hZ⟩ := hv
  have hx := B.exec
  have hb := B.bytes
  have hr := B.returns
  have hts := atoms_spec (ws := wsX6_trip) B.pre
  have hown : s.vm.findClass RX6 = some m.cls := findClass_of_methodNamed B.named
  have hlocks := B.notSynchronized
  clear B
  subst hsz
  have hD := hD0.self (sz := s.heap.size)
  clear hD0
  generalize hAe : va_A [(x, .inr (6, [.ref xt, .int tl, .ref xr, .ref xd, .ref xn, .ref xa, .ref xs, .ref xy, .int 0]))] s.heap.size = A at hD hZ ⊢
  have hA : ∀ q : Nat, s.heap.size ≤ q → A q := fun q h => by rw [← hAe]; exact Or.inr h
  have hS : va_S A s.heap s.heap [] := va_S.rf
  have hl := lv_entry ([.ref x, .int p0, .int p1]) (n := 3) (Nat.le_of_ble_eq_true rfl)
  rw [lg_entry_eq]
  generalize (lg_sl ([.ref x, .int p0, .int p1]) ++ List.replicate (3 - (lg_sl ([.ref x, .int p0, .int p1])).length) Slot.unset).toArray = ls at hl ⊢
  have hl : lv_has ls 3 [(0, .ref x), (1, .int p0), (2, .int p1)] := hl
  generalize hQ : MQ below _ _ s _ _ _ = Q
  generalize hH : s.heap = H at hP ⊢
  have hS : va_S A s.heap H [] := by rw [← hH]; exact hS
  clear hH
  refine lv_aload_n hx hb dX6_trip_0 rfl (lv_at hl 0 rfl) ?_
  refine lv_iload_n hx hb dX6_trip_1 rfl (lv_at hl 1 rfl) ?_
  refine ky_Vi (As := [.int p0]) (rest := []) ⟨hx, hb, hml, hown, hts⟩ ⟨hK, hN⟩ hZ hP hD hS hA [0] [] (wc := [(x, .inr (6, [.ref xt, .int tl, .ref xr, .ref xd, .ref xn, .ref xa, .ref xs, .ref xy, .int 0]))]) (wr := []) rfl rfl rfl rfl (by decide) (c_X6_isCircuit l D g H.size x xt tl xr xd xn xa xs xy p0) (cwV 1 hts gX6_trip_X6_isCircuit rfl rfl rfl (by decide +kernel) ⟨(Nat.le_of_ble_eq_true rfl), (Nat.le_of_ble_eq_true rfl)⟩) 0 6 rfl rfl rfl rfl hl.1 rfl (Nat.le_of_ble_eq_true rfl) dX6_trip_2 ⟨(Nat.le_of_ble_eq_true rfl), (Nat.le_of_ble_eq_true rfl)⟩ (fun r_1 u H locs hw hP hD hS => ?_)
  obtain ⟨rfl, rfl⟩ := hw
  have hP : va_P D vwCl [(x, .inr (6, [.ref xt, .int tl, .ref xr, .ref xd, .ref xn, .ref xa, .ref xs, .ref xy, .int 0]))] H := hP
  have hD : va_D A [(x, .inr (6, [.ref xt, .int tl, .ref xr, .ref xd, .ref xn, .ref xa, .ref xs, .ref xy, .int 0]))] := hD
  refine W.widen (k := 0) (n := 0) (Nat.le_of_ble_eq_true rfl) (Nat.le_of_ble_eq_true rfl) ?_
  refine lv_if_eq (tgt := 23) hx hb dX6_trip_5 (by decide) (fun _ => ?_) (fun cb => absurd (by decide) cb)
  refine lv_iconst (v := (-1)) hx hb dX6_trip_23 (by decide) ?_
  have hP9 := hP.sub (ws' := [(x, .inr (6, [.ref xt, .int tl, .ref xr, .ref xd, .ref xn, .ref xa, .ref xs, .ref xy, .int 0]))]) [0] rfl
  have hD9 := hD.sub (ws' := [(x, .inr (6, [.ref xt, .int tl, .ref xr, .ref xd, .ref xn, .ref xa, .ref xs, .ref xy, .int 0]))]) [0] (by decide) rfl
  subst hQ
  refine W.widen (k := 0) (n := 0) (Nat.le_of_ble_eq_true rfl) (Nat.le_of_ble_eq_true rfl) ?_
  exact W.iret (v := (-1)) hx hb hr (fun tS htS _ => ⟨⟨_, _, rfl, ⟨rfl, rfl⟩, by rw [htS]; exact hP9, hD9⟩, hS.F htS⟩) hS.2.2 dX6_trip_24
set_option maxHeartbeats 4000000 in
set_option maxRecDepth 100000 in
/-- oldest on an object without a NET -/
theorem c_X6_oldest (l : Launch) (D : va_G) (g : Nat → ClassId) (sz : Nat) (x : Nat) (xt : Nat) (tl : Int32) (xr : Nat) (xd : Nat) (xn : Nat) (xa : Nat) (xs : Nat) (xy : Nat) (p0 : Int32) : Met l yX6_oldest wsX6_oldest ({ frames := 1, cells := 0, slots := 0, locals := 21 }) (va_Pc [.ref x, .int p0] (pre D g sz [(x, .inr (6, [.ref xt, .int tl, .ref xr, .ref xd, .ref xn, .ref xa, .ref xs, .ref xy, .int 0]))])) (va_Qi (fun (r : Int32) (u : va_W) => u = [(x, .inr (6, [.ref xt, .int tl, .ref xr, .ref xd, .ref xn, .ref xa, .ref xs, .ref xy, .int 0]))] ∧ r = (-1)) (wd D (va_A [(x, .inr (6, [.ref xt, .int tl, .ref xr, .ref xd, .ref xn, .ref xa, .ref xs, .ref xy, .int 0]))] sz)) (va_A [(x, .inr (6, [.ref xt, .int tl, .ref xr, .ref xd, .ref xn, .ref xa, .ref xs, .ref xy, .int 0]))] sz)) 0 0 (va_A [(x, .inr (6, [.ref xt, .int tl, .ref xr, .ref xd, .ref xn, .ref xa, .ref xs, .ref xy, .int 0]))] sz) := by
  refine Met.ofW (cc := cX6_oldest) (maxL := 2) (ret := (some .int)) (by decide) rfl ?_
  intro p e s m args below meth c s₁ B hml hv
  obtain ⟨rfl, hsz, hP, ⟨hK, hN⟩, hD0, hZ⟩ := hv
  have hx := B.exec
  have hb := B.bytes
  have hr := B.returns
  have hts := atoms_spec (ws := wsX6_oldest) B.pre
  have hown : s.vm.findClass RX6 = some m.cls := findClass_of_methodNamed B.named
  have hlocks := B.notSynchronized
  clear B
  subst hsz
  have hD := hD0.self (sz := s.heap.size)
  clear hD0
  generalize hAe : va_A [(x, .inr (6, [.ref xt, .int tl, .ref xr, .ref xd, .ref xn, .ref xa, .ref xs, .ref xy, .int 0]))] s.heap.size = A at hD hZ ⊢
  have hA : ∀ q : Nat, s.heap.size ≤ q → A q := fun q h => by rw [← hAe]; exact Or.inr h
  have hS : va_S A s.heap s.heap [] := va_S.rf
  have hl := lv_entry ([.ref x, .int p0]) (n := 2) (Nat.le_of_ble_eq_true rfl)
  rw [lg_entry_eq]
  generalize (lg_sl ([.ref x, .int p0]) ++ List.replicate (2 - (lg_sl ([.ref x, .int p0])).length) Slot.unset).toArray = ls at hl ⊢
  have hl : lv_has ls 2 [(0, .ref x), (1, .int p0)] := hl
  generalize hQ : MQ below _ _ s _ _ _ = Q
  generalize hH : s.heap = H at hP ⊢
  have hS : va_S A s.heap H [] := by rw [← hH]; exact hS
  clear hH
  refine lv_aload_n hx hb dX6_oldest_0 rfl (lv_at hl 0 rfl) ?_
  refine lv_iload_n hx hb dX6_oldest_1 rfl (lv_at hl 1 rfl) ?_
  refine ky_Vi (As := [.int p0]) (rest := []) ⟨hx, hb, hml, hown, hts⟩ ⟨hK, hN⟩ hZ hP hD hS hA [0] [] (wc := [(x, .inr (6, [.ref xt, .int tl, .ref xr, .ref xd, .ref xn, .ref xa, .ref xs, .ref xy, .int 0]))]) (wr := []) rfl rfl rfl rfl (by decide) (c_X6_isCircuit l D g H.size x xt tl xr xd xn xa xs xy p0) (cwV 1 hts gX6_oldest_X6_isCircuit rfl rfl rfl (by decide +kernel) ⟨(Nat.le_of_ble_eq_true rfl), (Nat.le_of_ble_eq_true rfl)⟩) 0 6 rfl rfl rfl rfl hl.1 rfl (Nat.le_of_ble_eq_true rfl) dX6_oldest_2 ⟨(Nat.le_of_ble_eq_true rfl), (Nat.le_of_ble_eq_true rfl)⟩ (fun r_1 u H locs hw hP hD hS => ?_)
  obtain ⟨rfl, rfl⟩ := hw
  have hP : va_P D vwCl [(x, .inr (6, [.ref xt, .int tl, .ref xr, .ref xd, .ref xn, .ref xa, .ref xs, .ref xy, .int 0]))] H := hP
  have hD : va_D A [(x, .inr (6, [.ref xt, .int tl, .ref xr, .ref xd, .ref xn, .ref xa, .ref xs, .ref xy, .int 0]))] := hD
  refine W.widen (k := 0) (n := 0) (Nat.le_of_ble_eq_true rfl) (Nat.le_of_ble_eq_true rfl) ?_
  refine lv_if_eq (tgt := 20) hx hb dX6_oldest_5 (by decide) (fun _ => ?_) (fun cb => absurd (by decide) cb)
  refine lv_iconst (v := (-1)) hx hb dX6_oldest_20 (by decide) ?_
  have hP9 := hP.sub (ws' := [(x, .inr (6, [.ref xt, .int tl, .ref xr, .ref xd, .ref xn, .ref xa, .ref xs, .ref xy, .int 0]))]) [0] rfl
  have hD9 := hD.sub (ws' := [(x, .inr (6, [.ref xt, .int tl, .ref xr, .ref xd, .ref xn, .ref xa, .ref xs, .ref xy, .int 0]))]) [0] (by decide) rfl
  subst hQ
  refine W.widen (k := 0) (n := 0) (Nat.le_of_ble_eq_true rfl) (Nat.le_of_ble_eq_true rfl) ?_
  exact W.iret (v := (-1)) hx hb hr (fun tS htS _ => ⟨⟨_, _, rfl, ⟨rfl, rfl⟩, by rw [htS]; exact hP9, hD9⟩, hS.F htS⟩) hS.2.2 dX6_oldest_21
set_option maxHeartbeats 4000000 in
set_option maxRecDepth 100000 in
/-- go on an object without a NET -/
theorem c_X6_go (l : Launch) (D : va_G) (g : Nat → ClassId) (sz : Nat) (x : Nat) (xt : Nat) (tl : Int32) (xr : Nat) (xd : Nat) (xn : Nat) (xa : Nat) (xs : Nat) (xy : Nat) (p0 : Int32) (f : Nat → Int32) : Met l yX6_go wsX6_go ({ frames := 1, cells := 0, slots := 0, locals := 21 }) (va_Pc [.ref x, .int p0] (pre D g sz [(x, .inr (6, [.ref xt, .int tl, .ref xr, .ref xd, .ref xn, .ref xa, .ref xs, .ref xy, .int 0])), (xr, .inl (g 0, 4, .inl f))])) (va_Qi (fun (r : Int32) (u : va_W) => u = [(x, .inr (6, [.ref xt, .int tl, .ref xr, .ref xd, .ref xn, .ref xa, .ref xs, .ref xy, .int 0])), (xr, .inl (g 0, 4, .inl (upd f 0 (f 0 + 1))))] ∧ r = (-1)) (wd D (va_A [(x, .inr (6, [.ref xt, .int tl, .ref xr, .ref xd, .ref xn, .ref xa, .ref xs, .ref xy, .int 0])), (xr, .inl (g 0, 4, .inl f))] sz)) (va_A [(x, .inr (6, [.ref xt, .int tl, .ref xr, .ref xd, .ref xn, .ref xa, .ref xs, .ref xy, .int 0])), (xr, .inl (g 0, 4, .inl f))] sz)) 0 0 (va_A [(x, .inr (6, [.ref xt, .int tl, .ref xr, .ref xd, .ref xn, .ref xa, .ref xs, .ref xy, .int 0])), (xr, .inl (g 0, 4, .inl f))] sz) := by
  refine Met.ofW (cc := cX6_go) (maxL := 3) (ret := (some .int)) (by decide) rfl ?_
  intro p e s m args below meth c s₁ B hml hv
  obtain ⟨rfl, hsz, hP, ⟨hK, hN⟩, hD0, hZ⟩ := hv
  have hx := B.exec
  have hb := B.bytes
  have hr := B.returns
  have hts := atoms_spec (ws := wsX6_go) B.pre
  have hown : s.vm.findClass RX6 = some m.cls := findClass_of_methodNamed B.named
  have hlocks := B.notSynchronized
  clear B
  subst hsz
  have hD := hD0.self (sz := s.heap.size)
  clear hD0
  generalize hAe : va_A [(x, .inr (6, [.ref xt, .int tl, .ref xr, .ref xd, .ref xn, .ref xa, .ref xs, .ref xy, .int 0])), (xr, .inl (g 0, 4, .inl f))] s.heap.size = A at hD hZ ⊢
  have hA : ∀ q : Nat, s.heap.size ≤ q → A q := fun q h => by rw [← hAe]; exact Or.inr h
  have hS : va_S A s.heap s.heap [] := va_S.rf
  have f70 := hts (.fieldLink RX6 70 "HopCredits" "laid" "Z") (by decide +kernel)
  have iX6 : ∀ w ∈ u_ws RX6 TX6 9, w ∈ wsX6_go := by decide +kernel
  have hl := lv_entry ([.ref x, .int p0]) (n := 3) (Nat.le_of_ble_eq_true rfl)
  rw [lg_entry_eq]
  generalize (lg_sl ([.ref x, .int p0]) ++ List.replicate (3 - (lg_sl ([.ref x, .int p0])).length) Slot.unset).toArray = ls at hl ⊢
  have hl : lv_has ls 3 [(0, .ref x), (1, .int p0)] := hl
  generalize hQ : MQ below _ _ s _ _ _ = Q
  generalize hH : s.heap = H at hP ⊢
  have hS : va_S A s.heap H [] := by rw [← hH]; exact hS
  clear hH
  refine lv_aload_n hx hb dX6_go_0 rfl (lv_at hl 0 rfl) ?_
  refine va_get (D := D) (ci := 6) (v := .int 0) (C := RX6) (T := TX6) (N := 9) hx hb hts iX6 hown hK hP 0 rfl rfl 8 (by decide) f70 (fun _ h9 => h9) rfl dX6_go_1 ?_
  refine lv_if_ne (tgt := 13) hx hb dX6_go_4 (by decide) (fun cb => absurd (by decide) cb) (fun _ => ?_)
  refine lv_aload_n hx hb dX6_go_7 rfl (lv_at hl 0 rfl) ?_
  refine lv_iconst (v := 0) hx hb dX6_go_8 (by decide) ?_
  refine ky_Vi (As := [.int 0]) (rest := []) ⟨hx, hb, hml, hown, hts⟩ ⟨hK, hN⟩ hZ hP hD hS hA [0, 1] [] (wc := [(x, .inr (6, [.ref xt, .int tl, .ref xr, .ref xd, .ref xn, .ref xa, .ref xs, .ref xy, .int 0])), (xr, .inl (g 0, 4, .inl f))]) (wr := []) rfl rfl rfl rfl (by decide) (c_X6_refuse l D g H.size x xt tl xr xd xn xa xs xy f) (cwV 1 hts gX6_go_X6_refuse rfl rfl rfl (by decide +kernel) ⟨(Nat.le_of_ble_eq_true rfl), (Nat.le_of_ble_eq_true rfl)⟩) 0 6 rfl rfl rfl rfl hl.1 rfl (Nat.le_of_ble_eq_true rfl) dX6_go_9 ⟨(Nat.le_of_ble_eq_true rfl), (Nat.le_of_ble_eq_true rfl)⟩ (fun r_1 u H locs hw hP hD hS => ?_)
  obtain ⟨rfl, rfl⟩ := hw
  have hP : va_P D vwCl [(x, .inr (6, [.ref xt, .int tl, .ref xr, .ref xd, .ref xn, .ref xa, .ref xs, .ref xy, .int 0])), (xr, .inl (g 0, 4, .inl (upd f 0 (f 0 + 1))))] H := hP
  have hD : va_D A [(x, .inr (6, [.ref xt, .int tl, .ref xr, .ref xd, .ref xn, .ref xa, .ref xs, .ref xy, .int 0])), (xr, .inl (g 0, 4, .inl (upd f 0 (f 0 + 1))))] := hD
  refine W.widen (k := 0) (n := 0) (Nat.le_of_ble_eq_true rfl) (Nat.le_of_ble_eq_true rfl) ?_
  have hP9 := hP.sub (ws' := [(x, .inr (6, [.ref xt, .int tl, .ref xr, .ref xd, .ref xn, .ref xa, .ref xs, .ref xy, .int 0])), (xr, .inl (g 0, 4, .inl (upd f 0 (f 0 + 1))))]) [0, 1] rfl
  have hD9 := hD.sub (ws' := [(x, .inr (6, [.ref xt, .int tl, .ref xr, .ref xd, .ref xn, .ref xa, .ref xs, .ref xy, .int 0])), (xr, .inl (g 0, 4, .inl (upd f 0 (f 0 + 1))))]) [0, 1] (by decide) rfl
  subst hQ
  refine W.widen (k := 0) (n := 0) (Nat.le_of_ble_eq_true rfl) (Nat.le_of_ble_eq_true rfl) ?_
  exact W.iret (v := (-1)) hx hb hr (fun tS htS _ => ⟨⟨_, _, rfl, ⟨rfl, rfl⟩, by rw [htS]; exact hP9, hD9⟩, hS.F htS⟩) hS.2.2 dX6_go_12
set_option maxHeartbeats 4000000 in
set_option maxRecDepth 100000 in
/-- jam on an object without a NET -/
theorem c_X6_jam (l : Launch) (D : va_G) (g : Nat → ClassId) (sz : Nat) (x : Nat) (xt : Nat) (tl : Int32) (xr : Nat) (xd : Nat) (xn : Nat) (xa : Nat) (xs : Nat) (xy : Nat) (p0 : Int32) (p1 : Int32) (f : Nat → Int32) : Met l yX6_jam wsX6_jam ({ frames := 1, cells := 0, slots := 0, locals := 21 }) (va_Pc [.ref x, .int p0, .int p1] (pre D g sz [(x, .inr (6, [.ref xt, .int tl, .ref xr, .ref xd, .ref xn, .ref xa, .ref xs, .ref xy, .int 0])), (xr, .inl (g 0, 4, .inl f))])) (va_Qi (fun (r : Int32) (u : va_W) => u = [(x, .inr (6, [.ref xt, .int tl, .ref xr, .ref xd, .ref xn, .ref xa, .ref xs, .ref xy, .int 0])), (xr, .inl (g 0, 4, .inl (upd f 0 (f 0 + 1))))] ∧ r = (-1)) (wd D (va_A [(x, .inr (6, [.ref xt, .int tl, .ref xr, .ref xd, .ref xn, .ref xa, .ref xs, .ref xy, .int 0])), (xr, .inl (g 0, 4, .inl f))] sz)) (va_A [(x, .inr (6, [.ref xt, .int tl, .ref xr, .ref xd, .ref xn, .ref xa, .ref xs, .ref xy, .int 0])), (xr, .inl (g 0, 4, .inl f))] sz)) 0 0 (va_A [(x, .inr (6, [.ref xt, .int tl, .ref xr, .ref xd, .ref xn, .ref xa, .ref xs, .ref xy, .int 0])), (xr, .inl (g 0, 4, .inl f))] sz) := by
  refine Met.ofW (cc := cX6_jam) (maxL := 5) (ret := (some .int)) (by decide) rfl ?_
  intro p e s m args below meth c s₁ B hml hv
  obtain ⟨rfl, hsz, hP, ⟨hK, hN⟩, hD0, hZ⟩ := hv
  have hx := B.exec
  have hb := B.bytes
  have hr := B.returns
  have hts := atoms_spec (ws := wsX6_jam) B.pre
  have hown : s.vm.findClass RX6 = some m.cls := findClass_of_methodNamed B.named
  have hlocks := B.notSynchronized
  clear B
  subst hsz
  have hD := hD0.self (sz := s.heap.size)
  clear hD0
  generalize hAe : va_A [(x, .inr (6, [.ref xt, .int tl, .ref xr, .ref xd, .ref xn, .ref xa, .ref xs, .ref xy, .int 0])), (xr, .inl (g 0, 4, .inl f))] s.heap.size = A at hD hZ ⊢
  have hA : ∀ q : Nat, s.heap.size ≤ q → A q := fun q h => by rw [← hAe]; exact Or.inr h
  have hS : va_S A s.heap s.heap [] := va_S.rf
  have hl := lv_entry ([.ref x, .int p0, .int p1]) (n := 5) (Nat.le_of_ble_eq_true rfl)
  rw [lg_entry_eq]
  generalize (lg_sl ([.ref x, .int p0, .int p1]) ++ List.replicate (5 - (lg_sl ([.ref x, .int p0, .int p1])).length) Slot.unset).toArray = ls at hl ⊢
  have hl : lv_has ls 5 [(0, .ref x), (1, .int p0), (2, .int p1)] := hl
  generalize hQ : MQ below _ _ s _ _ _ = Q
  generalize hH : s.heap = H at hP ⊢
  have hS : va_S A s.heap H [] := by rw [← hH]; exact hS
  clear hH
  refine lv_aload_n hx hb dX6_jam_0 rfl (lv_at hl 0 rfl) ?_
  refine lv_iload_n hx hb dX6_jam_1 rfl (lv_at hl 1 rfl) ?_
  refine ky_Vi (As := [.int p0]) (rest := []) ⟨hx, hb, hml, hown, hts⟩ ⟨hK, hN⟩ hZ hP hD hS hA [0] [1] (wc := [(x, .inr (6, [.ref xt, .int tl, .ref xr, .ref xd, .ref xn, .ref xa, .ref xs, .ref xy, .int 0]))]) (wr := [(xr, .inl (g 0, 4, .inl f))]) rfl rfl rfl rfl (by decide) (c_X6_isHop l D g H.size x xt tl xr xd xn xa xs xy p0) (cwV 1 hts gX6_jam_X6_isHop rfl rfl rfl (by decide +kernel) ⟨(Nat.le_of_ble_eq_true rfl), (Nat.le_of_ble_eq_true rfl)⟩) 0 6 rfl rfl rfl rfl hl.1 rfl (Nat.le_of_ble_eq_true rfl) dX6_jam_2 ⟨(Nat.le_of_ble_eq_true rfl), (Nat.le_of_ble_eq_true rfl)⟩ (fun r_1 u H locs hw hP hD hS => ?_)
  obtain ⟨rfl, rfl⟩ := hw
  have hP : va_P D vwCl [(xr, .inl (g 0, 4, .inl f)), (x, .inr (6, [.ref xt, .int tl, .ref xr, .ref xd, .ref xn, .ref xa, .ref xs, .ref xy, .int 0]))] H := hP
  have hD : va_D A [(xr, .inl (g 0, 4, .inl f)), (x, .inr (6, [.ref xt, .int tl, .ref xr, .ref xd, .ref xn, .ref xa, .ref xs, .ref xy, .int 0]))] := hD
  refine W.widen (k := 0) (n := 0) (Nat.le_of_ble_eq_true rfl) (Nat.le_of_ble_eq_true rfl) ?_
  refine lv_if_ne (tgt := 14) hx hb dX6_jam_5 (by decide) (fun cb => absurd (by decide) cb) (fun _ => ?_)
  refine lv_aload_n hx hb dX6_jam_8 rfl (lv_at hl 0 rfl) ?_
  refine lv_iconst (v := 0) hx hb dX6_jam_9 (by decide) ?_
  refine ky_Vi (As := [.int 0]) (rest := []) ⟨hx, hb, hml, hown, hts⟩ ⟨hK, hN⟩ hZ hP hD hS hA [1, 0] [] (wc := [(x, .inr (6, [.ref xt, .int tl, .ref xr, .ref xd, .ref xn, .ref xa, .ref xs, .ref xy, .int 0])), (xr, .inl (g 0, 4, .inl f))]) (wr := []) rfl rfl rfl rfl (by decide) (c_X6_refuse l D g H.size x xt tl xr xd xn xa xs xy f) (cwV 1 hts gX6_jam_X6_refuse rfl rfl rfl (by decide +kernel) ⟨(Nat.le_of_ble_eq_true rfl), (Nat.le_of_ble_eq_true rfl)⟩) 1 6 rfl rfl rfl rfl hl.1 rfl (Nat.le_of_ble_eq_true rfl) dX6_jam_10 ⟨(Nat.le_of_ble_eq_true rfl), (Nat.le_of_ble_eq_true rfl)⟩ (fun r_2 u H locs hw hP hD hS => ?_)
  obtain ⟨rfl, rfl⟩ := hw
  have hP : va_P D vwCl [(x, .inr (6, [.ref xt, .int tl, .ref xr, .ref xd, .ref xn, .ref xa, .ref xs, .ref xy, .int 0])), (xr, .inl (g 0, 4, .inl (upd f 0 (f 0 + 1))))] H := hP
  have hD : va_D A [(x, .inr (6, [.ref xt, .int tl, .ref xr, .ref xd, .ref xn, .ref xa, .ref xs, .ref xy, .int 0])), (xr, .inl (g 0, 4, .inl (upd f 0 (f 0 + 1))))] := hD
  refine W.widen (k := 0) (n := 0) (Nat.le_of_ble_eq_true rfl) (Nat.le_of_ble_eq_true rfl) ?_
  have hP9 := hP.sub (ws' := [(x, .inr (6, [.ref xt, .int tl, .ref xr, .ref xd, .ref xn, .ref xa, .ref xs, .ref xy, .int 0])), (xr, .inl (g 0, 4, .inl (upd f 0 (f 0 + 1))))]) [0, 1] rfl
  have hD9 := hD.sub (ws' := [(x, .inr (6, [.ref xt, .int tl, .ref xr, .ref xd, .ref xn, .ref xa, .ref xs, .ref xy, .int 0])), (xr, .inl (g 0, 4, .inl (upd f 0 (f 0 + 1))))]) [0, 1] (by decide) rfl
  subst hQ
  refine W.widen (k := 0) (n := 0) (Nat.le_of_ble_eq_true rfl) (Nat.le_of_ble_eq_true rfl) ?_
  exact W.iret (v := (-1)) hx hb hr (fun tS htS _ => ⟨⟨_, _, rfl, ⟨rfl, rfl⟩, by rw [htS]; exact hP9, hD9⟩, hS.F htS⟩) hS.2.2 dX6_jam_13
set_option maxHeartbeats 4000000 in
set_option maxRecDepth 100000 in
/-- source on an object without a NET -/
theorem c_X6_source (l : Launch) (D : va_G) (g : Nat → ClassId) (sz : Nat) (x : Nat) (xt : Nat) (tl : Int32) (xr : Nat) (xd : Nat) (xn : Nat) (xa : Nat) (xs : Nat) (xy : Nat) (p0 : Int32) (p1 : Int32) (p2 : Int32) (f : Nat → Int32) : Met l yX6_source wsX6_source ({ frames := 1, cells := 0, slots := 0, locals := 21 }) (va_Pc [.ref x, .int p0, .int p1, .int p2] (pre D g sz [(x, .inr (6, [.ref xt, .int tl, .ref xr, .ref xd, .ref xn, .ref xa, .ref xs, .ref xy, .int 0])), (xr, .inl (g 0, 4, .inl f))])) (va_Qi (fun (r : Int32) (u : va_W) => u = [(x, .inr (6, [.ref xt, .int tl, .ref xr, .ref xd, .ref xn, .ref xa, .ref xs, .ref xy, .int 0])), (xr, .inl (g 0, 4, .inl (upd f 0 (f 0 + 1))))] ∧ r = (-1)) (wd D (va_A [(x, .inr (6, [.ref xt, .int tl, .ref xr, .ref xd, .ref xn, .ref xa, .ref xs, .ref xy, .int 0])), (xr, .inl (g 0, 4, .inl f))] sz)) (va_A [(x, .inr (6, [.ref xt, .int tl, .ref xr, .ref xd, .ref xn, .ref xa, .ref xs, .ref xy, .int 0])), (xr, .inl (g 0, 4, .inl f))] sz)) 0 0 (va_A [(x, .inr (6, [.ref xt, .int tl, .ref xr, .ref xd, .ref xn, .ref xa, .ref xs, .ref xy, .int 0])), (xr, .inl (g 0, 4, .inl f))] sz) := by
  refine Met.ofW (cc := cX6_source) (maxL := 6) (ret := (some .int)) (by decide) rfl ?_
  intro p e s m args below meth c s₁ B hml hv
  obtain ⟨rfl, hsz, hP, ⟨hK, hN⟩, hD0, hZ⟩ := hv
  have hx := B.exec
  have hb := B.bytes
  have hr := B.returns
  have hts := atoms_spec (ws := wsX6_source) B.pre
  have hown : s.vm.findClass RX6 = some m.cls := findClass_of_methodNamed B.named
  have hlocks := B.notSynchronized
  clear B
  subst hsz
  have hD := hD0.self (sz := s.heap.size)
  clear hD0
  generalize hAe : va_A [(x, .inr (6, [.ref xt, .int tl, .ref xr, .ref xd, .ref xn, .ref xa, .ref xs, .ref xy, .int 0])), (xr, .inl (g 0, 4, .inl f))] s.heap.size = A at hD hZ ⊢
  have hA : ∀ q : Nat, s.heap.size ≤ q → A q := fun q h => by rw [← hAe]; exact Or.inr h
  have hS : va_S A s.heap s.heap [] := va_S.rf
  have hl := lv_entry ([.ref x, .int p0, .int p1, .int p2]) (n := 6) (Nat.le_of_ble_eq_true rfl)
  rw [lg_entry_eq]
  generalize (lg_sl ([.ref x, .int p0, .int p1, .int p2]) ++ List.replicate (6 - (lg_sl ([.ref x, .int p0, .int p1, .int p2])).length) Slot.unset).toArray = ls at hl ⊢
  have hl : lv_has ls 6 [(0, .ref x), (1, .int p0), (2, .int p1), (3, .int p2)] := hl
  generalize hQ : MQ below _ _ s _ _ _ = Q
  generalize hH : s.heap = H at hP ⊢
  have hS : va_S A s.heap H [] := by rw [← hH]; exact hS
  clear hH
  refine lv_aload_n hx hb dX6_source_0 rfl (lv_at hl 0 rfl) ?_
  refine lv_iload_n hx hb dX6_source_1 rfl (lv_at hl 1 rfl) ?_
  refine ky_Vi (As := [.int p0]) (rest := []) ⟨hx, hb, hml, hown, hts⟩ ⟨hK, hN⟩ hZ hP hD hS hA [0] [1] (wc := [(x, .inr (6, [.ref xt, .int tl, .ref xr, .ref xd, .ref xn, .ref xa, .ref xs, .ref xy, .int 0]))]) (wr := [(xr, .inl (g 0, 4, .inl f))]) rfl rfl rfl rfl (by decide) (c_X6_isCircuit l D g H.size x xt tl xr xd xn xa xs xy p0) (cwV 1 hts gX6_source_X6_isCircuit rfl rfl rfl (by decide +kernel) ⟨(Nat.le_of_ble_eq_true rfl), (Nat.le_of_ble_eq_true rfl)⟩) 0 6 rfl rfl rfl rfl hl.1 rfl (Nat.le_of_ble_eq_true rfl) dX6_source_2 ⟨(Nat.le_of_ble_eq_true rfl), (Nat.le_of_ble_eq_true rfl)⟩ (fun r_1 u H locs hw hP hD hS => ?_)
  obtain ⟨rfl, rfl⟩ := hw
  have hP : va_P D vwCl [(xr, .inl (g 0, 4, .inl f)), (x, .inr (6, [.ref xt, .int tl, .ref xr, .ref xd, .ref xn, .ref xa, .ref xs, .ref xy, .int 0]))] H := hP
  have hD : va_D A [(xr, .inl (g 0, 4, .inl f)), (x, .inr (6, [.ref xt, .int tl, .ref xr, .ref xd, .ref xn, .ref xa, .ref xs, .ref xy, .int 0]))] := hD
  refine W.widen (k := 0) (n := 0) (Nat.le_of_ble_eq_true rfl) (Nat.le_of_ble_eq_true rfl) ?_
  refine lv_if_ne (tgt := 14) hx hb dX6_source_5 (by decide) (fun cb => absurd (by decide) cb) (fun _ => ?_)
  refine lv_aload_n hx hb dX6_source_8 rfl (lv_at hl 0 rfl) ?_
  refine lv_iconst (v := 0) hx hb dX6_source_9 (by decide) ?_
  refine ky_Vi (As := [.int 0]) (rest := []) ⟨hx, hb, hml, hown, hts⟩ ⟨hK, hN⟩ hZ hP hD hS hA [1, 0] [] (wc := [(x, .inr (6, [.ref xt, .int tl, .ref xr, .ref xd, .ref xn, .ref xa, .ref xs, .ref xy, .int 0])), (xr, .inl (g 0, 4, .inl f))]) (wr := []) rfl rfl rfl rfl (by decide) (c_X6_refuse l D g H.size x xt tl xr xd xn xa xs xy f) (cwV 1 hts gX6_source_X6_refuse rfl rfl rfl (by decide +kernel) ⟨(Nat.le_of_ble_eq_true rfl), (Nat.le_of_ble_eq_true rfl)⟩) 1 6 rfl rfl rfl rfl hl.1 rfl (Nat.le_of_ble_eq_true rfl) dX6_source_10 ⟨(Nat.le_of_ble_eq_true rfl), (Nat.le_of_ble_eq_true rfl)⟩ (fun r_2 u H locs hw hP hD hS => ?_)
  obtain ⟨rfl, rfl⟩ := hw
  have hP : va_P D vwCl [(x, .inr (6, [.ref xt, .int tl, .ref xr, .ref xd, .ref xn, .ref xa, .ref xs, .ref xy, .int 0])), (xr, .inl (g 0, 4, .inl (upd f 0 (f 0 + 1))))] H := hP
  have hD : va_D A [(x, .inr (6, [.ref xt, .int tl, .ref xr, .ref xd, .ref xn, .ref xa, .ref xs, .ref xy, .int 0])), (xr, .inl (g 0, 4, .inl (upd f 0 (f 0 + 1))))] := hD
  refine W.widen (k := 0) (n := 0) (Nat.le_of_ble_eq_true rfl) (Nat.le_of_ble_eq_true rfl) ?_
  have hP9 := hP.sub (ws' := [(x, .inr (6, [.ref xt, .int tl, .ref xr, .ref xd, .ref xn, .ref xa, .ref xs, .ref xy, .int 0])), (xr, .inl (g 0, 4, .inl (upd f 0 (f 0 + 1))))]) [0, 1] rfl
  have hD9 := hD.sub (ws' := [(x, .inr (6, [.ref xt, .int tl, .ref xr, .ref xd, .ref xn, .ref xa, .ref xs, .ref xy, .int 0])), (xr, .inl (g 0, 4, .inl (upd f 0 (f 0 + 1))))]) [0, 1] (by decide) rfl
  subst hQ
  refine W.widen (k := 0) (n := 0) (Nat.le_of_ble_eq_true rfl) (Nat.le_of_ble_eq_true rfl) ?_
  exact W.iret (v := (-1)) hx hb hr (fun tS htS _ => ⟨⟨_, _, rfl, ⟨rfl, rfl⟩, by rw [htS]; exact hP9, hD9⟩, hS.F htS⟩) hS.2.2 dX6_source_13
set_option maxHeartbeats 4000000 in
set_option maxRecDepth 100000 in
/-- takes on an object without a NET -/
theorem c_X6_takes (l : Launch) (D : va_G) (g : Nat → ClassId) (sz : Nat) (x : Nat) (xt : Nat) (tl : Int32) (xr : Nat) (xd : Nat) (xn : Nat) (xa : Nat) (xs : Nat) (xy : Nat) (p0 : Int32) (p1 : Int32) (f : Nat → Int32) : Met l yX6_takes wsX6_takes ({ frames := 1, cells := 0, slots := 0, locals := 21 }) (va_Pc [.ref x, .int p0, .int p1] (pre D g sz [(x, .inr (6, [.ref xt, .int tl, .ref xr, .ref xd, .ref xn, .ref xa, .ref xs, .ref xy, .int 0])), (xr, .inl (g 0, 4, .inl f))])) (va_Qi (fun (r : Int32) (u : va_W) => u = [(x, .inr (6, [.ref xt, .int tl, .ref xr, .ref xd, .ref xn, .ref xa, .ref xs, .ref xy, .int 0])), (xr, .inl (g 0, 4, .inl (upd f 0 (f 0 + 1))))] ∧ r = (-1)) (wd D (va_A [(x, .inr (6, [.ref xt, .int tl, .ref xr, .ref xd, .ref xn, .ref xa, .ref xs, .ref xy, .int 0])), (xr, .inl (g 0, 4, .inl f))] sz)) (va_A [(x, .inr (6, [.ref xt, .int tl, .ref xr, .ref xd, .ref xn, .ref xa, .ref xs, .ref xy, .int 0])), (xr, .inl (g 0, 4, .inl f))] sz)) 0 0 (va_A [(x, .inr (6, [.ref xt, .int tl, .ref xr, .ref xd, .ref xn, .ref xa, .ref xs, .ref xy, .int 0])), (xr, .inl (g 0, 4, .inl f))] sz) := by
  refine Met.ofW (cc := cX6_takes) (maxL := 5) (ret := (some .int)) (by decide) rfl ?_
  intro p e s m args below meth c s₁ B hml hv
  obtain ⟨rfl, hsz, hP, ⟨hK, hN⟩, hD0, hZ⟩ := hv
  have hx := B.exec
  have hb := B.bytes
  have hr := B.returns
  have hts := atoms_spec (ws := wsX6_takes) B.pre
  have hown : s.vm.findClass RX6 = some m.cls := findClass_of_methodNamed B.named
  have hlocks := B.notSynchronized
  clear B
  subst hsz
  have hD := hD0.self (sz := s.heap.size)
  clear hD0
  generalize hAe : va_A [(x, .inr (6, [.ref xt, .int tl, .ref xr, .ref xd, .ref xn, .ref xa, .ref xs, .ref xy, .int 0])), (xr, .inl (g 0, 4, .inl f))] s.heap.size = A at hD hZ ⊢
  have hA : ∀ q : Nat, s.heap.size ≤ q → A q := fun q h => by rw [← hAe]; exact Or.inr h
  have hS : va_S A s.heap s.heap [] := va_S.rf
  have hl := lv_entry ([.ref x, .int p0, .int p1]) (n := 5) (Nat.le_of_ble_eq_true rfl)
  rw [lg_entry_eq]
  generalize (lg_sl ([.ref x, .int p0, .int p1]) ++ List.replicate (5 - (lg_sl ([.ref x, .int p0, .int p1])).length) Slot.unset).toArray = ls at hl ⊢
  have hl : lv_has ls 5 [(0, .ref x), (1, .int p0), (2, .int p1)] := hl
  generalize hQ : MQ below _ _ s _ _ _ = Q
  generalize hH : s.heap = H at hP ⊢
  have hS : va_S A s.heap H [] := by rw [← hH]; exact hS
  clear hH
  refine lv_aload_n hx hb dX6_takes_0 rfl (lv_at hl 0 rfl) ?_
  refine lv_iload_n hx hb dX6_takes_1 rfl (lv_at hl 1 rfl) ?_
  refine ky_Vi (As := [.int p0]) (rest := []) ⟨hx, hb, hml, hown, hts⟩ ⟨hK, hN⟩ hZ hP hD hS hA [0] [1] (wc := [(x, .inr (6, [.ref xt, .int tl, .ref xr, .ref xd, .ref xn, .ref xa, .ref xs, .ref xy, .int 0]))]) (wr := [(xr, .inl (g 0, 4, .inl f))]) rfl rfl rfl rfl (by decide) (c_X6_isCircuit l D g H.size x xt tl xr xd xn xa xs xy p0) (cwV 1 hts gX6_takes_X6_isCircuit rfl rfl rfl (by decide +kernel) ⟨(Nat.le_of_ble_eq_true rfl), (Nat.le_of_ble_eq_true rfl)⟩) 0 6 rfl rfl rfl rfl hl.1 rfl (Nat.le_of_ble_eq_true rfl) dX6_takes_2 ⟨(Nat.le_of_ble_eq_true rfl), (Nat.le_of_ble_eq_true rfl)⟩ (fun r_1 u H locs hw hP hD hS => ?_)
  obtain ⟨rfl, rfl⟩ := hw
  have hP : va_P D vwCl [(xr, .inl (g 0, 4, .inl f)), (x, .inr (6, [.ref xt, .int tl, .ref xr, .ref xd, .ref xn, .ref xa, .ref xs, .ref xy, .int 0]))] H := hP
  have hD : va_D A [(xr, .inl (g 0, 4, .inl f)), (x, .inr (6, [.ref xt, .int tl, .ref xr, .ref xd, .ref xn, .ref xa, .ref xs, .ref xy, .int 0]))] := hD
  refine W.widen (k := 0) (n := 0) (Nat.le_of_ble_eq_true rfl) (Nat.le_of_ble_eq_true rfl) ?_
  refine lv_if_ne (tgt := 14) hx hb dX6_takes_5 (by decide) (fun cb => absurd (by decide) cb) (fun _ => ?_)
  refine lv_aload_n hx hb dX6_takes_8 rfl (lv_at hl 0 rfl) ?_
  refine lv_iconst (v := 0) hx hb dX6_takes_9 (by decide) ?_
  refine ky_Vi (As := [.int 0]) (rest := []) ⟨hx, hb, hml, hown, hts⟩ ⟨hK, hN⟩ hZ hP hD hS hA [1, 0] [] (wc := [(x, .inr (6, [.ref xt, .int tl, .ref xr, .ref xd, .ref xn, .ref xa, .ref xs, .ref xy, .int 0])), (xr, .inl (g 0, 4, .inl f))]) (wr := []) rfl rfl rfl rfl (by decide) (c_X6_refuse l D g H.size x xt tl xr xd xn xa xs xy f) (cwV 1 hts gX6_takes_X6_refuse rfl rfl rfl (by decide +kernel) ⟨(Nat.le_of_ble_eq_true rfl), (Nat.le_of_ble_eq_true rfl)⟩) 1 6 rfl rfl rfl rfl hl.1 rfl (Nat.le_of_ble_eq_true rfl) dX6_takes_10 ⟨(Nat.le_of_ble_eq_true rfl), (Nat.le_of_ble_eq_true rfl)⟩ (fun r_2 u H locs hw hP hD hS => ?_)
  obtain ⟨rfl, rfl⟩ := hw
  have hP : va_P D vwCl [(x, .inr (6, [.ref xt, .int tl, .ref xr, .ref xd, .ref xn, .ref xa, .ref xs, .ref xy, .int 0])), (xr, .inl (g 0, 4, .inl (upd f 0 (f 0 + 1))))] H := hP
  have hD : va_D A [(x, .inr (6, [.ref xt, .int tl, .ref xr, .ref xd, .ref xn, .ref xa, .ref xs, .ref xy, .int 0])), (xr, .inl (g 0, 4, .inl (upd f 0 (f 0 + 1))))] := hD
  refine W.widen (k := 0) (n := 0) (Nat.le_of_ble_eq_true rfl) (Nat.le_of_ble_eq_true rfl) ?_
  have hP9 := hP.sub (ws' := [(x, .inr (6, [.ref xt, .int tl, .ref xr, .ref xd, .ref xn, .ref xa, .ref xs, .ref xy, .int 0])), (xr, .inl (g 0, 4, .inl (upd f 0 (f 0 + 1))))]) [0, 1] rfl
  have hD9 := hD.sub (ws' := [(x, .inr (6, [.ref xt, .int tl, .ref xr, .ref xd, .ref xn, .ref xa, .ref xs, .ref xy, .int 0])), (xr, .inl (g 0, 4, .inl (upd f 0 (f 0 + 1))))]) [0, 1] (by decide) rfl
  subst hQ
  refine W.widen (k := 0) (n := 0) (Nat.le_of_ble_eq_true rfl) (Nat.le_of_ble_eq_true rfl) ?_
  exact W.iret (v := (-1)) hx hb hr (fun tS htS _ => ⟨⟨_, _, rfl, ⟨rfl, rfl⟩, by rw [htS]; exact hP9, hD9⟩, hS.F htS⟩) hS.2.2 dX6_takes_13
set_option maxHeartbeats 4000000 in
set_option maxRecDepth 100000 in
/-- zone on an object without a NET -/
theorem c_X6_zone (l : Launch) (D : va_G) (g : Nat → ClassId) (sz : Nat) (x : Nat) (xt : Nat) (tl : Int32) (xr : Nat) (xd : Nat) (xn : Nat) (xa : Nat) (xs : Nat) (xy : Nat) (p0 : Int32) (p1 : Int32) (p2 : Int32) (f : Nat → Int32) : Met l yX6_zone wsX6_zone ({ frames := 3, cells := 0, slots := 0, locals := 67 }) (va_Pc [.ref x, .int p0, .int p1, .int p2] (pre D g sz [(x, .inr (6, [.ref xt, .int tl, .ref xr, .ref xd, .ref xn, .ref xa, .ref xs, .ref xy, .int 0])), (xr, .inl (g 0, 4, .inl f))])) (va_Qi (fun (r : Int32) (u : va_W) => u = [(x, .inr (6, [.ref xt, .int tl, .ref xr, .ref xd, .ref xn, .ref xa, .ref xs, .ref xy, .int 0])), (xr, .inl (g 0, 4, .inl (upd f 0 (f 0 + 1))))] ∧ r = (-1)) (wd D (va_A [(x, .inr (6, [.ref xt, .int tl, .ref xr, .ref xd, .ref xn, .ref xa, .ref xs, .ref xy, .int 0])), (xr, .inl (g 0, 4, .inl f))] sz)) (va_A [(x, .inr (6, [.ref xt, .int tl, .ref xr, .ref xd, .ref xn, .ref xa, .ref xs, .ref xy, .int 0])), (xr, .inl (g 0, 4, .inl f))] sz)) 0 0 (va_A [(x, .inr (6, [.ref xt, .int tl, .ref xr, .ref xd, .ref xn, .ref xa, .ref xs, .ref xy, .int 0])), (xr, .inl (g 0, 4, .inl f))] sz) := by
  refine Met.ofW (cc := cX6_zone) (maxL := 7) (ret := (some .int)) (by decide) rfl ?_
  intro p e s m args below meth c s₁ B hml hv
  obtain ⟨rfl, hsz, hP, ⟨hK, hN⟩, hD0, hZ⟩ := hv
  have hx := B.exec
  have hb := B.bytes
  have hr := B.returns
  have hts := atoms_spec (ws := wsX6_zone) B.pre
  have hown : s.vm.findClass RX6 = some m.cls := findClass_of_methodNamed B.named
  have hlocks := B.notSynchronized
  clear B
  subst hsz
  have hD := hD0.self (sz := s.heap.size)
  clear hD0
  generalize hAe : va_A [(x, .inr (6, [.ref xt, .int tl, .ref xr, .ref xd, .ref xn, .ref xa, .ref xs, .ref xy, .int 0])), (xr, .inl (g 0, 4, .inl f))] s.heap.size = A at hD hZ ⊢
  have hA : ∀ q : Nat, s.heap.size ≤ q → A q := fun q h => by rw [← hAe]; exact Or.inr h
  have hS : va_S A s.heap s.heap [] := va_S.rf
  have hl := lv_entry ([.ref x, .int p0, .int p1, .int p2]) (n := 7) (Nat.le_of_ble_eq_true rfl)
  rw [lg_entry_eq]
  generalize (lg_sl ([.ref x, .int p0, .int p1, .int p2]) ++ List.replicate (7 - (lg_sl ([.ref x, .int p0, .int p1, .int p2])).length) Slot.unset).toArray = ls at hl ⊢
  have hl : lv_has ls 7 [(0, .ref x), (1, .int p0), (2, .int p1), (3, .int p2)] := hl
  generalize hQ : MQ below _ _ s _ _ _ = Q
  generalize hH : s.heap = H at hP ⊢
  have hS : va_S A s.heap H [] := by rw [← hH]; exact hS
  clear hH
  refine lv_aload_n hx hb dX6_zone_0 rfl (lv_at hl 0 rfl) ?_
  refine lv_iload_n hx hb dX6_zone_1 rfl (lv_at hl 1 rfl) ?_
  refine lv_iload_n hx hb dX6_zone_2 rfl (lv_at hl 2 rfl) ?_
  refine lv_iload_n hx hb dX6_zone_3 rfl (lv_at hl 3 rfl) ?_
  refine ky_Vi (As := [.int p0, .int p1, .int p2]) (rest := []) ⟨hx, hb, hml, hown, hts⟩ ⟨hK, hN⟩ hZ hP hD hS hA [0] [1] (wc := [(x, .inr (6, [.ref xt, .int tl, .ref xr, .ref xd, .ref xn, .ref xa, .ref xs, .ref xy, .int 0]))]) (wr := [(xr, .inl (g 0, 4, .inl f))]) rfl rfl rfl rfl (by decide) (c_X6_zoneRefusal l D g H.size x xt tl xr xd xn xa xs xy p0 p1 p2) (cwV 3 hts gX6_zone_X6_zoneRefusal rfl rfl rfl (by decide +kernel) ⟨(Nat.le_of_ble_eq_true rfl), (Nat.le_of_ble_eq_true rfl)⟩) 0 6 rfl rfl rfl rfl hl.1 rfl (Nat.le_of_ble_eq_true rfl) dX6_zone_4 ⟨(Nat.le_of_ble_eq_true rfl), (Nat.le_of_ble_eq_true rfl)⟩ (fun r_1 u H locs hw hP hD hS => ?_)
  obtain ⟨rfl, rfl⟩ := hw
  have hP : va_P D vwCl [(xr, .inl (g 0, 4, .inl f)), (x, .inr (6, [.ref xt, .int tl, .ref xr, .ref xd, .ref xn, .ref xa, .ref xs, .ref xy, .int 0]))] H := hP
  have hD : va_D A [(xr, .inl (g 0, 4, .inl f)), (x, .inr (6, [.ref xt, .int tl, .ref xr, .ref xd, .ref xn, .ref xa, .ref xs, .ref xy, .int 0]))] := hD
  refine W.widen (k := 0) (n := 0) (Nat.le_of_ble_eq_true rfl) (Nat.le_of_ble_eq_true rfl) ?_
  refine lv_istore (lv' := [(4, .int 0), (0, .ref x), (1, .int p0), (2, .int p1), (3, .int p2)]) hx hb dX6_zone_7 hl (by decide) rfl (fun ls hl => ?_)
  refine lv_iload hx hb dX6_zone_9 (lv_at hl 0 rfl) ?_
  refine lv_iconst (v := (-1)) hx hb dX6_zone_11 (by decide) ?_
  refine lv_icmp_eq (tgt := 22) hx hb dX6_zone_12 (by decide) (fun cb => absurd cb (by decide)) (fun _ => ?_)
  refine lv_aload_n hx hb dX6_zone_15 rfl (lv_at hl 1 rfl) ?_
  refine lv_iload hx hb dX6_zone_16 (lv_at hl 0 rfl) ?_
  refine ky_Vi (As := [.int 0]) (rest := []) ⟨hx, hb, hml, hown, hts⟩ ⟨hK, hN⟩ hZ hP hD hS hA [1, 0] [] (wc := [(x, .inr (6, [.ref xt, .int tl, .ref xr, .ref xd, .ref xn, .ref xa, .ref xs, .ref xy, .int 0])), (xr, .inl (g 0, 4, .inl f))]) (wr := []) rfl rfl rfl rfl (by decide) (c_X6_refuse l D g H.size x xt tl xr xd xn xa xs xy f) (cwV 1 hts gX6_zone_X6_refuse rfl rfl rfl (by decide +kernel) ⟨(Nat.le_of_ble_eq_true rfl), (Nat.le_of_ble_eq_true rfl)⟩) 1 6 rfl rfl rfl rfl hl.1 rfl (Nat.le_of_ble_eq_true rfl) dX6_zone_18 ⟨(Nat.le_of_ble_eq_true rfl), (Nat.le_of_ble_eq_true rfl)⟩ (fun r_2 u H locs hw hP hD hS => ?_)
  obtain ⟨rfl, rfl⟩ := hw
  have hP : va_P D vwCl [(x, .inr (6, [.ref xt, .int tl, .ref xr, .ref xd, .ref xn, .ref xa, .ref xs, .ref xy, .int 0])), (xr, .inl (g 0, 4, .inl (upd f 0 (f 0 + 1))))] H := hP
  have hD : va_D A [(x, .inr (6, [.ref xt, .int tl, .ref xr, .ref xd, .ref xn, .ref xa, .ref xs, .ref xy, .int 0])), (xr, .inl (g 0, 4, .inl (upd f 0 (f 0 + 1))))] := hD
  refine W.widen (k := 0) (n := 0) (Nat.le_of_ble_eq_true rfl) (Nat.le_of_ble_eq_true rfl) ?_
  have hP9 := hP.sub (ws' := [(x, .inr (6, [.ref xt, .int tl, .ref xr, .ref xd, .ref xn, .ref xa, .ref xs, .ref xy, .int 0])), (xr, .inl (g 0, 4, .inl (upd f 0 (f 0 + 1))))]) [0, 1] rfl
  have hD9 := hD.sub (ws' := [(x, .inr (6, [.ref xt, .int tl, .ref xr, .ref xd, .ref xn, .ref xa, .ref xs, .ref xy, .int 0])), (xr, .inl (g 0, 4, .inl (upd f 0 (f 0 + 1))))]) [0, 1] (by decide) rfl
  subst hQ
  refine W.widen (k := 0) (n := 0) (Nat.le_of_ble_eq_true rfl) (Nat.le_of_ble_eq_true rfl) ?_
  exact W.iret (v := (-1)) hx hb hr (fun tS htS _ => ⟨⟨_, _, rfl, ⟨rfl, rfl⟩, by rw [htS]; exact hP9, hD9⟩, hS.F htS⟩) hS.2.2 dX6_zone_21
set_option maxHeartbeats 4000000 in
set_option maxRecDepth 100000 in
/-- probe on an object without a NET -/
theorem c_X6_probe (l : Launch) (D : va_G) (g : Nat → ClassId) (sz : Nat) (x : Nat) (xt : Nat) (tl : Int32) (xr : Nat) (xd : Nat) (xn : Nat) (xa : Nat) (xs : Nat) (xy : Nat) (p0 : Int32) (p1 : Int32) (f : Nat → Int32) : Met l yX6_probe wsX6_probe ({ frames := 2, cells := 0, slots := 0, locals := 43 }) (va_Pc [.ref x, .int p0, .int p1] (pre D g sz [(x, .inr (6, [.ref xt, .int tl, .ref xr, .ref xd, .ref xn, .ref xa, .ref xs, .ref xy, .int 0])), (xr, .inl (g 0, 4, .inl f))])) (va_Qi (fun (r : Int32) (u : va_W) => u = [(x, .inr (6, [.ref xt, .int tl, .ref xr, .ref xd, .ref xn, .ref xa, .ref xs, .ref xy, .int 0])), (xr, .inl (g 0, 4, .inl (upd f 0 (f 0 + 1))))] ∧ r = (-1)) (wd D (va_A [(x, .inr (6, [.ref xt, .int tl, .ref xr, .ref xd, .ref xn, .ref xa, .ref xs, .ref xy, .int 0])), (xr, .inl (g 0, 4, .inl f))] sz)) (va_A [(x, .inr (6, [.ref xt, .int tl, .ref xr, .ref xd, .ref xn, .ref xa, .ref xs, .ref xy, .int 0])), (xr, .inl (g 0, 4, .inl f))] sz)) 0 0 (va_A [(x, .inr (6, [.ref xt, .int tl, .ref xr, .ref xd, .ref xn, .ref xa, .ref xs, .ref xy, .int 0])), (xr, .inl (g 0, 4, .inl f))] sz) := by
  refine Met.ofW (cc := cX6_probe) (maxL := 3) (ret := (some .int)) (by decide) rfl ?_
  intro p e s m args below meth c s₁ B hml hv
  obtain ⟨rfl, hsz, hP, ⟨hK, hN⟩, hD0, hZ⟩ := hv
  have hx := B.exec
  have hb := B.bytes
  have hr := B.returns
  have hts := atoms_spec (ws := wsX6_probe) B.pre
  have hown : s.vm.findClass RX6 = some m.cls := findClass_of_methodNamed B.named
  have hlocks := B.notSynchronized
  clear B
  subst hsz
  have hD := hD0.self (sz := s.heap.size)
  clear hD0
  generalize hAe : va_A [(x, .inr (6, [.ref xt, .int tl, .ref xr, .ref xd, .ref xn, .ref xa, .ref xs, .ref xy, .int 0])), (xr, .inl (g 0, 4, .inl f))] s.heap.size = A at hD hZ ⊢
  have hA : ∀ q : Nat, s.heap.size ≤ q → A q := fun q h => by rw [← hAe]; exact Or.inr h
  have hS : va_S A s.heap s.heap [] := va_S.rf
  have hl := lv_entry ([.ref x, .int p0, .int p1]) (n := 3) (Nat.le_of_ble_eq_true rfl)
  rw [lg_entry_eq]
  generalize (lg_sl ([.ref x, .int p0, .int p1]) ++ List.replicate (3 - (lg_sl ([.ref x, .int p0, .int p1])).length) Slot.unset).toArray = ls at hl ⊢
  have hl : lv_has ls 3 [(0, .ref x), (1, .int p0), (2, .int p1)] := hl
  generalize hQ : MQ below _ _ s _ _ _ = Q
  generalize hH : s.heap = H at hP ⊢
  have hS : va_S A s.heap H [] := by rw [← hH]; exact hS
  clear hH
  refine lv_aload_n hx hb dX6_probe_0 rfl (lv_at hl 0 rfl) ?_
  refine lv_iload_n hx hb dX6_probe_1 rfl (lv_at hl 1 rfl) ?_
  refine lv_iload_n hx hb dX6_probe_2 rfl (lv_at hl 2 rfl) ?_
  refine ky_Vi (As := [.int p0, .int p1]) (rest := []) ⟨hx, hb, hml, hown, hts⟩ ⟨hK, hN⟩ hZ hP hD hS hA [0] [1] (wc := [(x, .inr (6, [.ref xt, .int tl, .ref xr, .ref xd, .ref xn, .ref xa, .ref xs, .ref xy, .int 0]))]) (wr := [(xr, .inl (g 0, 4, .inl f))]) rfl rfl rfl rfl (by decide) (c_X6_isLane l D g H.size x xt tl xr xd xn xa xs xy p0 p1) (cwV 2 hts gX6_probe_X6_isLane rfl rfl rfl (by decide +kernel) ⟨(Nat.le_of_ble_eq_true rfl), (Nat.le_of_ble_eq_true rfl)⟩) 0 6 rfl rfl rfl rfl hl.1 rfl (Nat.le_of_ble_eq_true rfl) dX6_probe_3 ⟨(Nat.le_of_ble_eq_true rfl), (Nat.le_of_ble_eq_true rfl)⟩ (fun r_1 u H locs hw hP hD hS => ?_)
  obtain ⟨rfl, rfl⟩ := hw
  have hP : va_P D vwCl [(xr, .inl (g 0, 4, .inl f)), (x, .inr (6, [.ref xt, .int tl, .ref xr, .ref xd, .ref xn, .ref xa, .ref xs, .ref xy, .int 0]))] H := hP
  have hD : va_D A [(xr, .inl (g 0, 4, .inl f)), (x, .inr (6, [.ref xt, .int tl, .ref xr, .ref xd, .ref xn, .ref xa, .ref xs, .ref xy, .int 0]))] := hD
  refine W.widen (k := 0) (n := 0) (Nat.le_of_ble_eq_true rfl) (Nat.le_of_ble_eq_true rfl) ?_
  refine lv_if_ne (tgt := 15) hx hb dX6_probe_6 (by decide) (fun cb => absurd (by decide) cb) (fun _ => ?_)
  refine lv_aload_n hx hb dX6_probe_9 rfl (lv_at hl 0 rfl) ?_
  refine lv_iconst (v := 0) hx hb dX6_probe_10 (by decide) ?_
  refine ky_Vi (As := [.int 0]) (rest := []) ⟨hx, hb, hml, hown, hts⟩ ⟨hK, hN⟩ hZ hP hD hS hA [1, 0] [] (wc := [(x, .inr (6, [.ref xt, .int tl, .ref xr, .ref xd, .ref xn, .ref xa, .ref xs, .ref xy, .int 0])), (xr, .inl (g 0, 4, .inl f))]) (wr := []) rfl rfl rfl rfl (by decide) (c_X6_refuse l D g H.size x xt tl xr xd xn xa xs xy f) (cwV 1 hts gX6_probe_X6_refuse rfl rfl rfl (by decide +kernel) ⟨(Nat.le_of_ble_eq_true rfl), (Nat.le_of_ble_eq_true rfl)⟩) 1 6 rfl rfl rfl rfl hl.1 rfl (Nat.le_of_ble_eq_true rfl) dX6_probe_11 ⟨(Nat.le_of_ble_eq_true rfl), (Nat.le_of_ble_eq_true rfl)⟩ (fun r_2 u H locs hw hP hD hS => ?_)
  obtain ⟨rfl, rfl⟩ := hw
  have hP : va_P D vwCl [(x, .inr (6, [.ref xt, .int tl, .ref xr, .ref xd, .ref xn, .ref xa, .ref xs, .ref xy, .int 0])), (xr, .inl (g 0, 4, .inl (upd f 0 (f 0 + 1))))] H := hP
  have hD : va_D A [(x, .inr (6, [.ref xt, .int tl, .ref xr, .ref xd, .ref xn, .ref xa, .ref xs, .ref xy, .int 0])), (xr, .inl (g 0, 4, .inl (upd f 0 (f 0 + 1))))] := hD
  refine W.widen (k := 0) (n := 0) (Nat.le_of_ble_eq_true rfl) (Nat.le_of_ble_eq_true rfl) ?_
  have hP9 := hP.sub (ws' := [(x, .inr (6, [.ref xt, .int tl, .ref xr, .ref xd, .ref xn, .ref xa, .ref xs, .ref xy, .int 0])), (xr, .inl (g 0, 4, .inl (upd f 0 (f 0 + 1))))]) [0, 1] rfl
  have hD9 := hD.sub (ws' := [(x, .inr (6, [.ref xt, .int tl, .ref xr, .ref xd, .ref xn, .ref xa, .ref xs, .ref xy, .int 0])), (xr, .inl (g 0, 4, .inl (upd f 0 (f 0 + 1))))]) [0, 1] (by decide) rfl
  subst hQ
  refine W.widen (k := 0) (n := 0) (Nat.le_of_ble_eq_true rfl) (Nat.le_of_ble_eq_true rfl) ?_
  exact W.iret (v := (-1)) hx hb hr (fun tS htS _ => ⟨⟨_, _, rfl, ⟨rfl, rfl⟩, by rw [htS]; exact hP9, hD9⟩, hS.F htS⟩) hS.2.2 dX6_probe_14
