set_option maxHeartbeats 4000000 in
set_option maxRecDepth 100000 in
/-- in(v, lo, hi) -/
theorem c_X7_in (l : Launch) (D : va_G) (g : Nat → ClassId) (sz : Nat) (v : Int32) (lo : Int32) (hi : Int32) : Met l yX7_in wsX7_in ({ frames := 0, cells := 0, slots := 0, locals := 0 }) (va_Pc [.int v, .int lo, .int hi] (pre D g sz [])) (va_Qi (fun (r : Int32) (u : va_W) => u = [] ∧ r = (if lo ≤ v ∧ v ≤ hi then 1 else 0)) (wd D (va_A [] sz)) (va_A [] sz)) 0 0 (va_A [] sz) := by
  refine Met.ofW (cc := cX7_in) (maxL := 3) (ret := (some .boolean)) (by decide) rfl ?_
  intro p e s m args below meth c s₁ B hml hv
  obtain ⟨rfl, hsz, hP, ⟨hK, hN⟩, hD0, hZ⟩ := hv
  have hx := B.exec
  have hb := B.bytes
  have hr := B.returns
  have hts := atoms_spec (ws := wsX7_in) B.pre
  have hown : s.vm.findClass RX7 = some m.cls := findClass_of_methodNamed B.named
  have hlocks := B.notSynchronized
  clear B
  subst hsz
  have hD := hD0.self (sz := s.heap.size)
  clear hD0
  generalize hAe : va_A [] s.heap.size = A at hD hZ ⊢
  have hA : ∀ q : Nat, s.heap.size ≤ q → A q := fun q h => by rw [← hAe]; exact Or.inr h
  have hS : va_S A s.heap s.heap [] := va_S.rf
  have hl := lv_entry ([.int v, .int lo, .int hi]) (n := 3) (Nat.le_of_ble_eq_true rfl)
  rw [lg_entry_eq]
  generalize (lg_sl ([.int v, .int lo, .int hi]) ++ List.replicate (3 - (lg_sl ([.int v, .int lo, .int hi])).length) Slot.unset).toArray = ls at hl ⊢
  have hl : lv_has ls 3 [(0, .int v), (1, .int lo), (2, .int hi)] := hl
  generalize hQ : MQ below _ _ s _ _ _ = Q
  generalize hH : s.heap = H at hP ⊢
  have hS : va_S A s.heap H [] := by rw [← hH]; exact hS
  clear hH
  refine lv_iload_n hx hb dX7_in_0 rfl (lv_at hl 0 rfl) ?_
  refine lv_iload_n hx hb dX7_in_1 rfl (lv_at hl 1 rfl) ?_
  refine lv_icmp_lt (tgt := 14) hx hb dX7_in_2 (by decide) (fun cb_1 => ?_) (fun cb_1 => ?_)
  · skip
    refine lv_iconst (v := 0) hx hb dX7_in_14 (by decide) ?_
    have hP9 := hP.sub (ws' := []) [] rfl
    have hD9 := hD.sub (ws' := []) [] (by decide) rfl
    subst hQ
    refine W.widen (k := 0) (n := 0) (Nat.le_of_ble_eq_true rfl) (Nat.le_of_ble_eq_true rfl) ?_
    exact W.zret (v := 0) (ty := .boolean) hx hb hr (rfl) (fun tS htS _ => ⟨⟨_, _, rfl, ⟨rfl, (if_neg (fun h => absurd h.1 (Int32.not_le.mpr cb_1))).symm⟩, by rw [htS]; exact hP9, hD9⟩, hS.F htS⟩) hS.2.2 dX7_in_15
  · skip
    refine lv_iload_n hx hb dX7_in_5 rfl (lv_at hl 0 rfl) ?_
    refine lv_iload_n hx hb dX7_in_6 rfl (lv_at hl 2 rfl) ?_
    refine lv_icmp_gt (tgt := 14) hx hb dX7_in_7 (by decide) (fun cb_2 => ?_) (fun cb_2 => ?_)
    · skip
      refine lv_iconst (v := 0) hx hb dX7_in_14 (by decide) ?_
      have hP9 := hP.sub (ws' := []) [] rfl
      have hD9 := hD.sub (ws' := []) [] (by decide) rfl
      subst hQ
      refine W.widen (k := 0) (n := 0) (Nat.le_of_ble_eq_true rfl) (Nat.le_of_ble_eq_true rfl) ?_
      exact W.zret (v := 0) (ty := .boolean) hx hb hr (rfl) (fun tS htS _ => ⟨⟨_, _, rfl, ⟨rfl, (if_neg (fun h => absurd h.2 (Int32.not_le.mpr cb_2))).symm⟩, by rw [htS]; exact hP9, hD9⟩, hS.F htS⟩) hS.2.2 dX7_in_15
    · skip
      refine lv_iconst (v := 1) hx hb dX7_in_10 (by decide) ?_
      refine lv_goto (tgt := 15) hx hb dX7_in_11 (by decide) ?_
      have hP9 := hP.sub (ws' := []) [] rfl
      have hD9 := hD.sub (ws' := []) [] (by decide) rfl
      subst hQ
      refine W.widen (k := 0) (n := 0) (Nat.le_of_ble_eq_true rfl) (Nat.le_of_ble_eq_true rfl) ?_
      exact W.zret (v := 1) (ty := .boolean) hx hb hr (rfl) (fun tS htS _ => ⟨⟨_, _, rfl, ⟨rfl, (if_pos ⟨Int32.not_lt.mp cb_1, Int32.not_lt.mp cb_2⟩).symm⟩, by rw [htS]; exact hP9, hD9⟩, hS.F htS⟩) hS.2.2 dX7_in_15
set_option maxHeartbeats 4000000 in
set_option maxRecDepth 100000 in
theorem c_X7_isSpan (l : Launch) (D : va_G) (g : Nat → ClassId) (sz : Nat) (p0 : Int32) (p1 : Int32) : Met l yX7_isSpan wsX7_isSpan ({ frames := 1, cells := 0, slots := 0, locals := 22 }) (va_Pc [.int p0, .int p1] (pre D g sz [])) (va_Qi (fun (r : Int32) (u : va_W) => u = [] ∧ r = (if p1 ≤ p0 ∧ p0 ≤ 200 then 1 else 0)) (wd D (va_A [] sz)) (va_A [] sz)) 0 0 (va_A [] sz) := by
  refine Met.ofW (cc := cX7_isSpan) (maxL := 2) (ret := (some .boolean)) (by decide) rfl ?_
  intro p e s m args below meth c s₁ B hml hv
  obtain ⟨rfl, hsz, hP, ⟨hK, hN⟩, hD0, hZ⟩ := hv
  have hx := B.exec
  have hb := B.bytes
  have hr := B.returns
  have hts := atoms_spec (ws := wsX7_isSpan) B.pre
  have hown : s.vm.findClass RX7 = some m.cls := findClass_of_methodNamed B.named
  have hlocks := B.notSynchronized
  clear B
  subst hsz
  have hD := hD0.self (sz := s.heap.size)
  clear hD0
  generalize hAe : va_A [] s.heap.size = A at hD hZ ⊢
  have hA : ∀ q : Nat, s.heap.size ≤ q → A q := fun q h => by rw [← hAe]; exact Or.inr h
  have hS : va_S A s.heap s.heap [] := va_S.rf
  have hl := lv_entry ([.int p0, .int p1]) (n := 2) (Nat.le_of_ble_eq_true rfl)
  rw [lg_entry_eq]
  generalize (lg_sl ([.int p0, .int p1]) ++ List.replicate (2 - (lg_sl ([.int p0, .int p1])).length) Slot.unset).toArray = ls at hl ⊢
  have hl : lv_has ls 2 [(0, .int p0), (1, .int p1)] := hl
  generalize hQ : MQ below _ _ s _ _ _ = Q
  generalize hH : s.heap = H at hP ⊢
  have hS : va_S A s.heap H [] := by rw [← hH]; exact hS
  clear hH
  refine lv_iload_n hx hb dX7_isSpan_0 rfl (lv_at hl 0 rfl) ?_
  refine lv_iload_n hx hb dX7_isSpan_1 rfl (lv_at hl 1 rfl) ?_
  refine lv_sipush (v := 200) hx hb dX7_isSpan_2 (by decide) ?_
  refine ky_Si (As := [.int p0, .int p1, .int 200]) (rest := []) ⟨hx, hb, hml, hown, hts⟩ ⟨hK, hN⟩ hZ hP hD hS hA [] [] (wc := []) (wr := []) rfl rfl rfl rfl (by decide) (c_X7_in l D g H.size p0 p1 200) (va_cwS 3 hts gX7_isSpan_X7_in rfl rfl rfl (by decide +kernel) ⟨(Nat.le_of_ble_eq_true rfl), (Nat.le_of_ble_eq_true rfl)⟩) rfl hl.1 rfl (Nat.le_of_ble_eq_true rfl) dX7_isSpan_5 ⟨(Nat.le_of_ble_eq_true rfl), (Nat.le_of_ble_eq_true rfl)⟩ (fun r_1 u H locs hw hP hD hS => ?_)
  obtain ⟨rfl, rfl⟩ := hw
  have hP : va_P D vwCl [] H := hP
  have hD : va_D A [] := hD
  refine W.widen (k := 0) (n := 0) (Nat.le_of_ble_eq_true rfl) (Nat.le_of_ble_eq_true rfl) ?_
  have hP9 := hP.sub (ws' := []) [] rfl
  have hD9 := hD.sub (ws' := []) [] (by decide) rfl
  subst hQ
  refine W.widen (k := 0) (n := 0) (Nat.le_of_ble_eq_true rfl) (Nat.le_of_ble_eq_true rfl) ?_
  exact W.zret (v := (if p1 ≤ p0 ∧ p0 ≤ 200 then 1 else 0)) (ty := .boolean) hx hb hr (nz01) (fun tS htS _ => ⟨⟨_, _, rfl, ⟨rfl, rfl⟩, by rw [htS]; exact hP9, hD9⟩, hS.F htS⟩) hS.2.2 dX7_isSpan_8
set_option maxHeartbeats 4000000 in
set_option maxRecDepth 100000 in
theorem c_X7_isAlone (l : Launch) (D : va_G) (g : Nat → ClassId) (sz : Nat) (p0 : Int32) (p1 : Int32) (p2 : Int32) (p3 : Int32) : Met l yX7_isAlone wsX7_isAlone ({ frames := 2, cells := 0, slots := 0, locals := 43 }) (va_Pc [.int p0, .int p1, .int p2, .int p3] (pre D g sz [])) (va_Qi (fun (r : Int32) (u : va_W) => u = [] ∧ r = (if (1 ≤ p0 ∧ p0 ≤ 4) ∧ (1 ≤ p1 ∧ p1 ≤ 4) ∧ (1 ≤ p2 ∧ p2 ≤ 9) ∧ (1 ≤ p3 ∧ p3 ≤ 200) then 1 else 0)) (wd D (va_A [] sz)) (va_A [] sz)) 0 0 (va_A [] sz) := by
  refine Met.ofW (cc := cX7_isAlone) (maxL := 4) (ret := (some .boolean)) (by decide) rfl ?_
  intro p e s m args below meth c s₁ B hml hv
  obtain ⟨rfl, hsz, hP, ⟨hK, hN⟩, hD0, hZ⟩ := hv
  have hx := B.exec
  have hb := B.bytes
  have hr := B.returns
  have hts := atoms_spec (ws := wsX7_isAlone) B.pre
  have hown : s.vm.findClass RX7 = some m.cls := findClass_of_methodNamed B.named
  have hlocks := B.notSynchronized
  clear B
  subst hsz
  have hD := hD0.self (sz := s.heap.size)
  clear hD0
  generalize hAe : va_A [] s.heap.size = A at hD hZ ⊢
  have hA : ∀ q : Nat, s.heap.size ≤ q → A q := fun q h => by rw [← hAe]; exact Or.inr h
  have hS : va_S A s.heap s.heap [] := va_S.rf
  have hl := lv_entry ([.int p0, .int p1, .int p2, .int p3]) (n := 4) (Nat.le_of_ble_eq_true rfl)
  rw [lg_entry_eq]
  generalize (lg_sl ([.int p0, .int p1, .int p2, .int p3]) ++ List.replicate (4 - (lg_sl ([.int p0, .int p1, .int p2, .int p3])).length) Slot.unset).toArray = ls at hl ⊢
  have hl : lv_has ls 4 [(0, .int p0), (1, .int p1), (2, .int p2), (3, .int p3)] := hl
  generalize hQ : MQ below _ _ s _ _ _ = Q
  generalize hH : s.heap = H at hP ⊢
  have hS : va_S A s.heap H [] := by rw [← hH]; exact hS
  clear hH
  refine lv_iload_n hx hb dX7_isAlone_0 rfl (lv_at hl 0 rfl) ?_
  refine lv_iconst (v := 1) hx hb dX7_isAlone_1 (by decide) ?_
  refine lv_iconst (v := 4) hx hb dX7_isAlone_2 (by decide) ?_
  refine ky_Si (As := [.int p0, .int 1, .int 4]) (rest := []) ⟨hx, hb, hml, hown, hts⟩ ⟨hK, hN⟩ hZ hP hD hS hA [] [] (wc := []) (wr := []) rfl rfl rfl rfl (by decide) (c_X7_in l D g H.size p0 1 4) (va_cwS 3 hts gX7_isAlone_X7_in rfl rfl rfl (by decide +kernel) ⟨(Nat.le_of_ble_eq_true rfl), (Nat.le_of_ble_eq_true rfl)⟩) rfl hl.1 rfl (Nat.le_of_ble_eq_true rfl) dX7_isAlone_3 ⟨(Nat.le_of_ble_eq_true rfl), (Nat.le_of_ble_eq_true rfl)⟩ (fun r_1 u H locs hw hP hD hS => ?_)
  obtain ⟨rfl, rfl⟩ := hw
  have hP : va_P D vwCl [] H := hP
  have hD : va_D A [] := hD
  refine W.widen (k := 0) (n := 0) (Nat.le_of_ble_eq_true rfl) (Nat.le_of_ble_eq_true rfl) ?_
  refine lv_if_eq (tgt := 40) hx hb dX7_isAlone_6 (by decide) (fun cb_2 => ?_) (fun cb_2 => ?_)
  · skip
    refine lv_iconst (v := 0) hx hb dX7_isAlone_40 (by decide) ?_
    have hP9 := hP.sub (ws' := []) [] rfl
    have hD9 := hD.sub (ws' := []) [] (by decide) rfl
    subst hQ
    refine W.widen (k := 0) (n := 0) (Nat.le_of_ble_eq_true rfl) (Nat.le_of_ble_eq_true rfl) ?_
    exact W.zret (v := 0) (ty := .boolean) hx hb hr (rfl) (fun tS htS _ => ⟨⟨_, _, rfl, ⟨rfl, (if_neg (fun h => absurd h.1 (b01_0.mp cb_2))).symm⟩, by rw [htS]; exact hP9, hD9⟩, hS.F htS⟩) hS.2.2 dX7_isAlone_41
  · skip
    refine lv_iload_n hx hb dX7_isAlone_9 rfl (lv_at hl 1 rfl) ?_
    refine lv_iconst (v := 1) hx hb dX7_isAlone_10 (by decide) ?_
    refine lv_iconst (v := 4) hx hb dX7_isAlone_11 (by decide) ?_
    refine ky_Si (As := [.int p1, .int 1, .int 4]) (rest := []) ⟨hx, hb, hml, hown, hts⟩ ⟨hK, hN⟩ hZ hP hD hS hA [] [] (wc := []) (wr := []) rfl rfl rfl rfl (by decide) (c_X7_in l D g H.size p1 1 4) (va_cwS 3 hts gX7_isAlone_X7_in rfl rfl rfl (by decide +kernel) ⟨(Nat.le_of_ble_eq_true rfl), (Nat.le_of_ble_eq_true rfl)⟩) rfl hl.1 rfl (Nat.le_of_ble_eq_true rfl) dX7_isAlone_12 ⟨(Nat.le_of_ble_eq_true rfl), (Nat.le_of_ble_eq_true rfl)⟩ (fun r_3 u H locs hw hP hD hS => ?_)
    obtain ⟨rfl, rfl⟩ := hw
    have hP : va_P D vwCl [] H := hP
    have hD : va_D A [] := hD
    refine W.widen (k := 0) (n := 0) (Nat.le_of_ble_eq_true rfl) (Nat.le_of_ble_eq_true rfl) ?_
    refine lv_if_eq (tgt := 40) hx hb dX7_isAlone_15 (by decide) (fun cb_4 => ?_) (fun cb_4 => ?_)
    · skip
      refine lv_iconst (v := 0) hx hb dX7_isAlone_40 (by decide) ?_
      have hP9 := hP.sub (ws' := []) [] rfl
      have hD9 := hD.sub (ws' := []) [] (by decide) rfl
      subst hQ
      refine W.widen (k := 0) (n := 0) (Nat.le_of_ble_eq_true rfl) (Nat.le_of_ble_eq_true rfl) ?_
      exact W.zret (v := 0) (ty := .boolean) hx hb hr (rfl) (fun tS htS _ => ⟨⟨_, _, rfl, ⟨rfl, (if_neg (fun h => absurd h.2.1 (b01_0.mp cb_4))).symm⟩, by rw [htS]; exact hP9, hD9⟩, hS.F htS⟩) hS.2.2 dX7_isAlone_41
    · skip
      refine lv_iload_n hx hb dX7_isAlone_18 rfl (lv_at hl 2 rfl) ?_
      refine lv_iconst (v := 1) hx hb dX7_isAlone_19 (by decide) ?_
      refine lv_bipush (v := 9) hx hb dX7_isAlone_20 (by decide) ?_
      refine ky_Si (As := [.int p2, .int 1, .int 9]) (rest := []) ⟨hx, hb, hml, hown, hts⟩ ⟨hK, hN⟩ hZ hP hD hS hA [] [] (wc := []) (wr := []) rfl rfl rfl rfl (by decide) (c_X7_in l D g H.size p2 1 9) (va_cwS 3 hts gX7_isAlone_X7_in rfl rfl rfl (by decide +kernel) ⟨(Nat.le_of_ble_eq_true rfl), (Nat.le_of_ble_eq_true rfl)⟩) rfl hl.1 rfl (Nat.le_of_ble_eq_true rfl) dX7_isAlone_22 ⟨(Nat.le_of_ble_eq_true rfl), (Nat.le_of_ble_eq_true rfl)⟩ (fun r_5 u H locs hw hP hD hS => ?_)
      obtain ⟨rfl, rfl⟩ := hw
      have hP : va_P D vwCl [] H := hP
      have hD : va_D A [] := hD
      refine W.widen (k := 0) (n := 0) (Nat.le_of_ble_eq_true rfl) (Nat.le_of_ble_eq_true rfl) ?_
      refine lv_if_eq (tgt := 40) hx hb dX7_isAlone_25 (by decide) (fun cb_6 => ?_) (fun cb_6 => ?_)
      · skip
        refine lv_iconst (v := 0) hx hb dX7_isAlone_40 (by decide) ?_
        have hP9 := hP.sub (ws' := []) [] rfl
        have hD9 := hD.sub (ws' := []) [] (by decide) rfl
        subst hQ
        refine W.widen (k := 0) (n := 0) (Nat.le_of_ble_eq_true rfl) (Nat.le_of_ble_eq_true rfl) ?_
        exact W.zret (v := 0) (ty := .boolean) hx hb hr (rfl) (fun tS htS _ => ⟨⟨_, _, rfl, ⟨rfl, (if_neg (fun h => absurd h.2.2.1 (b01_0.mp cb_6))).symm⟩, by rw [htS]; exact hP9, hD9⟩, hS.F htS⟩) hS.2.2 dX7_isAlone_41
      · skip
        refine lv_iload_n hx hb dX7_isAlone_28 rfl (lv_at hl 3 rfl) ?_
        refine lv_iconst (v := 1) hx hb dX7_isAlone_29 (by decide) ?_
        refine ky_Si (As := [.int p3, .int 1]) (rest := []) ⟨hx, hb, hml, hown, hts⟩ ⟨hK, hN⟩ hZ hP hD hS hA [] [] (wc := []) (wr := []) rfl rfl rfl rfl (by decide) (c_X7_isSpan l D g H.size p3 1) (va_cwS 2 hts gX7_isAlone_X7_isSpan rfl rfl rfl (by decide +kernel) ⟨(Nat.le_of_ble_eq_true rfl), (Nat.le_of_ble_eq_true rfl)⟩) rfl hl.1 rfl (Nat.le_of_ble_eq_true rfl) dX7_isAlone_30 ⟨(Nat.le_of_ble_eq_true rfl), (Nat.le_of_ble_eq_true rfl)⟩ (fun r_7 u H locs hw hP hD hS => ?_)
        obtain ⟨rfl, rfl⟩ := hw
        have hP : va_P D vwCl [] H := hP
        have hD : va_D A [] := hD
        refine W.widen (k := 0) (n := 0) (Nat.le_of_ble_eq_true rfl) (Nat.le_of_ble_eq_true rfl) ?_
        refine lv_if_eq (tgt := 40) hx hb dX7_isAlone_33 (by decide) (fun cb_8 => ?_) (fun cb_8 => ?_)
        · skip
          refine lv_iconst (v := 0) hx hb dX7_isAlone_40 (by decide) ?_
          have hP9 := hP.sub (ws' := []) [] rfl
          have hD9 := hD.sub (ws' := []) [] (by decide) rfl
          subst hQ
          refine W.widen (k := 0) (n := 0) (Nat.le_of_ble_eq_true rfl) (Nat.le_of_ble_eq_true rfl) ?_
          exact W.zret (v := 0) (ty := .boolean) hx hb hr (rfl) (fun tS htS _ => ⟨⟨_, _, rfl, ⟨rfl, (if_neg (fun h => absurd h.2.2.2 (b01_0.mp cb_8))).symm⟩, by rw [htS]; exact hP9, hD9⟩, hS.F htS⟩) hS.2.2 dX7_isAlone_41
        · skip
          refine lv_iconst (v := 1) hx hb dX7_isAlone_36 (by decide) ?_
          refine lv_goto (tgt := 41) hx hb dX7_isAlone_37 (by decide) ?_
          have hP9 := hP.sub (ws' := []) [] rfl
          have hD9 := hD.sub (ws' := []) [] (by decide) rfl
          subst hQ
          refine W.widen (k := 0) (n := 0) (Nat.le_of_ble_eq_true rfl) (Nat.le_of_ble_eq_true rfl) ?_
          exact W.zret (v := 1) (ty := .boolean) hx hb hr (rfl) (fun tS htS _ => ⟨⟨_, _, rfl, ⟨rfl, (if_pos ⟨b01_1.mp cb_2, b01_1.mp cb_4, b01_1.mp cb_6, b01_1.mp cb_8⟩).symm⟩, by rw [htS]; exact hP9, hD9⟩, hS.F htS⟩) hS.2.2 dX7_isAlone_41
set_option maxHeartbeats 4000000 in
set_option maxRecDepth 100000 in
theorem c_X7_aloneSent (l : Launch) (D : va_G) (g : Nat → ClassId) (sz : Nat) (m_ : Nat) (th : Int32) (mt : Nat) (tp : Int32) (pa_ : Int32) (wr : Int32) (mrr : Nat) (mrh : Nat) (mrc : Nat) (rh : Int32) (rc : Int32) (mn : Nat) (mf : Nat) (mr : Nat) (mh : Nat) (hz : Int32) (cz : Int32) (ma : Nat) (mas : Nat) (msn : Nat) (mac : Nat) (mat : Nat) (fA : Nat → Int32) (fB : Nat → Int32) (d : Nat) (ev : Nat) (z : Nat) (k : Nat) (nn : Nat) (hd : d < 5) (hd0 : 0 < d) (he0 : 0 < ev) (he : ev < 5) (hz9 : z ≤ 30) (hk0 : 0 < k) (hk1 : k < 10) (hn : nn ≤ 200) : Met l yX7_aloneSent wsX7_aloneSent ({ frames := 0, cells := 0, slots := 0, locals := 0 }) (va_Pc [.ref m_, .int (nI d), .int (nI ev), .int (nI z), .int (nI k), .int (nI nn)] (pre D g sz [(m_, .inr (7, [.int th, .ref mt, .int tp, .int pa_, .int wr, .ref mrr, .ref mrh, .ref mrc, .int rh, .int rc, .ref mn, .ref mf, .ref mr, .ref mh, .int hz, .int cz, .ref ma, .ref mas, .ref msn, .ref mac, .ref mat])), (mac, .inl (g 0, 8, .inl fA)), (mat, .inl (g 0, 8, .inl fB))])) (va_Qi (fun (r : Int32) (u : va_W) => ∃ (fA2 : Nat → Int32) (fB2 : Nat → Int32), u = [(m_, .inr (7, [.int th, .ref mt, .int tp, .int pa_, .int wr, .ref mrr, .ref mrh, .ref mrc, .int rh, .int rc, .ref mn, .ref mf, .ref mr, .ref mh, .int hz, .int cz, .ref ma, .ref mas, .ref msn, .ref mac, .ref mat])), (mac, .inl (g 0, 8, .inl fA2)), (mat, .inl (g 0, 8, .inl fB2))] ∧ r = (nI (al d ev z k nn).1)) (wd D (va_A [(m_, .inr (7, [.int th, .ref mt, .int tp, .int pa_, .int wr, .ref mrr, .ref mrh, .ref mrc, .int rh, .int rc, .ref mn, .ref mf, .ref mr, .ref mh, .int hz, .int cz, .ref ma, .ref mas, .ref msn, .ref mac, .ref mat])), (mac, .inl (g 0, 8, .inl fA)), (mat, .inl (g 0, 8, .inl fB))] sz)) (va_A [(m_, .inr (7, [.int th, .ref mt, .int tp, .int pa_, .int wr, .ref mrr, .ref mrh, .ref mrc, .int rh, .int rc, .ref mn, .ref mf, .ref mr, .ref mh, .int hz, .int cz, .ref ma, .ref mas, .ref msn, .ref mac, .ref mat])), (mac, .inl (g 0, 8, .inl fA)), (mat, .inl (g 0, 8, .inl fB))] sz)) 0 0 (va_A [(m_, .inr (7, [.int th, .ref mt, .int tp, .int pa_, .int wr, .ref mrr, .ref mrh, .ref mrc, .int rh, .int rc, .ref mn, .ref mf, .ref mr, .ref mh, .int hz, .int cz, .ref ma, .ref mas, .ref msn, .ref mac, .ref mat])), (mac, .inl (g 0, 8, .inl fA)), (mat, .inl (g 0, 8, .inl fB))] sz) := by
  refine Met.ofW (cc := cX7_aloneSent) (maxL := 13) (ret := (some .int)) (by decide) rfl ?_
  intro p e s m args below meth c s₁ B hml hv
  obtain ⟨rfl, hsz, hP, ⟨hK, hN⟩, hD0, hZ⟩ := hv
  have hx := B.exec
  have hb := B.bytes
  have hr := B.returns
  have hts := atoms_spec (ws := wsX7_aloneSent) B.pre
  have hown : s.vm.findClass RX7 = some m.cls := findClass_of_methodNamed B.named
  have hlocks := B.notSynchronized
  clear B
  subst hsz
  have hD := hD0.self (sz := s.heap.size)
  clear hD0
  generalize hAe : va_A [(m_, .inr (7, [.int th, .ref mt, .int tp, .int pa_, .int wr, .ref mrr, .ref mrh, .ref mrc, .int rh, .int rc, .ref mn, .ref mf, .ref mr, .ref mh, .int hz, .int cz, .ref ma, .ref mas, .ref msn, .ref mac, .ref mat])), (mac, .inl (g 0, 8, .inl fA)), (mat, .inl (g 0, 8, .inl fB))] s.heap.size = A at hD hZ ⊢
  have hA : ∀ q : Nat, s.heap.size ≤ q → A q := fun q h => by rw [← hAe]; exact Or.inr h
  have hS : va_S A s.heap s.heap [] := va_S.rf
  have f43 := hts (.fieldLink RX7 43 "HopCreditsModel" "aloneCell" "[I") (by decide +kernel)
  have f46 := hts (.fieldLink RX7 46 "HopCreditsModel" "aloneTold" "[I") (by decide +kernel)
  have iX7 : ∀ w ∈ u_ws RX7 TX7 21, w ∈ wsX7_aloneSent := by decide +kernel
  have hl := lv_entry ([.ref m_, .int (nI d), .int (nI ev), .int (nI z), .int (nI k), .int (nI nn)]) (n := 13) (Nat.le_of_ble_eq_true rfl)
  rw [lg_entry_eq]
  generalize (lg_sl ([.ref m_, .int (nI d), .int (nI ev), .int (nI z), .int (nI k), .int (nI nn)]) ++ List.replicate (13 - (lg_sl ([.ref m_, .int (nI d), .int (nI ev), .int (nI z), .int (nI k), .int (nI nn)])).length) Slot.unset).toArray = ls at hl ⊢
  have hl : lv_has ls 13 [(0, .ref m_), (1, .int (nI d)), (2, .int (nI ev)), (3, .int (nI z)), (4, .int (nI k)), (5, .int (nI nn))] := hl
  generalize hQ : MQ below _ _ s _ _ _ = Q
  generalize hH : s.heap = H at hP ⊢
  have hS : va_S A s.heap H [] := by rw [← hH]; exact hS
  clear hH
  refine lv_iconst (v := 0) hx hb dX7_aloneSent_0 (by decide) ?_
  refine lv_istore (lv' := [(6, .int 0), (0, .ref m_), (1, .int (nI d)), (2, .int (nI ev)), (3, .int (nI z)), (4, .int (nI k)), (5, .int (nI nn))]) hx hb dX7_aloneSent_1 hl (by decide) rfl (fun ls hl => ?_)
  refine lv_iload hx hb dX7_aloneSent_3 (lv_at hl 0 rfl) ?_
  refine lv_bipush (v := 8) hx hb dX7_aloneSent_5 (by decide) ?_
  refine lv_icmp_ge (tgt := 32) hx hb dX7_aloneSent_7 (by decide) (fun cb => absurd cb (by decide)) (fun _ => ?_)
  refine lv_aload_n hx hb dX7_aloneSent_10 rfl (lv_at hl 1 rfl) ?_
  refine va_get (D := D) (ci := 7) (v := .ref mac) (C := RX7) (T := TX7) (N := 21) hx hb hts iX7 hown hK hP 0 rfl rfl 19 (by decide) f43 (fun _ h9 => h9) rfl dX7_aloneSent_11 ?_
  refine lv_iload hx hb dX7_aloneSent_14 (lv_at hl 0 rfl) ?_
  refine lv_iconst (v := 0) hx hb dX7_aloneSent_16 (by decide) ?_
  refine va_iast hx hb hK hP hD hS 1 0 rfl rfl (by unfold vp_in; decide) dX7_aloneSent_17 (fun H locs hP hD hS => ?_)
  have hP : va_P D vwCl [(m_, .inr (7, [.int th, .ref mt, .int tp, .int pa_, .int wr, .ref mrr, .ref mrh, .ref mrc, .int rh, .int rc, .ref mn, .ref mf, .ref mr, .ref mh, .int hz, .int cz, .ref ma, .ref mas, .ref msn, .ref mac, .ref mat])), (mac, .inl (g 0, 8, .inl (upd fA 0 0))), (mat, .inl (g 0, 8, .inl fB))] H := hP
  have hD : va_D A [(m_, .inr (7, [.int th, .ref mt, .int tp, .int pa_, .int wr, .ref mrr, .ref mrh, .ref mrc, .int rh, .int rc, .ref mn, .ref mf, .ref mr, .ref mh, .int hz, .int cz, .ref ma, .ref mas, .ref msn, .ref mac, .ref mat])), (mac, .inl (g 0, 8, .inl (upd fA 0 0))), (mat, .inl (g 0, 8, .inl fB))] := hD
  refine lv_aload_n hx hb dX7_aloneSent_18 rfl (lv_at hl 1 rfl) ?_
  refine va_get (D := D) (ci := 7) (v := .ref mat) (C := RX7) (T := TX7) (N := 21) hx hb hts iX7 hown hK hP 0 rfl rfl 20 (by decide) f46 (fun _ h9 => h9) rfl dX7_aloneSent_19 ?_
  refine lv_iload hx hb dX7_aloneSent_22 (lv_at hl 0 rfl) ?_
  refine lv_iconst (v := (-1)) hx hb dX7_aloneSent_24 (by decide) ?_
  refine va_iast hx hb hK hP hD hS 2 0 rfl rfl (by unfold vp_in; decide) dX7_aloneSent_25 (fun H locs hP hD hS => ?_)
  have hP : va_P D vwCl [(m_, .inr (7, [.int th, .ref mt, .int tp, .int pa_, .int wr, .ref mrr, .ref mrh, .ref mrc, .int rh, .int rc, .ref mn, .ref mf, .ref mr, .ref mh, .int hz, .int cz, .ref ma, .ref mas, .ref msn, .ref mac, .ref mat])), (mac, .inl (g 0, 8, .inl (upd fA 0 0))), (mat, .inl (g 0, 8, .inl (upd fB 0 (-1))))] H := hP
  have hD : va_D A [(m_, .inr (7, [.int th, .ref mt, .int tp, .int pa_, .int wr, .ref mrr, .ref mrh, .ref mrc, .int rh, .int rc, .ref mn, .ref mf, .ref mr, .ref mh, .int hz, .int cz, .ref ma, .ref mas, .ref msn, .ref mac, .ref mat])), (mac, .inl (g 0, 8, .inl (upd fA 0 0))), (mat, .inl (g 0, 8, .inl (upd fB 0 (-1))))] := hD
  refine lv_iinc (v := 1) (lv' := [(6, .int 1), (0, .ref m_), (1, .int (nI d)), (2, .int (nI ev)), (3, .int (nI z)), (4, .int (nI k)), (5, .int (nI nn))]) hx hb dX7_aloneSent_26 hl (k := 0) rfl (by decide) (by decide) rfl (fun ls hl => ?_)
  refine lv_goto (tgt := 3) hx hb dX7_aloneSent_29 (by decide) ?_
  refine lv_iload hx hb dX7_aloneSent_3 (lv_at hl 0 rfl) ?_
  refine lv_bipush (v := 8) hx hb dX7_aloneSent_5 (by decide) ?_
  refine lv_icmp_ge (tgt := 32) hx hb dX7_aloneSent_7 (by decide) (fun cb => absurd cb (by decide)) (fun _ => ?_)
  refine lv_aload_n hx hb dX7_aloneSent_10 rfl (lv_at hl 1 rfl) ?_
  refine va_get (D := D) (ci := 7) (v := .ref mac) (C := RX7) (T := TX7) (N := 21) hx hb hts iX7 hown hK hP 0 rfl rfl 19 (by decide) f43 (fun _ h9 => h9) rfl dX7_aloneSent_11 ?_
  refine lv_iload hx hb dX7_aloneSent_14 (lv_at hl 0 rfl) ?_
  refine lv_iconst (v := 0) hx hb dX7_aloneSent_16 (by decide) ?_
  refine va_iast hx hb hK hP hD hS 1 0 rfl rfl (by unfold vp_in; decide) dX7_aloneSent_17 (fun H locs hP hD hS => ?_)
  have hP : va_P D vwCl [(m_, .inr (7, [.int th, .ref mt, .int tp, .int pa_, .int wr, .ref mrr, .ref mrh, .ref mrc, .int rh, .int rc, .ref mn, .ref mf, .ref mr, .ref mh, .int hz, .int cz, .ref ma, .ref mas, .ref msn, .ref mac, .ref mat])), (mac, .inl (g 0, 8, .inl (upd (upd fA 0 0) 1 0))), (mat, .inl (g 0, 8, .inl (upd fB 0 (-1))))] H := hP
  have hD : va_D A [(m_, .inr (7, [.int th, .ref mt, .int tp, .int pa_, .int wr, .ref mrr, .ref mrh, .ref mrc, .int rh, .int rc, .ref mn, .ref mf, .ref mr, .ref mh, .int hz, .int cz, .ref ma, .ref mas, .ref msn, .ref mac, .ref mat])), (mac, .inl (g 0, 8, .inl (upd (upd fA 0 0) 1 0))), (mat, .inl (g 0, 8, .inl (upd fB 0 (-1))))] := hD
  refine lv_aload_n hx hb dX7_aloneSent_18 rfl (lv_at hl 1 rfl) ?_
  refine va_get (D := D) (ci := 7) (v := .ref mat) (C := RX7) (T := TX7) (N := 21) hx hb hts iX7 hown hK hP 0 rfl rfl 20 (by decide) f46 (fun _ h9 => h9) rfl dX7_aloneSent_19 ?_
  refine lv_iload hx hb dX7_aloneSent_22 (lv_at hl 0 rfl) ?_
  refine lv_iconst (v := (-1)) hx hb dX7_aloneSent_24 (by decide) ?_
  refine va_iast hx hb hK hP hD hS 2 0 rfl rfl (by unfold vp_in; decide) dX7_aloneSent_25 (fun H locs hP hD hS => ?_)
  have hP : va_P D vwCl [(m_, .inr (7, [.int th, .ref mt, .int tp, .int pa_, .int wr, .ref mrr, .ref mrh, .ref mrc, .int rh, .int rc, .ref mn, .ref mf, .ref mr, .ref mh, .int hz, .int cz, .ref ma, .ref mas, .ref msn, .ref mac, .ref mat])), (mac, .inl (g 0, 8, .inl (upd (upd fA 0 0) 1 0))), (mat, .inl (g 0, 8, .inl (upd (upd fB 0 (-1)) 1 (-1))))] H := hP
  have hD : va_D A [(m_, .inr (7, [.int th, .ref mt, .int tp, .int pa_, .int wr, .ref mrr, .ref mrh, .ref mrc, .int rh, .int rc, .ref mn, .ref mf, .ref mr, .ref mh, .int hz, .int cz, .ref ma, .ref mas, .ref msn, .ref mac, .ref mat])), (mac, .inl (g 0, 8, .inl (upd (upd fA 0 0) 1 0))), (mat, .inl (g 0, 8, .inl (upd (upd fB 0 (-1)) 1 (-1))))] := hD
  refine lv_iinc (v := 2) (lv' := [(6, .int 2), (0, .ref m_), (1, .int (nI d)), (2, .int (nI ev)), (3, .int (nI z)), (4, .int (nI k)), (5, .int (nI nn))]) hx hb dX7_aloneSent_26 hl (k := 0) rfl (by decide) (by decide) rfl (fun ls hl => ?_)
  refine lv_goto (tgt := 3) hx hb dX7_aloneSent_29 (by decide) ?_
  refine lv_iload hx hb dX7_aloneSent_3 (lv_at hl 0 rfl) ?_
  refine lv_bipush (v := 8) hx hb dX7_aloneSent_5 (by decide) ?_
  refine lv_icmp_ge (tgt := 32) hx hb dX7_aloneSent_7 (by decide) (fun cb => absurd cb (by decide)) (fun _ => ?_)
  refine lv_aload_n hx hb dX7_aloneSent_10 rfl (lv_at hl 1 rfl) ?_
  refine va_get (D := D) (ci := 7) (v := .ref mac) (C := RX7) (T := TX7) (N := 21) hx hb hts iX7 hown hK hP 0 rfl rfl 19 (by decide) f43 (fun _ h9 => h9) rfl dX7_aloneSent_11 ?_
  refine lv_iload hx hb dX7_aloneSent_14 (lv_at hl 0 rfl) ?_
  refine lv_iconst (v := 0) hx hb dX7_aloneSent_16 (by decide) ?_
  refine va_iast hx hb hK hP hD hS 1 0 rfl rfl (by unfold vp_in; decide) dX7_aloneSent_17 (fun H locs hP hD hS => ?_)
  have hP : va_P D vwCl [(m_, .inr (7, [.int th, .ref mt, .int tp, .int pa_, .int wr, .ref mrr, .ref mrh, .ref mrc, .int rh, .int rc, .ref mn, .ref mf, .ref mr, .ref mh, .int hz, .int cz, .ref ma, .ref mas, .ref msn, .ref mac, .ref mat])), (mac, .inl (g 0, 8, .inl (upd (upd (upd fA 0 0) 1 0) 2 0))), (mat, .inl (g 0, 8, .inl (upd (upd fB 0 (-1)) 1 (-1))))] H := hP
  have hD : va_D A [(m_, .inr (7, [.int th, .ref mt, .int tp, .int pa_, .int wr, .ref mrr, .ref mrh, .ref mrc, .int rh, .int rc, .ref mn, .ref mf, .ref mr, .ref mh, .int hz, .int cz, .ref ma, .ref mas, .ref msn, .ref mac, .ref mat])), (mac, .inl (g 0, 8, .inl (upd (upd (upd fA 0 0) 1 0) 2 0))), (mat, .inl (g 0, 8, .inl (upd (upd fB 0 (-1)) 1 (-1))))] := hD
  refine lv_aload_n hx hb dX7_aloneSent_18 rfl (lv_at hl 1 rfl) ?_
  refine va_get (D := D) (ci := 7) (v := .ref mat) (C := RX7) (T := TX7) (N := 21) hx hb hts iX7 hown hK hP 0 rfl rfl 20 (by decide) f46 (fun _ h9 => h9) rfl dX7_aloneSent_19 ?_
  refine lv_iload hx hb dX7_aloneSent_22 (lv_at hl 0 rfl) ?_
  refine lv_iconst (v := (-1)) hx hb dX7_aloneSent_24 (by decide) ?_
  refine va_iast hx hb hK hP hD hS 2 0 rfl rfl (by unfold vp_in; decide) dX7_aloneSent_25 (fun H locs hP hD hS => ?_)
  have hP : va_P D vwCl [(m_, .inr (7, [.int th, .ref mt, .int tp, .int pa_, .int wr, .ref mrr, .ref mrh, .ref mrc, .int rh, .int rc, .ref mn, .ref mf, .ref mr, .ref mh, .int hz, .int cz, .ref ma, .ref mas, .ref msn, .ref mac, .ref mat])), (mac, .inl (g 0, 8, .inl (upd (upd (upd fA 0 0) 1 0) 2 0))), (mat, .inl (g 0, 8, .inl (upd (upd (upd fB 0 (-1)) 1 (-1)) 2 (-1))))] H := hP
  have hD : va_D A [(m_, .inr (7, [.int th, .ref mt, .int tp, .int pa_, .int wr, .ref mrr, .ref mrh, .ref mrc, .int rh, .int rc, .ref mn, .ref mf, .ref mr, .ref mh, .int hz, .int cz, .ref ma, .ref mas, .ref msn, .ref mac, .ref mat])), (mac, .inl (g 0, 8, .inl (upd (upd (upd fA 0 0) 1 0) 2 0))), (mat, .inl (g 0, 8, .inl (upd (upd (upd fB 0 (-1)) 1 (-1)) 2 (-1))))] := hD
  refine lv_iinc (v := 3) (lv' := [(6, .int 3), (0, .ref m_), (1, .int (nI d)), (2, .int (nI ev)), (3, .int (nI z)), (4, .int (nI k)), (5, .int (nI nn))]) hx hb dX7_aloneSent_26 hl (k := 0) rfl (by decide) (by decide) rfl (fun ls hl => ?_)
  refine lv_goto (tgt := 3) hx hb dX7_aloneSent_29 (by decide) ?_
  refine lv_iload hx hb dX7_aloneSent_3 (lv_at hl 0 rfl) ?_
  refine lv_bipush (v := 8) hx hb dX7_aloneSent_5 (by decide) ?_
  refine lv_icmp_ge (tgt := 32) hx hb dX7_aloneSent_7 (by decide) (fun cb => absurd cb (by decide)) (fun _ => ?_)
  refine lv_aload_n hx hb dX7_aloneSent_10 rfl (lv_at hl 1 rfl) ?_
  refine va_get (D := D) (ci := 7) (v := .ref mac) (C := RX7) (T := TX7) (N := 21) hx hb hts iX7 hown hK hP 0 rfl rfl 19 (by decide) f43 (fun _ h9 => h9) rfl dX7_aloneSent_11 ?_
  refine lv_iload hx hb dX7_aloneSent_14 (lv_at hl 0 rfl) ?_
  refine lv_iconst (v := 0) hx hb dX7_aloneSent_16 (by decide) ?_
  refine va_iast hx hb hK hP hD hS 1 0 rfl rfl (by unfold vp_in; decide) dX7_aloneSent_17 (fun H locs hP hD hS => ?_)
  have hP : va_P D vwCl [(m_, .inr (7, [.int th, .ref mt, .int tp, .int pa_, .int wr, .ref mrr, .ref mrh, .ref mrc, .int rh, .int rc, .ref mn, .ref mf, .ref mr, .ref mh, .int hz, .int cz, .ref ma, .ref mas, .ref msn, .ref mac, .ref mat])), (mac, .inl (g 0, 8, .inl (upd (upd (upd (upd fA 0 0) 1 0) 2 0) 3 0))), (mat, .inl (g 0, 8, .inl (upd (upd (upd fB 0 (-1)) 1 (-1)) 2 (-1))))] H := hP
  have hD : va_D A [(m_, .inr (7, [.int th, .ref mt, .int tp, .int pa_, .int wr, .ref mrr, .ref mrh, .ref mrc, .int rh, .int rc, .ref mn, .ref mf, .ref mr, .ref mh, .int hz, .int cz, .ref ma, .ref mas, .ref msn, .ref mac, .ref mat])), (mac, .inl (g 0, 8, .inl (upd (upd (upd (upd fA 0 0) 1 0) 2 0) 3 0))), (mat, .inl (g 0, 8, .inl (upd (upd (upd fB 0 (-1)) 1 (-1)) 2 (-1))))] := hD
  refine lv_aload_n hx hb dX7_aloneSent_18 rfl (lv_at hl 1 rfl) ?_
  refine va_get (D := D) (ci := 7) (v := .ref mat) (C := RX7) (T := TX7) (N := 21) hx hb hts iX7 hown hK hP 0 rfl rfl 20 (by decide) f46 (fun _ h9 => h9) rfl dX7_aloneSent_19 ?_
  refine lv_iload hx hb dX7_aloneSent_22 (lv_at hl 0 rfl) ?_
  refine lv_iconst (v := (-1)) hx hb dX7_aloneSent_24 (by decide) ?_
  refine va_iast hx hb hK hP hD hS 2 0 rfl rfl (by unfold vp_in; decide) dX7_aloneSent_25 (fun H locs hP hD hS => ?_)
  have hP : va_P D vwCl [(m_, .inr (7, [.int th, .ref mt, .int tp, .int pa_, .int wr, .ref mrr, .ref mrh, .ref mrc, .int rh, .int rc, .ref mn, .ref mf, .ref mr, .ref mh, .int hz, .int cz, .ref ma, .ref mas, .ref msn, .ref mac, .ref mat])), (mac, .inl (g 0, 8, .inl (upd (upd (upd (upd fA 0 0) 1 0) 2 0) 3 0))), (mat, .inl (g 0, 8, .inl (upd (upd (upd (upd fB 0 (-1)) 1 (-1)) 2 (-1)) 3 (-1))))] H := hP
  have hD : va_D A [(m_, .inr (7, [.int th, .ref mt, .int tp, .int pa_, .int wr, .ref mrr, .ref mrh, .ref mrc, .int rh, .int rc, .ref mn, .ref mf, .ref mr, .ref mh, .int hz, .int cz, .ref ma, .ref mas, .ref msn, .ref mac, .ref mat])), (mac, .inl (g 0, 8, .inl (upd (upd (upd (upd fA 0 0) 1 0) 2 0) 3 0))), (mat, .inl (g 0, 8, .inl (upd (upd (upd (upd fB 0 (-1)) 1 (-1)) 2 (-1)) 3 (-1))))] := hD
  refine lv_iinc (v := 4) (lv' := [(6, .int 4), (0, .ref m_), (1, .int (nI d)), (2, .int (nI ev)), (3, .int (nI z)), (4, .int (nI k)), (5, .int (nI nn))]) hx hb dX7_aloneSent_26 hl (k := 0) rfl (by decide) (by decide) rfl (fun ls hl => ?_)
  refine lv_goto (tgt := 3) hx hb dX7_aloneSent_29 (by decide) ?_
  refine lv_iload hx hb dX7_aloneSent_3 (lv_at hl 0 rfl) ?_
  refine lv_bipush (v := 8) hx hb dX7_aloneSent_5 (by decide) ?_
  refine lv_icmp_ge (tgt := 32) hx hb dX7_aloneSent_7 (by decide) (fun cb => absurd cb (by decide)) (fun _ => ?_)
  refine lv_aload_n hx hb dX7_aloneSent_10 rfl (lv_at hl 1 rfl) ?_
  refine va_get (D := D) (ci := 7) (v := .ref mac) (C := RX7) (T := TX7) (N := 21) hx hb hts iX7 hown hK hP 0 rfl rfl 19 (by decide) f43 (fun _ h9 => h9) rfl dX7_aloneSent_11 ?_
  refine lv_iload hx hb dX7_aloneSent_14 (lv_at hl 0 rfl) ?_
  refine lv_iconst (v := 0) hx hb dX7_aloneSent_16 (by decide) ?_
  refine va_iast hx hb hK hP hD hS 1 0 rfl rfl (by unfold vp_in; decide) dX7_aloneSent_17 (fun H locs hP hD hS => ?_)
  have hP : va_P D vwCl [(m_, .inr (7, [.int th, .ref mt, .int tp, .int pa_, .int wr, .ref mrr, .ref mrh, .ref mrc, .int rh, .int rc, .ref mn, .ref mf, .ref mr, .ref mh, .int hz, .int cz, .ref ma, .ref mas, .ref msn, .ref mac, .ref mat])), (mac, .inl (g 0, 8, .inl (upd (upd (upd (upd (upd fA 0 0) 1 0) 2 0) 3 0) 4 0))), (mat, .inl (g 0, 8, .inl (upd (upd (upd (upd fB 0 (-1)) 1 (-1)) 2 (-1)) 3 (-1))))] H := hP
  have hD : va_D A [(m_, .inr (7, [.int th, .ref mt, .int tp, .int pa_, .int wr, .ref mrr, .ref mrh, .ref mrc, .int rh, .int rc, .ref mn, .ref mf, .ref mr, .ref mh, .int hz, .int cz, .ref ma, .ref mas, .ref msn, .ref mac, .ref mat])), (mac, .inl (g 0, 8, .inl (upd (upd (upd (upd (upd fA 0 0) 1 0) 2 0) 3 0) 4 0))), (mat, .inl (g 0, 8, .inl (upd (upd (upd (upd fB 0 (-1)) 1 (-1)) 2 (-1)) 3 (-1))))] := hD
  refine lv_aload_n hx hb dX7_aloneSent_18 rfl (lv_at hl 1 rfl) ?_
  refine va_get (D := D) (ci := 7) (v := .ref mat) (C := RX7) (T := TX7) (N := 21) hx hb hts iX7 hown hK hP 0 rfl rfl 20 (by decide) f46 (fun _ h9 => h9) rfl dX7_aloneSent_19 ?_
  refine lv_iload hx hb dX7_aloneSent_22 (lv_at hl 0 rfl) ?_
  refine lv_iconst (v := (-1)) hx hb dX7_aloneSent_24 (by decide) ?_
  refine va_iast hx hb hK hP hD hS 2 0 rfl rfl (by unfold vp_in; decide) dX7_aloneSent_25 (fun H locs hP hD hS => ?_)
  have hP : va_P D vwCl [(m_, .inr (7, [.int th, .ref mt, .int tp, .int pa_, .int wr, .ref mrr, .ref mrh, .ref mrc, .int rh, .int rc, .ref mn, .ref mf, .ref mr, .ref mh, .int hz, .int cz, .ref ma, .ref mas, .ref msn, .ref mac, .ref mat])), (mac, .inl (g 0, 8, .inl (upd (upd (upd (upd (upd fA 0 0) 1 0) 2 0) 3 0) 4 0))), (mat, .inl (g 0, 8, .inl (upd (upd (upd (upd (upd fB 0 (-1)) 1 (-1)) 2 (-1)) 3 (-1)) 4 (-1))))] H := hP
  have hD : va_D A [(m_, .inr (7, [.int th, .ref mt, .int tp, .int pa_, .int wr, .ref mrr, .ref mrh, .ref mrc, .int rh, .int rc, .ref mn, .ref mf, .ref mr, .ref mh, .int hz, .int cz, .ref ma, .ref mas, .ref msn, .ref mac, .ref mat])), (mac, .inl (g 0, 8, .inl (upd (upd (upd (upd (upd fA 0 0) 1 0) 2 0) 3 0) 4 0))), (mat, .inl (g 0, 8, .inl (upd (upd (upd (upd (upd fB 0 (-1)) 1 (-1)) 2 (-1)) 3 (-1)) 4 (-1))))] := hD
  refine lv_iinc (v := 5) (lv' := [(6, .int 5), (0, .ref m_), (1, .int (nI d)), (2, .int (nI ev)), (3, .int (nI z)), (4, .int (nI k)), (5, .int (nI nn))]) hx hb dX7_aloneSent_26 hl (k := 0) rfl (by decide) (by decide) rfl (fun ls hl => ?_)
  refine lv_goto (tgt := 3) hx hb dX7_aloneSent_29 (by decide) ?_
  refine lv_iload hx hb dX7_aloneSent_3 (lv_at hl 0 rfl) ?_
  refine lv_bipush (v := 8) hx hb dX7_aloneSent_5 (by decide) ?_
  refine lv_icmp_ge (tgt := 32) hx hb dX7_aloneSent_7 (by decide) (fun cb => absurd cb (by decide)) (fun _ => ?_)
  refine lv_aload_n hx hb dX7_aloneSent_10 rfl (lv_at hl 1 rfl) ?_
  refine va_get (D := D) (ci := 7) (v := .ref mac) (C := RX7) (T := TX7) (N := 21) hx hb hts iX7 hown hK hP 0 rfl rfl 19 (by decide) f43 (fun _ h9 => h9) rfl dX7_aloneSent_11 ?_
  refine lv_iload hx hb dX7_aloneSent_14 (lv_at hl 0 rfl) ?_
  refine lv_iconst (v := 0) hx hb dX7_aloneSent_16 (by decide) ?_
  refine va_iast hx hb hK hP hD hS 1 0 rfl rfl (by unfold vp_in; decide) dX7_aloneSent_17 (fun H locs hP hD hS => ?_)
  have hP : va_P D vwCl [(m_, .inr (7, [.int th, .ref mt, .int tp, .int pa_, .int wr, .ref mrr, .ref mrh, .ref mrc, .int rh, .int rc, .ref mn, .ref mf, .ref mr, .ref mh, .int hz, .int cz, .ref ma, .ref mas, .ref msn, .ref mac, .ref mat])), (mac, .inl (g 0, 8, .inl (upd (upd (upd (upd (upd (upd fA 0 0) 1 0) 2 0) 3 0) 4 0) 5 0))), (mat, .inl (g 0, 8, .inl (upd (upd (upd (upd (upd fB 0 (-1)) 1 (-1)) 2 (-1)) 3 (-1)) 4 (-1))))] H := hP
  have hD : va_D A [(m_, .inr (7, [.int th, .ref mt, .int tp, .int pa_, .int wr, .ref mrr, .ref mrh, .ref mrc, .int rh, .int rc, .ref mn, .ref mf, .ref mr, .ref mh, .int hz, .int cz, .ref ma, .ref mas, .ref msn, .ref mac, .ref mat])), (mac, .inl (g 0, 8, .inl (upd (upd (upd (upd (upd (upd fA 0 0) 1 0) 2 0) 3 0) 4 0) 5 0))), (mat, .inl (g 0, 8, .inl (upd (upd (upd (upd (upd fB 0 (-1)) 1 (-1)) 2 (-1)) 3 (-1)) 4 (-1))))] := hD
  refine lv_aload_n hx hb dX7_aloneSent_18 rfl (lv_at hl 1 rfl) ?_
  refine va_get (D := D) (ci := 7) (v := .ref mat) (C := RX7) (T := TX7) (N := 21) hx hb hts iX7 hown hK hP 0 rfl rfl 20 (by decide) f46 (fun _ h9 => h9) rfl dX7_aloneSent_19 ?_
  refine lv_iload hx hb dX7_aloneSent_22 (lv_at hl 0 rfl) ?_
  refine lv_iconst (v := (-1)) hx hb dX7_aloneSent_24 (by decide) ?_
  refine va_iast hx hb hK hP hD hS 2 0 rfl rfl (by unfold vp_in; decide) dX7_aloneSent_25 (fun H locs hP hD hS => ?_)
  have hP : va_P D vwCl [(m_, .inr (7, [.int th, .ref mt, .int tp, .int pa_, .int wr, .ref mrr, .ref mrh, .ref mrc, .int rh, .int rc, .ref mn, .ref mf, .ref mr, .ref mh, .int hz, .int cz, .ref ma, .ref mas, .ref msn, .ref mac, .ref mat])), (mac, .inl (g 0, 8, .inl (upd (upd (upd (upd (upd (upd fA 0 0) 1 0) 2 0) 3 0) 4 0) 5 0))), (mat, .inl (g 0, 8, .inl (upd (upd (upd (upd (upd (upd fB 0 (-1)) 1 (-1)) 2 (-1)) 3 (-1)) 4 (-1)) 5 (-1))))] H := hP
  have hD : va_D A [(m_, .inr (7, [.int th, .ref mt, .int tp, .int pa_, .int wr, .ref mrr, .ref mrh, .ref mrc, .int rh, .int rc, .ref mn, .ref mf, .ref mr, .ref mh, .int hz, .int cz, .ref ma, .ref mas, .ref msn, .ref mac, .ref mat])), (mac, .inl (g 0, 8, .inl (upd (upd (upd (upd (upd (upd fA 0 0) 1 0) 2 0) 3 0) 4 0) 5 0))), (mat, .inl (g 0, 8, .inl (upd (upd (upd (upd (upd (upd fB 0 (-1)) 1 (-1)) 2 (-1)) 3 (-1)) 4 (-1)) 5 (-1))))] := hD
  refine lv_iinc (v := 6) (lv' := [(6, .int 6), (0, .ref m_), (1, .int (nI d)), (2, .int (nI ev)), (3, .int (nI z)), (4, .int (nI k)), (5, .int (nI nn))]) hx hb dX7_aloneSent_26 hl (k := 0) rfl (by decide) (by decide) rfl (fun ls hl => ?_)
  refine lv_goto (tgt := 3) hx hb dX7_aloneSent_29 (by decide) ?_
  refine lv_iload hx hb dX7_aloneSent_3 (lv_at hl 0 rfl) ?_
  refine lv_bipush (v := 8) hx hb dX7_aloneSent_5 (by decide) ?_
  refine lv_icmp_ge (tgt := 32) hx hb dX7_aloneSent_7 (by decide) (fun cb => absurd cb (by decide)) (fun _ => ?_)
  refine lv_aload_n hx hb dX7_aloneSent_10 rfl (lv_at hl 1 rfl) ?_
  refine va_get (D := D) (ci := 7) (v := .ref mac) (C := RX7) (T := TX7) (N := 21) hx hb hts iX7 hown hK hP 0 rfl rfl 19 (by decide) f43 (fun _ h9 => h9) rfl dX7_aloneSent_11 ?_
  refine lv_iload hx hb dX7_aloneSent_14 (lv_at hl 0 rfl) ?_
  refine lv_iconst (v := 0) hx hb dX7_aloneSent_16 (by decide) ?_
  refine va_iast hx hb hK hP hD hS 1 0 rfl rfl (by unfold vp_in; decide) dX7_aloneSent_17 (fun H locs hP hD hS => ?_)
  have hP : va_P D vwCl [(m_, .inr (7, [.int th, .ref mt, .int tp, .int pa_, .int wr, .ref mrr, .ref mrh, .ref mrc, .int rh, .int rc, .ref mn, .ref mf, .ref mr, .ref mh, .int hz, .int cz, .ref ma, .ref mas, .ref msn, .ref mac, .ref mat])), (mac, .inl (g 0, 8, .inl (upd (upd (upd (upd (upd (upd (upd fA 0 0) 1 0) 2 0) 3 0) 4 0) 5 0) 6 0))), (mat, .inl (g 0, 8, .inl (upd (upd (upd (upd (upd (upd fB 0 (-1)) 1 (-1)) 2 (-1)) 3 (-1)) 4 (-1)) 5 (-1))))] H := hP
  have hD : va_D A [(m_, .inr (7, [.int th, .ref mt, .int tp, .int pa_, .int wr, .ref mrr, .ref mrh, .ref mrc, .int rh, .int rc, .ref mn, .ref mf, .ref mr, .ref mh, .int hz, .int cz, .ref ma, .ref mas, .ref msn, .ref mac, .ref mat])), (mac, .inl (g 0, 8, .inl (upd (upd (upd (upd (upd (upd (upd fA 0 0) 1 0) 2 0) 3 0) 4 0) 5 0) 6 0))), (mat, .inl (g 0, 8, .inl (upd (upd (upd (upd (upd (upd fB 0 (-1)) 1 (-1)) 2 (-1)) 3 (-1)) 4 (-1)) 5 (-1))))] := hD
  refine lv_aload_n hx hb dX7_aloneSent_18 rfl (lv_at hl 1 rfl) ?_
  refine va_get (D := D) (ci := 7) (v := .ref mat) (C := RX7) (T := TX7) (N := 21) hx hb hts iX7 hown hK hP 0 rfl rfl 20 (by decide) f46 (fun _ h9 => h9) rfl dX7_aloneSent_19 ?_
  refine lv_iload hx hb dX7_aloneSent_22 (lv_at hl 0 rfl) ?_
  refine lv_iconst (v := (-1)) hx hb dX7_aloneSent_24 (by decide) ?_
  refine va_iast hx hb hK hP hD hS 2 0 rfl rfl (by unfold vp_in; decide) dX7_aloneSent_25 (fun H locs hP hD hS => ?_)
  have hP : va_P D vwCl [(m_, .inr (7, [.int th, .ref mt, .int tp, .int pa_, .int wr, .ref mrr, .ref mrh, .ref mrc, .int rh, .int rc, .ref mn, .ref mf, .ref mr, .ref mh, .int hz, .int cz, .ref ma, .ref mas, .ref msn, .ref mac, .ref mat])), (mac, .inl (g 0, 8, .inl (upd (upd (upd (upd (upd (upd (upd fA 0 0) 1 0) 2 0) 3 0) 4 0) 5 0) 6 0))), (mat, .inl (g 0, 8, .inl (upd (upd (upd (upd (upd (upd (upd fB 0 (-1)) 1 (-1)) 2 (-1)) 3 (-1)) 4 (-1)) 5 (-1)) 6 (-1))))] H := hP
  have hD : va_D A [(m_, .inr (7, [.int th, .ref mt, .int tp, .int pa_, .int wr, .ref mrr, .ref mrh, .ref mrc, .int rh, .int rc, .ref mn, .ref mf, .ref mr, .ref mh, .int hz, .int cz, .ref ma, .ref mas, .ref msn, .ref mac, .ref mat])), (mac, .inl (g 0, 8, .inl (upd (upd (upd (upd (upd (upd (upd fA 0 0) 1 0) 2 0) 3 0) 4 0) 5 0) 6 0))), (mat, .inl (g 0, 8, .inl (upd (upd (upd (upd (upd (upd (upd fB 0 (-1)) 1 (-1)) 2 (-1)) 3 (-1)) 4 (-1)) 5 (-1)) 6 (-1))))] := hD
  refine lv_iinc (v := 7) (lv' := [(6, .int 7), (0, .ref m_), (1, .int (nI d)), (2, .int (nI ev)), (3, .int (nI z)), (4, .int (nI k)), (5, .int (nI nn))]) hx hb dX7_aloneSent_26 hl (k := 0) rfl (by decide) (by decide) rfl (fun ls hl => ?_)
  refine lv_goto (tgt := 3) hx hb dX7_aloneSent_29 (by decide) ?_
  refine lv_iload hx hb dX7_aloneSent_3 (lv_at hl 0 rfl) ?_
  refine lv_bipush (v := 8) hx hb dX7_aloneSent_5 (by decide) ?_
  refine lv_icmp_ge (tgt := 32) hx hb dX7_aloneSent_7 (by decide) (fun cb => absurd cb (by decide)) (fun _ => ?_)
  refine lv_aload_n hx hb dX7_aloneSent_10 rfl (lv_at hl 1 rfl) ?_
  refine va_get (D := D) (ci := 7) (v := .ref mac) (C := RX7) (T := TX7) (N := 21) hx hb hts iX7 hown hK hP 0 rfl rfl 19 (by decide) f43 (fun _ h9 => h9) rfl dX7_aloneSent_11 ?_
  refine lv_iload hx hb dX7_aloneSent_14 (lv_at hl 0 rfl) ?_
  refine lv_iconst (v := 0) hx hb dX7_aloneSent_16 (by decide) ?_
  refine va_iast hx hb hK hP hD hS 1 0 rfl rfl (by unfold vp_in; decide) dX7_aloneSent_17 (fun H locs hP hD hS => ?_)
  have hP : va_P D vwCl [(m_, .inr (7, [.int th, .ref mt, .int tp, .int pa_, .int wr, .ref mrr, .ref mrh, .ref mrc, .int rh, .int rc, .ref mn, .ref mf, .ref mr, .ref mh, .int hz, .int cz, .ref ma, .ref mas, .ref msn, .ref mac, .ref mat])), (mac, .inl (g 0, 8, .inl (upd (upd (upd (upd (upd (upd (upd (upd fA 0 0) 1 0) 2 0) 3 0) 4 0) 5 0) 6 0) 7 0))), (mat, .inl (g 0, 8, .inl (upd (upd (upd (upd (upd (upd (upd fB 0 (-1)) 1 (-1)) 2 (-1)) 3 (-1)) 4 (-1)) 5 (-1)) 6 (-1))))] H := hP
  have hD : va_D A [(m_, .inr (7, [.int th, .ref mt, .int tp, .int pa_, .int wr, .ref mrr, .ref mrh, .ref mrc, .int rh, .int rc, .ref mn, .ref mf, .ref mr, .ref mh, .int hz, .int cz, .ref ma, .ref mas, .ref msn, .ref mac, .ref mat])), (mac, .inl (g 0, 8, .inl (upd (upd (upd (upd (upd (upd (upd (upd fA 0 0) 1 0) 2 0) 3 0) 4 0) 5 0) 6 0) 7 0))), (mat, .inl (g 0, 8, .inl (upd (upd (upd (upd (upd (upd (upd fB 0 (-1)) 1 (-1)) 2 (-1)) 3 (-1)) 4 (-1)) 5 (-1)) 6 (-1))))] := hD
  refine lv_aload_n hx hb dX7_aloneSent_18 rfl (lv_at hl 1 rfl) ?_
  refine va_get (D := D) (ci := 7) (v := .ref mat) (C := RX7) (T := TX7) (N := 21) hx hb hts iX7 hown hK hP 0 rfl rfl 20 (by decide) f46 (fun _ h9 => h9) rfl dX7_aloneSent_19 ?_
  refine lv_iload hx hb dX7_aloneSent_22 (lv_at hl 0 rfl) ?_
  refine lv_iconst (v := (-1)) hx hb dX7_aloneSent_24 (by decide) ?_
  refine va_iast hx hb hK hP hD hS 2 0 rfl rfl (by unfold vp_in; decide) dX7_aloneSent_25 (fun H locs hP hD hS => ?_)
  have hP : va_P D vwCl [(m_, .inr (7, [.int th, .ref mt, .int tp, .int pa_, .int wr, .ref mrr, .ref mrh, .ref mrc, .int rh, .int rc, .ref mn, .ref mf, .ref mr, .ref mh, .int hz, .int cz, .ref ma, .ref mas, .ref msn, .ref mac, .ref mat])), (mac, .inl (g 0, 8, .inl (upd (upd (upd (upd (upd (upd (upd (upd fA 0 0) 1 0) 2 0) 3 0) 4 0) 5 0) 6 0) 7 0))), (mat, .inl (g 0, 8, .inl (upd (upd (upd (upd (upd (upd (upd (upd fB 0 (-1)) 1 (-1)) 2 (-1)) 3 (-1)) 4 (-1)) 5 (-1)) 6 (-1)) 7 (-1))))] H := hP
  have hD : va_D A [(m_, .inr (7, [.int th, .ref mt, .int tp, .int pa_, .int wr, .ref mrr, .ref mrh, .ref mrc, .int rh, .int rc, .ref mn, .ref mf, .ref mr, .ref mh, .int hz, .int cz, .ref ma, .ref mas, .ref msn, .ref mac, .ref mat])), (mac, .inl (g 0, 8, .inl (upd (upd (upd (upd (upd (upd (upd (upd fA 0 0) 1 0) 2 0) 3 0) 4 0) 5 0) 6 0) 7 0))), (mat, .inl (g 0, 8, .inl (upd (upd (upd (upd (upd (upd (upd (upd fB 0 (-1)) 1 (-1)) 2 (-1)) 3 (-1)) 4 (-1)) 5 (-1)) 6 (-1)) 7 (-1))))] := hD
  refine lv_iinc (v := 8) (lv' := [(6, .int 8), (0, .ref m_), (1, .int (nI d)), (2, .int (nI ev)), (3, .int (nI z)), (4, .int (nI k)), (5, .int (nI nn))]) hx hb dX7_aloneSent_26 hl (k := 0) rfl (by decide) (by decide) rfl (fun ls hl => ?_)
  refine lv_goto (tgt := 3) hx hb dX7_aloneSent_29 (by decide) ?_
  refine lv_iload hx hb dX7_aloneSent_3 (lv_at hl 0 rfl) ?_
  refine lv_bipush (v := 8) hx hb dX7_aloneSent_5 (by decide) ?_
  refine lv_icmp_ge (tgt := 32) hx hb dX7_aloneSent_7 (by decide) (fun _ => ?_) (fun cb => absurd (by decide) cb)
  refine lv_iconst (v := 0) hx hb dX7_aloneSent_32 (by decide) ?_
  refine lv_istore (lv' := [(6, .int 0), (0, .ref m_), (1, .int (nI d)), (2, .int (nI ev)), (3, .int (nI z)), (4, .int (nI k)), (5, .int (nI nn))]) hx hb dX7_aloneSent_33 hl (by decide) rfl (fun ls hl => ?_)
  refine lv_iconst (v := 0) hx hb dX7_aloneSent_35 (by decide) ?_
  refine lv_istore (lv' := [(7, .int 0), (6, .int 0), (0, .ref m_), (1, .int (nI d)), (2, .int (nI ev)), (3, .int (nI z)), (4, .int (nI k)), (5, .int (nI nn))]) hx hb dX7_aloneSent_36 hl (by decide) rfl (fun ls hl => ?_)
  refine lv_iconst (v := 0) hx hb dX7_aloneSent_38 (by decide) ?_
  refine lv_istore (lv' := [(8, .int 0), (7, .int 0), (6, .int 0), (0, .ref m_), (1, .int (nI d)), (2, .int (nI ev)), (3, .int (nI z)), (4, .int (nI k)), (5, .int (nI nn))]) hx hb dX7_aloneSent_39 hl (by decide) rfl (fun ls hl => ?_)
  refine lv_iconst (v := 0) hx hb dX7_aloneSent_41 (by decide) ?_
  refine lv_istore (lv' := [(9, .int 0), (8, .int 0), (7, .int 0), (6, .int 0), (0, .ref m_), (1, .int (nI d)), (2, .int (nI ev)), (3, .int (nI z)), (4, .int (nI k)), (5, .int (nI nn))]) hx hb dX7_aloneSent_42 hl (by decide) rfl (fun ls hl => ?_)
  refine lv_iconst (v := 0) hx hb dX7_aloneSent_44 (by decide) ?_
  refine lv_istore (lv' := [(10, .int 0), (9, .int 0), (8, .int 0), (7, .int 0), (6, .int 0), (0, .ref m_), (1, .int (nI d)), (2, .int (nI ev)), (3, .int (nI z)), (4, .int (nI k)), (5, .int (nI nn))]) hx hb dX7_aloneSent_45 hl (by decide) rfl (fun ls hl => ?_)
  have loop_1 : ∀ (N9 : Nat) (j : Nat) (yC : Nat → Int32) (yT : Nat → Int32) (hj : j ≤ nn) (hC : rC j (al d ev z k j).2.2.2.2.1 yC) (hU : rU j (al d ev z k j).2.2.2.2.2 yT) (hm9 : nn - j < N9) (H : Heap) (locs : List Loc) (ls : Array Slot), va_P D vwCl [(m_, .inr (7, [.int th, .ref mt, .int tp, .int pa_, .int wr, .ref mrr, .ref mrh, .ref mrc, .int rh, .int rc, .ref mn, .ref mf, .ref mr, .ref mh, .int hz, .int cz, .ref ma, .ref mas, .ref msn, .ref mac, .ref mat])), (mac, .inl (g 0, 8, .inl yC)), (mat, .inl (g 0, 8, .inl yT))] H → va_D A [(m_, .inr (7, [.int th, .ref mt, .int tp, .int pa_, .int wr, .ref mrr, .ref mrh, .ref mrc, .int rh, .int rc, .ref mn, .ref mf, .ref mr, .ref mh, .int hz, .int cz, .ref ma, .ref mas, .ref msn, .ref mac, .ref mat])), (mac, .inl (g 0, 8, .inl yC)), (mat, .inl (g 0, 8, .inl yT))] → va_S A s.heap H locs → lv_has ls 13 [(10, .int (nI j)), (6, .int (nI (al d ev z k j).1)), (7, .int (nI (al d ev z k j).2.1)), (8, .int (nI (al d ev z k j).2.2.1)), (9, .int (nI (al d ev z k j).2.2.2.1)), (0, .ref m_), (1, .int (nI d)), (2, .int (nI ev)), (3, .int (nI z)), (4, .int (nI k)), (5, .int (nI nn))] → W p l e (headSpec wsX7_aloneSent ({ frames := 0, cells := 0, slots := 0, locals := 0 })).room s m ([.ref m_, .int (nI d), .int (nI ev), .int (nI z), .int (nI k), .int (nI nn)] : List Value).toArray below meth c H locs 0 0 Q (F0 m 47 ls []) := by
    intro N9
    induction N9 with
    | zero => intro j yC yT hj hC hU hm9; exact absurd hm9 (Nat.not_lt_zero _)
    | succ N9 loop_1_ih =>
      intro j yC yT hj hC hU hm9 H locs ls hP hD hS hl
      have hI9 := aI_al d ev z k hd0 j
      have hK9 := aK_in hI9
      have hB9 := aB_in hd0 hI9
      have h19 := hI9.1
      have h29 := hI9.2.1
      have h39 := hI9.2.2.1
      have h49 := hI9.2.2.2.1
      have hm9k : j % k < k := Nat.mod_lt _ hk0
      have hm9e : ((al d ev z k j).2.1 + 1) % ev < ev := Nat.mod_lt _ he0
      have hu9 : (al d ev z k j).2.2.2.2.2 j < 2 ^ 31 := aU_lt hI9 (by omega)
      refine lv_iload hx hb dX7_aloneSent_47 (lv_at hl 0 rfl) ?_
      refine lv_iload hx hb dX7_aloneSent_49 (lv_at hl 10 rfl) ?_
      refine lv_icmp_ge (tgt := 188) hx hb dX7_aloneSent_51 (by decide) (fun cb_2 => ?_) (fun cb_2 => ?_)
      · skip
        have hx9 : j = nn := by have h9 := (nI_leI (a := nn) (b := j) (by omega) (by omega)).mp cb_2; omega
        rw [hx9] at hl
        refine lv_iload hx hb dX7_aloneSent_188 (lv_at hl 1 rfl) ?_
        have hP9 := hP.sub (ws' := [(m_, .inr (7, [.int th, .ref mt, .int tp, .int pa_, .int wr, .ref mrr, .ref mrh, .ref mrc, .int rh, .int rc, .ref mn, .ref mf, .ref mr, .ref mh, .int hz, .int cz, .ref ma, .ref mas, .ref msn, .ref mac, .ref mat])), (mac, .inl (g 0, 8, .inl yC)), (mat, .inl (g 0, 8, .inl yT))]) [0, 1, 2] rfl
        have hD9 := hD.sub (ws' := [(m_, .inr (7, [.int th, .ref mt, .int tp, .int pa_, .int wr, .ref mrr, .ref mrh, .ref mrc, .int rh, .int rc, .ref mn, .ref mf, .ref mr, .ref mh, .int hz, .int cz, .ref ma, .ref mas, .ref msn, .ref mac, .ref mat])), (mac, .inl (g 0, 8, .inl yC)), (mat, .inl (g 0, 8, .inl yT))]) [0, 1, 2] (by decide) rfl
        subst hQ
        refine W.widen (k := 0) (n := 0) (Nat.le_of_ble_eq_true rfl) (Nat.le_of_ble_eq_true rfl) ?_
        exact W.iret (v := (nI (al d ev z k nn).1)) hx hb hr (fun tS htS _ => ⟨⟨_, _, rfl, ⟨yC, yT, rfl, rfl⟩, by rw [htS]; exact hP9, hD9⟩, hS.F htS⟩) hS.2.2 dX7_aloneSent_190
      · skip
        have hlt9 : j < nn := Nat.not_le.mp (fun h9 => cb_2 ((nI_leI (a := nn) (b := j) (by omega) (by omega)).mpr h9))
        refine lv_iload hx hb dX7_aloneSent_54 (lv_at hl 0 rfl) ?_
        refine lv_bipush (v := 8) hx hb dX7_aloneSent_56 (by decide) ?_
        refine lv_irem hx hb dX7_aloneSent_58 (by decide) ?_
        refine lv_eqi (y := (nI ((j) % 8))) (pk_rem (show j < 2 ^ 31 by omega) (show 0 < 8 by omega) (show 8 < 2 ^ 31 by omega)) ?_
        refine lv_istore (lv' := [(11, .int (nI ((j) % 8))), (10, .int (nI j)), (6, .int (nI (al d ev z k j).1)), (7, .int (nI (al d ev z k j).2.1)), (8, .int (nI (al d ev z k j).2.2.1)), (9, .int (nI (al d ev z k j).2.2.2.1)), (0, .ref m_), (1, .int (nI d)), (2, .int (nI ev)), (3, .int (nI z)), (4, .int (nI k)), (5, .int (nI nn))]) hx hb dX7_aloneSent_59 hl (by decide) rfl (fun ls hl => ?_)
        refine lv_iload hx hb dX7_aloneSent_61 (lv_at hl 5 rfl) ?_
        refine lv_aload_n hx hb dX7_aloneSent_63 rfl (lv_at hl 6 rfl) ?_
        refine va_get (D := D) (ci := 7) (v := .ref mac) (C := RX7) (T := TX7) (N := 21) hx hb hts iX7 hown hK hP 0 rfl rfl 19 (by decide) f43 (fun _ h9 => h9) rfl dX7_aloneSent_64 ?_
        refine lv_iload hx hb dX7_aloneSent_67 (lv_at hl 0 rfl) ?_
        refine va_iald hx hb hK hP 1 0 rfl rfl (vp_in_nI (show (j) % 8 < 8 by omega) (by decide)) dX7_aloneSent_69 ?_
        refine lv_eqi (y := (yC ((j) % 8))) (congrArg yC (nI_clamp (show (j) % 8 < 2 ^ 31 by omega))) ?_
        refine lv_iadd hx hb dX7_aloneSent_70 ?_
        refine lv_eqi (y := (nI (aB j (al d ev z k j)))) (rC_b hC) ?_
        refine lv_istore (lv' := [(9, .int (nI (aB j (al d ev z k j)))), (11, .int (nI ((j) % 8))), (10, .int (nI j)), (6, .int (nI (al d ev z k j).1)), (7, .int (nI (al d ev z k j).2.1)), (8, .int (nI (al d ev z k j).2.2.1)), (0, .ref m_), (1, .int (nI d)), (2, .int (nI ev)), (3, .int (nI z)), (4, .int (nI k)), (5, .int (nI nn))]) hx hb dX7_aloneSent_71 hl (by decide) rfl (fun ls hl => ?_)
        refine lv_aload_n hx hb dX7_aloneSent_73 rfl (lv_at hl 6 rfl) ?_
        refine va_get (D := D) (ci := 7) (v := .ref mat) (C := RX7) (T := TX7) (N := 21) hx hb hts iX7 hown hK hP 0 rfl rfl 20 (by decide) f46 (fun _ h9 => h9) rfl dX7_aloneSent_74 ?_
        refine lv_iload hx hb dX7_aloneSent_77 (lv_at hl 1 rfl) ?_
        refine va_iald hx hb hK hP 2 0 rfl rfl (vp_in_nI (show (j) % 8 < 8 by omega) (by decide)) dX7_aloneSent_79 ?_
        refine lv_eqi (y := (yT ((j) % 8))) (congrArg yT (nI_clamp (show (j) % 8 < 2 ^ 31 by omega))) ?_
        refine lv_iconst (v := (-1)) hx hb dX7_aloneSent_80 (by decide) ?_
        refine lv_icmp_ne (tgt := 89) hx hb dX7_aloneSent_81 (by decide) (fun cb_3 => ?_) (fun cb_3 => ?_)
        · skip
          refine lv_aload_n hx hb dX7_aloneSent_89 rfl (lv_at hl 6 rfl) ?_
          refine va_get (D := D) (ci := 7) (v := .ref mat) (C := RX7) (T := TX7) (N := 21) hx hb hts iX7 hown hK hP 0 rfl rfl 20 (by decide) f46 (fun _ h9 => h9) rfl dX7_aloneSent_90 ?_
          refine lv_iload hx hb dX7_aloneSent_93 (lv_at hl 1 rfl) ?_
          refine va_iald hx hb hK hP 2 0 rfl rfl (vp_in_nI (show (j) % 8 < 8 by omega) (by decide)) dX7_aloneSent_95 ?_
          refine lv_eqi (y := (yT ((j) % 8))) (congrArg yT (nI_clamp (show (j) % 8 < 2 ^ 31 by omega))) ?_
          refine lv_eqi (y := (nI (aK j (al d ev z k j)))) (rU_k1 hU cb_3) ?_
          refine lv_istore (lv' := [(8, .int (nI (aK j (al d ev z k j)))), (9, .int (nI (aB j (al d ev z k j)))), (11, .int (nI ((j) % 8))), (10, .int (nI j)), (6, .int (nI (al d ev z k j).1)), (7, .int (nI (al d ev z k j).2.1)), (0, .ref m_), (1, .int (nI d)), (2, .int (nI ev)), (3, .int (nI z)), (4, .int (nI k)), (5, .int (nI nn))]) hx hb dX7_aloneSent_96 hl (by decide) rfl (fun ls hl => ?_)
          refine lv_aload_n hx hb dX7_aloneSent_98 rfl (lv_at hl 6 rfl) ?_
          refine va_get (D := D) (ci := 7) (v := .ref mac) (C := RX7) (T := TX7) (N := 21) hx hb hts iX7 hown hK hP 0 rfl rfl 19 (by decide) f43 (fun _ h9 => h9) rfl dX7_aloneSent_99 ?_
          refine lv_iload hx hb dX7_aloneSent_102 (lv_at hl 2 rfl) ?_
          refine lv_iconst (v := 0) hx hb dX7_aloneSent_104 (by decide) ?_
          refine va_iast hx hb hK hP hD hS 1 0 rfl rfl (vp_in_nI (show (j) % 8 < 8 by omega) (by decide)) dX7_aloneSent_105 (fun H locs hP hD hS => ?_)
          have hP : va_P D vwCl [(m_, .inr (7, [.int th, .ref mt, .int tp, .int pa_, .int wr, .ref mrr, .ref mrh, .ref mrc, .int rh, .int rc, .ref mn, .ref mf, .ref mr, .ref mh, .int hz, .int cz, .ref ma, .ref mas, .ref msn, .ref mac, .ref mat])), (mac, .inl (g 0, 8, .inl (upd yC (nI ((j) % 8)).toNatClampNeg 0))), (mat, .inl (g 0, 8, .inl yT))] H := hP
          have hD : va_D A [(m_, .inr (7, [.int th, .ref mt, .int tp, .int pa_, .int wr, .ref mrr, .ref mrh, .ref mrc, .int rh, .int rc, .ref mn, .ref mf, .ref mr, .ref mh, .int hz, .int cz, .ref ma, .ref mas, .ref msn, .ref mac, .ref mat])), (mac, .inl (g 0, 8, .inl (upd yC (nI ((j) % 8)).toNatClampNeg 0))), (mat, .inl (g 0, 8, .inl yT))] := hD
          rw [nI_clamp (show (j) % 8 < 2 ^ 31 by omega)] at hP hD
          have hP : va_P D vwCl [(m_, .inr (7, [.int th, .ref mt, .int tp, .int pa_, .int wr, .ref mrr, .ref mrh, .ref mrc, .int rh, .int rc, .ref mn, .ref mf, .ref mr, .ref mh, .int hz, .int cz, .ref ma, .ref mas, .ref msn, .ref mac, .ref mat])), (mac, .inl (g 0, 8, .inl (upd yC ((j) % 8) 0))), (mat, .inl (g 0, 8, .inl yT))] H := hP
          have hD : va_D A [(m_, .inr (7, [.int th, .ref mt, .int tp, .int pa_, .int wr, .ref mrr, .ref mrh, .ref mrc, .int rh, .int rc, .ref mn, .ref mf, .ref mr, .ref mh, .int hz, .int cz, .ref ma, .ref mas, .ref msn, .ref mac, .ref mat])), (mac, .inl (g 0, 8, .inl (upd yC ((j) % 8) 0))), (mat, .inl (g 0, 8, .inl yT))] := hD
          refine lv_aload_n hx hb dX7_aloneSent_106 rfl (lv_at hl 6 rfl) ?_
          refine va_get (D := D) (ci := 7) (v := .ref mat) (C := RX7) (T := TX7) (N := 21) hx hb hts iX7 hown hK hP 0 rfl rfl 20 (by decide) f46 (fun _ h9 => h9) rfl dX7_aloneSent_107 ?_
          refine lv_iload hx hb dX7_aloneSent_110 (lv_at hl 2 rfl) ?_
          refine lv_iconst (v := (-1)) hx hb dX7_aloneSent_112 (by decide) ?_
          refine va_iast hx hb hK hP hD hS 2 0 rfl rfl (vp_in_nI (show (j) % 8 < 8 by omega) (by decide)) dX7_aloneSent_113 (fun H locs hP hD hS => ?_)
          have hP : va_P D vwCl [(m_, .inr (7, [.int th, .ref mt, .int tp, .int pa_, .int wr, .ref mrr, .ref mrh, .ref mrc, .int rh, .int rc, .ref mn, .ref mf, .ref mr, .ref mh, .int hz, .int cz, .ref ma, .ref mas, .ref msn, .ref mac, .ref mat])), (mac, .inl (g 0, 8, .inl (upd yC ((j) % 8) 0))), (mat, .inl (g 0, 8, .inl (upd yT (nI ((j) % 8)).toNatClampNeg (-1))))] H := hP
          have hD : va_D A [(m_, .inr (7, [.int th, .ref mt, .int tp, .int pa_, .int wr, .ref mrr, .ref mrh, .ref mrc, .int rh, .int rc, .ref mn, .ref mf, .ref mr, .ref mh, .int hz, .int cz, .ref ma, .ref mas, .ref msn, .ref mac, .ref mat])), (mac, .inl (g 0, 8, .inl (upd yC ((j) % 8) 0))), (mat, .inl (g 0, 8, .inl (upd yT (nI ((j) % 8)).toNatClampNeg (-1))))] := hD
          rw [nI_clamp (show (j) % 8 < 2 ^ 31 by omega)] at hP hD
          have hP : va_P D vwCl [(m_, .inr (7, [.int th, .ref mt, .int tp, .int pa_, .int wr, .ref mrr, .ref mrh, .ref mrc, .int rh, .int rc, .ref mn, .ref mf, .ref mr, .ref mh, .int hz, .int cz, .ref ma, .ref mas, .ref msn, .ref mac, .ref mat])), (mac, .inl (g 0, 8, .inl (upd yC ((j) % 8) 0))), (mat, .inl (g 0, 8, .inl (upd yT ((j) % 8) (-1))))] H := hP
          have hD : va_D A [(m_, .inr (7, [.int th, .ref mt, .int tp, .int pa_, .int wr, .ref mrr, .ref mrh, .ref mrc, .int rh, .int rc, .ref mn, .ref mf, .ref mr, .ref mh, .int hz, .int cz, .ref ma, .ref mas, .ref msn, .ref mac, .ref mat])), (mac, .inl (g 0, 8, .inl (upd yC ((j) % 8) 0))), (mat, .inl (g 0, 8, .inl (upd yT ((j) % 8) (-1))))] := hD
          refine lv_iload hx hb dX7_aloneSent_114 (lv_at hl 3 rfl) ?_
          refine lv_iload_n hx hb dX7_aloneSent_116 rfl (lv_at hl 7 rfl) ?_
          refine lv_iadd hx hb dX7_aloneSent_117 ?_
          refine lv_eqi (y := (nI (j + d))) (nI_add (j) (d)) ?_
          refine lv_bipush (v := 8) hx hb dX7_aloneSent_118 (by decide) ?_
          refine lv_irem hx hb dX7_aloneSent_120 (by decide) ?_
          refine lv_eqi (y := (nI ((j + d) % 8))) (pk_rem (show j + d < 2 ^ 31 by omega) (show 0 < 8 by omega) (show 8 < 2 ^ 31 by omega)) ?_
          refine lv_istore (lv' := [(12, .int (nI ((j + d) % 8))), (8, .int (nI (aK j (al d ev z k j)))), (9, .int (nI (aB j (al d ev z k j)))), (11, .int (nI ((j) % 8))), (10, .int (nI j)), (6, .int (nI (al d ev z k j).1)), (7, .int (nI (al d ev z k j).2.1)), (0, .ref m_), (1, .int (nI d)), (2, .int (nI ev)), (3, .int (nI z)), (4, .int (nI k)), (5, .int (nI nn))]) hx hb dX7_aloneSent_121 hl (by decide) rfl (fun ls hl => ?_)
          refine lv_iload hx hb dX7_aloneSent_123 (lv_at hl 4 rfl) ?_
          refine lv_iload hx hb dX7_aloneSent_125 (lv_at hl 11 rfl) ?_
          refine lv_irem hx hb dX7_aloneSent_127 (nI_ne0 (show 0 < k by omega) (show k < 2 ^ 31 by omega)) ?_
          refine lv_eqi (y := (nI ((j) % k))) (pk_rem (show j < 2 ^ 31 by omega) (show 0 < k by omega) (show k < 2 ^ 31 by omega)) ?_
          refine lv_if_ne (tgt := 162) hx hb dX7_aloneSent_128 (by decide) (fun cb_4 => ?_) (fun cb_4 => ?_)
          · skip
            refine lv_iload hx hb dX7_aloneSent_162 (lv_at hl 5 rfl) ?_
            refine lv_iload hx hb dX7_aloneSent_164 (lv_at hl 1 rfl) ?_
            refine lv_isub hx hb dX7_aloneSent_166 ?_
            refine lv_eqi (y := (nI ((al d ev z k j).1 - (aK j (al d ev z k j))))) (pk_sub (show aK j (al d ev z k j) ≤ (al d ev z k j).1 by omega)) ?_
            refine lv_iload_n hx hb dX7_aloneSent_167 rfl (lv_at hl 10 rfl) ?_
            refine lv_icmp_ge (tgt := 182) hx hb dX7_aloneSent_168 (by decide) (fun cb_5 => ?_) (fun cb_5 => ?_)
            · skip
              refine lv_iinc (v := (nI (j + 1))) (lv' := [(10, .int (nI (j + 1))), (12, .int (nI ((j + d) % 8))), (8, .int (nI (aK j (al d ev z k j)))), (9, .int (nI (aB j (al d ev z k j)))), (11, .int (nI ((j) % 8))), (6, .int (nI (al d ev z k j).1)), (7, .int (nI (al d ev z k j).2.1)), (0, .ref m_), (1, .int (nI d)), (2, .int (nI ev)), (3, .int (nI z)), (4, .int (nI k)), (5, .int (nI nn))]) hx hb dX7_aloneSent_182 hl (k := 4) rfl (nI_1 (j)) (by decide) rfl (fun ls hl => ?_)
              refine lv_goto (tgt := 47) hx hb dX7_aloneSent_185 (by decide) ?_
              have htk : ¬ (j % k = 0 ∧ 0 < aB j (al d ev z k j)) := (fun q => cb_4 (by rw [q.1]; rfl))
              have hsd : ¬ (al d ev z k j).1 - aK j (al d ev z k j) < z := Nat.not_lt.mpr ((nI_leI (by omega) (by omega)).mp cb_5)
              rw [show (al d ev z k j).1 = (al d ev z k (j + 1)).1 from (if_neg hsd).symm] at hl
              rw [show (al d ev z k j).2.1 = (al d ev z k (j + 1)).2.1 from (if_neg htk).symm, show aB j (al d ev z k j) = (al d ev z k (j + 1)).2.2.2.1 from (if_neg htk).symm] at hl
              exact loop_1_ih (j + 1) (upd yC ((j) % 8) 0) (upd yT ((j) % 8) (-1)) (by omega) (rC_n hd hI9 hC hsd) (rU_n hd hI9 hU htk) (by omega) _ _ _ (hP.sub [0, 1, 2] rfl) (hD.sub [0, 1, 2] (by decide) rfl) hS (lv_sub hl [0, 5, 6, 2, 3, 7, 8, 9, 10, 11, 12] rfl)
            · skip
              refine lv_iinc (v := (nI ((al d ev z k j).1 + 1))) (lv' := [(6, .int (nI ((al d ev z k j).1 + 1))), (12, .int (nI ((j + d) % 8))), (8, .int (nI (aK j (al d ev z k j)))), (9, .int (nI (aB j (al d ev z k j)))), (11, .int (nI ((j) % 8))), (10, .int (nI j)), (7, .int (nI (al d ev z k j).2.1)), (0, .ref m_), (1, .int (nI d)), (2, .int (nI ev)), (3, .int (nI z)), (4, .int (nI k)), (5, .int (nI nn))]) hx hb dX7_aloneSent_171 hl (k := 5) rfl (nI_1 ((al d ev z k j).1)) (by decide) rfl (fun ls hl => ?_)
              refine lv_aload_n hx hb dX7_aloneSent_174 rfl (lv_at hl 7 rfl) ?_
              refine va_get (D := D) (ci := 7) (v := .ref mac) (C := RX7) (T := TX7) (N := 21) hx hb hts iX7 hown hK hP 0 rfl rfl 19 (by decide) f43 (fun _ h9 => h9) rfl dX7_aloneSent_175 ?_
              refine lv_iload hx hb dX7_aloneSent_178 (lv_at hl 1 rfl) ?_
              refine lv_iconst (v := 1) hx hb dX7_aloneSent_180 (by decide) ?_
              refine va_iast hx hb hK hP hD hS 1 0 rfl rfl (vp_in_nI (show (j + d) % 8 < 8 by omega) (by decide)) dX7_aloneSent_181 (fun H locs hP hD hS => ?_)
              have hP : va_P D vwCl [(m_, .inr (7, [.int th, .ref mt, .int tp, .int pa_, .int wr, .ref mrr, .ref mrh, .ref mrc, .int rh, .int rc, .ref mn, .ref mf, .ref mr, .ref mh, .int hz, .int cz, .ref ma, .ref mas, .ref msn, .ref mac, .ref mat])), (mac, .inl (g 0, 8, .inl (upd (upd yC ((j) % 8) 0) (nI ((j + d) % 8)).toNatClampNeg 1))), (mat, .inl (g 0, 8, .inl (upd yT ((j) % 8) (-1))))] H := hP
              have hD : va_D A [(m_, .inr (7, [.int th, .ref mt, .int tp, .int pa_, .int wr, .ref mrr, .ref mrh, .ref mrc, .int rh, .int rc, .ref mn, .ref mf, .ref mr, .ref mh, .int hz, .int cz, .ref ma, .ref mas, .ref msn, .ref mac, .ref mat])), (mac, .inl (g 0, 8, .inl (upd (upd yC ((j) % 8) 0) (nI ((j + d) % 8)).toNatClampNeg 1))), (mat, .inl (g 0, 8, .inl (upd yT ((j) % 8) (-1))))] := hD
              rw [nI_clamp (show (j + d) % 8 < 2 ^ 31 by omega)] at hP hD
              have hP : va_P D vwCl [(m_, .inr (7, [.int th, .ref mt, .int tp, .int pa_, .int wr, .ref mrr, .ref mrh, .ref mrc, .int rh, .int rc, .ref mn, .ref mf, .ref mr, .ref mh, .int hz, .int cz, .ref ma, .ref mas, .ref msn, .ref mac, .ref mat])), (mac, .inl (g 0, 8, .inl (upd (upd yC ((j) % 8) 0) ((j + d) % 8) 1))), (mat, .inl (g 0, 8, .inl (upd yT ((j) % 8) (-1))))] H := hP
              have hD : va_D A [(m_, .inr (7, [.int th, .ref mt, .int tp, .int pa_, .int wr, .ref mrr, .ref mrh, .ref mrc, .int rh, .int rc, .ref mn, .ref mf, .ref mr, .ref mh, .int hz, .int cz, .ref ma, .ref mas, .ref msn, .ref mac, .ref mat])), (mac, .inl (g 0, 8, .inl (upd (upd yC ((j) % 8) 0) ((j + d) % 8) 1))), (mat, .inl (g 0, 8, .inl (upd yT ((j) % 8) (-1))))] := hD
              refine lv_iinc (v := (nI (j + 1))) (lv' := [(10, .int (nI (j + 1))), (6, .int (nI ((al d ev z k j).1 + 1))), (12, .int (nI ((j + d) % 8))), (8, .int (nI (aK j (al d ev z k j)))), (9, .int (nI (aB j (al d ev z k j)))), (11, .int (nI ((j) % 8))), (7, .int (nI (al d ev z k j).2.1)), (0, .ref m_), (1, .int (nI d)), (2, .int (nI ev)), (3, .int (nI z)), (4, .int (nI k)), (5, .int (nI nn))]) hx hb dX7_aloneSent_182 hl (k := 5) rfl (nI_1 (j)) (by decide) rfl (fun ls hl => ?_)
              refine lv_goto (tgt := 47) hx hb dX7_aloneSent_185 (by decide) ?_
              have htk : ¬ (j % k = 0 ∧ 0 < aB j (al d ev z k j)) := (fun q => cb_4 (by rw [q.1]; rfl))
              have hsd : (al d ev z k j).1 - aK j (al d ev z k j) < z := Nat.not_le.mp (fun q => cb_5 ((nI_leI (by omega) (by omega)).mpr q))
              rw [show (al d ev z k j).1 + 1 = (al d ev z k (j + 1)).1 from (if_pos hsd).symm] at hl
              rw [show (al d ev z k j).2.1 = (al d ev z k (j + 1)).2.1 from (if_neg htk).symm, show aB j (al d ev z k j) = (al d ev z k (j + 1)).2.2.2.1 from (if_neg htk).symm] at hl
              exact loop_1_ih (j + 1) (upd (upd yC ((j) % 8) 0) ((j + d) % 8) 1) (upd yT ((j) % 8) (-1)) (by omega) (rC_y hd0 hd hI9 hC hsd) (rU_n hd hI9 hU htk) (by omega) _ _ _ (hP.sub [0, 1, 2] rfl) (hD.sub [0, 1, 2] (by decide) rfl) hS (lv_sub hl [0, 1, 6, 3, 4, 7, 8, 9, 10, 11, 12] rfl)
          · skip
            refine lv_iload hx hb dX7_aloneSent_131 (lv_at hl 2 rfl) ?_
            refine lv_if_le (tgt := 162) hx hb dX7_aloneSent_133 (by decide) (fun cb_6 => ?_) (fun cb_6 => ?_)
            · skip
              refine lv_iload hx hb dX7_aloneSent_162 (lv_at hl 5 rfl) ?_
              refine lv_iload hx hb dX7_aloneSent_164 (lv_at hl 1 rfl) ?_
              refine lv_isub hx hb dX7_aloneSent_166 ?_
              refine lv_eqi (y := (nI ((al d ev z k j).1 - (aK j (al d ev z k j))))) (pk_sub (show aK j (al d ev z k j) ≤ (al d ev z k j).1 by omega)) ?_
              refine lv_iload_n hx hb dX7_aloneSent_167 rfl (lv_at hl 10 rfl) ?_
              refine lv_icmp_ge (tgt := 182) hx hb dX7_aloneSent_168 (by decide) (fun cb_7 => ?_) (fun cb_7 => ?_)
              · skip
                refine lv_iinc (v := (nI (j + 1))) (lv' := [(10, .int (nI (j + 1))), (12, .int (nI ((j + d) % 8))), (8, .int (nI (aK j (al d ev z k j)))), (9, .int (nI (aB j (al d ev z k j)))), (11, .int (nI ((j) % 8))), (6, .int (nI (al d ev z k j).1)), (7, .int (nI (al d ev z k j).2.1)), (0, .ref m_), (1, .int (nI d)), (2, .int (nI ev)), (3, .int (nI z)), (4, .int (nI k)), (5, .int (nI nn))]) hx hb dX7_aloneSent_182 hl (k := 4) rfl (nI_1 (j)) (by decide) rfl (fun ls hl => ?_)
                refine lv_goto (tgt := 47) hx hb dX7_aloneSent_185 (by decide) ?_
                have htk : ¬ (j % k = 0 ∧ 0 < aB j (al d ev z k j)) := (fun q => absurd cb_6 (nI_nle q.2 (by omega)))
                have hsd : ¬ (al d ev z k j).1 - aK j (al d ev z k j) < z := Nat.not_lt.mpr ((nI_leI (by omega) (by omega)).mp cb_7)
                rw [show (al d ev z k j).1 = (al d ev z k (j + 1)).1 from (if_neg hsd).symm] at hl
                rw [show (al d ev z k j).2.1 = (al d ev z k (j + 1)).2.1 from (if_neg htk).symm, show aB j (al d ev z k j) = (al d ev z k (j + 1)).2.2.2.1 from (if_neg htk).symm] at hl
                exact loop_1_ih (j + 1) (upd yC ((j) % 8) 0) (upd yT ((j) % 8) (-1)) (by omega) (rC_n hd hI9 hC hsd) (rU_n hd hI9 hU htk) (by omega) _ _ _ (hP.sub [0, 1, 2] rfl) (hD.sub [0, 1, 2] (by decide) rfl) hS (lv_sub hl [0, 5, 6, 2, 3, 7, 8, 9, 10, 11, 12] rfl)
              · skip
                refine lv_iinc (v := (nI ((al d ev z k j).1 + 1))) (lv' := [(6, .int (nI ((al d ev z k j).1 + 1))), (12, .int (nI ((j + d) % 8))), (8, .int (nI (aK j (al d ev z k j)))), (9, .int (nI (aB j (al d ev z k j)))), (11, .int (nI ((j) % 8))), (10, .int (nI j)), (7, .int (nI (al d ev z k j).2.1)), (0, .ref m_), (1, .int (nI d)), (2, .int (nI ev)), (3, .int (nI z)), (4, .int (nI k)), (5, .int (nI nn))]) hx hb dX7_aloneSent_171 hl (k := 5) rfl (nI_1 ((al d ev z k j).1)) (by decide) rfl (fun ls hl => ?_)
                refine lv_aload_n hx hb dX7_aloneSent_174 rfl (lv_at hl 7 rfl) ?_
                refine va_get (D := D) (ci := 7) (v := .ref mac) (C := RX7) (T := TX7) (N := 21) hx hb hts iX7 hown hK hP 0 rfl rfl 19 (by decide) f43 (fun _ h9 => h9) rfl dX7_aloneSent_175 ?_
                refine lv_iload hx hb dX7_aloneSent_178 (lv_at hl 1 rfl) ?_
                refine lv_iconst (v := 1) hx hb dX7_aloneSent_180 (by decide) ?_
                refine va_iast hx hb hK hP hD hS 1 0 rfl rfl (vp_in_nI (show (j + d) % 8 < 8 by omega) (by decide)) dX7_aloneSent_181 (fun H locs hP hD hS => ?_)
                have hP : va_P D vwCl [(m_, .inr (7, [.int th, .ref mt, .int tp, .int pa_, .int wr, .ref mrr, .ref mrh, .ref mrc, .int rh, .int rc, .ref mn, .ref mf, .ref mr, .ref mh, .int hz, .int cz, .ref ma, .ref mas, .ref msn, .ref mac, .ref mat])), (mac, .inl (g 0, 8, .inl (upd (upd yC ((j) % 8) 0) (nI ((j + d) % 8)).toNatClampNeg 1))), (mat, .inl (g 0, 8, .inl (upd yT ((j) % 8) (-1))))] H := hP
                have hD : va_D A [(m_, .inr (7, [.int th, .ref mt, .int tp, .int pa_, .int wr, .ref mrr, .ref mrh, .ref mrc, .int rh, .int rc, .ref mn, .ref mf, .ref mr, .ref mh, .int hz, .int cz, .ref ma, .ref mas, .ref msn, .ref mac, .ref mat])), (mac, .inl (g 0, 8, .inl (upd (upd yC ((j) % 8) 0) (nI ((j + d) % 8)).toNatClampNeg 1))), (mat, .inl (g 0, 8, .inl (upd yT ((j) % 8) (-1))))] := hD
                rw [nI_clamp (show (j + d) % 8 < 2 ^ 31 by omega)] at hP hD
                have hP : va_P D vwCl [(m_, .inr (7, [.int th, .ref mt, .int tp, .int pa_, .int wr, .ref mrr, .ref mrh, .ref mrc, .int rh, .int rc, .ref mn, .ref mf, .ref mr, .ref mh, .int hz, .int cz, .ref ma, .ref mas, .ref msn, .ref mac, .ref mat])), (mac, .inl (g 0, 8, .inl (upd (upd yC ((j) % 8) 0) ((j + d) % 8) 1))), (mat, .inl (g 0, 8, .inl (upd yT ((j) % 8) (-1))))] H := hP
                have hD : va_D A [(m_, .inr (7, [.int th, .ref mt, .int tp, .int pa_, .int wr, .ref mrr, .ref mrh, .ref mrc, .int rh, .int rc, .ref mn, .ref mf, .ref mr, .ref mh, .int hz, .int cz, .ref ma, .ref mas, .ref msn, .ref mac, .ref mat])), (mac, .inl (g 0, 8, .inl (upd (upd yC ((j) % 8) 0) ((j + d) % 8) 1))), (mat, .inl (g 0, 8, .inl (upd yT ((j) % 8) (-1))))] := hD
                refine lv_iinc (v := (nI (j + 1))) (lv' := [(10, .int (nI (j + 1))), (6, .int (nI ((al d ev z k j).1 + 1))), (12, .int (nI ((j + d) % 8))), (8, .int (nI (aK j (al d ev z k j)))), (9, .int (nI (aB j (al d ev z k j)))), (11, .int (nI ((j) % 8))), (7, .int (nI (al d ev z k j).2.1)), (0, .ref m_), (1, .int (nI d)), (2, .int (nI ev)), (3, .int (nI z)), (4, .int (nI k)), (5, .int (nI nn))]) hx hb dX7_aloneSent_182 hl (k := 5) rfl (nI_1 (j)) (by decide) rfl (fun ls hl => ?_)
                refine lv_goto (tgt := 47) hx hb dX7_aloneSent_185 (by decide) ?_
                have htk : ¬ (j % k = 0 ∧ 0 < aB j (al d ev z k j)) := (fun q => absurd cb_6 (nI_nle q.2 (by omega)))
                have hsd : (al d ev z k j).1 - aK j (al d ev z k j) < z := Nat.not_le.mp (fun q => cb_7 ((nI_leI (by omega) (by omega)).mpr q))
                rw [show (al d ev z k j).1 + 1 = (al d ev z k (j + 1)).1 from (if_pos hsd).symm] at hl
                rw [show (al d ev z k j).2.1 = (al d ev z k (j + 1)).2.1 from (if_neg htk).symm, show aB j (al d ev z k j) = (al d ev z k (j + 1)).2.2.2.1 from (if_neg htk).symm] at hl
                exact loop_1_ih (j + 1) (upd (upd yC ((j) % 8) 0) ((j + d) % 8) 1) (upd yT ((j) % 8) (-1)) (by omega) (rC_y hd0 hd hI9 hC hsd) (rU_n hd hI9 hU htk) (by omega) _ _ _ (hP.sub [0, 1, 2] rfl) (hD.sub [0, 1, 2] (by decide) rfl) hS (lv_sub hl [0, 1, 6, 3, 4, 7, 8, 9, 10, 11, 12] rfl)
            · skip
              refine lv_iinc (v := (nI (aB j (al d ev z k j) - 1))) (lv' := [(9, .int (nI (aB j (al d ev z k j) - 1))), (12, .int (nI ((j + d) % 8))), (8, .int (nI (aK j (al d ev z k j)))), (11, .int (nI ((j) % 8))), (10, .int (nI j)), (6, .int (nI (al d ev z k j).1)), (7, .int (nI (al d ev z k j).2.1)), (0, .ref m_), (1, .int (nI d)), (2, .int (nI ev)), (3, .int (nI z)), (4, .int (nI k)), (5, .int (nI nn))]) hx hb dX7_aloneSent_136 hl (k := 2) rfl (pk_m1x (cb_6)) (by decide) rfl (fun ls hl => ?_)
              refine lv_iinc (v := (nI ((al d ev z k j).2.1 + 1))) (lv' := [(7, .int (nI ((al d ev z k j).2.1 + 1))), (9, .int (nI (aB j (al d ev z k j) - 1))), (12, .int (nI ((j + d) % 8))), (8, .int (nI (aK j (al d ev z k j)))), (11, .int (nI ((j) % 8))), (10, .int (nI j)), (6, .int (nI (al d ev z k j).1)), (0, .ref m_), (1, .int (nI d)), (2, .int (nI ev)), (3, .int (nI z)), (4, .int (nI k)), (5, .int (nI nn))]) hx hb dX7_aloneSent_139 hl (k := 6) rfl (nI_1 ((al d ev z k j).2.1)) (by decide) rfl (fun ls hl => ?_)
              refine lv_aload_n hx hb dX7_aloneSent_142 rfl (lv_at hl 7 rfl) ?_
              refine va_get (D := D) (ci := 7) (v := .ref mat) (C := RX7) (T := TX7) (N := 21) hx hb hts iX7 hown hK hP 0 rfl rfl 20 (by decide) f46 (fun _ h9 => h9) rfl dX7_aloneSent_143 ?_
              refine lv_iload hx hb dX7_aloneSent_146 (lv_at hl 2 rfl) ?_
              refine lv_iload hx hb dX7_aloneSent_148 (lv_at hl 0 rfl) ?_
              refine lv_iload_n hx hb dX7_aloneSent_150 rfl (lv_at hl 9 rfl) ?_
              refine lv_irem hx hb dX7_aloneSent_151 (nI_ne0 (show 0 < ev by omega) (show ev < 2 ^ 31 by omega)) ?_
              refine lv_eqi (y := (nI (((al d ev z k j).2.1 + 1) % ev))) (pk_rem (show (al d ev z k j).2.1 + 1 < 2 ^ 31 by omega) (show 0 < ev by omega) (show ev < 2 ^ 31 by omega)) ?_
              refine lv_if_ne (tgt := 160) hx hb dX7_aloneSent_152 (by decide) (fun cb_8 => ?_) (fun cb_8 => ?_)
              · skip
                refine lv_iconst (v := (-1)) hx hb dX7_aloneSent_160 (by decide) ?_
                refine va_iast hx hb hK hP hD hS 2 0 rfl rfl (vp_in_nI (show (j + d) % 8 < 8 by omega) (by decide)) dX7_aloneSent_161 (fun H locs hP hD hS => ?_)
                have hP : va_P D vwCl [(m_, .inr (7, [.int th, .ref mt, .int tp, .int pa_, .int wr, .ref mrr, .ref mrh, .ref mrc, .int rh, .int rc, .ref mn, .ref mf, .ref mr, .ref mh, .int hz, .int cz, .ref ma, .ref mas, .ref msn, .ref mac, .ref mat])), (mac, .inl (g 0, 8, .inl (upd yC ((j) % 8) 0))), (mat, .inl (g 0, 8, .inl (upd (upd yT ((j) % 8) (-1)) (nI ((j + d) % 8)).toNatClampNeg (-1))))] H := hP
                have hD : va_D A [(m_, .inr (7, [.int th, .ref mt, .int tp, .int pa_, .int wr, .ref mrr, .ref mrh, .ref mrc, .int rh, .int rc, .ref mn, .ref mf, .ref mr, .ref mh, .int hz, .int cz, .ref ma, .ref mas, .ref msn, .ref mac, .ref mat])), (mac, .inl (g 0, 8, .inl (upd yC ((j) % 8) 0))), (mat, .inl (g 0, 8, .inl (upd (upd yT ((j) % 8) (-1)) (nI ((j + d) % 8)).toNatClampNeg (-1))))] := hD
                rw [nI_clamp (show (j + d) % 8 < 2 ^ 31 by omega)] at hP hD
                have hP : va_P D vwCl [(m_, .inr (7, [.int th, .ref mt, .int tp, .int pa_, .int wr, .ref mrr, .ref mrh, .ref mrc, .int rh, .int rc, .ref mn, .ref mf, .ref mr, .ref mh, .int hz, .int cz, .ref ma, .ref mas, .ref msn, .ref mac, .ref mat])), (mac, .inl (g 0, 8, .inl (upd yC ((j) % 8) 0))), (mat, .inl (g 0, 8, .inl (upd (upd yT ((j) % 8) (-1)) ((j + d) % 8) (-1))))] H := hP
                have hD : va_D A [(m_, .inr (7, [.int th, .ref mt, .int tp, .int pa_, .int wr, .ref mrr, .ref mrh, .ref mrc, .int rh, .int rc, .ref mn, .ref mf, .ref mr, .ref mh, .int hz, .int cz, .ref ma, .ref mas, .ref msn, .ref mac, .ref mat])), (mac, .inl (g 0, 8, .inl (upd yC ((j) % 8) 0))), (mat, .inl (g 0, 8, .inl (upd (upd yT ((j) % 8) (-1)) ((j + d) % 8) (-1))))] := hD
                refine lv_iload hx hb dX7_aloneSent_162 (lv_at hl 6 rfl) ?_
                refine lv_iload hx hb dX7_aloneSent_164 (lv_at hl 3 rfl) ?_
                refine lv_isub hx hb dX7_aloneSent_166 ?_
                refine lv_eqi (y := (nI ((al d ev z k j).1 - (aK j (al d ev z k j))))) (pk_sub (show aK j (al d ev z k j) ≤ (al d ev z k j).1 by omega)) ?_
                refine lv_iload_n hx hb dX7_aloneSent_167 rfl (lv_at hl 10 rfl) ?_
                refine lv_icmp_ge (tgt := 182) hx hb dX7_aloneSent_168 (by decide) (fun cb_9 => ?_) (fun cb_9 => ?_)
                · skip
                  refine lv_iinc (v := (nI (j + 1))) (lv' := [(10, .int (nI (j + 1))), (7, .int (nI ((al d ev z k j).2.1 + 1))), (9, .int (nI (aB j (al d ev z k j) - 1))), (12, .int (nI ((j + d) % 8))), (8, .int (nI (aK j (al d ev z k j)))), (11, .int (nI ((j) % 8))), (6, .int (nI (al d ev z k j).1)), (0, .ref m_), (1, .int (nI d)), (2, .int (nI ev)), (3, .int (nI z)), (4, .int (nI k)), (5, .int (nI nn))]) hx hb dX7_aloneSent_182 hl (k := 5) rfl (nI_1 (j)) (by decide) rfl (fun ls hl => ?_)
                  refine lv_goto (tgt := 47) hx hb dX7_aloneSent_185 (by decide) ?_
                  have htk : (j % k = 0 ∧ 0 < aB j (al d ev z k j)) := ⟨((nI_eq (by omega) (by decide)).mp (cb_4.trans nI_0.symm)), Nat.pos_of_ne_zero (fun q => cb_6 (by rw [q]; decide))⟩
                  have hsd : ¬ (al d ev z k j).1 - aK j (al d ev z k j) < z := Nat.not_lt.mpr ((nI_leI (by omega) (by omega)).mp cb_9)
                  rw [show (al d ev z k j).1 = (al d ev z k (j + 1)).1 from (if_neg hsd).symm] at hl
                  rw [show (al d ev z k j).2.1 + 1 = (al d ev z k (j + 1)).2.1 from (if_pos htk).symm, show aB j (al d ev z k j) - 1 = (al d ev z k (j + 1)).2.2.2.1 from (if_pos htk).symm] at hl
                  exact loop_1_ih (j + 1) (upd yC ((j) % 8) 0) (upd (upd yT ((j) % 8) (-1)) ((j + d) % 8) (-1)) (by omega) (rC_n hd hI9 hC hsd) (rU_x hd0 hd hI9 hU htk (fun q => cb_8 (by rw [q]; rfl))) (by omega) _ _ _ (hP.sub [0, 1, 2] rfl) (hD.sub [0, 1, 2] (by decide) rfl) hS (lv_sub hl [0, 6, 1, 4, 2, 7, 8, 9, 10, 11, 12] rfl)
                · skip
                  refine lv_iinc (v := (nI ((al d ev z k j).1 + 1))) (lv' := [(6, .int (nI ((al d ev z k j).1 + 1))), (7, .int (nI ((al d ev z k j).2.1 + 1))), (9, .int (nI (aB j (al d ev z k j) - 1))), (12, .int (nI ((j + d) % 8))), (8, .int (nI (aK j (al d ev z k j)))), (11, .int (nI ((j) % 8))), (10, .int (nI j)), (0, .ref m_), (1, .int (nI d)), (2, .int (nI ev)), (3, .int (nI z)), (4, .int (nI k)), (5, .int (nI nn))]) hx hb dX7_aloneSent_171 hl (k := 6) rfl (nI_1 ((al d ev z k j).1)) (by decide) rfl (fun ls hl => ?_)
                  refine lv_aload_n hx hb dX7_aloneSent_174 rfl (lv_at hl 7 rfl) ?_
                  refine va_get (D := D) (ci := 7) (v := .ref mac) (C := RX7) (T := TX7) (N := 21) hx hb hts iX7 hown hK hP 0 rfl rfl 19 (by decide) f43 (fun _ h9 => h9) rfl dX7_aloneSent_175 ?_
                  refine lv_iload hx hb dX7_aloneSent_178 (lv_at hl 3 rfl) ?_
                  refine lv_iconst (v := 1) hx hb dX7_aloneSent_180 (by decide) ?_
                  refine va_iast hx hb hK hP hD hS 1 0 rfl rfl (vp_in_nI (show (j + d) % 8 < 8 by omega) (by decide)) dX7_aloneSent_181 (fun H locs hP hD hS => ?_)
                  have hP : va_P D vwCl [(m_, .inr (7, [.int th, .ref mt, .int tp, .int pa_, .int wr, .ref mrr, .ref mrh, .ref mrc, .int rh, .int rc, .ref mn, .ref mf, .ref mr, .ref mh, .int hz, .int cz, .ref ma, .ref mas, .ref msn, .ref mac, .ref mat])), (mac, .inl (g 0, 8, .inl (upd (upd yC ((j) % 8) 0) (nI ((j + d) % 8)).toNatClampNeg 1))), (mat, .inl (g 0, 8, .inl (upd (upd yT ((j) % 8) (-1)) ((j + d) % 8) (-1))))] H := hP
                  have hD : va_D A [(m_, .inr (7, [.int th, .ref mt, .int tp, .int pa_, .int wr, .ref mrr, .ref mrh, .ref mrc, .int rh, .int rc, .ref mn, .ref mf, .ref mr, .ref mh, .int hz, .int cz, .ref ma, .ref mas, .ref msn, .ref mac, .ref mat])), (mac, .inl (g 0, 8, .inl (upd (upd yC ((j) % 8) 0) (nI ((j + d) % 8)).toNatClampNeg 1))), (mat, .inl (g 0, 8, .inl (upd (upd yT ((j) % 8) (-1)) ((j + d) % 8) (-1))))] := hD
                  rw [nI_clamp (show (j + d) % 8 < 2 ^ 31 by omega)] at hP hD
                  have hP : va_P D vwCl [(m_, .inr (7, [.int th, .ref mt, .int tp, .int pa_, .int wr, .ref mrr, .ref mrh, .ref mrc, .int rh, .int rc, .ref mn, .ref mf, .ref mr, .ref mh, .int hz, .int cz, .ref ma, .ref mas, .ref msn, .ref mac, .ref mat])), (mac, .inl (g 0, 8, .inl (upd (upd yC ((j) % 8) 0) ((j + d) % 8) 1))), (mat, .inl (g 0, 8, .inl (upd (upd yT ((j) % 8) (-1)) ((j + d) % 8) (-1))))] H := hP
                  have hD : va_D A [(m_, .inr (7, [.int th, .ref mt, .int tp, .int pa_, .int wr, .ref mrr, .ref mrh, .ref mrc, .int rh, .int rc, .ref mn, .ref mf, .ref mr, .ref mh, .int hz, .int cz, .ref ma, .ref mas, .ref msn, .ref mac, .ref mat])), (mac, .inl (g 0, 8, .inl (upd (upd yC ((j) % 8) 0) ((j + d) % 8) 1))), (mat, .inl (g 0, 8, .inl (upd (upd yT ((j) % 8) (-1)) ((j + d) % 8) (-1))))] := hD
                  refine lv_iinc (v := (nI (j + 1))) (lv' := [(10, .int (nI (j + 1))), (6, .int (nI ((al d ev z k j).1 + 1))), (7, .int (nI ((al d ev z k j).2.1 + 1))), (9, .int (nI (aB j (al d ev z k j) - 1))), (12, .int (nI ((j + d) % 8))), (8, .int (nI (aK j (al d ev z k j)))), (11, .int (nI ((j) % 8))), (0, .ref m_), (1, .int (nI d)), (2, .int (nI ev)), (3, .int (nI z)), (4, .int (nI k)), (5, .int (nI nn))]) hx hb dX7_aloneSent_182 hl (k := 6) rfl (nI_1 (j)) (by decide) rfl (fun ls hl => ?_)
                  refine lv_goto (tgt := 47) hx hb dX7_aloneSent_185 (by decide) ?_
                  have htk : (j % k = 0 ∧ 0 < aB j (al d ev z k j)) := ⟨((nI_eq (by omega) (by decide)).mp (cb_4.trans nI_0.symm)), Nat.pos_of_ne_zero (fun q => cb_6 (by rw [q]; decide))⟩
                  have hsd : (al d ev z k j).1 - aK j (al d ev z k j) < z := Nat.not_le.mp (fun q => cb_9 ((nI_leI (by omega) (by omega)).mpr q))
                  rw [show (al d ev z k j).1 + 1 = (al d ev z k (j + 1)).1 from (if_pos hsd).symm] at hl
                  rw [show (al d ev z k j).2.1 + 1 = (al d ev z k (j + 1)).2.1 from (if_pos htk).symm, show aB j (al d ev z k j) - 1 = (al d ev z k (j + 1)).2.2.2.1 from (if_pos htk).symm] at hl
                  exact loop_1_ih (j + 1) (upd (upd yC ((j) % 8) 0) ((j + d) % 8) 1) (upd (upd yT ((j) % 8) (-1)) ((j + d) % 8) (-1)) (by omega) (rC_y hd0 hd hI9 hC hsd) (rU_x hd0 hd hI9 hU htk (fun q => cb_8 (by rw [q]; rfl))) (by omega) _ _ _ (hP.sub [0, 1, 2] rfl) (hD.sub [0, 1, 2] (by decide) rfl) hS (lv_sub hl [0, 1, 2, 5, 3, 7, 8, 9, 10, 11, 12] rfl)
              · skip
                refine lv_iload hx hb dX7_aloneSent_155 (lv_at hl 0 rfl) ?_
                refine lv_goto (tgt := 161) hx hb dX7_aloneSent_157 (by decide) ?_
                refine va_iast hx hb hK hP hD hS 2 0 rfl rfl (vp_in_nI (show (j + d) % 8 < 8 by omega) (by decide)) dX7_aloneSent_161 (fun H locs hP hD hS => ?_)
                have hP : va_P D vwCl [(m_, .inr (7, [.int th, .ref mt, .int tp, .int pa_, .int wr, .ref mrr, .ref mrh, .ref mrc, .int rh, .int rc, .ref mn, .ref mf, .ref mr, .ref mh, .int hz, .int cz, .ref ma, .ref mas, .ref msn, .ref mac, .ref mat])), (mac, .inl (g 0, 8, .inl (upd yC ((j) % 8) 0))), (mat, .inl (g 0, 8, .inl (upd (upd yT ((j) % 8) (-1)) (nI ((j + d) % 8)).toNatClampNeg (nI ((al d ev z k j).2.1 + 1)))))] H := hP
                have hD : va_D A [(m_, .inr (7, [.int th, .ref mt, .int tp, .int pa_, .int wr, .ref mrr, .ref mrh, .ref mrc, .int rh, .int rc, .ref mn, .ref mf, .ref mr, .ref mh, .int hz, .int cz, .ref ma, .ref mas, .ref msn, .ref mac, .ref mat])), (mac, .inl (g 0, 8, .inl (upd yC ((j) % 8) 0))), (mat, .inl (g 0, 8, .inl (upd (upd yT ((j) % 8) (-1)) (nI ((j + d) % 8)).toNatClampNeg (nI ((al d ev z k j).2.1 + 1)))))] := hD
                rw [nI_clamp (show (j + d) % 8 < 2 ^ 31 by omega)] at hP hD
                have hP : va_P D vwCl [(m_, .inr (7, [.int th, .ref mt, .int tp, .int pa_, .int wr, .ref mrr, .ref mrh, .ref mrc, .int rh, .int rc, .ref mn, .ref mf, .ref mr, .ref mh, .int hz, .int cz, .ref ma, .ref mas, .ref msn, .ref mac, .ref mat])), (mac, .inl (g 0, 8, .inl (upd yC ((j) % 8) 0))), (mat, .inl (g 0, 8, .inl (upd (upd yT ((j) % 8) (-1)) ((j + d) % 8) (nI ((al d ev z k j).2.1 + 1)))))] H := hP
                have hD : va_D A [(m_, .inr (7, [.int th, .ref mt, .int tp, .int pa_, .int wr, .ref mrr, .ref mrh, .ref mrc, .int rh, .int rc, .ref mn, .ref mf, .ref mr, .ref mh, .int hz, .int cz, .ref ma, .ref mas, .ref msn, .ref mac, .ref mat])), (mac, .inl (g 0, 8, .inl (upd yC ((j) % 8) 0))), (mat, .inl (g 0, 8, .inl (upd (upd yT ((j) % 8) (-1)) ((j + d) % 8) (nI ((al d ev z k j).2.1 + 1)))))] := hD
                refine lv_iload hx hb dX7_aloneSent_162 (lv_at hl 6 rfl) ?_
                refine lv_iload hx hb dX7_aloneSent_164 (lv_at hl 3 rfl) ?_
                refine lv_isub hx hb dX7_aloneSent_166 ?_
                refine lv_eqi (y := (nI ((al d ev z k j).1 - (aK j (al d ev z k j))))) (pk_sub (show aK j (al d ev z k j) ≤ (al d ev z k j).1 by omega)) ?_
                refine lv_iload_n hx hb dX7_aloneSent_167 rfl (lv_at hl 10 rfl) ?_
                refine lv_icmp_ge (tgt := 182) hx hb dX7_aloneSent_168 (by decide) (fun cb_10 => ?_) (fun cb_10 => ?_)
                · skip
                  refine lv_iinc (v := (nI (j + 1))) (lv' := [(10, .int (nI (j + 1))), (7, .int (nI ((al d ev z k j).2.1 + 1))), (9, .int (nI (aB j (al d ev z k j) - 1))), (12, .int (nI ((j + d) % 8))), (8, .int (nI (aK j (al d ev z k j)))), (11, .int (nI ((j) % 8))), (6, .int (nI (al d ev z k j).1)), (0, .ref m_), (1, .int (nI d)), (2, .int (nI ev)), (3, .int (nI z)), (4, .int (nI k)), (5, .int (nI nn))]) hx hb dX7_aloneSent_182 hl (k := 5) rfl (nI_1 (j)) (by decide) rfl (fun ls hl => ?_)
                  refine lv_goto (tgt := 47) hx hb dX7_aloneSent_185 (by decide) ?_
                  have htk : (j % k = 0 ∧ 0 < aB j (al d ev z k j)) := ⟨((nI_eq (by omega) (by decide)).mp (cb_4.trans nI_0.symm)), Nat.pos_of_ne_zero (fun q => cb_6 (by rw [q]; decide))⟩
                  have hsd : ¬ (al d ev z k j).1 - aK j (al d ev z k j) < z := Nat.not_lt.mpr ((nI_leI (by omega) (by omega)).mp cb_10)
                  rw [show (al d ev z k j).1 = (al d ev z k (j + 1)).1 from (if_neg hsd).symm] at hl
                  rw [show (al d ev z k j).2.1 + 1 = (al d ev z k (j + 1)).2.1 from (if_pos htk).symm, show aB j (al d ev z k j) - 1 = (al d ev z k (j + 1)).2.2.2.1 from (if_pos htk).symm] at hl
                  exact loop_1_ih (j + 1) (upd yC ((j) % 8) 0) (upd (upd yT ((j) % 8) (-1)) ((j + d) % 8) (nI ((al d ev z k j).2.1 + 1))) (by omega) (rC_n hd hI9 hC hsd) (rU_y hd0 hd hI9 hU htk ((nI_eq (by omega) (by decide)).mp (cb_8.trans nI_0.symm))) (by omega) _ _ _ (hP.sub [0, 1, 2] rfl) (hD.sub [0, 1, 2] (by decide) rfl) hS (lv_sub hl [0, 6, 1, 4, 2, 7, 8, 9, 10, 11, 12] rfl)
                · skip
                  refine lv_iinc (v := (nI ((al d ev z k j).1 + 1))) (lv' := [(6, .int (nI ((al d ev z k j).1 + 1))), (7, .int (nI ((al d ev z k j).2.1 + 1))), (9, .int (nI (aB j (al d ev z k j) - 1))), (12, .int (nI ((j + d) % 8))), (8, .int (nI (aK j (al d ev z k j)))), (11, .int (nI ((j) % 8))), (10, .int (nI j)), (0, .ref m_), (1, .int (nI d)), (2, .int (nI ev)), (3, .int (nI z)), (4, .int (nI k)), (5, .int (nI nn))]) hx hb dX7_aloneSent_171 hl (k := 6) rfl (nI_1 ((al d ev z k j).1)) (by decide) rfl (fun ls hl => ?_)
                  refine lv_aload_n hx hb dX7_aloneSent_174 rfl (lv_at hl 7 rfl) ?_
                  refine va_get (D := D) (ci := 7) (v := .ref mac) (C := RX7) (T := TX7) (N := 21) hx hb hts iX7 hown hK hP 0 rfl rfl 19 (by decide) f43 (fun _ h9 => h9) rfl dX7_aloneSent_175 ?_
                  refine lv_iload hx hb dX7_aloneSent_178 (lv_at hl 3 rfl) ?_
                  refine lv_iconst (v := 1) hx hb dX7_aloneSent_180 (by decide) ?_
                  refine va_iast hx hb hK hP hD hS 1 0 rfl rfl (vp_in_nI (show (j + d) % 8 < 8 by omega) (by decide)) dX7_aloneSent_181 (fun H locs hP hD hS => ?_)
                  have hP : va_P D vwCl [(m_, .inr (7, [.int th, .ref mt, .int tp, .int pa_, .int wr, .ref mrr, .ref mrh, .ref mrc, .int rh, .int rc, .ref mn, .ref mf, .ref mr, .ref mh, .int hz, .int cz, .ref ma, .ref mas, .ref msn, .ref mac, .ref mat])), (mac, .inl (g 0, 8, .inl (upd (upd yC ((j) % 8) 0) (nI ((j + d) % 8)).toNatClampNeg 1))), (mat, .inl (g 0, 8, .inl (upd (upd yT ((j) % 8) (-1)) ((j + d) % 8) (nI ((al d ev z k j).2.1 + 1)))))] H := hP
                  have hD : va_D A [(m_, .inr (7, [.int th, .ref mt, .int tp, .int pa_, .int wr, .ref mrr, .ref mrh, .ref mrc, .int rh, .int rc, .ref mn, .ref mf, .ref mr, .ref mh, .int hz, .int cz, .ref ma, .ref mas, .ref msn, .ref mac, .ref mat])), (mac, .inl (g 0, 8, .inl (upd (upd yC ((j) % 8) 0) (nI ((j + d) % 8)).toNatClampNeg 1))), (mat, .inl (g 0, 8, .inl (upd (upd yT ((j) % 8) (-1)) ((j + d) % 8) (nI ((al d ev z k j).2.1 + 1)))))] := hD
                  rw [nI_clamp (show (j + d) % 8 < 2 ^ 31 by omega)] at hP hD
                  have hP : va_P D vwCl [(m_, .inr (7, [.int th, .ref mt, .int tp, .int pa_, .int wr, .ref mrr, .ref mrh, .ref mrc, .int rh, .int rc, .ref mn, .ref mf, .ref mr, .ref mh, .int hz, .int cz, .ref ma, .ref mas, .ref msn, .ref mac, .ref mat])), (mac, .inl (g 0, 8, .inl (upd (upd yC ((j) % 8) 0) ((j + d) % 8) 1))), (mat, .inl (g 0, 8, .inl (upd (upd yT ((j) % 8) (-1)) ((j + d) % 8) (nI ((al d ev z k j).2.1 + 1)))))] H := hP
                  have hD : va_D A [(m_, .inr (7, [.int th, .ref mt, .int tp, .int pa_, .int wr, .ref mrr, .ref mrh, .ref mrc, .int rh, .int rc, .ref mn, .ref mf, .ref mr, .ref mh, .int hz, .int cz, .ref ma, .ref mas, .ref msn, .ref mac, .ref mat])), (mac, .inl (g 0, 8, .inl (upd (upd yC ((j) % 8) 0) ((j + d) % 8) 1))), (mat, .inl (g 0, 8, .inl (upd (upd yT ((j) % 8) (-1)) ((j + d) % 8) (nI ((al d ev z k j).2.1 + 1)))))] := hD
                  refine lv_iinc (v := (nI (j + 1))) (lv' := [(10, .int (nI (j + 1))), (6, .int (nI ((al d ev z k j).1 + 1))), (7, .int (nI ((al d ev z k j).2.1 + 1))), (9, .int (nI (aB j (al d ev z k j) - 1))), (12, .int (nI ((j + d) % 8))), (8, .int (nI (aK j (al d ev z k j)))), (11, .int (nI ((j) % 8))), (0, .ref m_), (1, .int (nI d)), (2, .int (nI ev)), (3, .int (nI z)), (4, .int (nI k)), (5, .int (nI nn))]) hx hb dX7_aloneSent_182 hl (k := 6) rfl (nI_1 (j)) (by decide) rfl (fun ls hl => ?_)
                  refine lv_goto (tgt := 47) hx hb dX7_aloneSent_185 (by decide) ?_
                  have htk : (j % k = 0 ∧ 0 < aB j (al d ev z k j)) := ⟨((nI_eq (by omega) (by decide)).mp (cb_4.trans nI_0.symm)), Nat.pos_of_ne_zero (fun q => cb_6 (by rw [q]; decide))⟩
                  have hsd : (al d ev z k j).1 - aK j (al d ev z k j) < z := Nat.not_le.mp (fun q => cb_10 ((nI_leI (by omega) (by omega)).mpr q))
                  rw [show (al d ev z k j).1 + 1 = (al d ev z k (j + 1)).1 from (if_pos hsd).symm] at hl
                  rw [show (al d ev z k j).2.1 + 1 = (al d ev z k (j + 1)).2.1 from (if_pos htk).symm, show aB j (al d ev z k j) - 1 = (al d ev z k (j + 1)).2.2.2.1 from (if_pos htk).symm] at hl
                  exact loop_1_ih (j + 1) (upd (upd yC ((j) % 8) 0) ((j + d) % 8) 1) (upd (upd yT ((j) % 8) (-1)) ((j + d) % 8) (nI ((al d ev z k j).2.1 + 1))) (by omega) (rC_y hd0 hd hI9 hC hsd) (rU_y hd0 hd hI9 hU htk ((nI_eq (by omega) (by decide)).mp (cb_8.trans nI_0.symm))) (by omega) _ _ _ (hP.sub [0, 1, 2] rfl) (hD.sub [0, 1, 2] (by decide) rfl) hS (lv_sub hl [0, 1, 2, 5, 3, 7, 8, 9, 10, 11, 12] rfl)
        · skip
          refine lv_iload hx hb dX7_aloneSent_84 (lv_at hl 5 rfl) ?_
          refine lv_eqi (y := (nI (aK j (al d ev z k j)))) (rU_k0 hu9 hU cb_3) ?_
          refine lv_goto (tgt := 96) hx hb dX7_aloneSent_86 (by decide) ?_
          refine lv_istore (lv' := [(8, .int (nI (aK j (al d ev z k j)))), (9, .int (nI (aB j (al d ev z k j)))), (11, .int (nI ((j) % 8))), (10, .int (nI j)), (6, .int (nI (al d ev z k j).1)), (7, .int (nI (al d ev z k j).2.1)), (0, .ref m_), (1, .int (nI d)), (2, .int (nI ev)), (3, .int (nI z)), (4, .int (nI k)), (5, .int (nI nn))]) hx hb dX7_aloneSent_96 hl (by decide) rfl (fun ls hl => ?_)
          refine lv_aload_n hx hb dX7_aloneSent_98 rfl (lv_at hl 6 rfl) ?_
          refine va_get (D := D) (ci := 7) (v := .ref mac) (C := RX7) (T := TX7) (N := 21) hx hb hts iX7 hown hK hP 0 rfl rfl 19 (by decide) f43 (fun _ h9 => h9) rfl dX7_aloneSent_99 ?_
          refine lv_iload hx hb dX7_aloneSent_102 (lv_at hl 2 rfl) ?_
          refine lv_iconst (v := 0) hx hb dX7_aloneSent_104 (by decide) ?_
          refine va_iast hx hb hK hP hD hS 1 0 rfl rfl (vp_in_nI (show (j) % 8 < 8 by omega) (by decide)) dX7_aloneSent_105 (fun H locs hP hD hS => ?_)
          have hP : va_P D vwCl [(m_, .inr (7, [.int th, .ref mt, .int tp, .int pa_, .int wr, .ref mrr, .ref mrh, .ref mrc, .int rh, .int rc, .ref mn, .ref mf, .ref mr, .ref mh, .int hz, .int cz, .ref ma, .ref mas, .ref msn, .ref mac, .ref mat])), (mac, .inl (g 0, 8, .inl (upd yC (nI ((j) % 8)).toNatClampNeg 0))), (mat, .inl (g 0, 8, .inl yT))] H := hP
          have hD : va_D A [(m_, .inr (7, [.int th, .ref mt, .int tp, .int pa_, .int wr, .ref mrr, .ref mrh, .ref mrc, .int rh, .int rc, .ref mn, .ref mf, .ref mr, .ref mh, .int hz, .int cz, .ref ma, .ref mas, .ref msn, .ref mac, .ref mat])), (mac, .inl (g 0, 8, .inl (upd yC (nI ((j) % 8)).toNatClampNeg 0))), (mat, .inl (g 0, 8, .inl yT))] := hD
          rw [nI_clamp (show (j) % 8 < 2 ^ 31 by omega)] at hP hD
          have hP : va_P D vwCl [(m_, .inr (7, [.int th, .ref mt, .int tp, .int pa_, .int wr, .ref mrr, .ref mrh, .ref mrc, .int rh, .int rc, .ref mn, .ref mf, .ref mr, .ref mh, .int hz, .int cz, .ref ma, .ref mas, .ref msn, .ref mac, .ref mat])), (mac, .inl (g 0, 8, .inl (upd yC ((j) % 8) 0))), (mat, .inl (g 0, 8, .inl yT))] H := hP
          have hD : va_D A [(m_, .inr (7, [.int th, .ref mt, .int tp, .int pa_, .int wr, .ref mrr, .ref mrh, .ref mrc, .int rh, .int rc, .ref mn, .ref mf, .ref mr, .ref mh, .int hz, .int cz, .ref ma, .ref mas, .ref msn, .ref mac, .ref mat])), (mac, .inl (g 0, 8, .inl (upd yC ((j) % 8) 0))), (mat, .inl (g 0, 8, .inl yT))] := hD
          refine lv_aload_n hx hb dX7_aloneSent_106 rfl (lv_at hl 6 rfl) ?_
          refine va_get (D := D) (ci := 7) (v := .ref mat) (C := RX7) (T := TX7) (N := 21) hx hb hts iX7 hown hK hP 0 rfl rfl 20 (by decide) f46 (fun _ h9 => h9) rfl dX7_aloneSent_107 ?_
          refine lv_iload hx hb dX7_aloneSent_110 (lv_at hl 2 rfl) ?_
          refine lv_iconst (v := (-1)) hx hb dX7_aloneSent_112 (by decide) ?_
          refine va_iast hx hb hK hP hD hS 2 0 rfl rfl (vp_in_nI (show (j) % 8 < 8 by omega) (by decide)) dX7_aloneSent_113 (fun H locs hP hD hS => ?_)
          have hP : va_P D vwCl [(m_, .inr (7, [.int th, .ref mt, .int tp, .int pa_, .int wr, .ref mrr, .ref mrh, .ref mrc, .int rh, .int rc, .ref mn, .ref mf, .ref mr, .ref mh, .int hz, .int cz, .ref ma, .ref mas, .ref msn, .ref mac, .ref mat])), (mac, .inl (g 0, 8, .inl (upd yC ((j) % 8) 0))), (mat, .inl (g 0, 8, .inl (upd yT (nI ((j) % 8)).toNatClampNeg (-1))))] H := hP
          have hD : va_D A [(m_, .inr (7, [.int th, .ref mt, .int tp, .int pa_, .int wr, .ref mrr, .ref mrh, .ref mrc, .int rh, .int rc, .ref mn, .ref mf, .ref mr, .ref mh, .int hz, .int cz, .ref ma, .ref mas, .ref msn, .ref mac, .ref mat])), (mac, .inl (g 0, 8, .inl (upd yC ((j) % 8) 0))), (mat, .inl (g 0, 8, .inl (upd yT (nI ((j) % 8)).toNatClampNeg (-1))))] := hD
          rw [nI_clamp (show (j) % 8 < 2 ^ 31 by omega)] at hP hD
          have hP : va_P D vwCl [(m_, .inr (7, [.int th, .ref mt, .int tp, .int pa_, .int wr, .ref mrr, .ref mrh, .ref mrc, .int rh, .int rc, .ref mn, .ref mf, .ref mr, .ref mh, .int hz, .int cz, .ref ma, .ref mas, .ref msn, .ref mac, .ref mat])), (mac, .inl (g 0, 8, .inl (upd yC ((j) % 8) 0))), (mat, .inl (g 0, 8, .inl (upd yT ((j) % 8) (-1))))] H := hP
          have hD : va_D A [(m_, .inr (7, [.int th, .ref mt, .int tp, .int pa_, .int wr, .ref mrr, .ref mrh, .ref mrc, .int rh, .int rc, .ref mn, .ref mf, .ref mr, .ref mh, .int hz, .int cz, .ref ma, .ref mas, .ref msn, .ref mac, .ref mat])), (mac, .inl (g 0, 8, .inl (upd yC ((j) % 8) 0))), (mat, .inl (g 0, 8, .inl (upd yT ((j) % 8) (-1))))] := hD
          refine lv_iload hx hb dX7_aloneSent_114 (lv_at hl 3 rfl) ?_
          refine lv_iload_n hx hb dX7_aloneSent_116 rfl (lv_at hl 7 rfl) ?_
          refine lv_iadd hx hb dX7_aloneSent_117 ?_
          refine lv_eqi (y := (nI (j + d))) (nI_add (j) (d)) ?_
          refine lv_bipush (v := 8) hx hb dX7_aloneSent_118 (by decide) ?_
          refine lv_irem hx hb dX7_aloneSent_120 (by decide) ?_
          refine lv_eqi (y := (nI ((j + d) % 8))) (pk_rem (show j + d < 2 ^ 31 by omega) (show 0 < 8 by omega) (show 8 < 2 ^ 31 by omega)) ?_
          refine lv_istore (lv' := [(12, .int (nI ((j + d) % 8))), (8, .int (nI (aK j (al d ev z k j)))), (9, .int (nI (aB j (al d ev z k j)))), (11, .int (nI ((j) % 8))), (10, .int (nI j)), (6, .int (nI (al d ev z k j).1)), (7, .int (nI (al d ev z k j).2.1)), (0, .ref m_), (1, .int (nI d)), (2, .int (nI ev)), (3, .int (nI z)), (4, .int (nI k)), (5, .int (nI nn))]) hx hb dX7_aloneSent_121 hl (by decide) rfl (fun ls hl => ?_)
          refine lv_iload hx hb dX7_aloneSent_123 (lv_at hl 4 rfl) ?_
          refine lv_iload hx hb dX7_aloneSent_125 (lv_at hl 11 rfl) ?_
          refine lv_irem hx hb dX7_aloneSent_127 (nI_ne0 (show 0 < k by omega) (show k < 2 ^ 31 by omega)) ?_
          refine lv_eqi (y := (nI ((j) % k))) (pk_rem (show j < 2 ^ 31 by omega) (show 0 < k by omega) (show k < 2 ^ 31 by omega)) ?_
          refine lv_if_ne (tgt := 162) hx hb dX7_aloneSent_128 (by decide) (fun cb_11 => ?_) (fun cb_11 => ?_)
          · skip
            refine lv_iload hx hb dX7_aloneSent_162 (lv_at hl 5 rfl) ?_
            refine lv_iload hx hb dX7_aloneSent_164 (lv_at hl 1 rfl) ?_
            refine lv_isub hx hb dX7_aloneSent_166 ?_
            refine lv_eqi (y := (nI ((al d ev z k j).1 - (aK j (al d ev z k j))))) (pk_sub (show aK j (al d ev z k j) ≤ (al d ev z k j).1 by omega)) ?_
            refine lv_iload_n hx hb dX7_aloneSent_167 rfl (lv_at hl 10 rfl) ?_
            refine lv_icmp_ge (tgt := 182) hx hb dX7_aloneSent_168 (by decide) (fun cb_12 => ?_) (fun cb_12 => ?_)
            · skip
              refine lv_iinc (v := (nI (j + 1))) (lv' := [(10, .int (nI (j + 1))), (12, .int (nI ((j + d) % 8))), (8, .int (nI (aK j (al d ev z k j)))), (9, .int (nI (aB j (al d ev z k j)))), (11, .int (nI ((j) % 8))), (6, .int (nI (al d ev z k j).1)), (7, .int (nI (al d ev z k j).2.1)), (0, .ref m_), (1, .int (nI d)), (2, .int (nI ev)), (3, .int (nI z)), (4, .int (nI k)), (5, .int (nI nn))]) hx hb dX7_aloneSent_182 hl (k := 4) rfl (nI_1 (j)) (by decide) rfl (fun ls hl => ?_)
              refine lv_goto (tgt := 47) hx hb dX7_aloneSent_185 (by decide) ?_
              have htk : ¬ (j % k = 0 ∧ 0 < aB j (al d ev z k j)) := (fun q => cb_11 (by rw [q.1]; rfl))
              have hsd : ¬ (al d ev z k j).1 - aK j (al d ev z k j) < z := Nat.not_lt.mpr ((nI_leI (by omega) (by omega)).mp cb_12)
              rw [show (al d ev z k j).1 = (al d ev z k (j + 1)).1 from (if_neg hsd).symm] at hl
              rw [show (al d ev z k j).2.1 = (al d ev z k (j + 1)).2.1 from (if_neg htk).symm, show aB j (al d ev z k j) = (al d ev z k (j + 1)).2.2.2.1 from (if_neg htk).symm] at hl
              exact loop_1_ih (j + 1) (upd yC ((j) % 8) 0) (upd yT ((j) % 8) (-1)) (by omega) (rC_n hd hI9 hC hsd) (rU_n hd hI9 hU htk) (by omega) _ _ _ (hP.sub [0, 1, 2] rfl) (hD.sub [0, 1, 2] (by decide) rfl) hS (lv_sub hl [0, 5, 6, 2, 3, 7, 8, 9, 10, 11, 12] rfl)
            · skip
              refine lv_iinc (v := (nI ((al d ev z k j).1 + 1))) (lv' := [(6, .int (nI ((al d ev z k j).1 + 1))), (12, .int (nI ((j + d) % 8))), (8, .int (nI (aK j (al d ev z k j)))), (9, .int (nI (aB j (al d ev z k j)))), (11, .int (nI ((j) % 8))), (10, .int (nI j)), (7, .int (nI (al d ev z k j).2.1)), (0, .ref m_), (1, .int (nI d)), (2, .int (nI ev)), (3, .int (nI z)), (4, .int (nI k)), (5, .int (nI nn))]) hx hb dX7_aloneSent_171 hl (k := 5) rfl (nI_1 ((al d ev z k j).1)) (by decide) rfl (fun ls hl => ?_)
              refine lv_aload_n hx hb dX7_aloneSent_174 rfl (lv_at hl 7 rfl) ?_
              refine va_get (D := D) (ci := 7) (v := .ref mac) (C := RX7) (T := TX7) (N := 21) hx hb hts iX7 hown hK hP 0 rfl rfl 19 (by decide) f43 (fun _ h9 => h9) rfl dX7_aloneSent_175 ?_
              refine lv_iload hx hb dX7_aloneSent_178 (lv_at hl 1 rfl) ?_
              refine lv_iconst (v := 1) hx hb dX7_aloneSent_180 (by decide) ?_
              refine va_iast hx hb hK hP hD hS 1 0 rfl rfl (vp_in_nI (show (j + d) % 8 < 8 by omega) (by decide)) dX7_aloneSent_181 (fun H locs hP hD hS => ?_)
              have hP : va_P D vwCl [(m_, .inr (7, [.int th, .ref mt, .int tp, .int pa_, .int wr, .ref mrr, .ref mrh, .ref mrc, .int rh, .int rc, .ref mn, .ref mf, .ref mr, .ref mh, .int hz, .int cz, .ref ma, .ref mas, .ref msn, .ref mac, .ref mat])), (mac, .inl (g 0, 8, .inl (upd (upd yC ((j) % 8) 0) (nI ((j + d) % 8)).toNatClampNeg 1))), (mat, .inl (g 0, 8, .inl (upd yT ((j) % 8) (-1))))] H := hP
              have hD : va_D A [(m_, .inr (7, [.int th, .ref mt, .int tp, .int pa_, .int wr, .ref mrr, .ref mrh, .ref mrc, .int rh, .int rc, .ref mn, .ref mf, .ref mr, .ref mh, .int hz, .int cz, .ref ma, .ref mas, .ref msn, .ref mac, .ref mat])), (mac, .inl (g 0, 8, .inl (upd (upd yC ((j) % 8) 0) (nI ((j + d) % 8)).toNatClampNeg 1))), (mat, .inl (g 0, 8, .inl (upd yT ((j) % 8) (-1))))] := hD
              rw [nI_clamp (show (j + d) % 8 < 2 ^ 31 by omega)] at hP hD
              have hP : va_P D vwCl [(m_, .inr (7, [.int th, .ref mt, .int tp, .int pa_, .int wr, .ref mrr, .ref mrh, .ref mrc, .int rh, .int rc, .ref mn, .ref mf, .ref mr, .ref mh, .int hz, .int cz, .ref ma, .ref mas, .ref msn, .ref mac, .ref mat])), (mac, .inl (g 0, 8, .inl (upd (upd yC ((j) % 8) 0) ((j + d) % 8) 1))), (mat, .inl (g 0, 8, .inl (upd yT ((j) % 8) (-1))))] H := hP
              have hD : va_D A [(m_, .inr (7, [.int th, .ref mt, .int tp, .int pa_, .int wr, .ref mrr, .ref mrh, .ref mrc, .int rh, .int rc, .ref mn, .ref mf, .ref mr, .ref mh, .int hz, .int cz, .ref ma, .ref mas, .ref msn, .ref mac, .ref mat])), (mac, .inl (g 0, 8, .inl (upd (upd yC ((j) % 8) 0) ((j + d) % 8) 1))), (mat, .inl (g 0, 8, .inl (upd yT ((j) % 8) (-1))))] := hD
              refine lv_iinc (v := (nI (j + 1))) (lv' := [(10, .int (nI (j + 1))), (6, .int (nI ((al d ev z k j).1 + 1))), (12, .int (nI ((j + d) % 8))), (8, .int (nI (aK j (al d ev z k j)))), (9, .int (nI (aB j (al d ev z k j)))), (11, .int (nI ((j) % 8))), (7, .int (nI (al d ev z k j).2.1)), (0, .ref m_), (1, .int (nI d)), (2, .int (nI ev)), (3, .int (nI z)), (4, .int (nI k)), (5, .int (nI nn))]) hx hb dX7_aloneSent_182 hl (k := 5) rfl (nI_1 (j)) (by decide) rfl (fun ls hl => ?_)
              refine lv_goto (tgt := 47) hx hb dX7_aloneSent_185 (by decide) ?_
              have htk : ¬ (j % k = 0 ∧ 0 < aB j (al d ev z k j)) := (fun q => cb_11 (by rw [q.1]; rfl))
              have hsd : (al d ev z k j).1 - aK j (al d ev z k j) < z := Nat.not_le.mp (fun q => cb_12 ((nI_leI (by omega) (by omega)).mpr q))
              rw [show (al d ev z k j).1 + 1 = (al d ev z k (j + 1)).1 from (if_pos hsd).symm] at hl
              rw [show (al d ev z k j).2.1 = (al d ev z k (j + 1)).2.1 from (if_neg htk).symm, show aB j (al d ev z k j) = (al d ev z k (j + 1)).2.2.2.1 from (if_neg htk).symm] at hl
              exact loop_1_ih (j + 1) (upd (upd yC ((j) % 8) 0) ((j + d) % 8) 1) (upd yT ((j) % 8) (-1)) (by omega) (rC_y hd0 hd hI9 hC hsd) (rU_n hd hI9 hU htk) (by omega) _ _ _ (hP.sub [0, 1, 2] rfl) (hD.sub [0, 1, 2] (by decide) rfl) hS (lv_sub hl [0, 1, 6, 3, 4, 7, 8, 9, 10, 11, 12] rfl)
          · skip
            refine lv_iload hx hb dX7_aloneSent_131 (lv_at hl 2 rfl) ?_
            refine lv_if_le (tgt := 162) hx hb dX7_aloneSent_133 (by decide) (fun cb_13 => ?_) (fun cb_13 => ?_)
            · skip
              refine lv_iload hx hb dX7_aloneSent_162 (lv_at hl 5 rfl) ?_
              refine lv_iload hx hb dX7_aloneSent_164 (lv_at hl 1 rfl) ?_
              refine lv_isub hx hb dX7_aloneSent_166 ?_
              refine lv_eqi (y := (nI ((al d ev z k j).1 - (aK j (al d ev z k j))))) (pk_sub (show aK j (al d ev z k j) ≤ (al d ev z k j).1 by omega)) ?_
              refine lv_iload_n hx hb dX7_aloneSent_167 rfl (lv_at hl 10 rfl) ?_
              refine lv_icmp_ge (tgt := 182) hx hb dX7_aloneSent_168 (by decide) (fun cb_14 => ?_) (fun cb_14 => ?_)
              · skip
                refine lv_iinc (v := (nI (j + 1))) (lv' := [(10, .int (nI (j + 1))), (12, .int (nI ((j + d) % 8))), (8, .int (nI (aK j (al d ev z k j)))), (9, .int (nI (aB j (al d ev z k j)))), (11, .int (nI ((j) % 8))), (6, .int (nI (al d ev z k j).1)), (7, .int (nI (al d ev z k j).2.1)), (0, .ref m_), (1, .int (nI d)), (2, .int (nI ev)), (3, .int (nI z)), (4, .int (nI k)), (5, .int (nI nn))]) hx hb dX7_aloneSent_182 hl (k := 4) rfl (nI_1 (j)) (by decide) rfl (fun ls hl => ?_)
                refine lv_goto (tgt := 47) hx hb dX7_aloneSent_185 (by decide) ?_
                have htk : ¬ (j % k = 0 ∧ 0 < aB j (al d ev z k j)) := (fun q => absurd cb_13 (nI_nle q.2 (by omega)))
                have hsd : ¬ (al d ev z k j).1 - aK j (al d ev z k j) < z := Nat.not_lt.mpr ((nI_leI (by omega) (by omega)).mp cb_14)
                rw [show (al d ev z k j).1 = (al d ev z k (j + 1)).1 from (if_neg hsd).symm] at hl
                rw [show (al d ev z k j).2.1 = (al d ev z k (j + 1)).2.1 from (if_neg htk).symm, show aB j (al d ev z k j) = (al d ev z k (j + 1)).2.2.2.1 from (if_neg htk).symm] at hl
                exact loop_1_ih (j + 1) (upd yC ((j) % 8) 0) (upd yT ((j) % 8) (-1)) (by omega) (rC_n hd hI9 hC hsd) (rU_n hd hI9 hU htk) (by omega) _ _ _ (hP.sub [0, 1, 2] rfl) (hD.sub [0, 1, 2] (by decide) rfl) hS (lv_sub hl [0, 5, 6, 2, 3, 7, 8, 9, 10, 11, 12] rfl)
              · skip
                refine lv_iinc (v := (nI ((al d ev z k j).1 + 1))) (lv' := [(6, .int (nI ((al d ev z k j).1 + 1))), (12, .int (nI ((j + d) % 8))), (8, .int (nI (aK j (al d ev z k j)))), (9, .int (nI (aB j (al d ev z k j)))), (11, .int (nI ((j) % 8))), (10, .int (nI j)), (7, .int (nI (al d ev z k j).2.1)), (0, .ref m_), (1, .int (nI d)), (2, .int (nI ev)), (3, .int (nI z)), (4, .int (nI k)), (5, .int (nI nn))]) hx hb dX7_aloneSent_171 hl (k := 5) rfl (nI_1 ((al d ev z k j).1)) (by decide) rfl (fun ls hl => ?_)
                refine lv_aload_n hx hb dX7_aloneSent_174 rfl (lv_at hl 7 rfl) ?_
                refine va_get (D := D) (ci := 7) (v := .ref mac) (C := RX7) (T := TX7) (N := 21) hx hb hts iX7 hown hK hP 0 rfl rfl 19 (by decide) f43 (fun _ h9 => h9) rfl dX7_aloneSent_175 ?_
                refine lv_iload hx hb dX7_aloneSent_178 (lv_at hl 1 rfl) ?_
                refine lv_iconst (v := 1) hx hb dX7_aloneSent_180 (by decide) ?_
                refine va_iast hx hb hK hP hD hS 1 0 rfl rfl (vp_in_nI (show (j + d) % 8 < 8 by omega) (by decide)) dX7_aloneSent_181 (fun H locs hP hD hS => ?_)
                have hP : va_P D vwCl [(m_, .inr (7, [.int th, .ref mt, .int tp, .int pa_, .int wr, .ref mrr, .ref mrh, .ref mrc, .int rh, .int rc, .ref mn, .ref mf, .ref mr, .ref mh, .int hz, .int cz, .ref ma, .ref mas, .ref msn, .ref mac, .ref mat])), (mac, .inl (g 0, 8, .inl (upd (upd yC ((j) % 8) 0) (nI ((j + d) % 8)).toNatClampNeg 1))), (mat, .inl (g 0, 8, .inl (upd yT ((j) % 8) (-1))))] H := hP
                have hD : va_D A [(m_, .inr (7, [.int th, .ref mt, .int tp, .int pa_, .int wr, .ref mrr, .ref mrh, .ref mrc, .int rh, .int rc, .ref mn, .ref mf, .ref mr, .ref mh, .int hz, .int cz, .ref ma, .ref mas, .ref msn, .ref mac, .ref mat])), (mac, .inl (g 0, 8, .inl (upd (upd yC ((j) % 8) 0) (nI ((j + d) % 8)).toNatClampNeg 1))), (mat, .inl (g 0, 8, .inl (upd yT ((j) % 8) (-1))))] := hD
                rw [nI_clamp (show (j + d) % 8 < 2 ^ 31 by omega)] at hP hD
                have hP : va_P D vwCl [(m_, .inr (7, [.int th, .ref mt, .int tp, .int pa_, .int wr, .ref mrr, .ref mrh, .ref mrc, .int rh, .int rc, .ref mn, .ref mf, .ref mr, .ref mh, .int hz, .int cz, .ref ma, .ref mas, .ref msn, .ref mac, .ref mat])), (mac, .inl (g 0, 8, .inl (upd (upd yC ((j) % 8) 0) ((j + d) % 8) 1))), (mat, .inl (g 0, 8, .inl (upd yT ((j) % 8) (-1))))] H := hP
                have hD : va_D A [(m_, .inr (7, [.int th, .ref mt, .int tp, .int pa_, .int wr, .ref mrr, .ref mrh, .ref mrc, .int rh, .int rc, .ref mn, .ref mf, .ref mr, .ref mh, .int hz, .int cz, .ref ma, .ref mas, .ref msn, .ref mac, .ref mat])), (mac, .inl (g 0, 8, .inl (upd (upd yC ((j) % 8) 0) ((j + d) % 8) 1))), (mat, .inl (g 0, 8, .inl (upd yT ((j) % 8) (-1))))] := hD
                refine lv_iinc (v := (nI (j + 1))) (lv' := [(10, .int (nI (j + 1))), (6, .int (nI ((al d ev z k j).1 + 1))), (12, .int (nI ((j + d) % 8))), (8, .int (nI (aK j (al d ev z k j)))), (9, .int (nI (aB j (al d ev z k j)))), (11, .int (nI ((j) % 8))), (7, .int (nI (al d ev z k j).2.1)), (0, .ref m_), (1, .int (nI d)), (2, .int (nI ev)), (3, .int (nI z)), (4, .int (nI k)), (5, .int (nI nn))]) hx hb dX7_aloneSent_182 hl (k := 5) rfl (nI_1 (j)) (by decide) rfl (fun ls hl => ?_)
                refine lv_goto (tgt := 47) hx hb dX7_aloneSent_185 (by decide) ?_
                have htk : ¬ (j % k = 0 ∧ 0 < aB j (al d ev z k j)) := (fun q => absurd cb_13 (nI_nle q.2 (by omega)))
                have hsd : (al d ev z k j).1 - aK j (al d ev z k j) < z := Nat.not_le.mp (fun q => cb_14 ((nI_leI (by omega) (by omega)).mpr q))
                rw [show (al d ev z k j).1 + 1 = (al d ev z k (j + 1)).1 from (if_pos hsd).symm] at hl
                rw [show (al d ev z k j).2.1 = (al d ev z k (j + 1)).2.1 from (if_neg htk).symm, show aB j (al d ev z k j) = (al d ev z k (j + 1)).2.2.2.1 from (if_neg htk).symm] at hl
                exact loop_1_ih (j + 1) (upd (upd yC ((j) % 8) 0) ((j + d) % 8) 1) (upd yT ((j) % 8) (-1)) (by omega) (rC_y hd0 hd hI9 hC hsd) (rU_n hd hI9 hU htk) (by omega) _ _ _ (hP.sub [0, 1, 2] rfl) (hD.sub [0, 1, 2] (by decide) rfl) hS (lv_sub hl [0, 1, 6, 3, 4, 7, 8, 9, 10, 11, 12] rfl)
            · skip
              refine lv_iinc (v := (nI (aB j (al d ev z k j) - 1))) (lv' := [(9, .int (nI (aB j (al d ev z k j) - 1))), (12, .int (nI ((j + d) % 8))), (8, .int (nI (aK j (al d ev z k j)))), (11, .int (nI ((j) % 8))), (10, .int (nI j)), (6, .int (nI (al d ev z k j).1)), (7, .int (nI (al d ev z k j).2.1)), (0, .ref m_), (1, .int (nI d)), (2, .int (nI ev)), (3, .int (nI z)), (4, .int (nI k)), (5, .int (nI nn))]) hx hb dX7_aloneSent_136 hl (k := 2) rfl (pk_m1x (cb_13)) (by decide) rfl (fun ls hl => ?_)
              refine lv_iinc (v := (nI ((al d ev z k j).2.1 + 1))) (lv' := [(7, .int (nI ((al d ev z k j).2.1 + 1))), (9, .int (nI (aB j (al d ev z k j) - 1))), (12, .int (nI ((j + d) % 8))), (8, .int (nI (aK j (al d ev z k j)))), (11, .int (nI ((j) % 8))), (10, .int (nI j)), (6, .int (nI (al d ev z k j).1)), (0, .ref m_), (1, .int (nI d)), (2, .int (nI ev)), (3, .int (nI z)), (4, .int (nI k)), (5, .int (nI nn))]) hx hb dX7_aloneSent_139 hl (k := 6) rfl (nI_1 ((al d ev z k j).2.1)) (by decide) rfl (fun ls hl => ?_)
              refine lv_aload_n hx hb dX7_aloneSent_142 rfl (lv_at hl 7 rfl) ?_
              refine va_get (D := D) (ci := 7) (v := .ref mat) (C := RX7) (T := TX7) (N := 21) hx hb hts iX7 hown hK hP 0 rfl rfl 20 (by decide) f46 (fun _ h9 => h9) rfl dX7_aloneSent_143 ?_
              refine lv_iload hx hb dX7_aloneSent_146 (lv_at hl 2 rfl) ?_
              refine lv_iload hx hb dX7_aloneSent_148 (lv_at hl 0 rfl) ?_
              refine lv_iload_n hx hb dX7_aloneSent_150 rfl (lv_at hl 9 rfl) ?_
              refine lv_irem hx hb dX7_aloneSent_151 (nI_ne0 (show 0 < ev by omega) (show ev < 2 ^ 31 by omega)) ?_
              refine lv_eqi (y := (nI (((al d ev z k j).2.1 + 1) % ev))) (pk_rem (show (al d ev z k j).2.1 + 1 < 2 ^ 31 by omega) (show 0 < ev by omega) (show ev < 2 ^ 31 by omega)) ?_
              refine lv_if_ne (tgt := 160) hx hb dX7_aloneSent_152 (by decide) (fun cb_15 => ?_) (fun cb_15 => ?_)
              · skip
                refine lv_iconst (v := (-1)) hx hb dX7_aloneSent_160 (by decide) ?_
                refine va_iast hx hb hK hP hD hS 2 0 rfl rfl (vp_in_nI (show (j + d) % 8 < 8 by omega) (by decide)) dX7_aloneSent_161 (fun H locs hP hD hS => ?_)
                have hP : va_P D vwCl [(m_, .inr (7, [.int th, .ref mt, .int tp, .int pa_, .int wr, .ref mrr, .ref mrh, .ref mrc, .int rh, .int rc, .ref mn, .ref mf, .ref mr, .ref mh, .int hz, .int cz, .ref ma, .ref mas, .ref msn, .ref mac, .ref mat])), (mac, .inl (g 0, 8, .inl (upd yC ((j) % 8) 0))), (mat, .inl (g 0, 8, .inl (upd (upd yT ((j) % 8) (-1)) (nI ((j + d) % 8)).toNatClampNeg (-1))))] H := hP
                have hD : va_D A [(m_, .inr (7, [.int th, .ref mt, .int tp, .int pa_, .int wr, .ref mrr, .ref mrh, .ref mrc, .int rh, .int rc, .ref mn, .ref mf, .ref mr, .ref mh, .int hz, .int cz, .ref ma, .ref mas, .ref msn, .ref mac, .ref mat])), (mac, .inl (g 0, 8, .inl (upd yC ((j) % 8) 0))), (mat, .inl (g 0, 8, .inl (upd (upd yT ((j) % 8) (-1)) (nI ((j + d) % 8)).toNatClampNeg (-1))))] := hD
                rw [nI_clamp (show (j + d) % 8 < 2 ^ 31 by omega)] at hP hD
                have hP : va_P D vwCl [(m_, .inr (7, [.int th, .ref mt, .int tp, .int pa_, .int wr, .ref mrr, .ref mrh, .ref mrc, .int rh, .int rc, .ref mn, .ref mf, .ref mr, .ref mh, .int hz, .int cz, .ref ma, .ref mas, .ref msn, .ref mac, .ref mat])), (mac, .inl (g 0, 8, .inl (upd yC ((j) % 8) 0))), (mat, .inl (g 0, 8, .inl (upd (upd yT ((j) % 8) (-1)) ((j + d) % 8) (-1))))] H := hP
                have hD : va_D A [(m_, .inr (7, [.int th, .ref mt, .int tp, .int pa_, .int wr, .ref mrr, .ref mrh, .ref mrc, .int rh, .int rc, .ref mn, .ref mf, .ref mr, .ref mh, .int hz, .int cz, .ref ma, .ref mas, .ref msn, .ref mac, .ref mat])), (mac, .inl (g 0, 8, .inl (upd yC ((j) % 8) 0))), (mat, .inl (g 0, 8, .inl (upd (upd yT ((j) % 8) (-1)) ((j + d) % 8) (-1))))] := hD
                refine lv_iload hx hb dX7_aloneSent_162 (lv_at hl 6 rfl) ?_
                refine lv_iload hx hb dX7_aloneSent_164 (lv_at hl 3 rfl) ?_
                refine lv_isub hx hb dX7_aloneSent_166 ?_
                refine lv_eqi (y := (nI ((al d ev z k j).1 - (aK j (al d ev z k j))))) (pk_sub (show aK j (al d ev z k j) ≤ (al d ev z k j).1 by omega)) ?_
                refine lv_iload_n hx hb dX7_aloneSent_167 rfl (lv_at hl 10 rfl) ?_
                refine lv_icmp_ge (tgt := 182) hx hb dX7_aloneSent_168 (by decide) (fun cb_16 => ?_) (fun cb_16 => ?_)
                · skip
                  refine lv_iinc (v := (nI (j + 1))) (lv' := [(10, .int (nI (j + 1))), (7, .int (nI ((al d ev z k j).2.1 + 1))), (9, .int (nI (aB j (al d ev z k j) - 1))), (12, .int (nI ((j + d) % 8))), (8, .int (nI (aK j (al d ev z k j)))), (11, .int (nI ((j) % 8))), (6, .int (nI (al d ev z k j).1)), (0, .ref m_), (1, .int (nI d)), (2, .int (nI ev)), (3, .int (nI z)), (4, .int (nI k)), (5, .int (nI nn))]) hx hb dX7_aloneSent_182 hl (k := 5) rfl (nI_1 (j)) (by decide) rfl (fun ls hl => ?_)
                  refine lv_goto (tgt := 47) hx hb dX7_aloneSent_185 (by decide) ?_
                  have htk : (j % k = 0 ∧ 0 < aB j (al d ev z k j)) := ⟨((nI_eq (by omega) (by decide)).mp (cb_11.trans nI_0.symm)), Nat.pos_of_ne_zero (fun q => cb_13 (by rw [q]; decide))⟩
                  have hsd : ¬ (al d ev z k j).1 - aK j (al d ev z k j) < z := Nat.not_lt.mpr ((nI_leI (by omega) (by omega)).mp cb_16)
                  rw [show (al d ev z k j).1 = (al d ev z k (j + 1)).1 from (if_neg hsd).symm] at hl
                  rw [show (al d ev z k j).2.1 + 1 = (al d ev z k (j + 1)).2.1 from (if_pos htk).symm, show aB j (al d ev z k j) - 1 = (al d ev z k (j + 1)).2.2.2.1 from (if_pos htk).symm] at hl
                  exact loop_1_ih (j + 1) (upd yC ((j) % 8) 0) (upd (upd yT ((j) % 8) (-1)) ((j + d) % 8) (-1)) (by omega) (rC_n hd hI9 hC hsd) (rU_x hd0 hd hI9 hU htk (fun q => cb_15 (by rw [q]; rfl))) (by omega) _ _ _ (hP.sub [0, 1, 2] rfl) (hD.sub [0, 1, 2] (by decide) rfl) hS (lv_sub hl [0, 6, 1, 4, 2, 7, 8, 9, 10, 11, 12] rfl)
                · skip
                  refine lv_iinc (v := (nI ((al d ev z k j).1 + 1))) (lv' := [(6, .int (nI ((al d ev z k j).1 + 1))), (7, .int (nI ((al d ev z k j).2.1 + 1))), (9, .int (nI (aB j (al d ev z k j) - 1))), (12, .int (nI ((j + d) % 8))), (8, .int (nI (aK j (al d ev z k j)))), (11, .int (nI ((j) % 8))), (10, .int (nI j)), (0, .ref m_), (1, .int (nI d)), (2, .int (nI ev)), (3, .int (nI z)), (4, .int (nI k)), (5, .int (nI nn))]) hx hb dX7_aloneSent_171 hl (k := 6) rfl (nI_1 ((al d ev z k j).1)) (by decide) rfl (fun ls hl => ?_)
                  refine lv_aload_n hx hb dX7_aloneSent_174 rfl (lv_at hl 7 rfl) ?_
                  refine va_get (D := D) (ci := 7) (v := .ref mac) (C := RX7) (T := TX7) (N := 21) hx hb hts iX7 hown hK hP 0 rfl rfl 19 (by decide) f43 (fun _ h9 => h9) rfl dX7_aloneSent_175 ?_
                  refine lv_iload hx hb dX7_aloneSent_178 (lv_at hl 3 rfl) ?_
                  refine lv_iconst (v := 1) hx hb dX7_aloneSent_180 (by decide) ?_
                  refine va_iast hx hb hK hP hD hS 1 0 rfl rfl (vp_in_nI (show (j + d) % 8 < 8 by omega) (by decide)) dX7_aloneSent_181 (fun H locs hP hD hS => ?_)
                  have hP : va_P D vwCl [(m_, .inr (7, [.int th, .ref mt, .int tp, .int pa_, .int wr, .ref mrr, .ref mrh, .ref mrc, .int rh, .int rc, .ref mn, .ref mf, .ref mr, .ref mh, .int hz, .int cz, .ref ma, .ref mas, .ref msn, .ref mac, .ref mat])), (mac, .inl (g 0, 8, .inl (upd (upd yC ((j) % 8) 0) (nI ((j + d) % 8)).toNatClampNeg 1))), (mat, .inl (g 0, 8, .inl (upd (upd yT ((j) % 8) (-1)) ((j + d) % 8) (-1))))] H := hP
                  have hD : va_D A [(m_, .inr (7, [.int th, .ref mt, .int tp, .int pa_, .int wr, .ref mrr, .ref mrh, .ref mrc, .int rh, .int rc, .ref mn, .ref mf, .ref mr, .ref mh, .int hz, .int cz, .ref ma, .ref mas, .ref msn, .ref mac, .ref mat])), (mac, .inl (g 0, 8, .inl (upd (upd yC ((j) % 8) 0) (nI ((j + d) % 8)).toNatClampNeg 1))), (mat, .inl (g 0, 8, .inl (upd (upd yT ((j) % 8) (-1)) ((j + d) % 8) (-1))))] := hD
                  rw [nI_clamp (show (j + d) % 8 < 2 ^ 31 by omega)] at hP hD
                  have hP : va_P D vwCl [(m_, .inr (7, [.int th, .ref mt, .int tp, .int pa_, .int wr, .ref mrr, .ref mrh, .ref mrc, .int rh, .int rc, .ref mn, .ref mf, .ref mr, .ref mh, .int hz, .int cz, .ref ma, .ref mas, .ref msn, .ref mac, .ref mat])), (mac, .inl (g 0, 8, .inl (upd (upd yC ((j) % 8) 0) ((j + d) % 8) 1))), (mat, .inl (g 0, 8, .inl (upd (upd yT ((j) % 8) (-1)) ((j + d) % 8) (-1))))] H := hP
                  have hD : va_D A [(m_, .inr (7, [.int th, .ref mt, .int tp, .int pa_, .int wr, .ref mrr, .ref mrh, .ref mrc, .int rh, .int rc, .ref mn, .ref mf, .ref mr, .ref mh, .int hz, .int cz, .ref ma, .ref mas, .ref msn, .ref mac, .ref mat])), (mac, .inl (g 0, 8, .inl (upd (upd yC ((j) % 8) 0) ((j + d) % 8) 1))), (mat, .inl (g 0, 8, .inl (upd (upd yT ((j) % 8) (-1)) ((j + d) % 8) (-1))))] := hD
                  refine lv_iinc (v := (nI (j + 1))) (lv' := [(10, .int (nI (j + 1))), (6, .int (nI ((al d ev z k j).1 + 1))), (7, .int (nI ((al d ev z k j).2.1 + 1))), (9, .int (nI (aB j (al d ev z k j) - 1))), (12, .int (nI ((j + d) % 8))), (8, .int (nI (aK j (al d ev z k j)))), (11, .int (nI ((j) % 8))), (0, .ref m_), (1, .int (nI d)), (2, .int (nI ev)), (3, .int (nI z)), (4, .int (nI k)), (5, .int (nI nn))]) hx hb dX7_aloneSent_182 hl (k := 6) rfl (nI_1 (j)) (by decide) rfl (fun ls hl => ?_)
                  refine lv_goto (tgt := 47) hx hb dX7_aloneSent_185 (by decide) ?_
                  have htk : (j % k = 0 ∧ 0 < aB j (al d ev z k j)) := ⟨((nI_eq (by omega) (by decide)).mp (cb_11.trans nI_0.symm)), Nat.pos_of_ne_zero (fun q => cb_13 (by rw [q]; decide))⟩
                  have hsd : (al d ev z k j).1 - aK j (al d ev z k j) < z := Nat.not_le.mp (fun q => cb_16 ((nI_leI (by omega) (by omega)).mpr q))
                  rw [show (al d ev z k j).1 + 1 = (al d ev z k (j + 1)).1 from (if_pos hsd).symm] at hl
                  rw [show (al d ev z k j).2.1 + 1 = (al d ev z k (j + 1)).2.1 from (if_pos htk).symm, show aB j (al d ev z k j) - 1 = (al d ev z k (j + 1)).2.2.2.1 from (if_pos htk).symm] at hl
                  exact loop_1_ih (j + 1) (upd (upd yC ((j) % 8) 0) ((j + d) % 8) 1) (upd (upd yT ((j) % 8) (-1)) ((j + d) % 8) (-1)) (by omega) (rC_y hd0 hd hI9 hC hsd) (rU_x hd0 hd hI9 hU htk (fun q => cb_15 (by rw [q]; rfl))) (by omega) _ _ _ (hP.sub [0, 1, 2] rfl) (hD.sub [0, 1, 2] (by decide) rfl) hS (lv_sub hl [0, 1, 2, 5, 3, 7, 8, 9, 10, 11, 12] rfl)
              · skip
                refine lv_iload hx hb dX7_aloneSent_155 (lv_at hl 0 rfl) ?_
                refine lv_goto (tgt := 161) hx hb dX7_aloneSent_157 (by decide) ?_
                refine va_iast hx hb hK hP hD hS 2 0 rfl rfl (vp_in_nI (show (j + d) % 8 < 8 by omega) (by decide)) dX7_aloneSent_161 (fun H locs hP hD hS => ?_)
                have hP : va_P D vwCl [(m_, .inr (7, [.int th, .ref mt, .int tp, .int pa_, .int wr, .ref mrr, .ref mrh, .ref mrc, .int rh, .int rc, .ref mn, .ref mf, .ref mr, .ref mh, .int hz, .int cz, .ref ma, .ref mas, .ref msn, .ref mac, .ref mat])), (mac, .inl (g 0, 8, .inl (upd yC ((j) % 8) 0))), (mat, .inl (g 0, 8, .inl (upd (upd yT ((j) % 8) (-1)) (nI ((j + d) % 8)).toNatClampNeg (nI ((al d ev z k j).2.1 + 1)))))] H := hP
                have hD : va_D A [(m_, .inr (7, [.int th, .ref mt, .int tp, .int pa_, .int wr, .ref mrr, .ref mrh, .ref mrc, .int rh, .int rc, .ref mn, .ref mf, .ref mr, .ref mh, .int hz, .int cz, .ref ma, .ref mas, .ref msn, .ref mac, .ref mat])), (mac, .inl (g 0, 8, .inl (upd yC ((j) % 8) 0))), (mat, .inl (g 0, 8, .inl (upd (upd yT ((j) % 8) (-1)) (nI ((j + d) % 8)).toNatClampNeg (nI ((al d ev z k j).2.1 + 1)))))] := hD
                rw [nI_clamp (show (j + d) % 8 < 2 ^ 31 by omega)] at hP hD
                have hP : va_P D vwCl [(m_, .inr (7, [.int th, .ref mt, .int tp, .int pa_, .int wr, .ref mrr, .ref mrh, .ref mrc, .int rh, .int rc, .ref mn, .ref mf, .ref mr, .ref mh, .int hz, .int cz, .ref ma, .ref mas, .ref msn, .ref mac, .ref mat])), (mac, .inl (g 0, 8, .inl (upd yC ((j) % 8) 0))), (mat, .inl (g 0, 8, .inl (upd (upd yT ((j) % 8) (-1)) ((j + d) % 8) (nI ((al d ev z k j).2.1 + 1)))))] H := hP
                have hD : va_D A [(m_, .inr (7, [.int th, .ref mt, .int tp, .int pa_, .int wr, .ref mrr, .ref mrh, .ref mrc, .int rh, .int rc, .ref mn, .ref mf, .ref mr, .ref mh, .int hz, .int cz, .ref ma, .ref mas, .ref msn, .ref mac, .ref mat])), (mac, .inl (g 0, 8, .inl (upd yC ((j) % 8) 0))), (mat, .inl (g 0, 8, .inl (upd (upd yT ((j) % 8) (-1)) ((j + d) % 8) (nI ((al d ev z k j).2.1 + 1)))))] := hD
                refine lv_iload hx hb dX7_aloneSent_162 (lv_at hl 6 rfl) ?_
                refine lv_iload hx hb dX7_aloneSent_164 (lv_at hl 3 rfl) ?_
                refine lv_isub hx hb dX7_aloneSent_166 ?_
                refine lv_eqi (y := (nI ((al d ev z k j).1 - (aK j (al d ev z k j))))) (pk_sub (show aK j (al d ev z k j) ≤ (al d ev z k j).1 by omega)) ?_
                refine lv_iload_n hx hb dX7_aloneSent_167 rfl (lv_at hl 10 rfl) ?_
                refine lv_icmp_ge (tgt := 182) hx hb dX7_aloneSent_168 (by decide) (fun cb_17 => ?_) (fun cb_17 => ?_)
                · skip
                  refine lv_iinc (v := (nI (j + 1))) (lv' := [(10, .int (nI (j + 1))), (7, .int (nI ((al d ev z k j).2.1 + 1))), (9, .int (nI (aB j (al d ev z k j) - 1))), (12, .int (nI ((j + d) % 8))), (8, .int (nI (aK j (al d ev z k j)))), (11, .int (nI ((j) % 8))), (6, .int (nI (al d ev z k j).1)), (0, .ref m_), (1, .int (nI d)), (2, .int (nI ev)), (3, .int (nI z)), (4, .int (nI k)), (5, .int (nI nn))]) hx hb dX7_aloneSent_182 hl (k := 5) rfl (nI_1 (j)) (by decide) rfl (fun ls hl => ?_)
                  refine lv_goto (tgt := 47) hx hb dX7_aloneSent_185 (by decide) ?_
                  have htk : (j % k = 0 ∧ 0 < aB j (al d ev z k j)) := ⟨((nI_eq (by omega) (by decide)).mp (cb_11.trans nI_0.symm)), Nat.pos_of_ne_zero (fun q => cb_13 (by rw [q]; decide))⟩
                  have hsd : ¬ (al d ev z k j).1 - aK j (al d ev z k j) < z := Nat.not_lt.mpr ((nI_leI (by omega) (by omega)).mp cb_17)
                  rw [show (al d ev z k j).1 = (al d ev z k (j + 1)).1 from (if_neg hsd).symm] at hl
                  rw [show (al d ev z k j).2.1 + 1 = (al d ev z k (j + 1)).2.1 from (if_pos htk).symm, show aB j (al d ev z k j) - 1 = (al d ev z k (j + 1)).2.2.2.1 from (if_pos htk).symm] at hl
                  exact loop_1_ih (j + 1) (upd yC ((j) % 8) 0) (upd (upd yT ((j) % 8) (-1)) ((j + d) % 8) (nI ((al d ev z k j).2.1 + 1))) (by omega) (rC_n hd hI9 hC hsd) (rU_y hd0 hd hI9 hU htk ((nI_eq (by omega) (by decide)).mp (cb_15.trans nI_0.symm))) (by omega) _ _ _ (hP.sub [0, 1, 2] rfl) (hD.sub [0, 1, 2] (by decide) rfl) hS (lv_sub hl [0, 6, 1, 4, 2, 7, 8, 9, 10, 11, 12] rfl)
                · skip
                  refine lv_iinc (v := (nI ((al d ev z k j).1 + 1))) (lv' := [(6, .int (nI ((al d ev z k j).1 + 1))), (7, .int (nI ((al d ev z k j).2.1 + 1))), (9, .int (nI (aB j (al d ev z k j) - 1))), (12, .int (nI ((j + d) % 8))), (8, .int (nI (aK j (al d ev z k j)))), (11, .int (nI ((j) % 8))), (10, .int (nI j)), (0, .ref m_), (1, .int (nI d)), (2, .int (nI ev)), (3, .int (nI z)), (4, .int (nI k)), (5, .int (nI nn))]) hx hb dX7_aloneSent_171 hl (k := 6) rfl (nI_1 ((al d ev z k j).1)) (by decide) rfl (fun ls hl => ?_)
                  refine lv_aload_n hx hb dX7_aloneSent_174 rfl (lv_at hl 7 rfl) ?_
                  refine va_get (D := D) (ci := 7) (v := .ref mac) (C := RX7) (T := TX7) (N := 21) hx hb hts iX7 hown hK hP 0 rfl rfl 19 (by decide) f43 (fun _ h9 => h9) rfl dX7_aloneSent_175 ?_
                  refine lv_iload hx hb dX7_aloneSent_178 (lv_at hl 3 rfl) ?_
                  refine lv_iconst (v := 1) hx hb dX7_aloneSent_180 (by decide) ?_
                  refine va_iast hx hb hK hP hD hS 1 0 rfl rfl (vp_in_nI (show (j + d) % 8 < 8 by omega) (by decide)) dX7_aloneSent_181 (fun H locs hP hD hS => ?_)
                  have hP : va_P D vwCl [(m_, .inr (7, [.int th, .ref mt, .int tp, .int pa_, .int wr, .ref mrr, .ref mrh, .ref mrc, .int rh, .int rc, .ref mn, .ref mf, .ref mr, .ref mh, .int hz, .int cz, .ref ma, .ref mas, .ref msn, .ref mac, .ref mat])), (mac, .inl (g 0, 8, .inl (upd (upd yC ((j) % 8) 0) (nI ((j + d) % 8)).toNatClampNeg 1))), (mat, .inl (g 0, 8, .inl (upd (upd yT ((j) % 8) (-1)) ((j + d) % 8) (nI ((al d ev z k j).2.1 + 1)))))] H := hP
                  have hD : va_D A [(m_, .inr (7, [.int th, .ref mt, .int tp, .int pa_, .int wr, .ref mrr, .ref mrh, .ref mrc, .int rh, .int rc, .ref mn, .ref mf, .ref mr, .ref mh, .int hz, .int cz, .ref ma, .ref mas, .ref msn, .ref mac, .ref mat])), (mac, .inl (g 0, 8, .inl (upd (upd yC ((j) % 8) 0) (nI ((j + d) % 8)).toNatClampNeg 1))), (mat, .inl (g 0, 8, .inl (upd (upd yT ((j) % 8) (-1)) ((j + d) % 8) (nI ((al d ev z k j).2.1 + 1)))))] := hD
                  rw [nI_clamp (show (j + d) % 8 < 2 ^ 31 by omega)] at hP hD
                  have hP : va_P D vwCl [(m_, .inr (7, [.int th, .ref mt, .int tp, .int pa_, .int wr, .ref mrr, .ref mrh, .ref mrc, .int rh, .int rc, .ref mn, .ref mf, .ref mr, .ref mh, .int hz, .int cz, .ref ma, .ref mas, .ref msn, .ref mac, .ref mat])), (mac, .inl (g 0, 8, .inl (upd (upd yC ((j) % 8) 0) ((j + d) % 8) 1))), (mat, .inl (g 0, 8, .inl (upd (upd yT ((j) % 8) (-1)) ((j + d) % 8) (nI ((al d ev z k j).2.1 + 1)))))] H := hP
                  have hD : va_D A [(m_, .inr (7, [.int th, .ref mt, .int tp, .int pa_, .int wr, .ref mrr, .ref mrh, .ref mrc, .int rh, .int rc, .ref mn, .ref mf, .ref mr, .ref mh, .int hz, .int cz, .ref ma, .ref mas, .ref msn, .ref mac, .ref mat])), (mac, .inl (g 0, 8, .inl (upd (upd yC ((j) % 8) 0) ((j + d) % 8) 1))), (mat, .inl (g 0, 8, .inl (upd (upd yT ((j) % 8) (-1)) ((j + d) % 8) (nI ((al d ev z k j).2.1 + 1)))))] := hD
                  refine lv_iinc (v := (nI (j + 1))) (lv' := [(10, .int (nI (j + 1))), (6, .int (nI ((al d ev z k j).1 + 1))), (7, .int (nI ((al d ev z k j).2.1 + 1))), (9, .int (nI (aB j (al d ev z k j) - 1))), (12, .int (nI ((j + d) % 8))), (8, .int (nI (aK j (al d ev z k j)))), (11, .int (nI ((j) % 8))), (0, .ref m_), (1, .int (nI d)), (2, .int (nI ev)), (3, .int (nI z)), (4, .int (nI k)), (5, .int (nI nn))]) hx hb dX7_aloneSent_182 hl (k := 6) rfl (nI_1 (j)) (by decide) rfl (fun ls hl => ?_)
                  refine lv_goto (tgt := 47) hx hb dX7_aloneSent_185 (by decide) ?_
                  have htk : (j % k = 0 ∧ 0 < aB j (al d ev z k j)) := ⟨((nI_eq (by omega) (by decide)).mp (cb_11.trans nI_0.symm)), Nat.pos_of_ne_zero (fun q => cb_13 (by rw [q]; decide))⟩
                  have hsd : (al d ev z k j).1 - aK j (al d ev z k j) < z := Nat.not_le.mp (fun q => cb_17 ((nI_leI (by omega) (by omega)).mpr q))
                  rw [show (al d ev z k j).1 + 1 = (al d ev z k (j + 1)).1 from (if_pos hsd).symm] at hl
                  rw [show (al d ev z k j).2.1 + 1 = (al d ev z k (j + 1)).2.1 from (if_pos htk).symm, show aB j (al d ev z k j) - 1 = (al d ev z k (j + 1)).2.2.2.1 from (if_pos htk).symm] at hl
                  exact loop_1_ih (j + 1) (upd (upd yC ((j) % 8) 0) ((j + d) % 8) 1) (upd (upd yT ((j) % 8) (-1)) ((j + d) % 8) (nI ((al d ev z k j).2.1 + 1))) (by omega) (rC_y hd0 hd hI9 hC hsd) (rU_y hd0 hd hI9 hU htk ((nI_eq (by omega) (by decide)).mp (cb_15.trans nI_0.symm))) (by omega) _ _ _ (hP.sub [0, 1, 2] rfl) (hD.sub [0, 1, 2] (by decide) rfl) hS (lv_sub hl [0, 1, 2, 5, 3, 7, 8, 9, 10, 11, 12] rfl)
  exact loop_1 _ 0 (upd (upd (upd (upd (upd (upd (upd (upd fA 0 0) 1 0) 2 0) 3 0) 4 0) 5 0) 6 0) 7 0) (upd (upd (upd (upd (upd (upd (upd (upd fB 0 (-1)) 1 (-1)) 2 (-1)) 3 (-1)) 4 (-1)) 5 (-1)) 6 (-1)) 7 (-1)) (Nat.zero_le _) (rC_0 (fun j hj => by rcases (show j = 0 ∨ j = 1 ∨ j = 2 ∨ j = 3 ∨ j = 4 ∨ j = 5 ∨ j = 6 ∨ j = 7 by omega) with rfl | rfl | rfl | rfl | rfl | rfl | rfl | rfl <;> rfl)) (rU_0 (fun j hj => by rcases (show j = 0 ∨ j = 1 ∨ j = 2 ∨ j = 3 ∨ j = 4 ∨ j = 5 ∨ j = 6 ∨ j = 7 by omega) with rfl | rfl | rfl | rfl | rfl | rfl | rfl | rfl <;> rfl)) (Nat.lt_succ_self _) _ _ _ (hP.sub [0, 1, 2] rfl) (hD.sub [0, 1, 2] (by decide) rfl) hS (lv_sub hl [0, 4, 3, 2, 1, 5, 6, 7, 8, 9, 10] rfl)

set_option maxHeartbeats 4000000 in
set_option maxRecDepth 100000 in
theorem c_X7_alone (l : Launch) (D : va_G) (g : Nat → ClassId) (sz : Nat) (m_ : Nat) (th : Int32) (mt : Nat) (tp : Int32) (pa_ : Int32) (wr : Int32) (mrr : Nat) (mrh : Nat) (mrc : Nat) (rh : Int32) (rc : Int32) (mn : Nat) (mf : Nat) (mr : Nat) (mh : Nat) (hz : Int32) (cz : Int32) (ma : Nat) (mas : Nat) (msn : Nat) (mac : Nat) (mat : Nat) (fA : Nat → Int32) (fB : Nat → Int32) (p0 : Int32) (p1 : Int32) (p2 : Int32) (p3 : Int32) (p4 : Int32) : Met l yX7_alone wsX7_alone ({ frames := 3, cells := 0, slots := 0, locals := 66 }) (va_Pc [.ref m_, .int p0, .int p1, .int p2, .int p3, .int p4] (pre D g sz [(m_, .inr (7, [.int th, .ref mt, .int tp, .int pa_, .int wr, .ref mrr, .ref mrh, .ref mrc, .int rh, .int rc, .ref mn, .ref mf, .ref mr, .ref mh, .int hz, .int cz, .ref ma, .ref mas, .ref msn, .ref mac, .ref mat])), (mac, .inl (g 0, 8, .inl fA)), (mat, .inl (g 0, 8, .inl fB))])) (va_Qi (fun (r : Int32) (u : va_W) => ∃ (fA2 : Nat → Int32) (fB2 : Nat → Int32) (r9 : Int32), u = [(m_, .inr (7, [.int 0, .ref mt, .int tp, .int pa_, .int wr, .ref mrr, .ref mrh, .ref mrc, .int rh, .int rc, .ref mn, .ref mf, .ref mr, .ref mh, .int hz, .int cz, .ref ma, .ref mas, .ref msn, .ref mac, .ref mat])), (mac, .inl (g 0, 8, .inl fA2)), (mat, .inl (g 0, 8, .inl fB2))] ∧ r = r9 ∧ (alP p0 p1 p2 p3 p4 r9)) (wd D (va_A [(m_, .inr (7, [.int th, .ref mt, .int tp, .int pa_, .int wr, .ref mrr, .ref mrh, .ref mrc, .int rh, .int rc, .ref mn, .ref mf, .ref mr, .ref mh, .int hz, .int cz, .ref ma, .ref mas, .ref msn, .ref mac, .ref mat])), (mac, .inl (g 0, 8, .inl fA)), (mat, .inl (g 0, 8, .inl fB))] sz)) (va_A [(m_, .inr (7, [.int th, .ref mt, .int tp, .int pa_, .int wr, .ref mrr, .ref mrh, .ref mrc, .int rh, .int rc, .ref mn, .ref mf, .ref mr, .ref mh, .int hz, .int cz, .ref ma, .ref mas, .ref msn, .ref mac, .ref mat])), (mac, .inl (g 0, 8, .inl fA)), (mat, .inl (g 0, 8, .inl fB))] sz)) 0 0 (va_A [(m_, .inr (7, [.int th, .ref mt, .int tp, .int pa_, .int wr, .ref mrr, .ref mrh, .ref mrc, .int rh, .int rc, .ref mn, .ref mf, .ref mr, .ref mh, .int hz, .int cz, .ref ma, .ref mas, .ref msn, .ref mac, .ref mat])), (mac, .inl (g 0, 8, .inl fA)), (mat, .inl (g 0, 8, .inl fB))] sz) := by
  refine Met.ofW (cc := cX7_alone) (maxL := 6) (ret := (some .int)) (by decide) rfl ?_
  intro p e s m args below meth c s₁ B hml hv
  obtain ⟨rfl, hsz, hP, ⟨hK, hN⟩, hD0, hZ⟩ := hv
  have hx := B.exec
  have hb := B.bytes
  have hr := B.returns
  have hts := atoms_spec (ws := wsX7_alone) B.pre
  have hown : s.vm.findClass RX7 = some m.cls := findClass_of_methodNamed B.named
  have hlocks := B.notSynchronized
  clear B
  subst hsz
  have hD := hD0.self (sz := s.heap.size)
  clear hD0
  generalize hAe : va_A [(m_, .inr (7, [.int th, .ref mt, .int tp, .int pa_, .int wr, .ref mrr, .ref mrh, .ref mrc, .int rh, .int rc, .ref mn, .ref mf, .ref mr, .ref mh, .int hz, .int cz, .ref ma, .ref mas, .ref msn, .ref mac, .ref mat])), (mac, .inl (g 0, 8, .inl fA)), (mat, .inl (g 0, 8, .inl fB))] s.heap.size = A at hD hZ ⊢
  have hA : ∀ q : Nat, s.heap.size ≤ q → A q := fun q h => by rw [← hAe]; exact Or.inr h
  have hS : va_S A s.heap s.heap [] := va_S.rf
  have f49 := hts (.fieldLink RX7 49 "HopCreditsModel" "thrown" "I") (by decide +kernel)
  have iX7 : ∀ w ∈ u_ws RX7 TX7 21, w ∈ wsX7_alone := by decide +kernel
  have hl := lv_entry ([.ref m_, .int p0, .int p1, .int p2, .int p3, .int p4]) (n := 6) (Nat.le_of_ble_eq_true rfl)
  rw [lg_entry_eq]
  generalize (lg_sl ([.ref m_, .int p0, .int p1, .int p2, .int p3, .int p4]) ++ List.replicate (6 - (lg_sl ([.ref m_, .int p0, .int p1, .int p2, .int p3, .int p4])).length) Slot.unset).toArray = ls at hl ⊢
  have hl : lv_has ls 6 [(0, .ref m_), (1, .int p0), (2, .int p1), (3, .int p2), (4, .int p3), (5, .int p4)] := hl
  generalize hQ : MQ below _ _ s _ _ _ = Q
  generalize hH : s.heap = H at hP ⊢
  have hS : va_S A s.heap H [] := by rw [← hH]; exact hS
  clear hH
  refine lv_aload_n hx hb dX7_alone_0 rfl (lv_at hl 0 rfl) ?_
  refine lv_iconst (v := 0) hx hb dX7_alone_1 (by decide) ?_
  refine va_put (D := D) (ci := 7) (v := .int 0) (ty := .int) (C := RX7) (T := TX7) (N := 21) hx hb hts iX7 tyX7 tyX7_ok nmX7 hown hK hP hD hS 0 rfl rfl 0 (by decide) f49 (fun _ h9 => h9) rfl (by decide +kernel) (rfl) (rfl) (Nat.le_of_ble_eq_true rfl) dX7_alone_2 (fun H locs hP hD hS => ?_)
  have hP : va_P D vwCl [(m_, .inr (7, [.int 0, .ref mt, .int tp, .int pa_, .int wr, .ref mrr, .ref mrh, .ref mrc, .int rh, .int rc, .ref mn, .ref mf, .ref mr, .ref mh, .int hz, .int cz, .ref ma, .ref mas, .ref msn, .ref mac, .ref mat])), (mac, .inl (g 0, 8, .inl fA)), (mat, .inl (g 0, 8, .inl fB))] H := hP
  have hD : va_D A [(m_, .inr (7, [.int 0, .ref mt, .int tp, .int pa_, .int wr, .ref mrr, .ref mrh, .ref mrc, .int rh, .int rc, .ref mn, .ref mf, .ref mr, .ref mh, .int hz, .int cz, .ref ma, .ref mas, .ref msn, .ref mac, .ref mat])), (mac, .inl (g 0, 8, .inl fA)), (mat, .inl (g 0, 8, .inl fB))] := hD
  refine lv_iload_n hx hb dX7_alone_5 rfl (lv_at hl 1 rfl) ?_
  refine lv_iload_n hx hb dX7_alone_6 rfl (lv_at hl 2 rfl) ?_
  refine lv_iload hx hb dX7_alone_7 (lv_at hl 4 rfl) ?_
  refine lv_iload hx hb dX7_alone_9 (lv_at hl 5 rfl) ?_
  refine ky_Si (As := [.int p0, .int p1, .int p3, .int p4]) (rest := []) ⟨hx, hb, hml, hown, hts⟩ ⟨hK, hN⟩ hZ hP hD hS hA [] [0, 1, 2] (wc := []) (wr := [(m_, .inr (7, [.int 0, .ref mt, .int tp, .int pa_, .int wr, .ref mrr, .ref mrh, .ref mrc, .int rh, .int rc, .ref mn, .ref mf, .ref mr, .ref mh, .int hz, .int cz, .ref ma, .ref mas, .ref msn, .ref mac, .ref mat])), (mac, .inl (g 0, 8, .inl fA)), (mat, .inl (g 0, 8, .inl fB))]) rfl rfl rfl rfl (by decide) (c_X7_isAlone l D g H.size p0 p1 p3 p4) (va_cwS 4 hts gX7_alone_X7_isAlone rfl rfl rfl (by decide +kernel) ⟨(Nat.le_of_ble_eq_true rfl), (Nat.le_of_ble_eq_true rfl)⟩) rfl hl.1 rfl (Nat.le_of_ble_eq_true rfl) dX7_alone_11 ⟨(Nat.le_of_ble_eq_true rfl), (Nat.le_of_ble_eq_true rfl)⟩ (fun r_1 u H locs hw hP hD hS => ?_)
  obtain ⟨rfl, rfl⟩ := hw
  have hP : va_P D vwCl [(m_, .inr (7, [.int 0, .ref mt, .int tp, .int pa_, .int wr, .ref mrr, .ref mrh, .ref mrc, .int rh, .int rc, .ref mn, .ref mf, .ref mr, .ref mh, .int hz, .int cz, .ref ma, .ref mas, .ref msn, .ref mac, .ref mat])), (mac, .inl (g 0, 8, .inl fA)), (mat, .inl (g 0, 8, .inl fB))] H := hP
  have hD : va_D A [(m_, .inr (7, [.int 0, .ref mt, .int tp, .int pa_, .int wr, .ref mrr, .ref mrh, .ref mrc, .int rh, .int rc, .ref mn, .ref mf, .ref mr, .ref mh, .int hz, .int cz, .ref ma, .ref mas, .ref msn, .ref mac, .ref mat])), (mac, .inl (g 0, 8, .inl fA)), (mat, .inl (g 0, 8, .inl fB))] := hD
  refine W.widen (k := 0) (n := 0) (Nat.le_of_ble_eq_true rfl) (Nat.le_of_ble_eq_true rfl) ?_
  refine lv_if_eq (tgt := 41) hx hb dX7_alone_14 (by decide) (fun cb_2 => ?_) (fun cb_2 => ?_)
  · skip
    refine lv_iconst (v := (-1)) hx hb dX7_alone_41 (by decide) ?_
    have hP9 := hP.sub (ws' := [(m_, .inr (7, [.int 0, .ref mt, .int tp, .int pa_, .int wr, .ref mrr, .ref mrh, .ref mrc, .int rh, .int rc, .ref mn, .ref mf, .ref mr, .ref mh, .int hz, .int cz, .ref ma, .ref mas, .ref msn, .ref mac, .ref mat])), (mac, .inl (g 0, 8, .inl fA)), (mat, .inl (g 0, 8, .inl fB))]) [0, 1, 2] rfl
    have hD9 := hD.sub (ws' := [(m_, .inr (7, [.int 0, .ref mt, .int tp, .int pa_, .int wr, .ref mrr, .ref mrh, .ref mrc, .int rh, .int rc, .ref mn, .ref mf, .ref mr, .ref mh, .int hz, .int cz, .ref ma, .ref mas, .ref msn, .ref mac, .ref mat])), (mac, .inl (g 0, 8, .inl fA)), (mat, .inl (g 0, 8, .inl fB))]) [0, 1, 2] (by decide) rfl
    subst hQ
    refine W.widen (k := 0) (n := 0) (Nat.le_of_ble_eq_true rfl) (Nat.le_of_ble_eq_true rfl) ?_
    exact W.iret (v := (-1)) hx hb hr (fun tS htS _ => ⟨⟨_, _, rfl, ⟨fA, fB, (-1), rfl, rfl, ⟨fun q => absurd q (fun q => absurd (okA_in q.1) (b01_0.mp cb_2)), fun _ => rfl⟩⟩, by rw [htS]; exact hP9, hD9⟩, hS.F htS⟩) hS.2.2 dX7_alone_42
  · skip
    refine lv_iload_n hx hb dX7_alone_17 rfl (lv_at hl 3 rfl) ?_
    refine lv_iconst (v := 1) hx hb dX7_alone_18 (by decide) ?_
    refine lv_bipush (v := 30) hx hb dX7_alone_19 (by decide) ?_
    refine ky_Si (As := [.int p2, .int 1, .int 30]) (rest := []) ⟨hx, hb, hml, hown, hts⟩ ⟨hK, hN⟩ hZ hP hD hS hA [] [0, 1, 2] (wc := []) (wr := [(m_, .inr (7, [.int 0, .ref mt, .int tp, .int pa_, .int wr, .ref mrr, .ref mrh, .ref mrc, .int rh, .int rc, .ref mn, .ref mf, .ref mr, .ref mh, .int hz, .int cz, .ref ma, .ref mas, .ref msn, .ref mac, .ref mat])), (mac, .inl (g 0, 8, .inl fA)), (mat, .inl (g 0, 8, .inl fB))]) rfl rfl rfl rfl (by decide) (c_X7_in l D g H.size p2 1 30) (va_cwS 3 hts gX7_alone_X7_in rfl rfl rfl (by decide +kernel) ⟨(Nat.le_of_ble_eq_true rfl), (Nat.le_of_ble_eq_true rfl)⟩) rfl hl.1 rfl (Nat.le_of_ble_eq_true rfl) dX7_alone_21 ⟨(Nat.le_of_ble_eq_true rfl), (Nat.le_of_ble_eq_true rfl)⟩ (fun r_3 u H locs hw hP hD hS => ?_)
    obtain ⟨rfl, rfl⟩ := hw
    have hP : va_P D vwCl [(m_, .inr (7, [.int 0, .ref mt, .int tp, .int pa_, .int wr, .ref mrr, .ref mrh, .ref mrc, .int rh, .int rc, .ref mn, .ref mf, .ref mr, .ref mh, .int hz, .int cz, .ref ma, .ref mas, .ref msn, .ref mac, .ref mat])), (mac, .inl (g 0, 8, .inl fA)), (mat, .inl (g 0, 8, .inl fB))] H := hP
    have hD : va_D A [(m_, .inr (7, [.int 0, .ref mt, .int tp, .int pa_, .int wr, .ref mrr, .ref mrh, .ref mrc, .int rh, .int rc, .ref mn, .ref mf, .ref mr, .ref mh, .int hz, .int cz, .ref ma, .ref mas, .ref msn, .ref mac, .ref mat])), (mac, .inl (g 0, 8, .inl fA)), (mat, .inl (g 0, 8, .inl fB))] := hD
    refine W.widen (k := 0) (n := 0) (Nat.le_of_ble_eq_true rfl) (Nat.le_of_ble_eq_true rfl) ?_
    refine lv_if_eq (tgt := 41) hx hb dX7_alone_24 (by decide) (fun cb_4 => ?_) (fun cb_4 => ?_)
    · skip
      refine lv_iconst (v := (-1)) hx hb dX7_alone_41 (by decide) ?_
      have hP9 := hP.sub (ws' := [(m_, .inr (7, [.int 0, .ref mt, .int tp, .int pa_, .int wr, .ref mrr, .ref mrh, .ref mrc, .int rh, .int rc, .ref mn, .ref mf, .ref mr, .ref mh, .int hz, .int cz, .ref ma, .ref mas, .ref msn, .ref mac, .ref mat])), (mac, .inl (g 0, 8, .inl fA)), (mat, .inl (g 0, 8, .inl fB))]) [0, 1, 2] rfl
      have hD9 := hD.sub (ws' := [(m_, .inr (7, [.int 0, .ref mt, .int tp, .int pa_, .int wr, .ref mrr, .ref mrh, .ref mrc, .int rh, .int rc, .ref mn, .ref mf, .ref mr, .ref mh, .int hz, .int cz, .ref ma, .ref mas, .ref msn, .ref mac, .ref mat])), (mac, .inl (g 0, 8, .inl fA)), (mat, .inl (g 0, 8, .inl fB))]) [0, 1, 2] (by decide) rfl
      subst hQ
      refine W.widen (k := 0) (n := 0) (Nat.le_of_ble_eq_true rfl) (Nat.le_of_ble_eq_true rfl) ?_
      exact W.iret (v := (-1)) hx hb hr (fun tS htS _ => ⟨⟨_, _, rfl, ⟨fA, fB, (-1), rfl, rfl, ⟨fun q => absurd q (fun q => absurd q.2 (b01_0.mp cb_4)), fun _ => rfl⟩⟩, by rw [htS]; exact hP9, hD9⟩, hS.F htS⟩) hS.2.2 dX7_alone_42
    · skip
      have hok0 := b01_1.mp cb_2
      have hok : okA p0 p1 p3 p4 := hok0
      clear hok0
      have hzz : 1 ≤ p2 ∧ p2 ≤ 30 := b01_1.mp cb_4
      obtain ⟨d, d_1, d_2, rfl⟩ := rg (L := 1) (U := 4) rfl rfl (by decide) (by decide) hok.1
      obtain ⟨ev, ev_1, ev_2, rfl⟩ := rg (L := 1) (U := 4) rfl rfl (by decide) (by decide) hok.2.1
      obtain ⟨k, k_1, k_2, rfl⟩ := rg (L := 1) (U := 9) rfl rfl (by decide) (by decide) hok.2.2.1
      obtain ⟨nn, nn_1, nn_2, rfl⟩ := rg (L := 1) (U := 200) rfl rfl (by decide) (by decide) hok.2.2.2
      obtain ⟨z, z_1, z_2, rfl⟩ := rg (L := 1) (U := 30) rfl rfl (by decide) (by decide) hzz
      have hd : d < 5 := by omega
      have hd0 : 0 < d := by omega
      have he : ev < 5 := by omega
      have he0 : 0 < ev := by omega
      have hk0 : 0 < k := by omega
      have hk1 : k < 10 := by omega
      have hn : nn ≤ 200 := by omega
      have hz9 : z ≤ 30 := by omega
      refine lv_aload_n hx hb dX7_alone_27 rfl (lv_at hl 0 rfl) ?_
      refine lv_iload_n hx hb dX7_alone_28 rfl (lv_at hl 1 rfl) ?_
      refine lv_iload_n hx hb dX7_alone_29 rfl (lv_at hl 2 rfl) ?_
      refine lv_iload_n hx hb dX7_alone_30 rfl (lv_at hl 3 rfl) ?_
      refine lv_iload hx hb dX7_alone_31 (lv_at hl 4 rfl) ?_
      refine lv_iload hx hb dX7_alone_33 (lv_at hl 5 rfl) ?_
      refine ky_Vi (As := [.int (nI d), .int (nI ev), .int (nI z), .int (nI k), .int (nI nn)]) (rest := []) ⟨hx, hb, hml, hown, hts⟩ ⟨hK, hN⟩ hZ hP hD hS hA [0, 1, 2] [] (wc := [(m_, .inr (7, [.int 0, .ref mt, .int tp, .int pa_, .int wr, .ref mrr, .ref mrh, .ref mrc, .int rh, .int rc, .ref mn, .ref mf, .ref mr, .ref mh, .int hz, .int cz, .ref ma, .ref mas, .ref msn, .ref mac, .ref mat])), (mac, .inl (g 0, 8, .inl fA)), (mat, .inl (g 0, 8, .inl fB))]) (wr := []) rfl rfl rfl rfl (by decide) (c_X7_aloneSent l D g H.size m_ 0 mt tp pa_ wr mrr mrh mrc rh rc mn mf mr mh hz cz ma mas msn mac mat fA fB d ev z k nn (hd) (hd0) (he0) (he) (hz9) (hk0) (hk1) (hn)) (cwV 5 hts gX7_alone_X7_aloneSent rfl rfl rfl (by decide +kernel) ⟨(Nat.le_of_ble_eq_true rfl), (Nat.le_of_ble_eq_true rfl)⟩) 0 7 rfl rfl rfl rfl hl.1 rfl (Nat.le_of_ble_eq_true rfl) dX7_alone_35 ⟨(Nat.le_of_ble_eq_true rfl), (Nat.le_of_ble_eq_true rfl)⟩ (fun r_7 u H locs hw hP hD hS => ?_)
      obtain ⟨fA2_5, fB2_6, rfl, rfl⟩ := hw
      have hP : va_P D vwCl [(m_, .inr (7, [.int 0, .ref mt, .int tp, .int pa_, .int wr, .ref mrr, .ref mrh, .ref mrc, .int rh, .int rc, .ref mn, .ref mf, .ref mr, .ref mh, .int hz, .int cz, .ref ma, .ref mas, .ref msn, .ref mac, .ref mat])), (mac, .inl (g 0, 8, .inl fA2_5)), (mat, .inl (g 0, 8, .inl fB2_6))] H := hP
      have hD : va_D A [(m_, .inr (7, [.int 0, .ref mt, .int tp, .int pa_, .int wr, .ref mrr, .ref mrh, .ref mrc, .int rh, .int rc, .ref mn, .ref mf, .ref mr, .ref mh, .int hz, .int cz, .ref ma, .ref mas, .ref msn, .ref mac, .ref mat])), (mac, .inl (g 0, 8, .inl fA2_5)), (mat, .inl (g 0, 8, .inl fB2_6))] := hD
      refine W.widen (k := 0) (n := 0) (Nat.le_of_ble_eq_true rfl) (Nat.le_of_ble_eq_true rfl) ?_
      refine lv_goto (tgt := 42) hx hb dX7_alone_38 (by decide) ?_
      have hP9 := hP.sub (ws' := [(m_, .inr (7, [.int 0, .ref mt, .int tp, .int pa_, .int wr, .ref mrr, .ref mrh, .ref mrc, .int rh, .int rc, .ref mn, .ref mf, .ref mr, .ref mh, .int hz, .int cz, .ref ma, .ref mas, .ref msn, .ref mac, .ref mat])), (mac, .inl (g 0, 8, .inl fA2_5)), (mat, .inl (g 0, 8, .inl fB2_6))]) [0, 1, 2] rfl
      have hD9 := hD.sub (ws' := [(m_, .inr (7, [.int 0, .ref mt, .int tp, .int pa_, .int wr, .ref mrr, .ref mrh, .ref mrc, .int rh, .int rc, .ref mn, .ref mf, .ref mr, .ref mh, .int hz, .int cz, .ref ma, .ref mas, .ref msn, .ref mac, .ref mat])), (mac, .inl (g 0, 8, .inl fA2_5)), (mat, .inl (g 0, 8, .inl fB2_6))]) [0, 1, 2] (by decide) rfl
      subst hQ
      refine W.widen (k := 0) (n := 0) (Nat.le_of_ble_eq_true rfl) (Nat.le_of_ble_eq_true rfl) ?_
      exact W.iret (v := (nI (al d ev z k nn).1)) hx hb hr (fun tS htS _ => ⟨⟨_, _, rfl, ⟨fA2_5, fB2_6, (nI (al d ev z k nn).1), rfl, rfl, alP_y (by omega) (by omega) (by omega) (by omega) (by omega) ⟨hok, hzz⟩⟩, by rw [htS]; exact hP9, hD9⟩, hS.F htS⟩) hS.2.2 dX7_alone_42
set_option maxHeartbeats 4000000 in
set_option maxRecDepth 100000 in
theorem c_X7_full (l : Launch) (D : va_G) (g : Nat → ClassId) (sz : Nat) (m_ : Nat) (th : Int32) (mt : Nat) (tp : Int32) (pa_ : Int32) (wr : Int32) (mrr : Nat) (mrh : Nat) (mrc : Nat) (rh : Int32) (rc : Int32) (mn : Nat) (mf : Nat) (mr : Nat) (mh : Nat) (hz : Int32) (cz : Int32) (ma : Nat) (mas : Nat) (msn : Nat) (mac : Nat) (mat : Nat) (fA : Nat → Int32) (fB : Nat → Int32) (p0 : Int32) (p1 : Int32) (p2 : Int32) (p3 : Int32) : Met l yX7_full wsX7_full ({ frames := 3, cells := 0, slots := 0, locals := 66 }) (va_Pc [.ref m_, .int p0, .int p1, .int p2, .int p3] (pre D g sz [(m_, .inr (7, [.int th, .ref mt, .int tp, .int pa_, .int wr, .ref mrr, .ref mrh, .ref mrc, .int rh, .int rc, .ref mn, .ref mf, .ref mr, .ref mh, .int hz, .int cz, .ref ma, .ref mas, .ref msn, .ref mac, .ref mat])), (mac, .inl (g 0, 8, .inl fA)), (mat, .inl (g 0, 8, .inl fB))])) (va_Qi (fun (r : Int32) (u : va_W) => ∃ (fA2 : Nat → Int32) (fB2 : Nat → Int32) (r9 : Int32), u = [(m_, .inr (7, [.int 0, .ref mt, .int tp, .int pa_, .int wr, .ref mrr, .ref mrh, .ref mrc, .int rh, .int rc, .ref mn, .ref mf, .ref mr, .ref mh, .int hz, .int cz, .ref ma, .ref mas, .ref msn, .ref mac, .ref mat])), (mac, .inl (g 0, 8, .inl fA2)), (mat, .inl (g 0, 8, .inl fB2))] ∧ r = r9 ∧ (fuR p0 p1 p2 p3 r9)) (wd D (va_A [(m_, .inr (7, [.int th, .ref mt, .int tp, .int pa_, .int wr, .ref mrr, .ref mrh, .ref mrc, .int rh, .int rc, .ref mn, .ref mf, .ref mr, .ref mh, .int hz, .int cz, .ref ma, .ref mas, .ref msn, .ref mac, .ref mat])), (mac, .inl (g 0, 8, .inl fA)), (mat, .inl (g 0, 8, .inl fB))] sz)) (va_A [(m_, .inr (7, [.int th, .ref mt, .int tp, .int pa_, .int wr, .ref mrr, .ref mrh, .ref mrc, .int rh, .int rc, .ref mn, .ref mf, .ref mr, .ref mh, .int hz, .int cz, .ref ma, .ref mas, .ref msn, .ref mac, .ref mat])), (mac, .inl (g 0, 8, .inl fA)), (mat, .inl (g 0, 8, .inl fB))] sz)) 0 0 (va_A [(m_, .inr (7, [.int th, .ref mt, .int tp, .int pa_, .int wr, .ref mrr, .ref mrh, .ref mrc, .int rh, .int rc, .ref mn, .ref mf, .ref mr, .ref mh, .int hz, .int cz, .ref ma, .ref mas, .ref msn, .ref mac, .ref mat])), (mac, .inl (g 0, 8, .inl fA)), (mat, .inl (g 0, 8, .inl fB))] sz) := by
  refine Met.ofW (cc := cX7_full) (maxL := 7) (ret := (some .int)) (by decide) rfl ?_
  intro p e s m args below meth c s₁ B hml hv
  obtain ⟨rfl, hsz, hP, ⟨hK, hN⟩, hD0, hZ⟩ := hv
  have hx := B.exec
  have hb := B.bytes
  have hr := B.returns
  have hts := atoms_spec (ws := wsX7_full) B.pre
  have hown : s.vm.findClass RX7 = some m.cls := findClass_of_methodNamed B.named
  have hlocks := B.notSynchronized
  clear B
  subst hsz
  have hD := hD0.self (sz := s.heap.size)
  clear hD0
  generalize hAe : va_A [(m_, .inr (7, [.int th, .ref mt, .int tp, .int pa_, .int wr, .ref mrr, .ref mrh, .ref mrc, .int rh, .int rc, .ref mn, .ref mf, .ref mr, .ref mh, .int hz, .int cz, .ref ma, .ref mas, .ref msn, .ref mac, .ref mat])), (mac, .inl (g 0, 8, .inl fA)), (mat, .inl (g 0, 8, .inl fB))] s.heap.size = A at hD hZ ⊢
  have hA : ∀ q : Nat, s.heap.size ≤ q → A q := fun q h => by rw [← hAe]; exact Or.inr h
  have hS : va_S A s.heap s.heap [] := va_S.rf
  have f49 := hts (.fieldLink RX7 49 "HopCreditsModel" "thrown" "I") (by decide +kernel)
  have iX7 : ∀ w ∈ u_ws RX7 TX7 21, w ∈ wsX7_full := by decide +kernel
  have hl := lv_entry ([.ref m_, .int p0, .int p1, .int p2, .int p3]) (n := 7) (Nat.le_of_ble_eq_true rfl)
  rw [lg_entry_eq]
  generalize (lg_sl ([.ref m_, .int p0, .int p1, .int p2, .int p3]) ++ List.replicate (7 - (lg_sl ([.ref m_, .int p0, .int p1, .int p2, .int p3])).length) Slot.unset).toArray = ls at hl ⊢
  have hl : lv_has ls 7 [(0, .ref m_), (1, .int p0), (2, .int p1), (3, .int p2), (4, .int p3)] := hl
  generalize hQ : MQ below _ _ s _ _ _ = Q
  generalize hH : s.heap = H at hP ⊢
  have hS : va_S A s.heap H [] := by rw [← hH]; exact hS
  clear hH
  refine lv_aload_n hx hb dX7_full_0 rfl (lv_at hl 0 rfl) ?_
  refine lv_iconst (v := 0) hx hb dX7_full_1 (by decide) ?_
  refine va_put (D := D) (ci := 7) (v := .int 0) (ty := .int) (C := RX7) (T := TX7) (N := 21) hx hb hts iX7 tyX7 tyX7_ok nmX7 hown hK hP hD hS 0 rfl rfl 0 (by decide) f49 (fun _ h9 => h9) rfl (by decide +kernel) (rfl) (rfl) (Nat.le_of_ble_eq_true rfl) dX7_full_2 (fun H locs hP hD hS => ?_)
  have hP : va_P D vwCl [(m_, .inr (7, [.int 0, .ref mt, .int tp, .int pa_, .int wr, .ref mrr, .ref mrh, .ref mrc, .int rh, .int rc, .ref mn, .ref mf, .ref mr, .ref mh, .int hz, .int cz, .ref ma, .ref mas, .ref msn, .ref mac, .ref mat])), (mac, .inl (g 0, 8, .inl fA)), (mat, .inl (g 0, 8, .inl fB))] H := hP
  have hD : va_D A [(m_, .inr (7, [.int 0, .ref mt, .int tp, .int pa_, .int wr, .ref mrr, .ref mrh, .ref mrc, .int rh, .int rc, .ref mn, .ref mf, .ref mr, .ref mh, .int hz, .int cz, .ref ma, .ref mas, .ref msn, .ref mac, .ref mat])), (mac, .inl (g 0, 8, .inl fA)), (mat, .inl (g 0, 8, .inl fB))] := hD
  refine lv_iload_n hx hb dX7_full_5 rfl (lv_at hl 1 rfl) ?_
  refine lv_iload_n hx hb dX7_full_6 rfl (lv_at hl 2 rfl) ?_
  refine lv_iload_n hx hb dX7_full_7 rfl (lv_at hl 3 rfl) ?_
  refine lv_iload hx hb dX7_full_8 (lv_at hl 4 rfl) ?_
  refine ky_Si (As := [.int p0, .int p1, .int p2, .int p3]) (rest := []) ⟨hx, hb, hml, hown, hts⟩ ⟨hK, hN⟩ hZ hP hD hS hA [] [0, 1, 2] (wc := []) (wr := [(m_, .inr (7, [.int 0, .ref mt, .int tp, .int pa_, .int wr, .ref mrr, .ref mrh, .ref mrc, .int rh, .int rc, .ref mn, .ref mf, .ref mr, .ref mh, .int hz, .int cz, .ref ma, .ref mas, .ref msn, .ref mac, .ref mat])), (mac, .inl (g 0, 8, .inl fA)), (mat, .inl (g 0, 8, .inl fB))]) rfl rfl rfl rfl (by decide) (c_X7_isAlone l D g H.size p0 p1 p2 p3) (va_cwS 4 hts gX7_full_X7_isAlone rfl rfl rfl (by decide +kernel) ⟨(Nat.le_of_ble_eq_true rfl), (Nat.le_of_ble_eq_true rfl)⟩) rfl hl.1 rfl (Nat.le_of_ble_eq_true rfl) dX7_full_10 ⟨(Nat.le_of_ble_eq_true rfl), (Nat.le_of_ble_eq_true rfl)⟩ (fun r_1 u H locs hw hP hD hS => ?_)
  obtain ⟨rfl, rfl⟩ := hw
  have hP : va_P D vwCl [(m_, .inr (7, [.int 0, .ref mt, .int tp, .int pa_, .int wr, .ref mrr, .ref mrh, .ref mrc, .int rh, .int rc, .ref mn, .ref mf, .ref mr, .ref mh, .int hz, .int cz, .ref ma, .ref mas, .ref msn, .ref mac, .ref mat])), (mac, .inl (g 0, 8, .inl fA)), (mat, .inl (g 0, 8, .inl fB))] H := hP
  have hD : va_D A [(m_, .inr (7, [.int 0, .ref mt, .int tp, .int pa_, .int wr, .ref mrr, .ref mrh, .ref mrc, .int rh, .int rc, .ref mn, .ref mf, .ref mr, .ref mh, .int hz, .int cz, .ref ma, .ref mas, .ref msn, .ref mac, .ref mat])), (mac, .inl (g 0, 8, .inl fA)), (mat, .inl (g 0, 8, .inl fB))] := hD
  refine W.widen (k := 0) (n := 0) (Nat.le_of_ble_eq_true rfl) (Nat.le_of_ble_eq_true rfl) ?_
  refine lv_if_ne (tgt := 18) hx hb dX7_full_13 (by decide) (fun cb_2 => ?_) (fun cb_2 => ?_)
  · skip
    have hok0 := b01_1.mp cb_2
    have hok : okA p0 p1 p2 p3 := hok0
    clear hok0
    obtain ⟨d, d_1, d_2, rfl⟩ := rg (L := 1) (U := 4) rfl rfl (by decide) (by decide) hok.1
    obtain ⟨ev, ev_1, ev_2, rfl⟩ := rg (L := 1) (U := 4) rfl rfl (by decide) (by decide) hok.2.1
    obtain ⟨k, k_1, k_2, rfl⟩ := rg (L := 1) (U := 9) rfl rfl (by decide) (by decide) hok.2.2.1
    obtain ⟨nn, nn_1, nn_2, rfl⟩ := rg (L := 1) (U := 200) rfl rfl (by decide) (by decide) hok.2.2.2
    have hd : d < 5 := by omega
    have hd0 : 0 < d := by omega
    have he : ev < 5 := by omega
    have he0 : 0 < ev := by omega
    have hk0 : 0 < k := by omega
    have hk1 : k < 10 := by omega
    have hn : nn ≤ 200 := by omega
    refine lv_aload_n hx hb dX7_full_18 rfl (lv_at hl 0 rfl) ?_
    refine lv_iload_n hx hb dX7_full_19 rfl (lv_at hl 1 rfl) ?_
    refine lv_iload_n hx hb dX7_full_20 rfl (lv_at hl 2 rfl) ?_
    refine lv_bipush (v := 30) hx hb dX7_full_21 (by decide) ?_
    refine lv_iload_n hx hb dX7_full_23 rfl (lv_at hl 3 rfl) ?_
    refine lv_iload hx hb dX7_full_24 (lv_at hl 4 rfl) ?_
    refine ky_Vi (As := [.int (nI d), .int (nI ev), .int 30, .int (nI k), .int (nI nn)]) (rest := []) ⟨hx, hb, hml, hown, hts⟩ ⟨hK, hN⟩ hZ hP hD hS hA [0, 1, 2] [] (wc := [(m_, .inr (7, [.int 0, .ref mt, .int tp, .int pa_, .int wr, .ref mrr, .ref mrh, .ref mrc, .int rh, .int rc, .ref mn, .ref mf, .ref mr, .ref mh, .int hz, .int cz, .ref ma, .ref mas, .ref msn, .ref mac, .ref mat])), (mac, .inl (g 0, 8, .inl fA)), (mat, .inl (g 0, 8, .inl fB))]) (wr := []) rfl rfl rfl rfl (by decide) (c_X7_aloneSent l D g H.size m_ 0 mt tp pa_ wr mrr mrh mrc rh rc mn mf mr mh hz cz ma mas msn mac mat fA fB d ev 30 k nn (hd) (hd0) (he0) (he) (by omega) (hk0) (hk1) (hn)) (cwV 5 hts gX7_full_X7_aloneSent rfl rfl rfl (by decide +kernel) ⟨(Nat.le_of_ble_eq_true rfl), (Nat.le_of_ble_eq_true rfl)⟩) 0 7 rfl rfl rfl rfl hl.1 rfl (Nat.le_of_ble_eq_true rfl) dX7_full_26 ⟨(Nat.le_of_ble_eq_true rfl), (Nat.le_of_ble_eq_true rfl)⟩ (fun r_5 u H locs hw hP hD hS => ?_)
    obtain ⟨fA2_3, fB2_4, rfl, rfl⟩ := hw
    have hP : va_P D vwCl [(m_, .inr (7, [.int 0, .ref mt, .int tp, .int pa_, .int wr, .ref mrr, .ref mrh, .ref mrc, .int rh, .int rc, .ref mn, .ref mf, .ref mr, .ref mh, .int hz, .int cz, .ref ma, .ref mas, .ref msn, .ref mac, .ref mat])), (mac, .inl (g 0, 8, .inl fA2_3)), (mat, .inl (g 0, 8, .inl fB2_4))] H := hP
    have hD : va_D A [(m_, .inr (7, [.int 0, .ref mt, .int tp, .int pa_, .int wr, .ref mrr, .ref mrh, .ref mrc, .int rh, .int rc, .ref mn, .ref mf, .ref mr, .ref mh, .int hz, .int cz, .ref ma, .ref mas, .ref msn, .ref mac, .ref mat])), (mac, .inl (g 0, 8, .inl fA2_3)), (mat, .inl (g 0, 8, .inl fB2_4))] := hD
    refine W.widen (k := 0) (n := 0) (Nat.le_of_ble_eq_true rfl) (Nat.le_of_ble_eq_true rfl) ?_
    refine lv_istore (lv' := [(5, .int (nI (al d ev 30 k nn).1)), (0, .ref m_), (1, .int (nI d)), (2, .int (nI ev)), (3, .int (nI k)), (4, .int (nI nn))]) hx hb dX7_full_29 hl (by decide) rfl (fun ls hl => ?_)
    refine lv_iconst (v := 1) hx hb dX7_full_31 (by decide) ?_
    refine lv_istore (lv' := [(6, .int 1), (5, .int (nI (al d ev 30 k nn).1)), (0, .ref m_), (1, .int (nI d)), (2, .int (nI ev)), (3, .int (nI k)), (4, .int (nI nn))]) hx hb dX7_full_32 hl (by decide) rfl (fun ls hl => ?_)
    have loop_6 : ∀ (N9 : Nat) (v : Nat) (yA : Nat → Int32) (yB : Nat → Int32) (hv1 : 1 ≤ v) (hz9 : v ≤ 30) (hvm : ∀ q, 1 ≤ q → q < v → (al d ev q k nn).1 < (al d ev 30 k nn).1) (hm9 : 31 - v < N9) (H : Heap) (locs : List Loc) (ls : Array Slot), va_P D vwCl [(m_, .inr (7, [.int 0, .ref mt, .int tp, .int pa_, .int wr, .ref mrr, .ref mrh, .ref mrc, .int rh, .int rc, .ref mn, .ref mf, .ref mr, .ref mh, .int hz, .int cz, .ref ma, .ref mas, .ref msn, .ref mac, .ref mat])), (mac, .inl (g 0, 8, .inl yA)), (mat, .inl (g 0, 8, .inl yB))] H → va_D A [(m_, .inr (7, [.int 0, .ref mt, .int tp, .int pa_, .int wr, .ref mrr, .ref mrh, .ref mrc, .int rh, .int rc, .ref mn, .ref mf, .ref mr, .ref mh, .int hz, .int cz, .ref ma, .ref mas, .ref msn, .ref mac, .ref mat])), (mac, .inl (g 0, 8, .inl yA)), (mat, .inl (g 0, 8, .inl yB))] → va_S A s.heap H locs → lv_has ls 7 [(6, .int (nI v)), (5, .int (nI (al d ev 30 k nn).1)), (0, .ref m_), (1, .int (nI d)), (2, .int (nI ev)), (3, .int (nI k)), (4, .int (nI nn))] → W p l e (headSpec wsX7_full ({ frames := 3, cells := 0, slots := 0, locals := 66 })).room s m ([.ref m_, .int (nI d), .int (nI ev), .int (nI k), .int (nI nn)] : List Value).toArray below meth c H locs 0 0 Q (F0 m 34 ls []) := by
      intro N9
      induction N9 with
      | zero => intro v yA yB hv1 hz9 hvm hm9; exact absurd hm9 (Nat.not_lt_zero _)
      | succ N9 loop_6_ih =>
        intro v yA yB hv1 hz9 hvm hm9 H locs ls hP hD hS hl
        refine lv_aload_n hx hb dX7_full_34 rfl (lv_at hl 2 rfl) ?_
        refine lv_iload_n hx hb dX7_full_35 rfl (lv_at hl 3 rfl) ?_
        refine lv_iload_n hx hb dX7_full_36 rfl (lv_at hl 4 rfl) ?_
        refine lv_iload hx hb dX7_full_37 (lv_at hl 0 rfl) ?_
        refine lv_iload_n hx hb dX7_full_39 rfl (lv_at hl 5 rfl) ?_
        refine lv_iload hx hb dX7_full_40 (lv_at hl 6 rfl) ?_
        refine ky_Vi (As := [.int (nI d), .int (nI ev), .int (nI v), .int (nI k), .int (nI nn)]) (rest := []) ⟨hx, hb, hml, hown, hts⟩ ⟨hK, hN⟩ hZ hP hD hS hA [0, 1, 2] [] (wc := [(m_, .inr (7, [.int 0, .ref mt, .int tp, .int pa_, .int wr, .ref mrr, .ref mrh, .ref mrc, .int rh, .int rc, .ref mn, .ref mf, .ref mr, .ref mh, .int hz, .int cz, .ref ma, .ref mas, .ref msn, .ref mac, .ref mat])), (mac, .inl (g 0, 8, .inl yA)), (mat, .inl (g 0, 8, .inl yB))]) (wr := []) rfl rfl rfl rfl (by decide) (c_X7_aloneSent l D g H.size m_ 0 mt tp pa_ wr mrr mrh mrc rh rc mn mf mr mh hz cz ma mas msn mac mat yA yB d ev v k nn (hd) (hd0) (he0) (he) (hz9) (hk0) (hk1) (hn)) (cwV 5 hts gX7_full_X7_aloneSent rfl rfl rfl (by decide +kernel) ⟨(Nat.le_of_ble_eq_true rfl), (Nat.le_of_ble_eq_true rfl)⟩) 0 7 rfl rfl rfl rfl hl.1 rfl (Nat.le_of_ble_eq_true rfl) dX7_full_42 ⟨(Nat.le_of_ble_eq_true rfl), (Nat.le_of_ble_eq_true rfl)⟩ (fun r_9 u H locs hw hP hD hS => ?_)
        obtain ⟨fA2_7, fB2_8, rfl, rfl⟩ := hw
        have hP : va_P D vwCl [(m_, .inr (7, [.int 0, .ref mt, .int tp, .int pa_, .int wr, .ref mrr, .ref mrh, .ref mrc, .int rh, .int rc, .ref mn, .ref mf, .ref mr, .ref mh, .int hz, .int cz, .ref ma, .ref mas, .ref msn, .ref mac, .ref mat])), (mac, .inl (g 0, 8, .inl fA2_7)), (mat, .inl (g 0, 8, .inl fB2_8))] H := hP
        have hD : va_D A [(m_, .inr (7, [.int 0, .ref mt, .int tp, .int pa_, .int wr, .ref mrr, .ref mrh, .ref mrc, .int rh, .int rc, .ref mn, .ref mf, .ref mr, .ref mh, .int hz, .int cz, .ref ma, .ref mas, .ref msn, .ref mac, .ref mat])), (mac, .inl (g 0, 8, .inl fA2_7)), (mat, .inl (g 0, 8, .inl fB2_8))] := hD
        refine W.widen (k := 0) (n := 0) (Nat.le_of_ble_eq_true rfl) (Nat.le_of_ble_eq_true rfl) ?_
        refine lv_iload hx hb dX7_full_45 (lv_at hl 1 rfl) ?_
        refine lv_icmp_ge (tgt := 56) hx hb dX7_full_47 (by decide) (fun cb_10 => ?_) (fun cb_10 => ?_)
        · skip
          have hS1 := (aI_al d ev v k hd0 nn).2.2.2.1
          have hS1 := (aI_al d ev 30 k hd0 nn).2.2.2.1
          have hge9 : ¬ (al d ev v k nn).1 < (al d ev 30 k nn).1 := Nat.not_lt.mpr ((nI_leI (by omega) (by omega)).mp cb_10)
          refine lv_iload hx hb dX7_full_56 (lv_at hl 0 rfl) ?_
          have hP9 := hP.sub (ws' := [(m_, .inr (7, [.int 0, .ref mt, .int tp, .int pa_, .int wr, .ref mrr, .ref mrh, .ref mrc, .int rh, .int rc, .ref mn, .ref mf, .ref mr, .ref mh, .int hz, .int cz, .ref ma, .ref mas, .ref msn, .ref mac, .ref mat])), (mac, .inl (g 0, 8, .inl fA2_7)), (mat, .inl (g 0, 8, .inl fB2_8))]) [0, 1, 2] rfl
          have hD9 := hD.sub (ws' := [(m_, .inr (7, [.int 0, .ref mt, .int tp, .int pa_, .int wr, .ref mrr, .ref mrh, .ref mrc, .int rh, .int rc, .ref mn, .ref mf, .ref mr, .ref mh, .int hz, .int cz, .ref ma, .ref mas, .ref msn, .ref mac, .ref mat])), (mac, .inl (g 0, 8, .inl fA2_7)), (mat, .inl (g 0, 8, .inl fB2_8))]) [0, 1, 2] (by decide) rfl
          subst hQ
          refine W.widen (k := 0) (n := 0) (Nat.le_of_ble_eq_true rfl) (Nat.le_of_ble_eq_true rfl) ?_
          exact W.iret (v := (nI v)) hx hb hr (fun tS htS _ => ⟨⟨_, _, rfl, ⟨fA2_7, fB2_8, (nI v), rfl, rfl, ⟨fun _ => by rw [nI_clamp (show d < 2 ^ 31 by omega), nI_clamp (show ev < 2 ^ 31 by omega), nI_clamp (show k < 2 ^ 31 by omega), nI_clamp (show nn < 2 ^ 31 by omega)]; exact ⟨v, rfl, hv1, hge9, hvm⟩, fun q => absurd hok q⟩⟩, by rw [htS]; exact hP9, hD9⟩, hS.F htS⟩) hS.2.2 dX7_full_58
        · skip
          have hS1 := (aI_al d ev v k hd0 nn).2.2.2.1
          have hS1 := (aI_al d ev 30 k hd0 nn).2.2.2.1
          have hlt9 : (al d ev v k nn).1 < (al d ev 30 k nn).1 := Nat.not_le.mp (fun q => cb_10 ((nI_leI (by omega) (by omega)).mpr q))
          refine lv_iinc (v := (nI (v + 1))) (lv' := [(6, .int (nI (v + 1))), (5, .int (nI (al d ev 30 k nn).1)), (0, .ref m_), (1, .int (nI d)), (2, .int (nI ev)), (3, .int (nI k)), (4, .int (nI nn))]) hx hb dX7_full_50 hl (k := 0) rfl (nI_1 (v)) (by decide) rfl (fun ls hl => ?_)
          refine lv_goto (tgt := 34) hx hb dX7_full_53 (by decide) ?_
          exact loop_6_ih (v + 1) fA2_7 fB2_8 (by omega) ((show v < 30 ∨ v = 30 by omega).elim (fun q => by omega) (fun q => absurd (by rw [q] at hlt9; exact hlt9) (Nat.lt_irrefl (al d ev 30 k nn).1))) (fun q q1 q2 => (show q < v ∨ q = v by omega).elim (fun q3 => hvm q q1 q3) (fun q3 => by rw [q3]; exact hlt9)) (by omega) _ _ _ (hP.sub [0, 1, 2] rfl) (hD.sub [0, 1, 2] (by decide) rfl) hS (lv_sub hl [0, 1, 2, 3, 4, 5, 6] rfl)
    exact loop_6 _ 1 fA2_3 fB2_4 (by omega) (by omega) (fun q q1 q2 => absurd q1 (by omega)) (Nat.lt_succ_self _) _ _ _ (hP.sub [0, 1, 2] rfl) (hD.sub [0, 1, 2] (by decide) rfl) hS (lv_sub hl [0, 1, 2, 3, 4, 5, 6] rfl)
  · skip
    refine lv_iconst (v := (-1)) hx hb dX7_full_16 (by decide) ?_
    have hP9 := hP.sub (ws' := [(m_, .inr (7, [.int 0, .ref mt, .int tp, .int pa_, .int wr, .ref mrr, .ref mrh, .ref mrc, .int rh, .int rc, .ref mn, .ref mf, .ref mr, .ref mh, .int hz, .int cz, .ref ma, .ref mas, .ref msn, .ref mac, .ref mat])), (mac, .inl (g 0, 8, .inl fA)), (mat, .inl (g 0, 8, .inl fB))]) [0, 1, 2] rfl
    have hD9 := hD.sub (ws' := [(m_, .inr (7, [.int 0, .ref mt, .int tp, .int pa_, .int wr, .ref mrr, .ref mrh, .ref mrc, .int rh, .int rc, .ref mn, .ref mf, .ref mr, .ref mh, .int hz, .int cz, .ref ma, .ref mas, .ref msn, .ref mac, .ref mat])), (mac, .inl (g 0, 8, .inl fA)), (mat, .inl (g 0, 8, .inl fB))]) [0, 1, 2] (by decide) rfl
    subst hQ
    refine W.widen (k := 0) (n := 0) (Nat.le_of_ble_eq_true rfl) (Nat.le_of_ble_eq_true rfl) ?_
    exact W.iret (v := (-1)) hx hb hr (fun tS htS _ => ⟨⟨_, _, rfl, ⟨fA, fB, (-1), rfl, rfl, ⟨fun q => absurd (okA_in q) (b01_0.mp cb_2), fun _ => rfl⟩⟩, by rw [htS]; exact hP9, hD9⟩, hS.F htS⟩) hS.2.2 dX7_full_17

