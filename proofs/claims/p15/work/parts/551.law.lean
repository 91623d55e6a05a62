set_option maxHeartbeats 4000000 in
set_option maxRecDepth 100000 in
/-- outside(n, lo, hi) -/
theorem c_X6_outside (l : Launch) (D : va_G) (g : Nat → ClassId) (sz : Nat) (n : Int32) (lo : Int32) (hi : Int32) : Met l yX6_outside wsX6_outside ({ frames := 0, cells := 0, slots := 0, locals := 0 }) (va_Pc [.int n, .int lo, .int hi] (pre D g sz [])) (va_Qi (fun (r : Int32) (u : va_W) => u = [] ∧ r = (if n < lo ∨ hi < n then 1 else 0)) (wd D (va_A [] sz)) (va_A [] sz)) 0 0 (va_A [] sz) := by
  refine Met.ofW (cc := cX6_outside) (maxL := 3) (ret := (some .boolean)) (by decide) rfl ?_
  intro p e s m args below meth c s₁ B hml hv
  obtain ⟨rfl, hsz, hP, ⟨hK, hN⟩, hD0, hZ⟩ := hv
  have hx := B.exec
  have hb := B.bytes
  have hr := B.returns
  have hts := atoms_spec (ws := wsX6_outside) B.pre
  have hown : s.vm.findClass RX6 = some m.cls := findClass_of_methodNamed B.named
  have hlocks := B.notSynchronized
  clear B
  subst hsz
  have hD := hD0.self (sz := s.heap.size)
  clear hD0
  generalize hAe : va_A [] s.heap.size = A at hD hZ ⊢
  have hA : ∀ q : Nat, s.heap.size ≤ q → A q := fun q h => by rw [← hAe]; exact Or.inr h
  have hS : va_S A s.heap s.heap [] := va_S.rf
  have hl := lv_entry ([.int n, .int lo, .int hi]) (n := 3) (Nat.le_of_ble_eq_true rfl)
  rw [lg_entry_eq]
  generalize (lg_sl ([.int n, .int lo, .int hi]) ++ List.replicate (3 - (lg_sl ([.int n, .int lo, .int hi])).length) Slot.unset).toArray = ls at hl ⊢
  have hl : lv_has ls 3 [(0, .int n), (1, .int lo), (2, .int hi)] := hl
  generalize hQ : MQ below _ _ s _ _ _ = Q
  generalize hH : s.heap = H at hP ⊢
  have hS : va_S A s.heap H [] := by rw [← hH]; exact hS
  clear hH
  refine lv_iload_n hx hb dX6_outside_0 rfl (lv_at hl 0 rfl) ?_
  refine lv_iload_n hx hb dX6_outside_1 rfl (lv_at hl 1 rfl) ?_
  refine lv_icmp_lt (tgt := 10) hx hb dX6_outside_2 (by decide) (fun cb_1 => ?_) (fun cb_1 => ?_)
  · skip
    refine lv_iconst (v := 1) hx hb dX6_outside_10 (by decide) ?_
    refine lv_goto (tgt := 15) hx hb dX6_outside_11 (by decide) ?_
    have hP9 := hP.sub (ws' := []) [] rfl
    have hD9 := hD.sub (ws' := []) [] (by decide) rfl
    subst hQ
    refine W.widen (k := 0) (n := 0) (Nat.le_of_ble_eq_true rfl) (Nat.le_of_ble_eq_true rfl) ?_
    exact W.zret (v := 1) (ty := .boolean) hx hb hr (rfl) (fun tS htS _ => ⟨⟨_, _, rfl, ⟨rfl, (if_pos (Or.inl cb_1)).symm⟩, by rw [htS]; exact hP9, hD9⟩, hS.F htS⟩) hS.2.2 dX6_outside_15
  · skip
    refine lv_iload_n hx hb dX6_outside_5 rfl (lv_at hl 0 rfl) ?_
    refine lv_iload_n hx hb dX6_outside_6 rfl (lv_at hl 2 rfl) ?_
    refine lv_icmp_le (tgt := 14) hx hb dX6_outside_7 (by decide) (fun cb_2 => ?_) (fun cb_2 => ?_)
    · skip
      refine lv_iconst (v := 0) hx hb dX6_outside_14 (by decide) ?_
      have hP9 := hP.sub (ws' := []) [] rfl
      have hD9 := hD.sub (ws' := []) [] (by decide) rfl
      subst hQ
      refine W.widen (k := 0) (n := 0) (Nat.le_of_ble_eq_true rfl) (Nat.le_of_ble_eq_true rfl) ?_
      exact W.zret (v := 0) (ty := .boolean) hx hb hr (rfl) (fun tS htS _ => ⟨⟨_, _, rfl, ⟨rfl, (if_neg (fun h => h.elim cb_1 (fun h => absurd h (Int32.not_lt.mpr cb_2)))).symm⟩, by rw [htS]; exact hP9, hD9⟩, hS.F htS⟩) hS.2.2 dX6_outside_15
    · skip
      refine lv_iconst (v := 1) hx hb dX6_outside_10 (by decide) ?_
      refine lv_goto (tgt := 15) hx hb dX6_outside_11 (by decide) ?_
      have hP9 := hP.sub (ws' := []) [] rfl
      have hD9 := hD.sub (ws' := []) [] (by decide) rfl
      subst hQ
      refine W.widen (k := 0) (n := 0) (Nat.le_of_ble_eq_true rfl) (Nat.le_of_ble_eq_true rfl) ?_
      exact W.zret (v := 1) (ty := .boolean) hx hb hr (rfl) (fun tS htS _ => ⟨⟨_, _, rfl, ⟨rfl, (if_pos (Or.inr (Int32.not_le.mp cb_2))).symm⟩, by rw [htS]; exact hP9, hD9⟩, hS.F htS⟩) hS.2.2 dX6_outside_15
set_option maxHeartbeats 4000000 in
set_option maxRecDepth 100000 in
theorem c_X6_law (l : Launch) (D : va_G) (g : Nat → ClassId) (sz : Nat) (x : Nat) (xt : Nat) (tl : Int32) (xr : Nat) (xd : Nat) (xn : Nat) (xa : Nat) (xs : Nat) (xy : Nat) (zld : Int32) (p0 : Int32) (p1 : Int32) (p2 : Int32) : Met l yX6_law wsX6_law ({ frames := 1, cells := 0, slots := 0, locals := 22 }) (va_Pc [.ref x, .int p0, .int p1, .int p2] (pre D g sz [(x, .inr (6, [.ref xt, .int tl, .ref xr, .ref xd, .ref xn, .ref xa, .ref xs, .ref xy, .int zld]))])) (va_Qi (fun (r : Int32) (u : va_W) => u = [(x, .inr (6, [.ref xt, .int tl, .ref xr, .ref xd, .ref xn, .ref xa, .ref xs, .ref xy, .int zld]))] ∧ r = (if (p0 < 1 ∨ 4 < p0) ∨ (p1 < 1 ∨ 4 < p1) ∨ (p2 < 1 ∨ 9 < p2) then (-1) else ((((((2 * p0) + p2) - 1) / p2) + p1) - 1))) (wd D (va_A [(x, .inr (6, [.ref xt, .int tl, .ref xr, .ref xd, .ref xn, .ref xa, .ref xs, .ref xy, .int zld]))] sz)) (va_A [(x, .inr (6, [.ref xt, .int tl, .ref xr, .ref xd, .ref xn, .ref xa, .ref xs, .ref xy, .int zld]))] sz)) 0 0 (va_A [(x, .inr (6, [.ref xt, .int tl, .ref xr, .ref xd, .ref xn, .ref xa, .ref xs, .ref xy, .int zld]))] sz) := by
  refine Met.ofW (cc := cX6_law) (maxL := 4) (ret := (some .int)) (by decide) rfl ?_
  intro p e s m args below meth c s₁ B hml hv
  obtain ⟨rfl, hsz, hP, ⟨hK, hN⟩, hD0, hZ⟩ := hv
  have hx := B.exec
  have hb := B.bytes
  have hr := B.returns
  have hts := atoms_spec (ws := wsX6_law) B.pre
  have hown : s.vm.findClass RX6 = some m.cls := findClass_of_methodNamed B.named
  have hlocks := B.notSynchronized
  clear B
  subst hsz
  have hD := hD0.self (sz := s.heap.size)
  clear hD0
  generalize hAe : va_A [(x, .inr (6, [.ref xt, .int tl, .ref xr, .ref xd, .ref xn, .ref xa, .ref xs, .ref xy, .int zld]))] s.heap.size = A at hD hZ ⊢
  have hA : ∀ q : Nat, s.heap.size ≤ q → A q := fun q h => by rw [← hAe]; exact Or.inr h
  have hS : va_S A s.heap s.heap [] := va_S.rf
  have hl := lv_entry ([.ref x, .int p0, .int p1, .int p2]) (n := 4) (Nat.le_of_ble_eq_true rfl)
  rw [lg_entry_eq]
  generalize (lg_sl ([.ref x, .int p0, .int p1, .int p2]) ++ List.replicate (4 - (lg_sl ([.ref x, .int p0, .int p1, .int p2])).length) Slot.unset).toArray = ls at hl ⊢
  have hl : lv_has ls 4 [(0, .ref x), (1, .int p0), (2, .int p1), (3, .int p2)] := hl
  generalize hQ : MQ below _ _ s _ _ _ = Q
  generalize hH : s.heap = H at hP ⊢
  have hS : va_S A s.heap H [] := by rw [← hH]; exact hS
  clear hH
  refine lv_iload_n hx hb dX6_law_0 rfl (lv_at hl 1 rfl) ?_
  refine lv_iconst (v := 1) hx hb dX6_law_1 (by decide) ?_
  refine lv_iconst (v := 4) hx hb dX6_law_2 (by decide) ?_
  refine ky_Si (As := [.int p0, .int 1, .int 4]) (rest := []) ⟨hx, hb, hml, hown, hts⟩ ⟨hK, hN⟩ hZ hP hD hS hA [] [0] (wc := []) (wr := [(x, .inr (6, [.ref xt, .int tl, .ref xr, .ref xd, .ref xn, .ref xa, .ref xs, .ref xy, .int zld]))]) rfl rfl rfl rfl (by decide) (c_X6_outside l D g H.size p0 1 4) (va_cwS 3 hts gX6_law_X6_outside rfl rfl rfl (by decide +kernel) ⟨(Nat.le_of_ble_eq_true rfl), (Nat.le_of_ble_eq_true rfl)⟩) rfl hl.1 rfl (Nat.le_of_ble_eq_true rfl) dX6_law_3 ⟨(Nat.le_of_ble_eq_true rfl), (Nat.le_of_ble_eq_true rfl)⟩ (fun r_1 u H locs hw hP hD hS => ?_)
  obtain ⟨rfl, rfl⟩ := hw
  have hP : va_P D vwCl [(x, .inr (6, [.ref xt, .int tl, .ref xr, .ref xd, .ref xn, .ref xa, .ref xs, .ref xy, .int zld]))] H := hP
  have hD : va_D A [(x, .inr (6, [.ref xt, .int tl, .ref xr, .ref xd, .ref xn, .ref xa, .ref xs, .ref xy, .int zld]))] := hD
  refine W.widen (k := 0) (n := 0) (Nat.le_of_ble_eq_true rfl) (Nat.le_of_ble_eq_true rfl) ?_
  refine lv_if_ne (tgt := 28) hx hb dX6_law_6 (by decide) (fun cb_2 => ?_) (fun cb_2 => ?_)
  · skip
    refine lv_iconst (v := (-1)) hx hb dX6_law_28 (by decide) ?_
    have hP9 := hP.sub (ws' := [(x, .inr (6, [.ref xt, .int tl, .ref xr, .ref xd, .ref xn, .ref xa, .ref xs, .ref xy, .int zld]))]) [0] rfl
    have hD9 := hD.sub (ws' := [(x, .inr (6, [.ref xt, .int tl, .ref xr, .ref xd, .ref xn, .ref xa, .ref xs, .ref xy, .int zld]))]) [0] (by decide) rfl
    subst hQ
    refine W.widen (k := 0) (n := 0) (Nat.le_of_ble_eq_true rfl) (Nat.le_of_ble_eq_true rfl) ?_
    exact W.iret (v := (-1)) hx hb hr (fun tS htS _ => ⟨⟨_, _, rfl, ⟨rfl, (if_pos (Or.inl (b01_1.mp cb_2))).symm⟩, by rw [htS]; exact hP9, hD9⟩, hS.F htS⟩) hS.2.2 dX6_law_29
  · skip
    refine lv_iload_n hx hb dX6_law_9 rfl (lv_at hl 2 rfl) ?_
    refine lv_iconst (v := 1) hx hb dX6_law_10 (by decide) ?_
    refine lv_iconst (v := 4) hx hb dX6_law_11 (by decide) ?_
    refine ky_Si (As := [.int p1, .int 1, .int 4]) (rest := []) ⟨hx, hb, hml, hown, hts⟩ ⟨hK, hN⟩ hZ hP hD hS hA [] [0] (wc := []) (wr := [(x, .inr (6, [.ref xt, .int tl, .ref xr, .ref xd, .ref xn, .ref xa, .ref xs, .ref xy, .int zld]))]) rfl rfl rfl rfl (by decide) (c_X6_outside l D g H.size p1 1 4) (va_cwS 3 hts gX6_law_X6_outside rfl rfl rfl (by decide +kernel) ⟨(Nat.le_of_ble_eq_true rfl), (Nat.le_of_ble_eq_true rfl)⟩) rfl hl.1 rfl (Nat.le_of_ble_eq_true rfl) dX6_law_12 ⟨(Nat.le_of_ble_eq_true rfl), (Nat.le_of_ble_eq_true rfl)⟩ (fun r_3 u H locs hw hP hD hS => ?_)
    obtain ⟨rfl, rfl⟩ := hw
    have hP : va_P D vwCl [(x, .inr (6, [.ref xt, .int tl, .ref xr, .ref xd, .ref xn, .ref xa, .ref xs, .ref xy, .int zld]))] H := hP
    have hD : va_D A [(x, .inr (6, [.ref xt, .int tl, .ref xr, .ref xd, .ref xn, .ref xa, .ref xs, .ref xy, .int zld]))] := hD
    refine W.widen (k := 0) (n := 0) (Nat.le_of_ble_eq_true rfl) (Nat.le_of_ble_eq_true rfl) ?_
    refine lv_if_ne (tgt := 28) hx hb dX6_law_15 (by decide) (fun cb_4 => ?_) (fun cb_4 => ?_)
    · skip
      refine lv_iconst (v := (-1)) hx hb dX6_law_28 (by decide) ?_
      have hP9 := hP.sub (ws' := [(x, .inr (6, [.ref xt, .int tl, .ref xr, .ref xd, .ref xn, .ref xa, .ref xs, .ref xy, .int zld]))]) [0] rfl
      have hD9 := hD.sub (ws' := [(x, .inr (6, [.ref xt, .int tl, .ref xr, .ref xd, .ref xn, .ref xa, .ref xs, .ref xy, .int zld]))]) [0] (by decide) rfl
      subst hQ
      refine W.widen (k := 0) (n := 0) (Nat.le_of_ble_eq_true rfl) (Nat.le_of_ble_eq_true rfl) ?_
      exact W.iret (v := (-1)) hx hb hr (fun tS htS _ => ⟨⟨_, _, rfl, ⟨rfl, (if_pos (Or.inr (Or.inl (b01_1.mp cb_4)))).symm⟩, by rw [htS]; exact hP9, hD9⟩, hS.F htS⟩) hS.2.2 dX6_law_29
    · skip
      refine lv_iload_n hx hb dX6_law_18 rfl (lv_at hl 3 rfl) ?_
      refine lv_iconst (v := 1) hx hb dX6_law_19 (by decide) ?_
      refine lv_bipush (v := 9) hx hb dX6_law_20 (by decide) ?_
      refine ky_Si (As := [.int p2, .int 1, .int 9]) (rest := []) ⟨hx, hb, hml, hown, hts⟩ ⟨hK, hN⟩ hZ hP hD hS hA [] [0] (wc := []) (wr := [(x, .inr (6, [.ref xt, .int tl, .ref xr, .ref xd, .ref xn, .ref xa, .ref xs, .ref xy, .int zld]))]) rfl rfl rfl rfl (by decide) (c_X6_outside l D g H.size p2 1 9) (va_cwS 3 hts gX6_law_X6_outside rfl rfl rfl (by decide +kernel) ⟨(Nat.le_of_ble_eq_true rfl), (Nat.le_of_ble_eq_true rfl)⟩) rfl hl.1 rfl (Nat.le_of_ble_eq_true rfl) dX6_law_22 ⟨(Nat.le_of_ble_eq_true rfl), (Nat.le_of_ble_eq_true rfl)⟩ (fun r_5 u H locs hw hP hD hS => ?_)
      obtain ⟨rfl, rfl⟩ := hw
      have hP : va_P D vwCl [(x, .inr (6, [.ref xt, .int tl, .ref xr, .ref xd, .ref xn, .ref xa, .ref xs, .ref xy, .int zld]))] H := hP
      have hD : va_D A [(x, .inr (6, [.ref xt, .int tl, .ref xr, .ref xd, .ref xn, .ref xa, .ref xs, .ref xy, .int zld]))] := hD
      refine W.widen (k := 0) (n := 0) (Nat.le_of_ble_eq_true rfl) (Nat.le_of_ble_eq_true rfl) ?_
      refine lv_if_eq (tgt := 30) hx hb dX6_law_25 (by decide) (fun cb_6 => ?_) (fun cb_6 => ?_)
      · skip
        refine lv_iconst (v := 2) hx hb dX6_law_30 (by decide) ?_
        refine lv_iload_n hx hb dX6_law_31 rfl (lv_at hl 1 rfl) ?_
        refine lv_imul hx hb dX6_law_32 ?_
        refine lv_iload_n hx hb dX6_law_33 rfl (lv_at hl 3 rfl) ?_
        refine lv_iadd hx hb dX6_law_34 ?_
        refine lv_iconst (v := 1) hx hb dX6_law_35 (by decide) ?_
        refine lv_isub hx hb dX6_law_36 ?_
        refine lv_iload_n hx hb dX6_law_37 rfl (lv_at hl 3 rfl) ?_
        refine lv_idiv hx hb dX6_law_38 (lw_nz (b01_0.mp cb_6)) ?_
        refine lv_iload_n hx hb dX6_law_39 rfl (lv_at hl 2 rfl) ?_
        refine lv_iadd hx hb dX6_law_40 ?_
        refine lv_iconst (v := 1) hx hb dX6_law_41 (by decide) ?_
        refine lv_isub hx hb dX6_law_42 ?_
        have hP9 := hP.sub (ws' := [(x, .inr (6, [.ref xt, .int tl, .ref xr, .ref xd, .ref xn, .ref xa, .ref xs, .ref xy, .int zld]))]) [0] rfl
        have hD9 := hD.sub (ws' := [(x, .inr (6, [.ref xt, .int tl, .ref xr, .ref xd, .ref xn, .ref xa, .ref xs, .ref xy, .int zld]))]) [0] (by decide) rfl
        subst hQ
        refine W.widen (k := 0) (n := 0) (Nat.le_of_ble_eq_true rfl) (Nat.le_of_ble_eq_true rfl) ?_
        exact W.iret (v := ((((((2 * p0) + p2) - 1) / p2) + p1) - 1)) hx hb hr (fun tS htS _ => ⟨⟨_, _, rfl, ⟨rfl, (if_neg (fun h => h.elim (b01_0.mp cb_2) (fun h => h.elim (b01_0.mp cb_4) (b01_0.mp cb_6)))).symm⟩, by rw [htS]; exact hP9, hD9⟩, hS.F htS⟩) hS.2.2 dX6_law_43
      · skip
        refine lv_iconst (v := (-1)) hx hb dX6_law_28 (by decide) ?_
        have hP9 := hP.sub (ws' := [(x, .inr (6, [.ref xt, .int tl, .ref xr, .ref xd, .ref xn, .ref xa, .ref xs, .ref xy, .int zld]))]) [0] rfl
        have hD9 := hD.sub (ws' := [(x, .inr (6, [.ref xt, .int tl, .ref xr, .ref xd, .ref xn, .ref xa, .ref xs, .ref xy, .int zld]))]) [0] (by decide) rfl
        subst hQ
        refine W.widen (k := 0) (n := 0) (Nat.le_of_ble_eq_true rfl) (Nat.le_of_ble_eq_true rfl) ?_
        exact W.iret (v := (-1)) hx hb hr (fun tS htS _ => ⟨⟨_, _, rfl, ⟨rfl, (if_pos (Or.inr (Or.inr (b01_1.mp cb_6)))).symm⟩, by rw [htS]; exact hP9, hD9⟩, hS.F htS⟩) hS.2.2 dX6_law_29
set_option maxHeartbeats 4000000 in
set_option maxRecDepth 100000 in
theorem c_X7_law (l : Launch) (D : va_G) (g : Nat → ClassId) (sz : Nat) (m_ : Nat) (th : Int32) (mt : Nat) (tp : Int32) (pa_ : Int32) (wr : Int32) (mrr : Nat) (mrh : Nat) (mrc : Nat) (rh : Int32) (rc : Int32) (mn : Nat) (mf : Nat) (mr : Nat) (mh : Nat) (hz : Int32) (cz : Int32) (ma : Nat) (mas : Nat) (msn : Nat) (mac : Nat) (mat : Nat) (p0 : Int32) (p1 : Int32) (p2 : Int32) : Met l yX7_law wsX7_law ({ frames := 3, cells := 0, slots := 0, locals := 66 }) (va_Pc [.ref m_, .int p0, .int p1, .int p2] (pre D g sz [(m_, .inr (7, [.int th, .ref mt, .int tp, .int pa_, .int wr, .ref mrr, .ref mrh, .ref mrc, .int rh, .int rc, .ref mn, .ref mf, .ref mr, .ref mh, .int hz, .int cz, .ref ma, .ref mas, .ref msn, .ref mac, .ref mat]))])) (va_Qi (fun (r : Int32) (u : va_W) => u = [(m_, .inr (7, [.int 0, .ref mt, .int tp, .int pa_, .int wr, .ref mrr, .ref mrh, .ref mrc, .int rh, .int rc, .ref mn, .ref mf, .ref mr, .ref mh, .int hz, .int cz, .ref ma, .ref mas, .ref msn, .ref mac, .ref mat]))] ∧ r = (if (1 ≤ p0 ∧ p0 ≤ 4) ∧ (1 ≤ p1 ∧ p1 ≤ 4) ∧ (1 ≤ p2 ∧ p2 ≤ 9) then ((((((2 * p0) + p2) - 1) / p2) + p1) - 1) else (-1))) (wd D (va_A [(m_, .inr (7, [.int th, .ref mt, .int tp, .int pa_, .int wr, .ref mrr, .ref mrh, .ref mrc, .int rh, .int rc, .ref mn, .ref mf, .ref mr, .ref mh, .int hz, .int cz, .ref ma, .ref mas, .ref msn, .ref mac, .ref mat]))] sz)) (va_A [(m_, .inr (7, [.int th, .ref mt, .int tp, .int pa_, .int wr, .ref mrr, .ref mrh, .ref mrc, .int rh, .int rc, .ref mn, .ref mf, .ref mr, .ref mh, .int hz, .int cz, .ref ma, .ref mas, .ref msn, .ref mac, .ref mat]))] sz)) 0 0 (va_A [(m_, .inr (7, [.int th, .ref mt, .int tp, .int pa_, .int wr, .ref mrr, .ref mrh, .ref mrc, .int rh, .int rc, .ref mn, .ref mf, .ref mr, .ref mh, .int hz, .int cz, .ref ma, .ref mas, .ref msn, .ref mac, .ref mat]))] sz) := by
  refine Met.ofW (cc := cX7_law) (maxL := 4) (ret := (some .int)) (by decide) rfl ?_
  intro p e s m args below meth c s₁ B hml hv
  obtain ⟨rfl, hsz, hP, ⟨hK, hN⟩, hD0, hZ⟩ := hv
  have hx := B.exec
  have hb := B.bytes
  have hr := B.returns
  have hts := atoms_spec (ws := wsX7_law) B.pre
  have hown : s.vm.findClass RX7 = some m.cls := findClass_of_methodNamed B.named
  have hlocks := B.notSynchronized
  clear B
  subst hsz
  have hD := hD0.self (sz := s.heap.size)
  clear hD0
  generalize hAe : va_A [(m_, .inr (7, [.int th, .ref mt, .int tp, .int pa_, .int wr, .ref mrr, .ref mrh, .ref mrc, .int rh, .int rc, .ref mn, .ref mf, .ref mr, .ref mh, .int hz, .int cz, .ref ma, .ref mas, .ref msn, .ref mac, .ref mat]))] s.heap.size = A at hD hZ ⊢
  have hA : ∀ q : Nat, s.heap.size ≤ q → A q := fun q h => by rw [← hAe]; exact Or.inr h
  have hS : va_S A s.heap s.heap [] := va_S.rf
  have f49 := hts (.fieldLink RX7 49 "HopCreditsModel" "thrown" "I") (by decide +kernel)
  have iX7 : ∀ w ∈ u_ws RX7 TX7 21, w ∈ wsX7_law := by decide +kernel
  have hl := lv_entry ([.ref m_, .int p0, .int p1, .int p2]) (n := 4) (Nat.le_of_ble_eq_true rfl)
  rw [lg_entry_eq]
  generalize (lg_sl ([.ref m_, .int p0, .int p1, .int p2]) ++ List.replicate (4 - (lg_sl ([.ref m_, .int p0, .int p1, .int p2])).length) Slot.unset).toArray = ls at hl ⊢
  have hl : lv_has ls 4 [(0, .ref m_), (1, .int p0), (2, .int p1), (3, .int p2)] := hl
  generalize hQ : MQ below _ _ s _ _ _ = Q
  generalize hH : s.heap = H at hP ⊢
  have hS : va_S A s.heap H [] := by rw [← hH]; exact hS
  clear hH
  refine lv_aload_n hx hb dX7_law_0 rfl (lv_at hl 0 rfl) ?_
  refine lv_iconst (v := 0) hx hb dX7_law_1 (by decide) ?_
  refine va_put (D := D) (ci := 7) (v := .int 0) (ty := .int) (C := RX7) (T := TX7) (N := 21) hx hb hts iX7 tyX7 tyX7_ok nmX7 hown hK hP hD hS 0 rfl rfl 0 (by decide) f49 (fun _ h9 => h9) rfl (by decide +kernel) (rfl) (rfl) (Nat.le_of_ble_eq_true rfl) dX7_law_2 (fun H locs hP hD hS => ?_)
  have hP : va_P D vwCl [(m_, .inr (7, [.int 0, .ref mt, .int tp, .int pa_, .int wr, .ref mrr, .ref mrh, .ref mrc, .int rh, .int rc, .ref mn, .ref mf, .ref mr, .ref mh, .int hz, .int cz, .ref ma, .ref mas, .ref msn, .ref mac, .ref mat]))] H := hP
  have hD : va_D A [(m_, .inr (7, [.int 0, .ref mt, .int tp, .int pa_, .int wr, .ref mrr, .ref mrh, .ref mrc, .int rh, .int rc, .ref mn, .ref mf, .ref mr, .ref mh, .int hz, .int cz, .ref ma, .ref mas, .ref msn, .ref mac, .ref mat]))] := hD
  refine lv_iload_n hx hb dX7_law_5 rfl (lv_at hl 1 rfl) ?_
  refine lv_iload_n hx hb dX7_law_6 rfl (lv_at hl 2 rfl) ?_
  refine lv_iconst (v := 1) hx hb dX7_law_7 (by decide) ?_
  refine lv_iconst (v := 1) hx hb dX7_law_8 (by decide) ?_
  refine ky_Si (As := [.int p0, .int p1, .int 1, .int 1]) (rest := []) ⟨hx, hb, hml, hown, hts⟩ ⟨hK, hN⟩ hZ hP hD hS hA [] [0] (wc := []) (wr := [(m_, .inr (7, [.int 0, .ref mt, .int tp, .int pa_, .int wr, .ref mrr, .ref mrh, .ref mrc, .int rh, .int rc, .ref mn, .ref mf, .ref mr, .ref mh, .int hz, .int cz, .ref ma, .ref mas, .ref msn, .ref mac, .ref mat]))]) rfl rfl rfl rfl (by decide) (c_X7_isAlone l D g H.size p0 p1 1 1) (va_cwS 4 hts gX7_law_X7_isAlone rfl rfl rfl (by decide +kernel) ⟨(Nat.le_of_ble_eq_true rfl), (Nat.le_of_ble_eq_true rfl)⟩) rfl hl.1 rfl (Nat.le_of_ble_eq_true rfl) dX7_law_9 ⟨(Nat.le_of_ble_eq_true rfl), (Nat.le_of_ble_eq_true rfl)⟩ (fun r_1 u H locs hw hP hD hS => ?_)
  obtain ⟨rfl, rfl⟩ := hw
  have hP : va_P D vwCl [(m_, .inr (7, [.int 0, .ref mt, .int tp, .int pa_, .int wr, .ref mrr, .ref mrh, .ref mrc, .int rh, .int rc, .ref mn, .ref mf, .ref mr, .ref mh, .int hz, .int cz, .ref ma, .ref mas, .ref msn, .ref mac, .ref mat]))] H := hP
  have hD : va_D A [(m_, .inr (7, [.int 0, .ref mt, .int tp, .int pa_, .int wr, .ref mrr, .ref mrh, .ref mrc, .int rh, .int rc, .ref mn, .ref mf, .ref mr, .ref mh, .int hz, .int cz, .ref ma, .ref mas, .ref msn, .ref mac, .ref mat]))] := hD
  refine W.widen (k := 0) (n := 0) (Nat.le_of_ble_eq_true rfl) (Nat.le_of_ble_eq_true rfl) ?_
  refine lv_if_eq (tgt := 41) hx hb dX7_law_12 (by decide) (fun cb_2 => ?_) (fun cb_2 => ?_)
  · skip
    refine lv_iconst (v := (-1)) hx hb dX7_law_41 (by decide) ?_
    have hP9 := hP.sub (ws' := [(m_, .inr (7, [.int 0, .ref mt, .int tp, .int pa_, .int wr, .ref mrr, .ref mrh, .ref mrc, .int rh, .int rc, .ref mn, .ref mf, .ref mr, .ref mh, .int hz, .int cz, .ref ma, .ref mas, .ref msn, .ref mac, .ref mat]))]) [0] rfl
    have hD9 := hD.sub (ws' := [(m_, .inr (7, [.int 0, .ref mt, .int tp, .int pa_, .int wr, .ref mrr, .ref mrh, .ref mrc, .int rh, .int rc, .ref mn, .ref mf, .ref mr, .ref mh, .int hz, .int cz, .ref ma, .ref mas, .ref msn, .ref mac, .ref mat]))]) [0] (by decide) rfl
    subst hQ
    refine W.widen (k := 0) (n := 0) (Nat.le_of_ble_eq_true rfl) (Nat.le_of_ble_eq_true rfl) ?_
    exact W.iret (v := (-1)) hx hb hr (fun tS htS _ => ⟨⟨_, _, rfl, ⟨rfl, (if_neg (fun h => absurd ⟨h.1, h.2.1, by decide, by decide⟩ (b01_0.mp cb_2))).symm⟩, by rw [htS]; exact hP9, hD9⟩, hS.F htS⟩) hS.2.2 dX7_law_42
  · skip
    refine lv_iload_n hx hb dX7_law_15 rfl (lv_at hl 3 rfl) ?_
    refine lv_iconst (v := 1) hx hb dX7_law_16 (by decide) ?_
    refine lv_bipush (v := 9) hx hb dX7_law_17 (by decide) ?_
    refine ky_Si (As := [.int p2, .int 1, .int 9]) (rest := []) ⟨hx, hb, hml, hown, hts⟩ ⟨hK, hN⟩ hZ hP hD hS hA [] [0] (wc := []) (wr := [(m_, .inr (7, [.int 0, .ref mt, .int tp, .int pa_, .int wr, .ref mrr, .ref mrh, .ref mrc, .int rh, .int rc, .ref mn, .ref mf, .ref mr, .ref mh, .int hz, .int cz, .ref ma, .ref mas, .ref msn, .ref mac, .ref mat]))]) rfl rfl rfl rfl (by decide) (c_X7_in l D g H.size p2 1 9) (va_cwS 3 hts gX7_law_X7_in rfl rfl rfl (by decide +kernel) ⟨(Nat.le_of_ble_eq_true rfl), (Nat.le_of_ble_eq_true rfl)⟩) rfl hl.1 rfl (Nat.le_of_ble_eq_true rfl) dX7_law_19 ⟨(Nat.le_of_ble_eq_true rfl), (Nat.le_of_ble_eq_true rfl)⟩ (fun r_3 u H locs hw hP hD hS => ?_)
    obtain ⟨rfl, rfl⟩ := hw
    have hP : va_P D vwCl [(m_, .inr (7, [.int 0, .ref mt, .int tp, .int pa_, .int wr, .ref mrr, .ref mrh, .ref mrc, .int rh, .int rc, .ref mn, .ref mf, .ref mr, .ref mh, .int hz, .int cz, .ref ma, .ref mas, .ref msn, .ref mac, .ref mat]))] H := hP
    have hD : va_D A [(m_, .inr (7, [.int 0, .ref mt, .int tp, .int pa_, .int wr, .ref mrr, .ref mrh, .ref mrc, .int rh, .int rc, .ref mn, .ref mf, .ref mr, .ref mh, .int hz, .int cz, .ref ma, .ref mas, .ref msn, .ref mac, .ref mat]))] := hD
    refine W.widen (k := 0) (n := 0) (Nat.le_of_ble_eq_true rfl) (Nat.le_of_ble_eq_true rfl) ?_
    refine lv_if_eq (tgt := 41) hx hb dX7_law_22 (by decide) (fun cb_4 => ?_) (fun cb_4 => ?_)
    · skip
      refine lv_iconst (v := (-1)) hx hb dX7_law_41 (by decide) ?_
      have hP9 := hP.sub (ws' := [(m_, .inr (7, [.int 0, .ref mt, .int tp, .int pa_, .int wr, .ref mrr, .ref mrh, .ref mrc, .int rh, .int rc, .ref mn, .ref mf, .ref mr, .ref mh, .int hz, .int cz, .ref ma, .ref mas, .ref msn, .ref mac, .ref mat]))]) [0] rfl
      have hD9 := hD.sub (ws' := [(m_, .inr (7, [.int 0, .ref mt, .int tp, .int pa_, .int wr, .ref mrr, .ref mrh, .ref mrc, .int rh, .int rc, .ref mn, .ref mf, .ref mr, .ref mh, .int hz, .int cz, .ref ma, .ref mas, .ref msn, .ref mac, .ref mat]))]) [0] (by decide) rfl
      subst hQ
      refine W.widen (k := 0) (n := 0) (Nat.le_of_ble_eq_true rfl) (Nat.le_of_ble_eq_true rfl) ?_
      exact W.iret (v := (-1)) hx hb hr (fun tS htS _ => ⟨⟨_, _, rfl, ⟨rfl, (if_neg (fun h => absurd h.2.2 (b01_0.mp cb_4))).symm⟩, by rw [htS]; exact hP9, hD9⟩, hS.F htS⟩) hS.2.2 dX7_law_42
    · skip
      refine lv_iconst (v := 2) hx hb dX7_law_25 (by decide) ?_
      refine lv_iload_n hx hb dX7_law_26 rfl (lv_at hl 1 rfl) ?_
      refine lv_imul hx hb dX7_law_27 ?_
      refine lv_iload_n hx hb dX7_law_28 rfl (lv_at hl 3 rfl) ?_
      refine lv_iadd hx hb dX7_law_29 ?_
      refine lv_iconst (v := 1) hx hb dX7_law_30 (by decide) ?_
      refine lv_isub hx hb dX7_law_31 ?_
      refine lv_iload_n hx hb dX7_law_32 rfl (lv_at hl 3 rfl) ?_
      refine lv_idiv hx hb dX7_law_33 (lw_nz2 (b01_1.mp cb_4)) ?_
      refine lv_iload_n hx hb dX7_law_34 rfl (lv_at hl 2 rfl) ?_
      refine lv_iadd hx hb dX7_law_35 ?_
      refine lv_iconst (v := 1) hx hb dX7_law_36 (by decide) ?_
      refine lv_isub hx hb dX7_law_37 ?_
      refine lv_goto (tgt := 42) hx hb dX7_law_38 (by decide) ?_
      have hP9 := hP.sub (ws' := [(m_, .inr (7, [.int 0, .ref mt, .int tp, .int pa_, .int wr, .ref mrr, .ref mrh, .ref mrc, .int rh, .int rc, .ref mn, .ref mf, .ref mr, .ref mh, .int hz, .int cz, .ref ma, .ref mas, .ref msn, .ref mac, .ref mat]))]) [0] rfl
      have hD9 := hD.sub (ws' := [(m_, .inr (7, [.int 0, .ref mt, .int tp, .int pa_, .int wr, .ref mrr, .ref mrh, .ref mrc, .int rh, .int rc, .ref mn, .ref mf, .ref mr, .ref mh, .int hz, .int cz, .ref ma, .ref mas, .ref msn, .ref mac, .ref mat]))]) [0] (by decide) rfl
      subst hQ
      refine W.widen (k := 0) (n := 0) (Nat.le_of_ble_eq_true rfl) (Nat.le_of_ble_eq_true rfl) ?_
      exact W.iret (v := ((((((2 * p0) + p2) - 1) / p2) + p1) - 1)) hx hb hr (fun tS htS _ => ⟨⟨_, _, rfl, ⟨rfl, (if_pos ⟨(b01_1.mp cb_2).1, (b01_1.mp cb_2).2.1, b01_1.mp cb_4⟩).symm⟩, by rw [htS]; exact hP9, hD9⟩, hS.F htS⟩) hS.2.2 dX7_law_42
theorem law_eq (p0 p1 p2 : Int32) : (if (p0 < 1 ∨ 4 < p0) ∨ (p1 < 1 ∨ 4 < p1) ∨ (p2 < 1 ∨ 9 < p2) then (-1 : Int32) else ((((((2 * p0) + p2) - 1) / p2) + p1) - 1)) = (if (1 ≤ p0 ∧ p0 ≤ 4) ∧ (1 ≤ p1 ∧ p1 ≤ 4) ∧ (1 ≤ p2 ∧ p2 ≤ 9) then ((((((2 * p0) + p2) - 1) / p2) + p1) - 1) else (-1)) := by
  by_cases h : (1 ≤ p0 ∧ p0 ≤ 4) ∧ (1 ≤ p1 ∧ p1 ≤ 4) ∧ (1 ≤ p2 ∧ p2 ≤ 9)
  · rw [if_pos h, if_neg (fun q => q.elim (in_out h.1) (fun q => q.elim (in_out h.2.1) (in_out h.2.2)))]
  · rw [if_neg h]
    exact if_pos (Classical.byContradiction (fun q => h ⟨out_in (fun r => q (Or.inl r)), out_in (fun r => q (Or.inr (Or.inl r))), out_in (fun r => q (Or.inr (Or.inr r)))⟩))

