set_option maxHeartbeats 4000000 in
set_option maxRecDepth 100000 in
theorem c_X6_status (l : Launch) (D : va_G) (g : Nat → ClassId) (sz : Nat) (x : Nat) (xt : Nat) (tl : Int32) (xr : Nat) (xd : Nat) (xn : Nat) (xa : Nat) (xs : Nat) (xy : Nat) (p0 : Int32) : Met l yX6_status wsX6_status ({ frames := 1, cells := 0, slots := 0, locals := 22 }) (va_Pc [.ref x, .int p0] (pre D g sz [(x, .inr (6, [.ref xt, .int tl, .ref xr, .ref xd, .ref xn, .ref xa, .ref xs, .ref xy, .int 0])), (xr, .inl (g 0, 4, .inl (fun _ => 0)))])) (va_Qi (fun (r : Int32) (u : va_W) => u = [(x, .inr (6, [.ref xt, .int tl, .ref xr, .ref xd, .ref xn, .ref xa, .ref xs, .ref xy, .int 0])), (xr, .inl (g 0, 4, .inl (fun _ => 0)))] ∧ r = (if p0 < 0 ∨ 3 < p0 then (-1) else 0)) (wd D (va_A [(x, .inr (6, [.ref xt, .int tl, .ref xr, .ref xd, .ref xn, .ref xa, .ref xs, .ref xy, .int 0])), (xr, .inl (g 0, 4, .inl (fun _ => 0)))] sz)) (va_A [(x, .inr (6, [.ref xt, .int tl, .ref xr, .ref xd, .ref xn, .ref xa, .ref xs, .ref xy, .int 0])), (xr, .inl (g 0, 4, .inl (fun _ => 0)))] sz)) 0 0 (va_A [(x, .inr (6, [.ref xt, .int tl, .ref xr, .ref xd, .ref xn, .ref xa, .ref xs, .ref xy, .int 0])), (xr, .inl (g 0, 4, .inl (fun _ => 0)))] sz) := by
  refine Met.ofW (cc := cX6_status) (maxL := 2) (ret := (some .int)) (by decide) rfl ?_
  intro p e s m args below meth c s₁ B hml hv
  obtain ⟨rfl, hsz, hP, ⟨hK, hN⟩, hD0, hZ⟩ := hv
  have hx := B.exec
  have hb := B.bytes
  have hr := B.returns
  have hts := atoms_spec (ws := wsX6_status) B.pre
  have hown : s.vm.findClass RX6 = some m.cls := findClass_of_methodNamed B.named
  have hlocks := B.notSynchronized
  clear B
  subst hsz
  have hD := hD0.self (sz := s.heap.size)
  clear hD0
  generalize hAe : va_A [(x, .inr (6, [.ref xt, .int tl, .ref xr, .ref xd, .ref xn, .ref xa, .ref xs, .ref xy, .int 0])), (xr, .inl (g 0, 4, .inl (fun _ => 0)))] s.heap.size = A at hD hZ ⊢
  have hA : ∀ q : Nat, s.heap.size ≤ q → A q := fun q h => by rw [← hAe]; exact Or.inr h
  have hS : va_S A s.heap s.heap [] := va_S.rf
  have f13 := hts (.fieldLink RX6 13 "HopCredits" "refused" "[I") (by decide +kernel)
  have iX6 : ∀ w ∈ u_ws RX6 TX6 9, w ∈ wsX6_status := by decide +kernel
  have hl := lv_entry ([.ref x, .int p0]) (n := 2) (Nat.le_of_ble_eq_true rfl)
  rw [lg_entry_eq]
  generalize (lg_sl ([.ref x, .int p0]) ++ List.replicate (2 - (lg_sl ([.ref x, .int p0])).length) Slot.unset).toArray = ls at hl ⊢
  have hl : lv_has ls 2 [(0, .ref x), (1, .int p0)] := hl
  generalize hQ : MQ below _ _ s _ _ _ = Q
  generalize hH : s.heap = H at hP ⊢
  have hS : va_S A s.heap H [] := by rw [← hH]; exact hS
  clear hH
  refine lv_iload_n hx hb dX6_status_0 rfl (lv_at hl 1 rfl) ?_
  refine lv_iconst (v := 0) hx hb dX6_status_1 (by decide) ?_
  refine lv_iconst (v := 3) hx hb dX6_status_2 (by decide) ?_
  refine ky_Si (As := [.int p0, .int 0, .int 3]) (rest := []) ⟨hx, hb, hml, hown, hts⟩ ⟨hK, hN⟩ hZ hP hD hS hA [] [0, 1] (wc := []) (wr := [(x, .inr (6, [.ref xt, .int tl, .ref xr, .ref xd, .ref xn, .ref xa, .ref xs, .ref xy, .int 0])), (xr, .inl (g 0, 4, .inl (fun _ => 0)))]) rfl rfl rfl rfl (by decide) (c_X6_outside l D g H.size p0 0 3) (va_cwS 3 hts gX6_status_X6_outside rfl rfl rfl (by decide +kernel) ⟨(Nat.le_of_ble_eq_true rfl), (Nat.le_of_ble_eq_true rfl)⟩) rfl hl.1 rfl (Nat.le_of_ble_eq_true rfl) dX6_status_3 ⟨(Nat.le_of_ble_eq_true rfl), (Nat.le_of_ble_eq_true rfl)⟩ (fun r_1 u H locs hw hP hD hS => ?_)
  obtain ⟨rfl, rfl⟩ := hw
  have hP : va_P D vwCl [(x, .inr (6, [.ref xt, .int tl, .ref xr, .ref xd, .ref xn, .ref xa, .ref xs, .ref xy, .int 0])), (xr, .inl (g 0, 4, .inl (fun _ => 0)))] H := hP
  have hD : va_D A [(x, .inr (6, [.ref xt, .int tl, .ref xr, .ref xd, .ref xn, .ref xa, .ref xs, .ref xy, .int 0])), (xr, .inl (g 0, 4, .inl (fun _ => 0)))] := hD
  refine W.widen (k := 0) (n := 0) (Nat.le_of_ble_eq_true rfl) (Nat.le_of_ble_eq_true rfl) ?_
  refine lv_if_eq (tgt := 13) hx hb dX6_status_6 (by decide) (fun cb_2 => ?_) (fun cb_2 => ?_)
  · skip
    refine lv_aload_n hx hb dX6_status_13 rfl (lv_at hl 0 rfl) ?_
    refine va_get (D := D) (ci := 6) (v := .ref xr) (C := RX6) (T := TX6) (N := 9) hx hb hts iX6 hown hK hP 0 rfl rfl 2 (by decide) f13 (fun _ h9 => h9) rfl dX6_status_14 ?_
    refine lv_iload_n hx hb dX6_status_17 rfl (lv_at hl 1 rfl) ?_
    refine va_iald hx hb hK hP 1 0 rfl rfl (st_in cb_2) dX6_status_18 ?_
    refine lv_eqi (y := 0) (rfl) ?_
    have hP9 := hP.sub (ws' := [(x, .inr (6, [.ref xt, .int tl, .ref xr, .ref xd, .ref xn, .ref xa, .ref xs, .ref xy, .int 0])), (xr, .inl (g 0, 4, .inl (fun _ => 0)))]) [0, 1] rfl
    have hD9 := hD.sub (ws' := [(x, .inr (6, [.ref xt, .int tl, .ref xr, .ref xd, .ref xn, .ref xa, .ref xs, .ref xy, .int 0])), (xr, .inl (g 0, 4, .inl (fun _ => 0)))]) [0, 1] (by decide) rfl
    subst hQ
    refine W.widen (k := 0) (n := 0) (Nat.le_of_ble_eq_true rfl) (Nat.le_of_ble_eq_true rfl) ?_
    exact W.iret (v := 0) hx hb hr (fun tS htS _ => ⟨⟨_, _, rfl, ⟨rfl, (if_neg (b01_0.mp cb_2)).symm⟩, by rw [htS]; exact hP9, hD9⟩, hS.F htS⟩) hS.2.2 dX6_status_19
  · skip
    refine lv_iconst (v := (-1)) hx hb dX6_status_9 (by decide) ?_
    refine lv_goto (tgt := 19) hx hb dX6_status_10 (by decide) ?_
    have hP9 := hP.sub (ws' := [(x, .inr (6, [.ref xt, .int tl, .ref xr, .ref xd, .ref xn, .ref xa, .ref xs, .ref xy, .int 0])), (xr, .inl (g 0, 4, .inl (fun _ => 0)))]) [0, 1] rfl
    have hD9 := hD.sub (ws' := [(x, .inr (6, [.ref xt, .int tl, .ref xr, .ref xd, .ref xn, .ref xa, .ref xs, .ref xy, .int 0])), (xr, .inl (g 0, 4, .inl (fun _ => 0)))]) [0, 1] (by decide) rfl
    subst hQ
    refine W.widen (k := 0) (n := 0) (Nat.le_of_ble_eq_true rfl) (Nat.le_of_ble_eq_true rfl) ?_
    exact W.iret (v := (-1)) hx hb hr (fun tS htS _ => ⟨⟨_, _, rfl, ⟨rfl, (if_pos (b01_1.mp cb_2)).symm⟩, by rw [htS]; exact hP9, hD9⟩, hS.F htS⟩) hS.2.2 dX6_status_19
set_option maxHeartbeats 4000000 in
set_option maxRecDepth 100000 in
theorem c_X7_status (l : Launch) (D : va_G) (g : Nat → ClassId) (sz : Nat) (m_ : Nat) (th : Int32) (mt : Nat) (tp : Int32) (pa_ : Int32) (wr : Int32) (mrr : Nat) (mrh : Nat) (mrc : Nat) (rh : Int32) (rc : Int32) (mn : Nat) (mf : Nat) (mr : Nat) (mh : Nat) (ma : Nat) (mas : Nat) (msn : Nat) (mac : Nat) (mat : Nat) (p0 : Int32) : Met l yX7_status wsX7_status ({ frames := 1, cells := 0, slots := 0, locals := 22 }) (va_Pc [.ref m_, .int p0] (pre D g sz [(m_, .inr (7, [.int th, .ref mt, .int tp, .int pa_, .int wr, .ref mrr, .ref mrh, .ref mrc, .int rh, .int rc, .ref mn, .ref mf, .ref mr, .ref mh, .int 0, .int 0, .ref ma, .ref mas, .ref msn, .ref mac, .ref mat])), (mf, .inl (g 0, 4, .inl (fun _ => 0)))])) (va_Qi (fun (r : Int32) (u : va_W) => u = [(m_, .inr (7, [.int 0, .ref mt, .int tp, .int pa_, .int wr, .ref mrr, .ref mrh, .ref mrc, .int rh, .int rc, .ref mn, .ref mf, .ref mr, .ref mh, .int 0, .int 0, .ref ma, .ref mas, .ref msn, .ref mac, .ref mat])), (mf, .inl (g 0, 4, .inl (fun _ => 0)))] ∧ r = (if 0 ≤ p0 ∧ p0 ≤ 3 then 0 else (-1))) (wd D (va_A [(m_, .inr (7, [.int th, .ref mt, .int tp, .int pa_, .int wr, .ref mrr, .ref mrh, .ref mrc, .int rh, .int rc, .ref mn, .ref mf, .ref mr, .ref mh, .int 0, .int 0, .ref ma, .ref mas, .ref msn, .ref mac, .ref mat])), (mf, .inl (g 0, 4, .inl (fun _ => 0)))] sz)) (va_A [(m_, .inr (7, [.int th, .ref mt, .int tp, .int pa_, .int wr, .ref mrr, .ref mrh, .ref mrc, .int rh, .int rc, .ref mn, .ref mf, .ref mr, .ref mh, .int 0, .int 0, .ref ma, .ref mas, .ref msn, .ref mac, .ref mat])), (mf, .inl (g 0, 4, .inl (fun _ => 0)))] sz)) 0 0 (va_A [(m_, .inr (7, [.int th, .ref mt, .int tp, .int pa_, .int wr, .ref mrr, .ref mrh, .ref mrc, .int rh, .int rc, .ref mn, .ref mf, .ref mr, .ref mh, .int 0, .int 0, .ref ma, .ref mas, .ref msn, .ref mac, .ref mat])), (mf, .inl (g 0, 4, .inl (fun _ => 0)))] sz) := by
  refine Met.ofW (cc := cX7_status) (maxL := 2) (ret := (some .int)) (by decide) rfl ?_
  intro p e s m args below meth c s₁ B hml hv
  obtain ⟨rfl, hsz, hP, ⟨hK, hN⟩, hD0, hZ⟩ := hv
  have hx := B.exec
  have hb := B.bytes
  have hr := B.returns
  have hts := atoms_spec (ws := wsX7_status) B.pre
  have hown : s.vm.findClass RX7 = some m.cls := findClass_of_methodNamed B.named
  have hlocks := B.notSynchronized
  clear B
  subst hsz
  have hD := hD0.self (sz := s.heap.size)
  clear hD0
  generalize hAe : va_A [(m_, .inr (7, [.int th, .ref mt, .int tp, .int pa_, .int wr, .ref mrr, .ref mrh, .ref mrc, .int rh, .int rc, .ref mn, .ref mf, .ref mr, .ref mh, .int 0, .int 0, .ref ma, .ref mas, .ref msn, .ref mac, .ref mat])), (mf, .inl (g 0, 4, .inl (fun _ => 0)))] s.heap.size = A at hD hZ ⊢
  have hA : ∀ q : Nat, s.heap.size ≤ q → A q := fun q h => by rw [← hAe]; exact Or.inr h
  have hS : va_S A s.heap s.heap [] := va_S.rf
  have f25 := hts (.fieldLink RX7 25 "HopCreditsModel" "refused" "[I") (by decide +kernel)
  have f49 := hts (.fieldLink RX7 49 "HopCreditsModel" "thrown" "I") (by decide +kernel)
  have iX7 : ∀ w ∈ u_ws RX7 TX7 21, w ∈ wsX7_status := by decide +kernel
  have hl := lv_entry ([.ref m_, .int p0]) (n := 2) (Nat.le_of_ble_eq_true rfl)
  rw [lg_entry_eq]
  generalize (lg_sl ([.ref m_, .int p0]) ++ List.replicate (2 - (lg_sl ([.ref m_, .int p0])).length) Slot.unset).toArray = ls at hl ⊢
  have hl : lv_has ls 2 [(0, .ref m_), (1, .int p0)] := hl
  generalize hQ : MQ below _ _ s _ _ _ = Q
  generalize hH : s.heap = H at hP ⊢
  have hS : va_S A s.heap H [] := by rw [← hH]; exact hS
  clear hH
  refine lv_aload_n hx hb dX7_status_0 rfl (lv_at hl 0 rfl) ?_
  refine lv_iconst (v := 0) hx hb dX7_status_1 (by decide) ?_
  refine va_put (D := D) (ci := 7) (v := .int 0) (ty := .int) (C := RX7) (T := TX7) (N := 21) hx hb hts iX7 tyX7 tyX7_ok nmX7 hown hK hP hD hS 0 rfl rfl 0 (by decide) f49 (fun _ h9 => h9) rfl (by decide +kernel) (rfl) (rfl) (Nat.le_of_ble_eq_true rfl) dX7_status_2 (fun H locs hP hD hS => ?_)
  have hP : va_P D vwCl [(m_, .inr (7, [.int 0, .ref mt, .int tp, .int pa_, .int wr, .ref mrr, .ref mrh, .ref mrc, .int rh, .int rc, .ref mn, .ref mf, .ref mr, .ref mh, .int 0, .int 0, .ref ma, .ref mas, .ref msn, .ref mac, .ref mat])), (mf, .inl (g 0, 4, .inl (fun _ => 0)))] H := hP
  have hD : va_D A [(m_, .inr (7, [.int 0, .ref mt, .int tp, .int pa_, .int wr, .ref mrr, .ref mrh, .ref mrc, .int rh, .int rc, .ref mn, .ref mf, .ref mr, .ref mh, .int 0, .int 0, .ref ma, .ref mas, .ref msn, .ref mac, .ref mat])), (mf, .inl (g 0, 4, .inl (fun _ => 0)))] := hD
  refine lv_iload_n hx hb dX7_status_5 rfl (lv_at hl 1 rfl) ?_
  refine lv_iconst (v := 0) hx hb dX7_status_6 (by decide) ?_
  refine lv_iconst (v := 3) hx hb dX7_status_7 (by decide) ?_
  refine ky_Si (As := [.int p0, .int 0, .int 3]) (rest := []) ⟨hx, hb, hml, hown, hts⟩ ⟨hK, hN⟩ hZ hP hD hS hA [] [0, 1] (wc := []) (wr := [(m_, .inr (7, [.int 0, .ref mt, .int tp, .int pa_, .int wr, .ref mrr, .ref mrh, .ref mrc, .int rh, .int rc, .ref mn, .ref mf, .ref mr, .ref mh, .int 0, .int 0, .ref ma, .ref mas, .ref msn, .ref mac, .ref mat])), (mf, .inl (g 0, 4, .inl (fun _ => 0)))]) rfl rfl rfl rfl (by decide) (c_X7_in l D g H.size p0 0 3) (va_cwS 3 hts gX7_status_X7_in rfl rfl rfl (by decide +kernel) ⟨(Nat.le_of_ble_eq_true rfl), (Nat.le_of_ble_eq_true rfl)⟩) rfl hl.1 rfl (Nat.le_of_ble_eq_true rfl) dX7_status_8 ⟨(Nat.le_of_ble_eq_true rfl), (Nat.le_of_ble_eq_true rfl)⟩ (fun r_1 u H locs hw hP hD hS => ?_)
  obtain ⟨rfl, rfl⟩ := hw
  have hP : va_P D vwCl [(m_, .inr (7, [.int 0, .ref mt, .int tp, .int pa_, .int wr, .ref mrr, .ref mrh, .ref mrc, .int rh, .int rc, .ref mn, .ref mf, .ref mr, .ref mh, .int 0, .int 0, .ref ma, .ref mas, .ref msn, .ref mac, .ref mat])), (mf, .inl (g 0, 4, .inl (fun _ => 0)))] H := hP
  have hD : va_D A [(m_, .inr (7, [.int 0, .ref mt, .int tp, .int pa_, .int wr, .ref mrr, .ref mrh, .ref mrc, .int rh, .int rc, .ref mn, .ref mf, .ref mr, .ref mh, .int 0, .int 0, .ref ma, .ref mas, .ref msn, .ref mac, .ref mat])), (mf, .inl (g 0, 4, .inl (fun _ => 0)))] := hD
  refine W.widen (k := 0) (n := 0) (Nat.le_of_ble_eq_true rfl) (Nat.le_of_ble_eq_true rfl) ?_
  refine lv_if_eq (tgt := 23) hx hb dX7_status_11 (by decide) (fun cb_2 => ?_) (fun cb_2 => ?_)
  · skip
    refine lv_iconst (v := (-1)) hx hb dX7_status_23 (by decide) ?_
    have hP9 := hP.sub (ws' := [(m_, .inr (7, [.int 0, .ref mt, .int tp, .int pa_, .int wr, .ref mrr, .ref mrh, .ref mrc, .int rh, .int rc, .ref mn, .ref mf, .ref mr, .ref mh, .int 0, .int 0, .ref ma, .ref mas, .ref msn, .ref mac, .ref mat])), (mf, .inl (g 0, 4, .inl (fun _ => 0)))]) [0, 1] rfl
    have hD9 := hD.sub (ws' := [(m_, .inr (7, [.int 0, .ref mt, .int tp, .int pa_, .int wr, .ref mrr, .ref mrh, .ref mrc, .int rh, .int rc, .ref mn, .ref mf, .ref mr, .ref mh, .int 0, .int 0, .ref ma, .ref mas, .ref msn, .ref mac, .ref mat])), (mf, .inl (g 0, 4, .inl (fun _ => 0)))]) [0, 1] (by decide) rfl
    subst hQ
    refine W.widen (k := 0) (n := 0) (Nat.le_of_ble_eq_true rfl) (Nat.le_of_ble_eq_true rfl) ?_
    exact W.iret (v := (-1)) hx hb hr (fun tS htS _ => ⟨⟨_, _, rfl, ⟨rfl, (if_neg (b01_0.mp cb_2)).symm⟩, by rw [htS]; exact hP9, hD9⟩, hS.F htS⟩) hS.2.2 dX7_status_24
  · skip
    refine lv_aload_n hx hb dX7_status_14 rfl (lv_at hl 0 rfl) ?_
    refine va_get (D := D) (ci := 7) (v := .ref mf) (C := RX7) (T := TX7) (N := 21) hx hb hts iX7 hown hK hP 0 rfl rfl 11 (by decide) f25 (fun _ h9 => h9) rfl dX7_status_15 ?_
    refine lv_iload_n hx hb dX7_status_18 rfl (lv_at hl 1 rfl) ?_
    refine va_iald hx hb hK hP 1 0 rfl rfl (st_in2 cb_2) dX7_status_19 ?_
    refine lv_eqi (y := 0) (rfl) ?_
    refine lv_goto (tgt := 24) hx hb dX7_status_20 (by decide) ?_
    have hP9 := hP.sub (ws' := [(m_, .inr (7, [.int 0, .ref mt, .int tp, .int pa_, .int wr, .ref mrr, .ref mrh, .ref mrc, .int rh, .int rc, .ref mn, .ref mf, .ref mr, .ref mh, .int 0, .int 0, .ref ma, .ref mas, .ref msn, .ref mac, .ref mat])), (mf, .inl (g 0, 4, .inl (fun _ => 0)))]) [0, 1] rfl
    have hD9 := hD.sub (ws' := [(m_, .inr (7, [.int 0, .ref mt, .int tp, .int pa_, .int wr, .ref mrr, .ref mrh, .ref mrc, .int rh, .int rc, .ref mn, .ref mf, .ref mr, .ref mh, .int 0, .int 0, .ref ma, .ref mas, .ref msn, .ref mac, .ref mat])), (mf, .inl (g 0, 4, .inl (fun _ => 0)))]) [0, 1] (by decide) rfl
    subst hQ
    refine W.widen (k := 0) (n := 0) (Nat.le_of_ble_eq_true rfl) (Nat.le_of_ble_eq_true rfl) ?_
    exact W.iret (v := 0) hx hb hr (fun tS htS _ => ⟨⟨_, _, rfl, ⟨rfl, (if_pos (b01_1.mp cb_2)).symm⟩, by rw [htS]; exact hP9, hD9⟩, hS.F htS⟩) hS.2.2 dX7_status_24
set_option maxHeartbeats 4000000 in
set_option maxRecDepth 100000 in
theorem c_X6_count (l : Launch) (D : va_G) (g : Nat → ClassId) (sz : Nat) (x : Nat) (xt : Nat) (tl : Int32) (xr : Nat) (xd : Nat) (xn : Nat) (xa : Nat) (xs : Nat) (xy : Nat) (p0 : Int32) : Met l yX6_count wsX6_count ({ frames := 0, cells := 0, slots := 0, locals := 0 }) (va_Pc [.ref x, .int p0] (pre D g sz [(x, .inr (6, [.ref xt, .int tl, .ref xr, .ref xd, .ref xn, .ref xa, .ref xs, .ref xy, .int 0]))])) (va_Qi (fun (r : Int32) (u : va_W) => u = [(x, .inr (6, [.ref xt, .int tl, .ref xr, .ref xd, .ref xn, .ref xa, .ref xs, .ref xy, .int 0]))] ∧ r = (if p0 = 0 then tl else (-1000000))) (wd D (va_A [(x, .inr (6, [.ref xt, .int tl, .ref xr, .ref xd, .ref xn, .ref xa, .ref xs, .ref xy, .int 0]))] sz)) (va_A [(x, .inr (6, [.ref xt, .int tl, .ref xr, .ref xd, .ref xn, .ref xa, .ref xs, .ref xy, .int 0]))] sz)) 0 0 (va_A [(x, .inr (6, [.ref xt, .int tl, .ref xr, .ref xd, .ref xn, .ref xa, .ref xs, .ref xy, .int 0]))] sz) := by
  refine Met.ofW (cc := cX6_count) (maxL := 2) (ret := (some .int)) (by decide) rfl ?_
  intro p e s m args below meth c s₁ B hml hv
  obtain ⟨rfl, hsz, hP, ⟨hK, hN⟩, hD0, hZ⟩ := hv
  have hx := B.exec
  have hb := B.bytes
  have hr := B.returns
  have hts := atoms_spec (ws := wsX6_count) B.pre
  have hown : s.vm.findClass RX6 = some m.cls := findClass_of_methodNamed B.named
  have hlocks := B.notSynchronized
  clear B
  subst hsz
  have hD := hD0.self (sz := s.heap.size)
  clear hD0
  generalize hAe : va_A [(x, .inr (6, [.ref xt, .int tl, .ref xr, .ref xd, .ref xn, .ref xa, .ref xs, .ref xy, .int 0]))] s.heap.size = A at hD hZ ⊢
  have hA : ∀ q : Nat, s.heap.size ≤ q → A q := fun q h => by rw [← hAe]; exact Or.inr h
  have hS : va_S A s.heap s.heap [] := va_S.rf
  have f47 := hts (.fieldLink RX6 47 "HopCredits" "tapeLength" "I") (by decide +kernel)
  have f70 := hts (.fieldLink RX6 70 "HopCredits" "laid" "Z") (by decide +kernel)
  have k77 := hts (.constant RX6 77 (-1000000)) (by decide +kernel)
  have iX6 : ∀ w ∈ u_ws RX6 TX6 9, w ∈ wsX6_count := by decide +kernel
  have hl := lv_entry ([.ref x, .int p0]) (n := 2) (Nat.le_of_ble_eq_true rfl)
  rw [lg_entry_eq]
  generalize (lg_sl ([.ref x, .int p0]) ++ List.replicate (2 - (lg_sl ([.ref x, .int p0])).length) Slot.unset).toArray = ls at hl ⊢
  have hl : lv_has ls 2 [(0, .ref x), (1, .int p0)] := hl
  generalize hQ : MQ below _ _ s _ _ _ = Q
  generalize hH : s.heap = H at hP ⊢
  have hS : va_S A s.heap H [] := by rw [← hH]; exact hS
  clear hH
  refine lv_iload_n hx hb dX6_count_0 rfl (lv_at hl 1 rfl) ?_
  refine lv_if_ne (tgt := 9) hx hb dX6_count_1 (by decide) (fun cb_1 => ?_) (fun cb_1 => ?_)
  · skip
    refine lv_aload_n hx hb dX6_count_9 rfl (lv_at hl 0 rfl) ?_
    refine va_get (D := D) (ci := 6) (v := .int 0) (C := RX6) (T := TX6) (N := 9) hx hb hts iX6 hown hK hP 0 rfl rfl 8 (by decide) f70 (fun _ h9 => h9) rfl dX6_count_10 ?_
    refine lv_if_ne (tgt := 19) hx hb dX6_count_13 (by decide) (fun cb => absurd (by decide) cb) (fun _ => ?_)
    refine lv_ldc (v := (-1000000)) hx hb hown k77 dX6_count_16 ?_
    have hP9 := hP.sub (ws' := [(x, .inr (6, [.ref xt, .int tl, .ref xr, .ref xd, .ref xn, .ref xa, .ref xs, .ref xy, .int 0]))]) [0] rfl
    have hD9 := hD.sub (ws' := [(x, .inr (6, [.ref xt, .int tl, .ref xr, .ref xd, .ref xn, .ref xa, .ref xs, .ref xy, .int 0]))]) [0] (by decide) rfl
    subst hQ
    refine W.widen (k := 0) (n := 0) (Nat.le_of_ble_eq_true rfl) (Nat.le_of_ble_eq_true rfl) ?_
    exact W.iret (v := (-1000000)) hx hb hr (fun tS htS _ => ⟨⟨_, _, rfl, ⟨rfl, (if_neg cb_1).symm⟩, by rw [htS]; exact hP9, hD9⟩, hS.F htS⟩) hS.2.2 dX6_count_18
  · skip
    refine lv_aload_n hx hb dX6_count_4 rfl (lv_at hl 0 rfl) ?_
    refine va_get (D := D) (ci := 6) (v := .int tl) (C := RX6) (T := TX6) (N := 9) hx hb hts iX6 hown hK hP 0 rfl rfl 1 (by decide) f47 (fun _ h9 => h9) rfl dX6_count_5 ?_
    have hP9 := hP.sub (ws' := [(x, .inr (6, [.ref xt, .int tl, .ref xr, .ref xd, .ref xn, .ref xa, .ref xs, .ref xy, .int 0]))]) [0] rfl
    have hD9 := hD.sub (ws' := [(x, .inr (6, [.ref xt, .int tl, .ref xr, .ref xd, .ref xn, .ref xa, .ref xs, .ref xy, .int 0]))]) [0] (by decide) rfl
    subst hQ
    refine W.widen (k := 0) (n := 0) (Nat.le_of_ble_eq_true rfl) (Nat.le_of_ble_eq_true rfl) ?_
    exact W.iret (v := tl) hx hb hr (fun tS htS _ => ⟨⟨_, _, rfl, ⟨rfl, (if_pos cb_1).symm⟩, by rw [htS]; exact hP9, hD9⟩, hS.F htS⟩) hS.2.2 dX6_count_8
set_option maxHeartbeats 4000000 in
set_option maxRecDepth 100000 in
theorem c_X7_count (l : Launch) (D : va_G) (g : Nat → ClassId) (sz : Nat) (m_ : Nat) (th : Int32) (mt : Nat) (tp : Int32) (pa_ : Int32) (wr : Int32) (mrr : Nat) (mrh : Nat) (mrc : Nat) (rh : Int32) (rc : Int32) (mn : Nat) (mf : Nat) (mr : Nat) (mh : Nat) (ma : Nat) (mas : Nat) (msn : Nat) (mac : Nat) (mat : Nat) (p0 : Int32) : Met l yX7_count wsX7_count ({ frames := 1, cells := 0, slots := 0, locals := 20 }) (va_Pc [.ref m_, .int p0] (pre D g sz [(m_, .inr (7, [.int th, .ref mt, .int tp, .int pa_, .int wr, .ref mrr, .ref mrh, .ref mrc, .int rh, .int rc, .ref mn, .ref mf, .ref mr, .ref mh, .int 0, .int 0, .ref ma, .ref mas, .ref msn, .ref mac, .ref mat]))])) (va_Qi (fun (r : Int32) (u : va_W) => u = [(m_, .inr (7, [.int 0, .ref mt, .int tp, .int pa_, .int wr, .ref mrr, .ref mrh, .ref mrc, .int rh, .int rc, .ref mn, .ref mf, .ref mr, .ref mh, .int 0, .int 0, .ref ma, .ref mas, .ref msn, .ref mac, .ref mat]))] ∧ r = (if p0 = 0 then tp else (-1000000))) (wd D (va_A [(m_, .inr (7, [.int th, .ref mt, .int tp, .int pa_, .int wr, .ref mrr, .ref mrh, .ref mrc, .int rh, .int rc, .ref mn, .ref mf, .ref mr, .ref mh, .int 0, .int 0, .ref ma, .ref mas, .ref msn, .ref mac, .ref mat]))] sz)) (va_A [(m_, .inr (7, [.int th, .ref mt, .int tp, .int pa_, .int wr, .ref mrr, .ref mrh, .ref mrc, .int rh, .int rc, .ref mn, .ref mf, .ref mr, .ref mh, .int 0, .int 0, .ref ma, .ref mas, .ref msn, .ref mac, .ref mat]))] sz)) 0 0 (va_A [(m_, .inr (7, [.int th, .ref mt, .int tp, .int pa_, .int wr, .ref mrr, .ref mrh, .ref mrc, .int rh, .int rc, .ref mn, .ref mf, .ref mr, .ref mh, .int 0, .int 0, .ref ma, .ref mas, .ref msn, .ref mac, .ref mat]))] sz) := by
  refine Met.ofW (cc := cX7_count) (maxL := 2) (ret := (some .int)) (by decide) rfl ?_
  intro p e s m args below meth c s₁ B hml hv
  obtain ⟨rfl, hsz, hP, ⟨hK, hN⟩, hD0, hZ⟩ := hv
  have hx := B.exec
  have hb := B.bytes
  have hr := B.returns
  have hts := atoms_spec (ws := wsX7_count) B.pre
  have hown : s.vm.findClass RX7 = some m.cls := findClass_of_methodNamed B.named
  have hlocks := B.notSynchronized
  clear B
  subst hsz
  have hD := hD0.self (sz := s.heap.size)
  clear hD0
  generalize hAe : va_A [(m_, .inr (7, [.int th, .ref mt, .int tp, .int pa_, .int wr, .ref mrr, .ref mrh, .ref mrc, .int rh, .int rc, .ref mn, .ref mf, .ref mr, .ref mh, .int 0, .int 0, .ref ma, .ref mas, .ref msn, .ref mac, .ref mat]))] s.heap.size = A at hD hZ ⊢
  have hA : ∀ q : Nat, s.heap.size ≤ q → A q := fun q h => by rw [← hAe]; exact Or.inr h
  have hS : va_S A s.heap s.heap [] := va_S.rf
  have f49 := hts (.fieldLink RX7 49 "HopCreditsModel" "thrown" "I") (by decide +kernel)
  have f57 := hts (.fieldLink RX7 57 "HopCreditsModel" "taped" "I") (by decide +kernel)
  have k236 := hts (.constant RX7 236 (-1000000)) (by decide +kernel)
  have iX7 : ∀ w ∈ u_ws RX7 TX7 21, w ∈ wsX7_count := by decide +kernel
  have hl := lv_entry ([.ref m_, .int p0]) (n := 2) (Nat.le_of_ble_eq_true rfl)
  rw [lg_entry_eq]
  generalize (lg_sl ([.ref m_, .int p0]) ++ List.replicate (2 - (lg_sl ([.ref m_, .int p0])).length) Slot.unset).toArray = ls at hl ⊢
  have hl : lv_has ls 2 [(0, .ref m_), (1, .int p0)] := hl
  generalize hQ : MQ below _ _ s _ _ _ = Q
  generalize hH : s.heap = H at hP ⊢
  have hS : va_S A s.heap H [] := by rw [← hH]; exact hS
  clear hH
  refine lv_aload_n hx hb dX7_count_0 rfl (lv_at hl 0 rfl) ?_
  refine lv_iconst (v := 0) hx hb dX7_count_1 (by decide) ?_
  refine va_put (D := D) (ci := 7) (v := .int 0) (ty := .int) (C := RX7) (T := TX7) (N := 21) hx hb hts iX7 tyX7 tyX7_ok nmX7 hown hK hP hD hS 0 rfl rfl 0 (by decide) f49 (fun _ h9 => h9) rfl (by decide +kernel) (rfl) (rfl) (Nat.le_of_ble_eq_true rfl) dX7_count_2 (fun H locs hP hD hS => ?_)
  have hP : va_P D vwCl [(m_, .inr (7, [.int 0, .ref mt, .int tp, .int pa_, .int wr, .ref mrr, .ref mrh, .ref mrc, .int rh, .int rc, .ref mn, .ref mf, .ref mr, .ref mh, .int 0, .int 0, .ref ma, .ref mas, .ref msn, .ref mac, .ref mat]))] H := hP
  have hD : va_D A [(m_, .inr (7, [.int 0, .ref mt, .int tp, .int pa_, .int wr, .ref mrr, .ref mrh, .ref mrc, .int rh, .int rc, .ref mn, .ref mf, .ref mr, .ref mh, .int 0, .int 0, .ref ma, .ref mas, .ref msn, .ref mac, .ref mat]))] := hD
  refine lv_iload_n hx hb dX7_count_5 rfl (lv_at hl 1 rfl) ?_
  refine lv_if_ne (tgt := 14) hx hb dX7_count_6 (by decide) (fun cb_1 => ?_) (fun cb_1 => ?_)
  · skip
    refine lv_aload_n hx hb dX7_count_14 rfl (lv_at hl 0 rfl) ?_
    refine ky_Vi (As := []) (rest := []) ⟨hx, hb, hml, hown, hts⟩ ⟨hK, hN⟩ hZ hP hD hS hA [0] [] (wc := [(m_, .inr (7, [.int 0, .ref mt, .int tp, .int pa_, .int wr, .ref mrr, .ref mrh, .ref mrc, .int rh, .int rc, .ref mn, .ref mf, .ref mr, .ref mh, .int 0, .int 0, .ref ma, .ref mas, .ref msn, .ref mac, .ref mat]))]) (wr := []) rfl rfl rfl rfl (by decide) (c_X7_isNet l D g H.size m_ 0 mt tp pa_ wr mrr mrh mrc rh rc mn mf mr mh ma mas msn mac mat) (cwV 0 hts gX7_count_X7_isNet rfl rfl rfl (by decide +kernel) ⟨(Nat.le_of_ble_eq_true rfl), (Nat.le_of_ble_eq_true rfl)⟩) 0 7 rfl rfl rfl rfl hl.1 rfl (Nat.le_of_ble_eq_true rfl) dX7_count_15 ⟨(Nat.le_of_ble_eq_true rfl), (Nat.le_of_ble_eq_true rfl)⟩ (fun r_2 u H locs hw hP hD hS => ?_)
    obtain ⟨rfl, rfl⟩ := hw
    have hP : va_P D vwCl [(m_, .inr (7, [.int 0, .ref mt, .int tp, .int pa_, .int wr, .ref mrr, .ref mrh, .ref mrc, .int rh, .int rc, .ref mn, .ref mf, .ref mr, .ref mh, .int 0, .int 0, .ref ma, .ref mas, .ref msn, .ref mac, .ref mat]))] H := hP
    have hD : va_D A [(m_, .inr (7, [.int 0, .ref mt, .int tp, .int pa_, .int wr, .ref mrr, .ref mrh, .ref mrc, .int rh, .int rc, .ref mn, .ref mf, .ref mr, .ref mh, .int 0, .int 0, .ref ma, .ref mas, .ref msn, .ref mac, .ref mat]))] := hD
    refine W.widen (k := 0) (n := 0) (Nat.le_of_ble_eq_true rfl) (Nat.le_of_ble_eq_true rfl) ?_
    refine lv_if_ne (tgt := 24) hx hb dX7_count_18 (by decide) (fun cb => absurd (by decide) cb) (fun _ => ?_)
    refine lv_ldc (v := (-1000000)) hx hb hown k236 dX7_count_21 ?_
    have hP9 := hP.sub (ws' := [(m_, .inr (7, [.int 0, .ref mt, .int tp, .int pa_, .int wr, .ref mrr, .ref mrh, .ref mrc, .int rh, .int rc, .ref mn, .ref mf, .ref mr, .ref mh, .int 0, .int 0, .ref ma, .ref mas, .ref msn, .ref mac, .ref mat]))]) [0] rfl
    have hD9 := hD.sub (ws' := [(m_, .inr (7, [.int 0, .ref mt, .int tp, .int pa_, .int wr, .ref mrr, .ref mrh, .ref mrc, .int rh, .int rc, .ref mn, .ref mf, .ref mr, .ref mh, .int 0, .int 0, .ref ma, .ref mas, .ref msn, .ref mac, .ref mat]))]) [0] (by decide) rfl
    subst hQ
    refine W.widen (k := 0) (n := 0) (Nat.le_of_ble_eq_true rfl) (Nat.le_of_ble_eq_true rfl) ?_
    exact W.iret (v := (-1000000)) hx hb hr (fun tS htS _ => ⟨⟨_, _, rfl, ⟨rfl, (if_neg cb_1).symm⟩, by rw [htS]; exact hP9, hD9⟩, hS.F htS⟩) hS.2.2 dX7_count_23
  · skip
    refine lv_aload_n hx hb dX7_count_9 rfl (lv_at hl 0 rfl) ?_
    refine va_get (D := D) (ci := 7) (v := .int tp) (C := RX7) (T := TX7) (N := 21) hx hb hts iX7 hown hK hP 0 rfl rfl 2 (by decide) f57 (fun _ h9 => h9) rfl dX7_count_10 ?_
    have hP9 := hP.sub (ws' := [(m_, .inr (7, [.int 0, .ref mt, .int tp, .int pa_, .int wr, .ref mrr, .ref mrh, .ref mrc, .int rh, .int rc, .ref mn, .ref mf, .ref mr, .ref mh, .int 0, .int 0, .ref ma, .ref mas, .ref msn, .ref mac, .ref mat]))]) [0] rfl
    have hD9 := hD.sub (ws' := [(m_, .inr (7, [.int 0, .ref mt, .int tp, .int pa_, .int wr, .ref mrr, .ref mrh, .ref mrc, .int rh, .int rc, .ref mn, .ref mf, .ref mr, .ref mh, .int 0, .int 0, .ref ma, .ref mas, .ref msn, .ref mac, .ref mat]))]) [0] (by decide) rfl
    subst hQ
    refine W.widen (k := 0) (n := 0) (Nat.le_of_ble_eq_true rfl) (Nat.le_of_ble_eq_true rfl) ?_
    exact W.iret (v := tp) hx hb hr (fun tS htS _ => ⟨⟨_, _, rfl, ⟨rfl, (if_pos cb_1).symm⟩, by rw [htS]; exact hP9, hD9⟩, hS.F htS⟩) hS.2.2 dX7_count_13
set_option maxHeartbeats 4000000 in
set_option maxRecDepth 100000 in
theorem c_X6_end (l : Launch) (D : va_G) (g : Nat → ClassId) (sz : Nat) (x : Nat) (xt : Nat) (tl : Int32) (xr : Nat) (xd : Nat) (xn : Nat) (xa : Nat) (xs : Nat) (xy : Nat) (p0 : Int32) : Met l yX6_end wsX6_end ({ frames := 1, cells := 0, slots := 0, locals := 22 }) (va_Pc [.ref x, .int p0] (pre D g sz [(x, .inr (6, [.ref xt, .int tl, .ref xr, .ref xd, .ref xn, .ref xa, .ref xs, .ref xy, .int 0]))])) (va_Qi (fun (r : Int32) (u : va_W) => ∃ (tl2 : Int32), u = [(x, .inr (6, [.ref xt, .int tl2, .ref xr, .ref xd, .ref xn, .ref xa, .ref xs, .ref xy, .int 0]))] ∧ r = (if p0 < 0 ∨ tl < p0 then 0 else 1)) (wd D (va_A [(x, .inr (6, [.ref xt, .int tl, .ref xr, .ref xd, .ref xn, .ref xa, .ref xs, .ref xy, .int 0]))] sz)) (va_A [(x, .inr (6, [.ref xt, .int tl, .ref xr, .ref xd, .ref xn, .ref xa, .ref xs, .ref xy, .int 0]))] sz)) 0 0 (va_A [(x, .inr (6, [.ref xt, .int tl, .ref xr, .ref xd, .ref xn, .ref xa, .ref xs, .ref xy, .int 0]))] sz) := by
  refine Met.ofW (cc := cX6_end) (maxL := 2) (ret := (some .boolean)) (by decide) rfl ?_
  intro p e s m args below meth c s₁ B hml hv
  obtain ⟨rfl, hsz, hP, ⟨hK, hN⟩, hD0, hZ⟩ := hv
  have hx := B.exec
  have hb := B.bytes
  have hr := B.returns
  have hts := atoms_spec (ws := wsX6_end) B.pre
  have hown : s.vm.findClass RX6 = some m.cls := findClass_of_methodNamed B.named
  have hlocks := B.notSynchronized
  clear B
  subst hsz
  have hD := hD0.self (sz := s.heap.size)
  clear hD0
  generalize hAe : va_A [(x, .inr (6, [.ref xt, .int tl, .ref xr, .ref xd, .ref xn, .ref xa, .ref xs, .ref xy, .int 0]))] s.heap.size = A at hD hZ ⊢
  have hA : ∀ q : Nat, s.heap.size ≤ q → A q := fun q h => by rw [← hAe]; exact Or.inr h
  have hS : va_S A s.heap s.heap [] := va_S.rf
  have f47 := hts (.fieldLink RX6 47 "HopCredits" "tapeLength" "I") (by decide +kernel)
  have iX6 : ∀ w ∈ u_ws RX6 TX6 9, w ∈ wsX6_end := by decide +kernel
  have hl := lv_entry ([.ref x, .int p0]) (n := 2) (Nat.le_of_ble_eq_true rfl)
  rw [lg_entry_eq]
  generalize (lg_sl ([.ref x, .int p0]) ++ List.replicate (2 - (lg_sl ([.ref x, .int p0])).length) Slot.unset).toArray = ls at hl ⊢
  have hl : lv_has ls 2 [(0, .ref x), (1, .int p0)] := hl
  generalize hQ : MQ below _ _ s _ _ _ = Q
  generalize hH : s.heap = H at hP ⊢
  have hS : va_S A s.heap H [] := by rw [← hH]; exact hS
  clear hH
  refine lv_iload_n hx hb dX6_end_0 rfl (lv_at hl 1 rfl) ?_
  refine lv_iconst (v := 0) hx hb dX6_end_1 (by decide) ?_
  refine lv_aload_n hx hb dX6_end_2 rfl (lv_at hl 0 rfl) ?_
  refine va_get (D := D) (ci := 6) (v := .int tl) (C := RX6) (T := TX6) (N := 9) hx hb hts iX6 hown hK hP 0 rfl rfl 1 (by decide) f47 (fun _ h9 => h9) rfl dX6_end_3 ?_
  refine ky_Si (As := [.int p0, .int 0, .int tl]) (rest := []) ⟨hx, hb, hml, hown, hts⟩ ⟨hK, hN⟩ hZ hP hD hS hA [] [0] (wc := []) (wr := [(x, .inr (6, [.ref xt, .int tl, .ref xr, .ref xd, .ref xn, .ref xa, .ref xs, .ref xy, .int 0]))]) rfl rfl rfl rfl (by decide) (c_X6_outside l D g H.size p0 0 tl) (va_cwS 3 hts gX6_end_X6_outside rfl rfl rfl (by decide +kernel) ⟨(Nat.le_of_ble_eq_true rfl), (Nat.le_of_ble_eq_true rfl)⟩) rfl hl.1 rfl (Nat.le_of_ble_eq_true rfl) dX6_end_6 ⟨(Nat.le_of_ble_eq_true rfl), (Nat.le_of_ble_eq_true rfl)⟩ (fun r_1 u H locs hw hP hD hS => ?_)
  obtain ⟨rfl, rfl⟩ := hw
  have hP : va_P D vwCl [(x, .inr (6, [.ref xt, .int tl, .ref xr, .ref xd, .ref xn, .ref xa, .ref xs, .ref xy, .int 0]))] H := hP
  have hD : va_D A [(x, .inr (6, [.ref xt, .int tl, .ref xr, .ref xd, .ref xn, .ref xa, .ref xs, .ref xy, .int 0]))] := hD
  refine W.widen (k := 0) (n := 0) (Nat.le_of_ble_eq_true rfl) (Nat.le_of_ble_eq_true rfl) ?_
  refine lv_if_eq (tgt := 14) hx hb dX6_end_9 (by decide) (fun cb_2 => ?_) (fun cb_2 => ?_)
  · skip
    refine lv_aload_n hx hb dX6_end_14 rfl (lv_at hl 0 rfl) ?_
    refine lv_iload_n hx hb dX6_end_15 rfl (lv_at hl 1 rfl) ?_
    refine va_put (D := D) (ci := 6) (v := .int p0) (ty := .int) (C := RX6) (T := TX6) (N := 9) hx hb hts iX6 tyX6 tyX6_ok nmX6 hown hK hP hD hS 0 rfl rfl 1 (by decide) f47 (fun _ h9 => h9) rfl (by decide +kernel) (rfl) (rfl) (Nat.le_of_ble_eq_true rfl) dX6_end_16 (fun H locs hP hD hS => ?_)
    have hP : va_P D vwCl [(x, .inr (6, [.ref xt, .int p0, .ref xr, .ref xd, .ref xn, .ref xa, .ref xs, .ref xy, .int 0]))] H := hP
    have hD : va_D A [(x, .inr (6, [.ref xt, .int p0, .ref xr, .ref xd, .ref xn, .ref xa, .ref xs, .ref xy, .int 0]))] := hD
    refine lv_iconst (v := 1) hx hb dX6_end_19 (by decide) ?_
    have hP9 := hP.sub (ws' := [(x, .inr (6, [.ref xt, .int p0, .ref xr, .ref xd, .ref xn, .ref xa, .ref xs, .ref xy, .int 0]))]) [0] rfl
    have hD9 := hD.sub (ws' := [(x, .inr (6, [.ref xt, .int p0, .ref xr, .ref xd, .ref xn, .ref xa, .ref xs, .ref xy, .int 0]))]) [0] (by decide) rfl
    subst hQ
    refine W.widen (k := 0) (n := 0) (Nat.le_of_ble_eq_true rfl) (Nat.le_of_ble_eq_true rfl) ?_
    exact W.zret (v := 1) (ty := .boolean) hx hb hr (rfl) (fun tS htS _ => ⟨⟨_, _, rfl, ⟨p0, rfl, (if_neg (b01_0.mp cb_2)).symm⟩, by rw [htS]; exact hP9, hD9⟩, hS.F htS⟩) hS.2.2 dX6_end_20
  · skip
    refine lv_iconst (v := 0) hx hb dX6_end_12 (by decide) ?_
    have hP9 := hP.sub (ws' := [(x, .inr (6, [.ref xt, .int tl, .ref xr, .ref xd, .ref xn, .ref xa, .ref xs, .ref xy, .int 0]))]) [0] rfl
    have hD9 := hD.sub (ws' := [(x, .inr (6, [.ref xt, .int tl, .ref xr, .ref xd, .ref xn, .ref xa, .ref xs, .ref xy, .int 0]))]) [0] (by decide) rfl
    subst hQ
    refine W.widen (k := 0) (n := 0) (Nat.le_of_ble_eq_true rfl) (Nat.le_of_ble_eq_true rfl) ?_
    exact W.zret (v := 0) (ty := .boolean) hx hb hr (rfl) (fun tS htS _ => ⟨⟨_, _, rfl, ⟨tl, rfl, (if_pos (b01_1.mp cb_2)).symm⟩, by rw [htS]; exact hP9, hD9⟩, hS.F htS⟩) hS.2.2 dX6_end_13
set_option maxHeartbeats 4000000 in
set_option maxRecDepth 100000 in
theorem c_X7_end (l : Launch) (D : va_G) (g : Nat → ClassId) (sz : Nat) (m_ : Nat) (th : Int32) (mt : Nat) (tp : Int32) (pa_ : Int32) (wr : Int32) (mrr : Nat) (mrh : Nat) (mrc : Nat) (rh : Int32) (rc : Int32) (mn : Nat) (mf : Nat) (mr : Nat) (mh : Nat) (ma : Nat) (mas : Nat) (msn : Nat) (mac : Nat) (mat : Nat) (p0 : Int32) : Met l yX7_end wsX7_end ({ frames := 1, cells := 0, slots := 0, locals := 22 }) (va_Pc [.ref m_, .int p0] (pre D g sz [(m_, .inr (7, [.int th, .ref mt, .int tp, .int pa_, .int wr, .ref mrr, .ref mrh, .ref mrc, .int rh, .int rc, .ref mn, .ref mf, .ref mr, .ref mh, .int 0, .int 0, .ref ma, .ref mas, .ref msn, .ref mac, .ref mat]))])) (va_Qi (fun (r : Int32) (u : va_W) => ∃ (tp2 : Int32), u = [(m_, .inr (7, [.int 0, .ref mt, .int tp2, .int pa_, .int wr, .ref mrr, .ref mrh, .ref mrc, .int rh, .int rc, .ref mn, .ref mf, .ref mr, .ref mh, .int 0, .int 0, .ref ma, .ref mas, .ref msn, .ref mac, .ref mat]))] ∧ r = (if 0 ≤ p0 ∧ p0 ≤ tp then 1 else 0)) (wd D (va_A [(m_, .inr (7, [.int th, .ref mt, .int tp, .int pa_, .int wr, .ref mrr, .ref mrh, .ref mrc, .int rh, .int rc, .ref mn, .ref mf, .ref mr, .ref mh, .int 0, .int 0, .ref ma, .ref mas, .ref msn, .ref mac, .ref mat]))] sz)) (va_A [(m_, .inr (7, [.int th, .ref mt, .int tp, .int pa_, .int wr, .ref mrr, .ref mrh, .ref mrc, .int rh, .int rc, .ref mn, .ref mf, .ref mr, .ref mh, .int 0, .int 0, .ref ma, .ref mas, .ref msn, .ref mac, .ref mat]))] sz)) 0 0 (va_A [(m_, .inr (7, [.int th, .ref mt, .int tp, .int pa_, .int wr, .ref mrr, .ref mrh, .ref mrc, .int rh, .int rc, .ref mn, .ref mf, .ref mr, .ref mh, .int 0, .int 0, .ref ma, .ref mas, .ref msn, .ref mac, .ref mat]))] sz) := by
  refine Met.ofW (cc := cX7_end) (maxL := 2) (ret := (some .boolean)) (by decide) rfl ?_
  intro p e s m args below meth c s₁ B hml hv
  obtain ⟨rfl, hsz, hP, ⟨hK, hN⟩, hD0, hZ⟩ := hv
  have hx := B.exec
  have hb := B.bytes
  have hr := B.returns
  have hts := atoms_spec (ws := wsX7_end) B.pre
  have hown : s.vm.findClass RX7 = some m.cls := findClass_of_methodNamed B.named
  have hlocks := B.notSynchronized
  clear B
  subst hsz
  have hD := hD0.self (sz := s.heap.size)
  clear hD0
  generalize hAe : va_A [(m_, .inr (7, [.int th, .ref mt, .int tp, .int pa_, .int wr, .ref mrr, .ref mrh, .ref mrc, .int rh, .int rc, .ref mn, .ref mf, .ref mr, .ref mh, .int 0, .int 0, .ref ma, .ref mas, .ref msn, .ref mac, .ref mat]))] s.heap.size = A at hD hZ ⊢
  have hA : ∀ q : Nat, s.heap.size ≤ q → A q := fun q h => by rw [← hAe]; exact Or.inr h
  have hS : va_S A s.heap s.heap [] := va_S.rf
  have f49 := hts (.fieldLink RX7 49 "HopCreditsModel" "thrown" "I") (by decide +kernel)
  have f57 := hts (.fieldLink RX7 57 "HopCreditsModel" "taped" "I") (by decide +kernel)
  have iX7 : ∀ w ∈ u_ws RX7 TX7 21, w ∈ wsX7_end := by decide +kernel
  have hl := lv_entry ([.ref m_, .int p0]) (n := 2) (Nat.le_of_ble_eq_true rfl)
  rw [lg_entry_eq]
  generalize (lg_sl ([.ref m_, .int p0]) ++ List.replicate (2 - (lg_sl ([.ref m_, .int p0])).length) Slot.unset).toArray = ls at hl ⊢
  have hl : lv_has ls 2 [(0, .ref m_), (1, .int p0)] := hl
  generalize hQ : MQ below _ _ s _ _ _ = Q
  generalize hH : s.heap = H at hP ⊢
  have hS : va_S A s.heap H [] := by rw [← hH]; exact hS
  clear hH
  refine lv_aload_n hx hb dX7_end_0 rfl (lv_at hl 0 rfl) ?_
  refine lv_iconst (v := 0) hx hb dX7_end_1 (by decide) ?_
  refine va_put (D := D) (ci := 7) (v := .int 0) (ty := .int) (C := RX7) (T := TX7) (N := 21) hx hb hts iX7 tyX7 tyX7_ok nmX7 hown hK hP hD hS 0 rfl rfl 0 (by decide) f49 (fun _ h9 => h9) rfl (by decide +kernel) (rfl) (rfl) (Nat.le_of_ble_eq_true rfl) dX7_end_2 (fun H locs hP hD hS => ?_)
  have hP : va_P D vwCl [(m_, .inr (7, [.int 0, .ref mt, .int tp, .int pa_, .int wr, .ref mrr, .ref mrh, .ref mrc, .int rh, .int rc, .ref mn, .ref mf, .ref mr, .ref mh, .int 0, .int 0, .ref ma, .ref mas, .ref msn, .ref mac, .ref mat]))] H := hP
  have hD : va_D A [(m_, .inr (7, [.int 0, .ref mt, .int tp, .int pa_, .int wr, .ref mrr, .ref mrh, .ref mrc, .int rh, .int rc, .ref mn, .ref mf, .ref mr, .ref mh, .int 0, .int 0, .ref ma, .ref mas, .ref msn, .ref mac, .ref mat]))] := hD
  refine lv_iload_n hx hb dX7_end_5 rfl (lv_at hl 1 rfl) ?_
  refine lv_iconst (v := 0) hx hb dX7_end_6 (by decide) ?_
  refine lv_aload_n hx hb dX7_end_7 rfl (lv_at hl 0 rfl) ?_
  refine va_get (D := D) (ci := 7) (v := .int tp) (C := RX7) (T := TX7) (N := 21) hx hb hts iX7 hown hK hP 0 rfl rfl 2 (by decide) f57 (fun _ h9 => h9) rfl dX7_end_8 ?_
  refine ky_Si (As := [.int p0, .int 0, .int tp]) (rest := []) ⟨hx, hb, hml, hown, hts⟩ ⟨hK, hN⟩ hZ hP hD hS hA [] [0] (wc := []) (wr := [(m_, .inr (7, [.int 0, .ref mt, .int tp, .int pa_, .int wr, .ref mrr, .ref mrh, .ref mrc, .int rh, .int rc, .ref mn, .ref mf, .ref mr, .ref mh, .int 0, .int 0, .ref ma, .ref mas, .ref msn, .ref mac, .ref mat]))]) rfl rfl rfl rfl (by decide) (c_X7_in l D g H.size p0 0 tp) (va_cwS 3 hts gX7_end_X7_in rfl rfl rfl (by decide +kernel) ⟨(Nat.le_of_ble_eq_true rfl), (Nat.le_of_ble_eq_true rfl)⟩) rfl hl.1 rfl (Nat.le_of_ble_eq_true rfl) dX7_end_11 ⟨(Nat.le_of_ble_eq_true rfl), (Nat.le_of_ble_eq_true rfl)⟩ (fun r_1 u H locs hw hP hD hS => ?_)
  obtain ⟨rfl, rfl⟩ := hw
  have hP : va_P D vwCl [(m_, .inr (7, [.int 0, .ref mt, .int tp, .int pa_, .int wr, .ref mrr, .ref mrh, .ref mrc, .int rh, .int rc, .ref mn, .ref mf, .ref mr, .ref mh, .int 0, .int 0, .ref ma, .ref mas, .ref msn, .ref mac, .ref mat]))] H := hP
  have hD : va_D A [(m_, .inr (7, [.int 0, .ref mt, .int tp, .int pa_, .int wr, .ref mrr, .ref mrh, .ref mrc, .int rh, .int rc, .ref mn, .ref mf, .ref mr, .ref mh, .int 0, .int 0, .ref ma, .ref mas, .ref msn, .ref mac, .ref mat]))] := hD
  refine W.widen (k := 0) (n := 0) (Nat.le_of_ble_eq_true rfl) (Nat.le_of_ble_eq_true rfl) ?_
  refine lv_if_ne (tgt := 19) hx hb dX7_end_14 (by decide) (fun cb_2 => ?_) (fun cb_2 => ?_)
  · skip
    refine lv_aload_n hx hb dX7_end_19 rfl (lv_at hl 0 rfl) ?_
    refine lv_iload_n hx hb dX7_end_20 rfl (lv_at hl 1 rfl) ?_
    refine va_put (D := D) (ci := 7) (v := .int p0) (ty := .int) (C := RX7) (T := TX7) (N := 21) hx hb hts iX7 tyX7 tyX7_ok nmX7 hown hK hP hD hS 0 rfl rfl 2 (by decide) f57 (fun _ h9 => h9) rfl (by decide +kernel) (rfl) (rfl) (Nat.le_of_ble_eq_true rfl) dX7_end_21 (fun H locs hP hD hS => ?_)
    have hP : va_P D vwCl [(m_, .inr (7, [.int 0, .ref mt, .int p0, .int pa_, .int wr, .ref mrr, .ref mrh, .ref mrc, .int rh, .int rc, .ref mn, .ref mf, .ref mr, .ref mh, .int 0, .int 0, .ref ma, .ref mas, .ref msn, .ref mac, .ref mat]))] H := hP
    have hD : va_D A [(m_, .inr (7, [.int 0, .ref mt, .int p0, .int pa_, .int wr, .ref mrr, .ref mrh, .ref mrc, .int rh, .int rc, .ref mn, .ref mf, .ref mr, .ref mh, .int 0, .int 0, .ref ma, .ref mas, .ref msn, .ref mac, .ref mat]))] := hD
    refine lv_iconst (v := 1) hx hb dX7_end_24 (by decide) ?_
    have hP9 := hP.sub (ws' := [(m_, .inr (7, [.int 0, .ref mt, .int p0, .int pa_, .int wr, .ref mrr, .ref mrh, .ref mrc, .int rh, .int rc, .ref mn, .ref mf, .ref mr, .ref mh, .int 0, .int 0, .ref ma, .ref mas, .ref msn, .ref mac, .ref mat]))]) [0] rfl
    have hD9 := hD.sub (ws' := [(m_, .inr (7, [.int 0, .ref mt, .int p0, .int pa_, .int wr, .ref mrr, .ref mrh, .ref mrc, .int rh, .int rc, .ref mn, .ref mf, .ref mr, .ref mh, .int 0, .int 0, .ref ma, .ref mas, .ref msn, .ref mac, .ref mat]))]) [0] (by decide) rfl
    subst hQ
    refine W.widen (k := 0) (n := 0) (Nat.le_of_ble_eq_true rfl) (Nat.le_of_ble_eq_true rfl) ?_
    exact W.zret (v := 1) (ty := .boolean) hx hb hr (rfl) (fun tS htS _ => ⟨⟨_, _, rfl, ⟨p0, rfl, (if_pos (b01_1.mp cb_2)).symm⟩, by rw [htS]; exact hP9, hD9⟩, hS.F htS⟩) hS.2.2 dX7_end_25
  · skip
    refine lv_iconst (v := 0) hx hb dX7_end_17 (by decide) ?_
    have hP9 := hP.sub (ws' := [(m_, .inr (7, [.int 0, .ref mt, .int tp, .int pa_, .int wr, .ref mrr, .ref mrh, .ref mrc, .int rh, .int rc, .ref mn, .ref mf, .ref mr, .ref mh, .int 0, .int 0, .ref ma, .ref mas, .ref msn, .ref mac, .ref mat]))]) [0] rfl
    have hD9 := hD.sub (ws' := [(m_, .inr (7, [.int 0, .ref mt, .int tp, .int pa_, .int wr, .ref mrr, .ref mrh, .ref mrc, .int rh, .int rc, .ref mn, .ref mf, .ref mr, .ref mh, .int 0, .int 0, .ref ma, .ref mas, .ref msn, .ref mac, .ref mat]))]) [0] (by decide) rfl
    subst hQ
    refine W.widen (k := 0) (n := 0) (Nat.le_of_ble_eq_true rfl) (Nat.le_of_ble_eq_true rfl) ?_
    exact W.zret (v := 0) (ty := .boolean) hx hb hr (rfl) (fun tS htS _ => ⟨⟨_, _, rfl, ⟨tp, rfl, (if_neg (b01_0.mp cb_2)).symm⟩, by rw [htS]; exact hP9, hD9⟩, hS.F htS⟩) hS.2.2 dX7_end_18
set_option maxHeartbeats 4000000 in
set_option maxRecDepth 100000 in
theorem c_X6_law (l : Launch) (D : va_G) (g : Nat → ClassId) (sz : Nat) (x : Nat) (xt : Nat) (tl : Int32) (xr : Nat) (xd : Nat) (xn : Nat) (xa : Nat) (xs : Nat) (xy : Nat) (p0 : Int32) (p1 : Int32) (p2 : Int32) : Met l yX6_law wsX6_law ({ frames := 1, cells := 0, slots := 0, locals := 22 }) (va_Pc [.ref x, .int p0, .int p1, .int p2] (pre D g sz [(x, .inr (6, [.ref xt, .int tl, .ref xr, .ref xd, .ref xn, .ref xa, .ref xs, .ref xy, .int 0]))])) (va_Qi (fun (r : Int32) (u : va_W) => u = [(x, .inr (6, [.ref xt, .int tl, .ref xr, .ref xd, .ref xn, .ref xa, .ref xs, .ref xy, .int 0]))] ∧ r = (if (p0 < 1 ∨ 4 < p0) ∨ (p1 < 1 ∨ 4 < p1) ∨ (p2 < 1 ∨ 9 < p2) then (-1) else ((((((2 * p0) + p2) - 1) / p2) + p1) - 1))) (wd D (va_A [(x, .inr (6, [.ref xt, .int tl, .ref xr, .ref xd, .ref xn, .ref xa, .ref xs, .ref xy, .int 0]))] sz)) (va_A [(x, .inr (6, [.ref xt, .int tl, .ref xr, .ref xd, .ref xn, .ref xa, .ref xs, .ref xy, .int 0]))] sz)) 0 0 (va_A [(x, .inr (6, [.ref xt, .int tl, .ref xr, .ref xd, .ref xn, .ref xa, .ref xs, .ref xy, .int 0]))] sz) := by
  refine Met.ofW (cc := cX6_law) (maxL := 4) (ret := (some .int)) (by decide) rfl ?_
  intro p e s m args below meth c s₁ B hml hv
  obtain ⟨rfl, hsz, hP, ⟨hK, hN⟩, hD0, hZ⟩ := hv
  have hx := B.exec
  have hb := B.bytes
  have hr := B.returns
  have hts := atoms_spec (ws := wsX6_law) B.pre
  have hown : s.vm.findClass RX6 = some m.cls := findClass_of_methodNamed B.named
  have hlocks := B.notSynchronized
  clear B
  subst hsz
  have hD := hD0.self (sz := s.heap.size)
  clear hD0
  generalize hAe : va_A [(x, .inr (6, [.ref xt, .int tl, .ref xr, .ref xd, .ref xn, .ref xa, .ref xs, .ref xy, .int 0]))] s.heap.size = A at hD hZ ⊢
  have hA : ∀ q : Nat, s.heap.size ≤ q → A q := fun q h => by rw [← hAe]; exact Or.inr h
  have hS : va_S A s.heap s.heap [] := va_S.rf
  have hl := lv_entry ([.ref x, .int p0, .int p1, .int p2]) (n := 4) (Nat.le_of_ble_eq_true rfl)
  rw [lg_entry_eq]
  generalize (lg_sl ([.ref x, .int p0, .int p1, .int p2]) ++ List.replicate (4 - (lg_sl ([.ref x, .int p0, .int p1, .int p2])).length) Slot.unset).toArray = ls at hl ⊢
  have hl : lv_has ls 4 [(0, .ref x), (1, .int p0), (2, .int p1), (3, .int p2)] := hl
  generalize hQ : MQ below _ _ s _ _ _ = Q
  generalize hH : s.heap = H at hP ⊢
  have hS : va_S A s.heap H [] := by rw [← hH]; exact hS
  clear hH
  refine lv_iload_n hx hb dX6_law_0 rfl (lv_at hl 1 rfl) ?_
  refine lv_iconst (v := 1) hx hb dX6_law_1 (by decide) ?_
  refine lv_iconst (v := 4) hx hb dX6_law_2 (by decide) ?_
  refine ky_Si (As := [.int p0, .int 1, .int 4]) (rest := []) ⟨hx, hb, hml, hown, hts⟩ ⟨hK, hN⟩ hZ hP hD hS hA [] [0] (wc := []) (wr := [(x, .inr (6, [.ref xt, .int tl, .ref xr, .ref xd, .ref xn, .ref xa, .ref xs, .ref xy, .int 0]))]) rfl rfl rfl rfl (by decide) (c_X6_outside l D g H.size p0 1 4) (va_cwS 3 hts gX6_law_X6_outside rfl rfl rfl (by decide +kernel) ⟨(Nat.le_of_ble_eq_true rfl), (Nat.le_of_ble_eq_true rfl)⟩) rfl hl.1 rfl (Nat.le_of_ble_eq_true rfl) dX6_law_3 ⟨(Nat.le_of_ble_eq_true rfl), (Nat.le_of_ble_eq_true rfl)⟩ (fun r_1 u H locs hw hP hD hS => ?_)
  obtain ⟨rfl, rfl⟩ := hw
  have hP : va_P D vwCl [(x, .inr (6, [.ref xt, .int tl, .ref xr, .ref xd, .ref xn, .ref xa, .ref xs, .ref xy, .int 0]))] H := hP
  have hD : va_D A [(x, .inr (6, [.ref xt, .int tl, .ref xr, .ref xd, .ref xn, .ref xa, .ref xs, .ref xy, .int 0]))] := hD
  refine W.widen (k := 0) (n := 0) (Nat.le_of_ble_eq_true rfl) (Nat.le_of_ble_eq_true rfl) ?_
  refine lv_if_ne (tgt := 28) hx hb dX6_law_6 (by decide) (fun cb_2 => ?_) (fun cb_2 => ?_)
  · skip
    refine lv_iconst (v := (-1)) hx hb dX6_law_28 (by decide) ?_
    have hP9 := hP.sub (ws' := [(x, .inr (6, [.ref xt, .int tl, .ref xr, .ref xd, .ref xn, .ref xa, .ref xs, .ref xy, .int 0]))]) [0] rfl
    have hD9 := hD.sub (ws' := [(x, .inr (6, [.ref xt, .int tl, .ref xr, .ref xd, .ref xn, .ref xa, .ref xs, .ref xy, .int 0]))]) [0] (by decide) rfl
    subst hQ
    refine W.widen (k := 0) (n := 0) (Nat.le_of_ble_eq_true rfl) (Nat.le_of_ble_eq_true rfl) ?_
    exact W.iret (v := (-1)) hx hb hr (fun tS htS _ => ⟨⟨_, _, rfl, ⟨rfl, (if_pos (Or.inl (b01_1.mp cb_2))).symm⟩, by rw [htS]; exact hP9, hD9⟩, hS.F htS⟩) hS.2.2 dX6_law_29
  · skip
    refine lv_iload_n hx hb dX6_law_9 rfl (lv_at hl 2 rfl) ?_
    refine lv_iconst (v := 1) hx hb dX6_law_10 (by decide) ?_
    refine lv_iconst (v := 4) hx hb dX6_law_11 (by decide) ?_
    refine ky_Si (As := [.int p1, .int 1, .int 4]) (rest := []) ⟨hx, hb, hml, hown, hts⟩ ⟨hK, hN⟩ hZ hP hD hS hA [] [0] (wc := []) (wr := [(x, .inr (6, [.ref xt, .int tl, .ref xr, .ref xd, .ref xn, .ref xa, .ref xs, .ref xy, .int 0]))]) rfl rfl rfl rfl (by decide) (c_X6_outside l D g H.size p1 1 4) (va_cwS 3 hts gX6_law_X6_outside rfl rfl rfl (by decide +kernel) ⟨(Nat.le_of_ble_eq_true rfl), (Nat.le_of_ble_eq_true rfl)⟩) rfl hl.1 rfl (Nat.le_of_ble_eq_true rfl) dX6_law_12 ⟨(Nat.le_of_ble_eq_true rfl), (Nat.le_of_ble_eq_true rfl)⟩ (fun r_3 u H locs hw hP hD hS => ?_)
    obtain ⟨rfl, rfl⟩ := hw
    have hP : va_P D vwCl [(x, .inr (6, [.ref xt, .int tl, .ref xr, .ref xd, .ref xn, .ref xa, .ref xs, .ref xy, .int 0]))] H := hP
    have hD : va_D A [(x, .inr (6, [.ref xt, .int tl, .ref xr, .ref xd, .ref xn, .ref xa, .ref xs, .ref xy, .int 0]))] := hD
    refine W.widen (k := 0) (n := 0) (Nat.le_of_ble_eq_true rfl) (Nat.le_of_ble_eq_true rfl) ?_
    refine lv_if_ne (tgt := 28) hx hb dX6_law_15 (by decide) (fun cb_4 => ?_) (fun cb_4 => ?_)
    · skip
      refine lv_iconst (v := (-1)) hx hb dX6_law_28 (by decide) ?_
      have hP9 := hP.sub (ws' := [(x, .inr (6, [.ref xt, .int tl, .ref xr, .ref xd, .ref xn, .ref xa, .ref xs, .ref xy, .int 0]))]) [0] rfl
      have hD9 := hD.sub (ws' := [(x, .inr (6, [.ref xt, .int tl, .ref xr, .ref xd, .ref xn, .ref xa, .ref xs, .ref xy, .int 0]))]) [0] (by decide) rfl
      subst hQ
      refine W.widen (k := 0) (n := 0) (Nat.le_of_ble_eq_true rfl) (Nat.le_of_ble_eq_true rfl) ?_
      exact W.iret (v := (-1)) hx hb hr (fun tS htS _ => ⟨⟨_, _, rfl, ⟨rfl, (if_pos (Or.inr (Or.inl (b01_1.mp cb_4)))).symm⟩, by rw [htS]; exact hP9, hD9⟩, hS.F htS⟩) hS.2.2 dX6_law_29
    · skip
      refine lv_iload_n hx hb dX6_law_18 rfl (lv_at hl 3 rfl) ?_
      refine lv_iconst (v := 1) hx hb dX6_law_19 (by decide) ?_
      refine lv_bipush (v := 9) hx hb dX6_law_20 (by decide) ?_
      refine ky_Si (As := [.int p2, .int 1, .int 9]) (rest := []) ⟨hx, hb, hml, hown, hts⟩ ⟨hK, hN⟩ hZ hP hD hS hA [] [0] (wc := []) (wr := [(x, .inr (6, [.ref xt, .int tl, .ref xr, .ref xd, .ref xn, .ref xa, .ref xs, .ref xy, .int 0]))]) rfl rfl rfl rfl (by decide) (c_X6_outside l D g H.size p2 1 9) (va_cwS 3 hts gX6_law_X6_outside rfl rfl rfl (by decide +kernel) ⟨(Nat.le_of_ble_eq_true rfl), (Nat.le_of_ble_eq_true rfl)⟩) rfl hl.1 rfl (Nat.le_of_ble_eq_true rfl) dX6_law_22 ⟨(Nat.le_of_ble_eq_true rfl), (Nat.le_of_ble_eq_true rfl)⟩ (fun r_5 u H locs hw hP hD hS => ?_)
      obtain ⟨rfl, rfl⟩ := hw
      have hP : va_P D vwCl [(x, .inr (6, [.ref xt, .int tl, .ref xr, .ref xd, .ref xn, .ref xa, .ref xs, .ref xy, .int 0]))] H := hP
      have hD : va_D A [(x, .inr (6, [.ref xt, .int tl, .ref xr, .ref xd, .ref xn, .ref xa, .ref xs, .ref xy, .int 0]))] := hD
      refine W.widen (k := 0) (n := 0) (Nat.le_of_ble_eq_true rfl) (Nat.le_of_ble_eq_true rfl) ?_
      refine lv_if_eq (tgt := 30) hx hb dX6_law_25 (by decide) (fun cb_6 => ?_) (fun cb_6 => ?_)
      · skip
        refine lv_iconst (v := 2) hx hb dX6_law_30 (by decide) ?_
        refine lv_iload_n hx hb dX6_law_31 rfl (lv_at hl 1 rfl) ?_
        refine lv_imul hx hb dX6_law_32 ?_
        refine lv_iload_n hx hb dX6_law_33 rfl (lv_at hl 3 rfl) ?_
        refine lv_iadd hx hb dX6_law_34 ?_
        refine lv_iconst (v := 1) hx hb dX6_law_35 (by decide) ?_
        refine lv_isub hx hb dX6_law_36 ?_
        refine lv_iload_n hx hb dX6_law_37 rfl (lv_at hl 3 rfl) ?_
        refine lv_idiv hx hb dX6_law_38 (lw_nz (b01_0.mp cb_6)) ?_
        refine lv_iload_n hx hb dX6_law_39 rfl (lv_at hl 2 rfl) ?_
        refine lv_iadd hx hb dX6_law_40 ?_
        refine lv_iconst (v := 1) hx hb dX6_law_41 (by decide) ?_
        refine lv_isub hx hb dX6_law_42 ?_
        have hP9 := hP.sub (ws' := [(x, .inr (6, [.ref xt, .int tl, .ref xr, .ref xd, .ref xn, .ref xa, .ref xs, .ref xy, .int 0]))]) [0] rfl
        have hD9 := hD.sub (ws' := [(x, .inr (6, [.ref xt, .int tl, .ref xr, .ref xd, .ref xn, .ref xa, .ref xs, .ref xy, .int 0]))]) [0] (by decide) rfl
        subst hQ
        refine W.widen (k := 0) (n := 0) (Nat.le_of_ble_eq_true rfl) (Nat.le_of_ble_eq_true rfl) ?_
        exact W.iret (v := ((((((2 * p0) + p2) - 1) / p2) + p1) - 1)) hx hb hr (fun tS htS _ => ⟨⟨_, _, rfl, ⟨rfl, (if_neg (fun h => h.elim (b01_0.mp cb_2) (fun h => h.elim (b01_0.mp cb_4) (b01_0.mp cb_6)))).symm⟩, by rw [htS]; exact hP9, hD9⟩, hS.F htS⟩) hS.2.2 dX6_law_43
      · skip
        refine lv_iconst (v := (-1)) hx hb dX6_law_28 (by decide) ?_
        have hP9 := hP.sub (ws' := [(x, .inr (6, [.ref xt, .int tl, .ref xr, .ref xd, .ref xn, .ref xa, .ref xs, .ref xy, .int 0]))]) [0] rfl
        have hD9 := hD.sub (ws' := [(x, .inr (6, [.ref xt, .int tl, .ref xr, .ref xd, .ref xn, .ref xa, .ref xs, .ref xy, .int 0]))]) [0] (by decide) rfl
        subst hQ
        refine W.widen (k := 0) (n := 0) (Nat.le_of_ble_eq_true rfl) (Nat.le_of_ble_eq_true rfl) ?_
        exact W.iret (v := (-1)) hx hb hr (fun tS htS _ => ⟨⟨_, _, rfl, ⟨rfl, (if_pos (Or.inr (Or.inr (b01_1.mp cb_6)))).symm⟩, by rw [htS]; exact hP9, hD9⟩, hS.F htS⟩) hS.2.2 dX6_law_29
set_option maxHeartbeats 4000000 in
set_option maxRecDepth 100000 in
theorem c_X7_isSpan (l : Launch) (D : va_G) (g : Nat → ClassId) (sz : Nat) (p0 : Int32) (p1 : Int32) : Met l yX7_isSpan wsX7_isSpan ({ frames := 1, cells := 0, slots := 0, locals := 22 }) (va_Pc [.int p0, .int p1] (pre D g sz [])) (va_Qi (fun (r : Int32) (u : va_W) => u = [] ∧ r = (if p1 ≤ p0 ∧ p0 ≤ 200 then 1 else 0)) (wd D (va_A [] sz)) (va_A [] sz)) 0 0 (va_A [] sz) := by
  refine Met.ofW (cc := cX7_isSpan) (maxL := 2) (ret := (some .boolean)) (by decide) rfl ?_
  intro p e s m args below meth c s₁ B hml hv
  obtain ⟨rfl, hsz, hP, ⟨hK, hN⟩, hD0, hZ⟩ := hv
  have hx := B.exec
  have hb := B.bytes
  have hr := B.returns
  have hts := atoms_spec (ws := wsX7_isSpan) B.pre
  have hown : s.vm.findClass RX7 = some m.cls := findClass_of_methodNamed B.named
  have hlocks := B.notSynchronized
  clear B
  subst hsz
  have hD := hD0.self (sz := s.heap.size)
  clear hD0
  generalize hAe : va_A [] s.heap.size = A at hD hZ ⊢
  have hA : ∀ q : Nat, s.heap.size ≤ q → A q := fun q h => by rw [← hAe]; exact Or.inr h
  have hS : va_S A s.heap s.heap [] := va_S.rf
  have hl := lv_entry ([.int p0, .int p1]) (n := 2) (Nat.le_of_ble_eq_true rfl)
  rw [lg_entry_eq]
  generalize (lg_sl ([.int p0, .int p1]) ++ List.replicate (2 - (lg_sl ([.int p0, .int p1])).length) Slot.unset).toArray = ls at hl ⊢
  have hl : lv_has ls 2 [(0, .int p0), (1, .int p1)] := hl
  generalize hQ : MQ below _ _ s _ _ _ = Q
  generalize hH : s.heap = H at hP ⊢
  have hS : va_S A s.heap H [] := by rw [← hH]; exact hS
  clear hH
  refine lv_iload_n hx hb dX7_isSpan_0 rfl (lv_at hl 0 rfl) ?_
  refine lv_iload_n hx hb dX7_isSpan_1 rfl (lv_at hl 1 rfl) ?_
  refine lv_sipush (v := 200) hx hb dX7_isSpan_2 (by decide) ?_
  refine ky_Si (As := [.int p0, .int p1, .int 200]) (rest := []) ⟨hx, hb, hml, hown, hts⟩ ⟨hK, hN⟩ hZ hP hD hS hA [] [] (wc := []) (wr := []) rfl rfl rfl rfl (by decide) (c_X7_in l D g H.size p0 p1 200) (va_cwS 3 hts gX7_isSpan_X7_in rfl rfl rfl (by decide +kernel) ⟨(Nat.le_of_ble_eq_true rfl), (Nat.le_of_ble_eq_true rfl)⟩) rfl hl.1 rfl (Nat.le_of_ble_eq_true rfl) dX7_isSpan_5 ⟨(Nat.le_of_ble_eq_true rfl), (Nat.le_of_ble_eq_true rfl)⟩ (fun r_1 u H locs hw hP hD hS => ?_)
  obtain ⟨rfl, rfl⟩ := hw
  have hP : va_P D vwCl [] H := hP
  have hD : va_D A [] := hD
  refine W.widen (k := 0) (n := 0) (Nat.le_of_ble_eq_true rfl) (Nat.le_of_ble_eq_true rfl) ?_
  have hP9 := hP.sub (ws' := []) [] rfl
  have hD9 := hD.sub (ws' := []) [] (by decide) rfl
  subst hQ
  refine W.widen (k := 0) (n := 0) (Nat.le_of_ble_eq_true rfl) (Nat.le_of_ble_eq_true rfl) ?_
  exact W.zret (v := (if p1 ≤ p0 ∧ p0 ≤ 200 then 1 else 0)) (ty := .boolean) hx hb hr (nz01) (fun tS htS _ => ⟨⟨_, _, rfl, ⟨rfl, rfl⟩, by rw [htS]; exact hP9, hD9⟩, hS.F htS⟩) hS.2.2 dX7_isSpan_8
set_option maxHeartbeats 4000000 in
set_option maxRecDepth 100000 in
theorem c_X7_isAlone (l : Launch) (D : va_G) (g : Nat → ClassId) (sz : Nat) (p0 : Int32) (p1 : Int32) (p2 : Int32) (p3 : Int32) : Met l yX7_isAlone wsX7_isAlone ({ frames := 2, cells := 0, slots := 0, locals := 43 }) (va_Pc [.int p0, .int p1, .int p2, .int p3] (pre D g sz [])) (va_Qi (fun (r : Int32) (u : va_W) => u = [] ∧ r = (if (1 ≤ p0 ∧ p0 ≤ 4) ∧ (1 ≤ p1 ∧ p1 ≤ 4) ∧ (1 ≤ p2 ∧ p2 ≤ 9) ∧ (1 ≤ p3 ∧ p3 ≤ 200) then 1 else 0)) (wd D (va_A [] sz)) (va_A [] sz)) 0 0 (va_A [] sz) := by
  refine Met.ofW (cc := cX7_isAlone) (maxL := 4) (ret := (some .boolean)) (by decide) rfl ?_
  intro p e s m args below meth c s₁ B hml hv
  obtain ⟨rfl, hsz, hP, ⟨hK, hN⟩, hD0, hZ⟩ := hv
  have hx := B.exec
  have hb := B.bytes
  have hr := B.returns
  have hts := atoms_spec (ws := wsX7_isAlone) B.pre
  have hown : s.vm.findClass RX7 = some m.cls := findClass_of_methodNamed B.named
  have hlocks := B.notSynchronized
  clear B
  subst hsz
  have hD := hD0.self (sz := s.heap.size)
  clear hD0
  generalize hAe : va_A [] s.heap.size = A at hD hZ ⊢
  have hA : ∀ q : Nat, s.heap.size ≤ q → A q := fun q h => by rw [← hAe]; exact Or.inr h
  have hS : va_S A s.heap s.heap [] := va_S.rf
  have hl := lv_entry ([.int p0, .int p1, .int p2, .int p3]) (n := 4) (Nat.le_of_ble_eq_true rfl)
  rw [lg_entry_eq]
  generalize (lg_sl ([.int p0, .int p1, .int p2, .int p3]) ++ List.replicate (4 - (lg_sl ([.int p0, .int p1, .int p2, .int p3])).length) Slot.unset).toArray = ls at hl ⊢
  have hl : lv_has ls 4 [(0, .int p0), (1, .int p1), (2, .int p2), (3, .int p3)] := hl
  generalize hQ : MQ below _ _ s _ _ _ = Q
  generalize hH : s.heap = H at hP ⊢
  have hS : va_S A s.heap H [] := by rw [← hH]; exact hS
  clear hH
  refine lv_iload_n hx hb dX7_isAlone_0 rfl (lv_at hl 0 rfl) ?_
  refine lv_iconst (v := 1) hx hb dX7_isAlone_1 (by decide) ?_
  refine lv_iconst (v := 4) hx hb dX7_isAlone_2 (by decide) ?_
  refine ky_Si (As := [.int p0, .int 1, .int 4]) (rest := []) ⟨hx, hb, hml, hown, hts⟩ ⟨hK, hN⟩ hZ hP hD hS hA [] [] (wc := []) (wr := []) rfl rfl rfl rfl (by decide) (c_X7_in l D g H.size p0 1 4) (va_cwS 3 hts gX7_isAlone_X7_in rfl rfl rfl (by decide +kernel) ⟨(Nat.le_of_ble_eq_true rfl), (Nat.le_of_ble_eq_true rfl)⟩) rfl hl.1 rfl (Nat.le_of_ble_eq_true rfl) dX7_isAlone_3 ⟨(Nat.le_of_ble_eq_true rfl), (Nat.le_of_ble_eq_true rfl)⟩ (fun r_1 u H locs hw hP hD hS => ?_)
  obtain ⟨rfl, rfl⟩ := hw
  have hP : va_P D vwCl [] H := hP
  have hD : va_D A [] := hD
  refine W.widen (k := 0) (n := 0) (Nat.le_of_ble_eq_true rfl) (Nat.le_of_ble_eq_true rfl) ?_
  refine lv_if_eq (tgt := 40) hx hb dX7_isAlone_6 (by decide) (fun cb_2 => ?_) (fun cb_2 => ?_)
  · skip
    refine lv_iconst (v := 0) hx hb dX7_isAlone_40 (by decide) ?_
    have hP9 := hP.sub (ws' := []) [] rfl
    have hD9 := hD.sub (ws' := []) [] (by decide) rfl
    subst hQ
    refine W.widen (k := 0) (n := 0) (Nat.le_of_ble_eq_true rfl) (Nat.le_of_ble_eq_true rfl) ?_
    exact W.zret (v := 0) (ty := .boolean) hx hb hr (rfl) (fun tS htS _ => ⟨⟨_, _, rfl, ⟨rfl, (if_neg (fun h => absurd h.1 (b01_0.mp cb_2))).symm⟩, by rw [htS]; exact hP9, hD9⟩, hS.F htS⟩) hS.2.2 dX7_isAlone_41
  · skip
    refine lv_iload_n hx hb dX7_isAlone_9 rfl (lv_at hl 1 rfl) ?_
    refine lv_iconst (v := 1) hx hb dX7_isAlone_10 (by decide) ?_
    refine lv_iconst (v := 4) hx hb dX7_isAlone_11 (by decide) ?_
    refine ky_Si (As := [.int p1, .int 1, .int 4]) (rest := []) ⟨hx, hb, hml, hown, hts⟩ ⟨hK, hN⟩ hZ hP hD hS hA [] [] (wc := []) (wr := []) rfl rfl rfl rfl (by decide) (c_X7_in l D g H.size p1 1 4) (va_cwS 3 hts gX7_isAlone_X7_in rfl rfl rfl (by decide +kernel) ⟨(Nat.le_of_ble_eq_true rfl), (Nat.le_of_ble_eq_true rfl)⟩) rfl hl.1 rfl (Nat.le_of_ble_eq_true rfl) dX7_isAlone_12 ⟨(Nat.le_of_ble_eq_true rfl), (Nat.le_of_ble_eq_true rfl)⟩ (fun r_3 u H locs hw hP hD hS => ?_)
    obtain ⟨rfl, rfl⟩ := hw
    have hP : va_P D vwCl [] H := hP
    have hD : va_D A [] := hD
    refine W.widen (k := 0) (n := 0) (Nat.le_of_ble_eq_true rfl) (Nat.le_of_ble_eq_true rfl) ?_
    refine lv_if_eq (tgt := 40) hx hb dX7_isAlone_15 (by decide) (fun cb_4 => ?_) (fun cb_4 => ?_)
    · skip
      refine lv_iconst (v := 0) hx hb dX7_isAlone_40 (by decide) ?_
      have hP9 := hP.sub (ws' := []) [] rfl
      have hD9 := hD.sub (ws' := []) [] (by decide) rfl
      subst hQ
      refine W.widen (k := 0) (n := 0) (Nat.le_of_ble_eq_true rfl) (Nat.le_of_ble_eq_true rfl) ?_
      exact W.zret (v := 0) (ty := .boolean) hx hb hr (rfl) (fun tS htS _ => ⟨⟨_, _, rfl, ⟨rfl, (if_neg (fun h => absurd h.2.1 (b01_0.mp cb_4))).symm⟩, by rw [htS]; exact hP9, hD9⟩, hS.F htS⟩) hS.2.2 dX7_isAlone_41
    · skip
      refine lv_iload_n hx hb dX7_isAlone_18 rfl (lv_at hl 2 rfl) ?_
      refine lv_iconst (v := 1) hx hb dX7_isAlone_19 (by decide) ?_
      refine lv_bipush (v := 9) hx hb dX7_isAlone_20 (by decide) ?_
      refine ky_Si (As := [.int p2, .int 1, .int 9]) (rest := []) ⟨hx, hb, hml, hown, hts⟩ ⟨hK, hN⟩ hZ hP hD hS hA [] [] (wc := []) (wr := []) rfl rfl rfl rfl (by decide) (c_X7_in l D g H.size p2 1 9) (va_cwS 3 hts gX7_isAlone_X7_in rfl rfl rfl (by decide +kernel) ⟨(Nat.le_of_ble_eq_true rfl), (Nat.le_of_ble_eq_true rfl)⟩) rfl hl.1 rfl (Nat.le_of_ble_eq_true rfl) dX7_isAlone_22 ⟨(Nat.le_of_ble_eq_true rfl), (Nat.le_of_ble_eq_true rfl)⟩ (fun r_5 u H locs hw hP hD hS => ?_)
      obtain ⟨rfl, rfl⟩ := hw
      have hP : va_P D vwCl [] H := hP
      have hD : va_D A [] := hD
      refine W.widen (k := 0) (n := 0) (Nat.le_of_ble_eq_true rfl) (Nat.le_of_ble_eq_true rfl) ?_
      refine lv_if_eq (tgt := 40) hx hb dX7_isAlone_25 (by decide) (fun cb_6 => ?_) (fun cb_6 => ?_)
      · skip
        refine lv_iconst (v := 0) hx hb dX7_isAlone_40 (by decide) ?_
        have hP9 := hP.sub (ws' := []) [] rfl
        have hD9 := hD.sub (ws' := []) [] (by decide) rfl
        subst hQ
        refine W.widen (k := 0) (n := 0) (Nat.le_of_ble_eq_true rfl) (Nat.le_of_ble_eq_true rfl) ?_
        exact W.zret (v := 0) (ty := .boolean) hx hb hr (rfl) (fun tS htS _ => ⟨⟨_, _, rfl, ⟨rfl, (if_neg (fun h => absurd h.2.2.1 (b01_0.mp cb_6))).symm⟩, by rw [htS]; exact hP9, hD9⟩, hS.F htS⟩) hS.2.2 dX7_isAlone_41
      · skip
        refine lv_iload_n hx hb dX7_isAlone_28 rfl (lv_at hl 3 rfl) ?_
        refine lv_iconst (v := 1) hx hb dX7_isAlone_29 (by decide) ?_
        refine ky_Si (As := [.int p3, .int 1]) (rest := []) ⟨hx, hb, hml, hown, hts⟩ ⟨hK, hN⟩ hZ hP hD hS hA [] [] (wc := []) (wr := []) rfl rfl rfl rfl (by decide) (c_X7_isSpan l D g H.size p3 1) (va_cwS 2 hts gX7_isAlone_X7_isSpan rfl rfl rfl (by decide +kernel) ⟨(Nat.le_of_ble_eq_true rfl), (Nat.le_of_ble_eq_true rfl)⟩) rfl hl.1 rfl (Nat.le_of_ble_eq_true rfl) dX7_isAlone_30 ⟨(Nat.le_of_ble_eq_true rfl), (Nat.le_of_ble_eq_true rfl)⟩ (fun r_7 u H locs hw hP hD hS => ?_)
        obtain ⟨rfl, rfl⟩ := hw
        have hP : va_P D vwCl [] H := hP
        have hD : va_D A [] := hD
        refine W.widen (k := 0) (n := 0) (Nat.le_of_ble_eq_true rfl) (Nat.le_of_ble_eq_true rfl) ?_
        refine lv_if_eq (tgt := 40) hx hb dX7_isAlone_33 (by decide) (fun cb_8 => ?_) (fun cb_8 => ?_)
        · skip
          refine lv_iconst (v := 0) hx hb dX7_isAlone_40 (by decide) ?_
          have hP9 := hP.sub (ws' := []) [] rfl
          have hD9 := hD.sub (ws' := []) [] (by decide) rfl
          subst hQ
          refine W.widen (k := 0) (n := 0) (Nat.le_of_ble_eq_true rfl) (Nat.le_of_ble_eq_true rfl) ?_
          exact W.zret (v := 0) (ty := .boolean) hx hb hr (rfl) (fun tS htS _ => ⟨⟨_, _, rfl, ⟨rfl, (if_neg (fun h => absurd h.2.2.2 (b01_0.mp cb_8))).symm⟩, by rw [htS]; exact hP9, hD9⟩, hS.F htS⟩) hS.2.2 dX7_isAlone_41
        · skip
          refine lv_iconst (v := 1) hx hb dX7_isAlone_36 (by decide) ?_
          refine lv_goto (tgt := 41) hx hb dX7_isAlone_37 (by decide) ?_
          have hP9 := hP.sub (ws' := []) [] rfl
          have hD9 := hD.sub (ws' := []) [] (by decide) rfl
          subst hQ
          refine W.widen (k := 0) (n := 0) (Nat.le_of_ble_eq_true rfl) (Nat.le_of_ble_eq_true rfl) ?_
          exact W.zret (v := 1) (ty := .boolean) hx hb hr (rfl) (fun tS htS _ => ⟨⟨_, _, rfl, ⟨rfl, (if_pos ⟨b01_1.mp cb_2, b01_1.mp cb_4, b01_1.mp cb_6, b01_1.mp cb_8⟩).symm⟩, by rw [htS]; exact hP9, hD9⟩, hS.F htS⟩) hS.2.2 dX7_isAlone_41
set_option maxHeartbeats 4000000 in
set_option maxRecDepth 100000 in
theorem c_X7_law (l : Launch) (D : va_G) (g : Nat → ClassId) (sz : Nat) (m_ : Nat) (th : Int32) (mt : Nat) (tp : Int32) (pa_ : Int32) (wr : Int32) (mrr : Nat) (mrh : Nat) (mrc : Nat) (rh : Int32) (rc : Int32) (mn : Nat) (mf : Nat) (mr : Nat) (mh : Nat) (ma : Nat) (mas : Nat) (msn : Nat) (mac : Nat) (mat : Nat) (p0 : Int32) (p1 : Int32) (p2 : Int32) : Met l yX7_law wsX7_law ({ frames := 3, cells := 0, slots := 0, locals := 66 }) (va_Pc [.ref m_, .int p0, .int p1, .int p2] (pre D g sz [(m_, .inr (7, [.int th, .ref mt, .int tp, .int pa_, .int wr, .ref mrr, .ref mrh, .ref mrc, .int rh, .int rc, .ref mn, .ref mf, .ref mr, .ref mh, .int 0, .int 0, .ref ma, .ref mas, .ref msn, .ref mac, .ref mat]))])) (va_Qi (fun (r : Int32) (u : va_W) => u = [(m_, .inr (7, [.int 0, .ref mt, .int tp, .int pa_, .int wr, .ref mrr, .ref mrh, .ref mrc, .int rh, .int rc, .ref mn, .ref mf, .ref mr, .ref mh, .int 0, .int 0, .ref ma, .ref mas, .ref msn, .ref mac, .ref mat]))] ∧ r = (if (1 ≤ p0 ∧ p0 ≤ 4) ∧ (1 ≤ p1 ∧ p1 ≤ 4) ∧ (1 ≤ p2 ∧ p2 ≤ 9) then ((((((2 * p0) + p2) - 1) / p2) + p1) - 1) else (-1))) (wd D (va_A [(m_, .inr (7, [.int th, .ref mt, .int tp, .int pa_, .int wr, .ref mrr, .ref mrh, .ref mrc, .int rh, .int rc, .ref mn, .ref mf, .ref mr, .ref mh, .int 0, .int 0, .ref ma, .ref mas, .ref msn, .ref mac, .ref mat]))] sz)) (va_A [(m_, .inr (7, [.int th, .ref mt, .int tp, .int pa_, .int wr, .ref mrr, .ref mrh, .ref mrc, .int rh, .int rc, .ref mn, .ref mf, .ref mr, .ref mh, .int 0, .int 0, .ref ma, .ref mas, .ref msn, .ref mac, .ref mat]))] sz)) 0 0 (va_A [(m_, .inr (7, [.int th, .ref mt, .int tp, .int pa_, .int wr, .ref mrr, .ref mrh, .ref mrc, .int rh, .int rc, .ref mn, .ref mf, .ref mr, .ref mh, .int 0, .int 0, .ref ma, .ref mas, .ref msn, .ref mac, .ref mat]))] sz) := by
  refine Met.ofW (cc := cX7_law) (maxL := 4) (ret := (some .int)) (by decide) rfl ?_
  intro p e s m args below meth c s₁ B hml hv
  obtain ⟨rfl, hsz, hP, ⟨hK, hN⟩, hD0, hZ⟩ := hv
  have hx := B.exec
  have hb := B.bytes
  have hr := B.returns
  have hts := atoms_spec (ws := wsX7_law) B.pre
  have hown : s.vm.findClass RX7 = some m.cls := findClass_of_methodNamed B.named
  have hlocks := B.notSynchronized
  clear B
  subst hsz
  have hD := hD0.self (sz := s.heap.size)
  clear hD0
  generalize hAe : va_A [(m_, .inr (7, [.int th, .ref mt, .int tp, .int pa_, .int wr, .ref mrr, .ref mrh, .ref mrc, .int rh, .int rc, .ref mn, .ref mf, .ref mr, .ref mh, .int 0, .int 0, .ref ma, .ref mas, .ref msn, .ref mac, .ref mat]))] s.heap.size = A at hD hZ ⊢
  have hA : ∀ q : Nat, s.heap.size ≤ q → A q := fun q h => by rw [← hAe]; exact Or.inr h
  have hS : va_S A s.heap s.heap [] := va_S.rf
  have f49 := hts (.fieldLink RX7 49 "HopCreditsModel" "thrown" "I") (by decide +kernel)
  have iX7 : ∀ w ∈ u_ws RX7 TX7 21, w ∈ wsX7_law := by decide +kernel
  have hl := lv_entry ([.ref m_, .int p0, .int p1, .int p2]) (n := 4) (Nat.le_of_ble_eq_true rfl)
  rw [lg_entry_eq]
  generalize (lg_sl ([.ref m_, .int p0, .int p1, .int p2]) ++ List.replicate (4 - (lg_sl ([.ref m_, .int p0, .int p1, .int p2])).length) Slot.unset).toArray = ls at hl ⊢
  have hl : lv_has ls 4 [(0, .ref m_), (1, .int p0), (2, .int p1), (3, .int p2)] := hl
  generalize hQ : MQ below _ _ s _ _ _ = Q
  generalize hH : s.heap = H at hP ⊢
  have hS : va_S A s.heap H [] := by rw [← hH]; exact hS
  clear hH
  refine lv_aload_n hx hb dX7_law_0 rfl (lv_at hl 0 rfl) ?_
  refine lv_iconst (v := 0) hx hb dX7_law_1 (by decide) ?_
  refine va_put (D := D) (ci := 7) (v := .int 0) (ty := .int) (C := RX7) (T := TX7) (N := 21) hx hb hts iX7 tyX7 tyX7_ok nmX7 hown hK hP hD hS 0 rfl rfl 0 (by decide) f49 (fun _ h9 => h9) rfl (by decide +kernel) (rfl) (rfl) (Nat.le_of_ble_eq_true rfl) dX7_law_2 (fun H locs hP hD hS => ?_)
  have hP : va_P D vwCl [(m_, .inr (7, [.int 0, .ref mt, .int tp, .int pa_, .int wr, .ref mrr, .ref mrh, .ref mrc, .int rh, .int rc, .ref mn, .ref mf, .ref mr, .ref mh, .int 0, .int 0, .ref ma, .ref mas, .ref msn, .ref mac, .ref mat]))] H := hP
  have hD : va_D A [(m_, .inr (7, [.int 0, .ref mt, .int tp, .int pa_, .int wr, .ref mrr, .ref mrh, .ref mrc, .int rh, .int rc, .ref mn, .ref mf, .ref mr, .ref mh, .int 0, .int 0, .ref ma, .ref mas, .ref msn, .ref mac, .ref mat]))] := hD
  refine lv_iload_n hx hb dX7_law_5 rfl (lv_at hl 1 rfl) ?_
  refine lv_iload_n hx hb dX7_law_6 rfl (lv_at hl 2 rfl) ?_
  refine lv_iconst (v := 1) hx hb dX7_law_7 (by decide) ?_
  refine lv_iconst (v := 1) hx hb dX7_law_8 (by decide) ?_
  refine ky_Si (As := [.int p0, .int p1, .int 1, .int 1]) (rest := []) ⟨hx, hb, hml, hown, hts⟩ ⟨hK, hN⟩ hZ hP hD hS hA [] [0] (wc := []) (wr := [(m_, .inr (7, [.int 0, .ref mt, .int tp, .int pa_, .int wr, .ref mrr, .ref mrh, .ref mrc, .int rh, .int rc, .ref mn, .ref mf, .ref mr, .ref mh, .int 0, .int 0, .ref ma, .ref mas, .ref msn, .ref mac, .ref mat]))]) rfl rfl rfl rfl (by decide) (c_X7_isAlone l D g H.size p0 p1 1 1) (va_cwS 4 hts gX7_law_X7_isAlone rfl rfl rfl (by decide +kernel) ⟨(Nat.le_of_ble_eq_true rfl), (Nat.le_of_ble_eq_true rfl)⟩) rfl hl.1 rfl (Nat.le_of_ble_eq_true rfl) dX7_law_9 ⟨(Nat.le_of_ble_eq_true rfl), (Nat.le_of_ble_eq_true rfl)⟩ (fun r_1 u H locs hw hP hD hS => ?_)
  obtain ⟨rfl, rfl⟩ := hw
  have hP : va_P D vwCl [(m_, .inr (7, [.int 0, .ref mt, .int tp, .int pa_, .int wr, .ref mrr, .ref mrh, .ref mrc, .int rh, .int rc, .ref mn, .ref mf, .ref mr, .ref mh, .int 0, .int 0, .ref ma, .ref mas, .ref msn, .ref mac, .ref mat]))] H := hP
  have hD : va_D A [(m_, .inr (7, [.int 0, .ref mt, .int tp, .int pa_, .int wr, .ref mrr, .ref mrh, .ref mrc, .int rh, .int rc, .ref mn, .ref mf, .ref mr, .ref mh, .int 0, .int 0, .ref ma, .ref mas, .ref msn, .ref mac, .ref mat]))] := hD
  refine W.widen (k := 0) (n := 0) (Nat.le_of_ble_eq_true rfl) (Nat.le_of_ble_eq_true rfl) ?_
  refine lv_if_eq (tgt := 41) hx hb dX7_law_12 (by decide) (fun cb_2 => ?_) (fun cb_2 => ?_)
  · skip
    refine lv_iconst (v := (-1)) hx hb dX7_law_41 (by decide) ?_
    have hP9 := hP.sub (ws' := [(m_, .inr (7, [.int 0, .ref mt, .int tp, .int pa_, .int wr, .ref mrr, .ref mrh, .ref mrc, .int rh, .int rc, .ref mn, .ref mf, .ref mr, .ref mh, .int 0, .int 0, .ref ma, .ref mas, .ref msn, .ref mac, .ref mat]))]) [0] rfl
    have hD9 := hD.sub (ws' := [(m_, .inr (7, [.int 0, .ref mt, .int tp, .int pa_, .int wr, .ref mrr, .ref mrh, .ref mrc, .int rh, .int rc, .ref mn, .ref mf, .ref mr, .ref mh, .int 0, .int 0, .ref ma, .ref mas, .ref msn, .ref mac, .ref mat]))]) [0] (by decide) rfl
    subst hQ
    refine W.widen (k := 0) (n := 0) (Nat.le_of_ble_eq_true rfl) (Nat.le_of_ble_eq_true rfl) ?_
    exact W.iret (v := (-1)) hx hb hr (fun tS htS _ => ⟨⟨_, _, rfl, ⟨rfl, (if_neg (fun h => absurd ⟨h.1, h.2.1, by decide, by decide⟩ (b01_0.mp cb_2))).symm⟩, by rw [htS]; exact hP9, hD9⟩, hS.F htS⟩) hS.2.2 dX7_law_42
  · skip
    refine lv_iload_n hx hb dX7_law_15 rfl (lv_at hl 3 rfl) ?_
    refine lv_iconst (v := 1) hx hb dX7_law_16 (by decide) ?_
    refine lv_bipush (v := 9) hx hb dX7_law_17 (by decide) ?_
    refine ky_Si (As := [.int p2, .int 1, .int 9]) (rest := []) ⟨hx, hb, hml, hown, hts⟩ ⟨hK, hN⟩ hZ hP hD hS hA [] [0] (wc := []) (wr := [(m_, .inr (7, [.int 0, .ref mt, .int tp, .int pa_, .int wr, .ref mrr, .ref mrh, .ref mrc, .int rh, .int rc, .ref mn, .ref mf, .ref mr, .ref mh, .int 0, .int 0, .ref ma, .ref mas, .ref msn, .ref mac, .ref mat]))]) rfl rfl rfl rfl (by decide) (c_X7_in l D g H.size p2 1 9) (va_cwS 3 hts gX7_law_X7_in rfl rfl rfl (by decide +kernel) ⟨(Nat.le_of_ble_eq_true rfl), (Nat.le_of_ble_eq_true rfl)⟩) rfl hl.1 rfl (Nat.le_of_ble_eq_true rfl) dX7_law_19 ⟨(Nat.le_of_ble_eq_true rfl), (Nat.le_of_ble_eq_true rfl)⟩ (fun r_3 u H locs hw hP hD hS => ?_)
    obtain ⟨rfl, rfl⟩ := hw
    have hP : va_P D vwCl [(m_, .inr (7, [.int 0, .ref mt, .int tp, .int pa_, .int wr, .ref mrr, .ref mrh, .ref mrc, .int rh, .int rc, .ref mn, .ref mf, .ref mr, .ref mh, .int 0, .int 0, .ref ma, .ref mas, .ref msn, .ref mac, .ref mat]))] H := hP
    have hD : va_D A [(m_, .inr (7, [.int 0, .ref mt, .int tp, .int pa_, .int wr, .ref mrr, .ref mrh, .ref mrc, .int rh, .int rc, .ref mn, .ref mf, .ref mr, .ref mh, .int 0, .int 0, .ref ma, .ref mas, .ref msn, .ref mac, .ref mat]))] := hD
    refine W.widen (k := 0) (n := 0) (Nat.le_of_ble_eq_true rfl) (Nat.le_of_ble_eq_true rfl) ?_
    refine lv_if_eq (tgt := 41) hx hb dX7_law_22 (by decide) (fun cb_4 => ?_) (fun cb_4 => ?_)
    · skip
      refine lv_iconst (v := (-1)) hx hb dX7_law_41 (by decide) ?_
      have hP9 := hP.sub (ws' := [(m_, .inr (7, [.int 0, .ref mt, .int tp, .int pa_, .int wr, .ref mrr, .ref mrh, .ref mrc, .int rh, .int rc, .ref mn, .ref mf, .ref mr, .ref mh, .int 0, .int 0, .ref ma, .ref mas, .ref msn, .ref mac, .ref mat]))]) [0] rfl
      have hD9 := hD.sub (ws' := [(m_, .inr (7, [.int 0, .ref mt, .int tp, .int pa_, .int wr, .ref mrr, .ref mrh, .ref mrc, .int rh, .int rc, .ref mn, .ref mf, .ref mr, .ref mh, .int 0, .int 0, .ref ma, .ref mas, .ref msn, .ref mac, .ref mat]))]) [0] (by decide) rfl
      subst hQ
      refine W.widen (k := 0) (n := 0) (Nat.le_of_ble_eq_true rfl) (Nat.le_of_ble_eq_true rfl) ?_
      exact W.iret (v := (-1)) hx hb hr (fun tS htS _ => ⟨⟨_, _, rfl, ⟨rfl, (if_neg (fun h => absurd h.2.2 (b01_0.mp cb_4))).symm⟩, by rw [htS]; exact hP9, hD9⟩, hS.F htS⟩) hS.2.2 dX7_law_42
    · skip
      refine lv_iconst (v := 2) hx hb dX7_law_25 (by decide) ?_
      refine lv_iload_n hx hb dX7_law_26 rfl (lv_at hl 1 rfl) ?_
      refine lv_imul hx hb dX7_law_27 ?_
      refine lv_iload_n hx hb dX7_law_28 rfl (lv_at hl 3 rfl) ?_
      refine lv_iadd hx hb dX7_law_29 ?_
      refine lv_iconst (v := 1) hx hb dX7_law_30 (by decide) ?_
      refine lv_isub hx hb dX7_law_31 ?_
      refine lv_iload_n hx hb dX7_law_32 rfl (lv_at hl 3 rfl) ?_
      refine lv_idiv hx hb dX7_law_33 (lw_nz2 (b01_1.mp cb_4)) ?_
      refine lv_iload_n hx hb dX7_law_34 rfl (lv_at hl 2 rfl) ?_
      refine lv_iadd hx hb dX7_law_35 ?_
      refine lv_iconst (v := 1) hx hb dX7_law_36 (by decide) ?_
      refine lv_isub hx hb dX7_law_37 ?_
      refine lv_goto (tgt := 42) hx hb dX7_law_38 (by decide) ?_
      have hP9 := hP.sub (ws' := [(m_, .inr (7, [.int 0, .ref mt, .int tp, .int pa_, .int wr, .ref mrr, .ref mrh, .ref mrc, .int rh, .int rc, .ref mn, .ref mf, .ref mr, .ref mh, .int 0, .int 0, .ref ma, .ref mas, .ref msn, .ref mac, .ref mat]))]) [0] rfl
      have hD9 := hD.sub (ws' := [(m_, .inr (7, [.int 0, .ref mt, .int tp, .int pa_, .int wr, .ref mrr, .ref mrh, .ref mrc, .int rh, .int rc, .ref mn, .ref mf, .ref mr, .ref mh, .int 0, .int 0, .ref ma, .ref mas, .ref msn, .ref mac, .ref mat]))]) [0] (by decide) rfl
      subst hQ
      refine W.widen (k := 0) (n := 0) (Nat.le_of_ble_eq_true rfl) (Nat.le_of_ble_eq_true rfl) ?_
      exact W.iret (v := ((((((2 * p0) + p2) - 1) / p2) + p1) - 1)) hx hb hr (fun tS htS _ => ⟨⟨_, _, rfl, ⟨rfl, (if_pos ⟨(b01_1.mp cb_2).1, (b01_1.mp cb_2).2.1, b01_1.mp cb_4⟩).symm⟩, by rw [htS]; exact hP9, hD9⟩, hS.F htS⟩) hS.2.2 dX7_law_42
set_option maxHeartbeats 4000000 in
set_option maxRecDepth 100000 in
theorem c_X6_isNoLink (l : Launch) (D : va_G) (g : Nat → ClassId) (sz : Nat) (p0 : Int32) (p1 : Int32) (p2 : Int32) (p3 : Int32) : Met l yX6_isNoLink wsX6_isNoLink ({ frames := 1, cells := 0, slots := 0, locals := 22 }) (va_Pc [.int p0, .int p1, .int p2, .int p3] (pre D g sz [])) (va_Qi (fun (r : Int32) (u : va_W) => u = [] ∧ r = (if (p0 < 1 ∨ 4 < p0) ∨ (p1 < 1 ∨ 4 < p1) ∨ (p2 < 1 ∨ 9 < p2) ∨ (p3 < 1 ∨ 200 < p3) then 1 else 0)) (wd D (va_A [] sz)) (va_A [] sz)) 0 0 (va_A [] sz) := by
  refine Met.ofW (cc := cX6_isNoLink) (maxL := 4) (ret := (some .boolean)) (by decide) rfl ?_
  intro p e s m args below meth c s₁ B hml hv
  obtain ⟨rfl, hsz, hP, ⟨hK, hN⟩, hD0, hZ⟩ := hv
  have hx := B.exec
  have hb := B.bytes
  have hr := B.returns
  have hts := atoms_spec (ws := wsX6_isNoLink) B.pre
  have hown : s.vm.findClass RX6 = some m.cls := findClass_of_methodNamed B.named
  have hlocks := B.notSynchronized
  clear B
  subst hsz
  have hD := hD0.self (sz := s.heap.size)
  clear hD0
  generalize hAe : va_A [] s.heap.size = A at hD hZ ⊢
  have hA : ∀ q : Nat, s.heap.size ≤ q → A q := fun q h => by rw [← hAe]; exact Or.inr h
  have hS : va_S A s.heap s.heap [] := va_S.rf
  have hl := lv_entry ([.int p0, .int p1, .int p2, .int p3]) (n := 4) (Nat.le_of_ble_eq_true rfl)
  rw [lg_entry_eq]
  generalize (lg_sl ([.int p0, .int p1, .int p2, .int p3]) ++ List.replicate (4 - (lg_sl ([.int p0, .int p1, .int p2, .int p3])).length) Slot.unset).toArray = ls at hl ⊢
  have hl : lv_has ls 4 [(0, .int p0), (1, .int p1), (2, .int p2), (3, .int p3)] := hl
  generalize hQ : MQ below _ _ s _ _ _ = Q
  generalize hH : s.heap = H at hP ⊢
  have hS : va_S A s.heap H [] := by rw [← hH]; exact hS
  clear hH
  refine lv_iload_n hx hb dX6_isNoLink_0 rfl (lv_at hl 0 rfl) ?_
  refine lv_iconst (v := 1) hx hb dX6_isNoLink_1 (by decide) ?_
  refine lv_iconst (v := 4) hx hb dX6_isNoLink_2 (by decide) ?_
  refine ky_Si (As := [.int p0, .int 1, .int 4]) (rest := []) ⟨hx, hb, hml, hown, hts⟩ ⟨hK, hN⟩ hZ hP hD hS hA [] [] (wc := []) (wr := []) rfl rfl rfl rfl (by decide) (c_X6_outside l D g H.size p0 1 4) (va_cwS 3 hts gX6_isNoLink_X6_outside rfl rfl rfl (by decide +kernel) ⟨(Nat.le_of_ble_eq_true rfl), (Nat.le_of_ble_eq_true rfl)⟩) rfl hl.1 rfl (Nat.le_of_ble_eq_true rfl) dX6_isNoLink_3 ⟨(Nat.le_of_ble_eq_true rfl), (Nat.le_of_ble_eq_true rfl)⟩ (fun r_1 u H locs hw hP hD hS => ?_)
  obtain ⟨rfl, rfl⟩ := hw
  have hP : va_P D vwCl [] H := hP
  have hD : va_D A [] := hD
  refine W.widen (k := 0) (n := 0) (Nat.le_of_ble_eq_true rfl) (Nat.le_of_ble_eq_true rfl) ?_
  refine lv_if_ne (tgt := 39) hx hb dX6_isNoLink_6 (by decide) (fun cb_2 => ?_) (fun cb_2 => ?_)
  · skip
    refine lv_iconst (v := 1) hx hb dX6_isNoLink_39 (by decide) ?_
    refine lv_goto (tgt := 44) hx hb dX6_isNoLink_40 (by decide) ?_
    have hP9 := hP.sub (ws' := []) [] rfl
    have hD9 := hD.sub (ws' := []) [] (by decide) rfl
    subst hQ
    refine W.widen (k := 0) (n := 0) (Nat.le_of_ble_eq_true rfl) (Nat.le_of_ble_eq_true rfl) ?_
    exact W.zret (v := 1) (ty := .boolean) hx hb hr (rfl) (fun tS htS _ => ⟨⟨_, _, rfl, ⟨rfl, (if_pos (Or.inl (b01_1.mp cb_2))).symm⟩, by rw [htS]; exact hP9, hD9⟩, hS.F htS⟩) hS.2.2 dX6_isNoLink_44
  · skip
    refine lv_iload_n hx hb dX6_isNoLink_9 rfl (lv_at hl 1 rfl) ?_
    refine lv_iconst (v := 1) hx hb dX6_isNoLink_10 (by decide) ?_
    refine lv_iconst (v := 4) hx hb dX6_isNoLink_11 (by decide) ?_
    refine ky_Si (As := [.int p1, .int 1, .int 4]) (rest := []) ⟨hx, hb, hml, hown, hts⟩ ⟨hK, hN⟩ hZ hP hD hS hA [] [] (wc := []) (wr := []) rfl rfl rfl rfl (by decide) (c_X6_outside l D g H.size p1 1 4) (va_cwS 3 hts gX6_isNoLink_X6_outside rfl rfl rfl (by decide +kernel) ⟨(Nat.le_of_ble_eq_true rfl), (Nat.le_of_ble_eq_true rfl)⟩) rfl hl.1 rfl (Nat.le_of_ble_eq_true rfl) dX6_isNoLink_12 ⟨(Nat.le_of_ble_eq_true rfl), (Nat.le_of_ble_eq_true rfl)⟩ (fun r_3 u H locs hw hP hD hS => ?_)
    obtain ⟨rfl, rfl⟩ := hw
    have hP : va_P D vwCl [] H := hP
    have hD : va_D A [] := hD
    refine W.widen (k := 0) (n := 0) (Nat.le_of_ble_eq_true rfl) (Nat.le_of_ble_eq_true rfl) ?_
    refine lv_if_ne (tgt := 39) hx hb dX6_isNoLink_15 (by decide) (fun cb_4 => ?_) (fun cb_4 => ?_)
    · skip
      refine lv_iconst (v := 1) hx hb dX6_isNoLink_39 (by decide) ?_
      refine lv_goto (tgt := 44) hx hb dX6_isNoLink_40 (by decide) ?_
      have hP9 := hP.sub (ws' := []) [] rfl
      have hD9 := hD.sub (ws' := []) [] (by decide) rfl
      subst hQ
      refine W.widen (k := 0) (n := 0) (Nat.le_of_ble_eq_true rfl) (Nat.le_of_ble_eq_true rfl) ?_
      exact W.zret (v := 1) (ty := .boolean) hx hb hr (rfl) (fun tS htS _ => ⟨⟨_, _, rfl, ⟨rfl, (if_pos (Or.inr (Or.inl (b01_1.mp cb_4)))).symm⟩, by rw [htS]; exact hP9, hD9⟩, hS.F htS⟩) hS.2.2 dX6_isNoLink_44
    · skip
      refine lv_iload_n hx hb dX6_isNoLink_18 rfl (lv_at hl 2 rfl) ?_
      refine lv_iconst (v := 1) hx hb dX6_isNoLink_19 (by decide) ?_
      refine lv_bipush (v := 9) hx hb dX6_isNoLink_20 (by decide) ?_
      refine ky_Si (As := [.int p2, .int 1, .int 9]) (rest := []) ⟨hx, hb, hml, hown, hts⟩ ⟨hK, hN⟩ hZ hP hD hS hA [] [] (wc := []) (wr := []) rfl rfl rfl rfl (by decide) (c_X6_outside l D g H.size p2 1 9) (va_cwS 3 hts gX6_isNoLink_X6_outside rfl rfl rfl (by decide +kernel) ⟨(Nat.le_of_ble_eq_true rfl), (Nat.le_of_ble_eq_true rfl)⟩) rfl hl.1 rfl (Nat.le_of_ble_eq_true rfl) dX6_isNoLink_22 ⟨(Nat.le_of_ble_eq_true rfl), (Nat.le_of_ble_eq_true rfl)⟩ (fun r_5 u H locs hw hP hD hS => ?_)
      obtain ⟨rfl, rfl⟩ := hw
      have hP : va_P D vwCl [] H := hP
      have hD : va_D A [] := hD
      refine W.widen (k := 0) (n := 0) (Nat.le_of_ble_eq_true rfl) (Nat.le_of_ble_eq_true rfl) ?_
      refine lv_if_ne (tgt := 39) hx hb dX6_isNoLink_25 (by decide) (fun cb_6 => ?_) (fun cb_6 => ?_)
      · skip
        refine lv_iconst (v := 1) hx hb dX6_isNoLink_39 (by decide) ?_
        refine lv_goto (tgt := 44) hx hb dX6_isNoLink_40 (by decide) ?_
        have hP9 := hP.sub (ws' := []) [] rfl
        have hD9 := hD.sub (ws' := []) [] (by decide) rfl
        subst hQ
        refine W.widen (k := 0) (n := 0) (Nat.le_of_ble_eq_true rfl) (Nat.le_of_ble_eq_true rfl) ?_
        exact W.zret (v := 1) (ty := .boolean) hx hb hr (rfl) (fun tS htS _ => ⟨⟨_, _, rfl, ⟨rfl, (if_pos (Or.inr (Or.inr (Or.inl (b01_1.mp cb_6))))).symm⟩, by rw [htS]; exact hP9, hD9⟩, hS.F htS⟩) hS.2.2 dX6_isNoLink_44
      · skip
        refine lv_iload_n hx hb dX6_isNoLink_28 rfl (lv_at hl 3 rfl) ?_
        refine lv_iconst (v := 1) hx hb dX6_isNoLink_29 (by decide) ?_
        refine lv_sipush (v := 200) hx hb dX6_isNoLink_30 (by decide) ?_
        refine ky_Si (As := [.int p3, .int 1, .int 200]) (rest := []) ⟨hx, hb, hml, hown, hts⟩ ⟨hK, hN⟩ hZ hP hD hS hA [] [] (wc := []) (wr := []) rfl rfl rfl rfl (by decide) (c_X6_outside l D g H.size p3 1 200) (va_cwS 3 hts gX6_isNoLink_X6_outside rfl rfl rfl (by decide +kernel) ⟨(Nat.le_of_ble_eq_true rfl), (Nat.le_of_ble_eq_true rfl)⟩) rfl hl.1 rfl (Nat.le_of_ble_eq_true rfl) dX6_isNoLink_33 ⟨(Nat.le_of_ble_eq_true rfl), (Nat.le_of_ble_eq_true rfl)⟩ (fun r_7 u H locs hw hP hD hS => ?_)
        obtain ⟨rfl, rfl⟩ := hw
        have hP : va_P D vwCl [] H := hP
        have hD : va_D A [] := hD
        refine W.widen (k := 0) (n := 0) (Nat.le_of_ble_eq_true rfl) (Nat.le_of_ble_eq_true rfl) ?_
        refine lv_if_eq (tgt := 43) hx hb dX6_isNoLink_36 (by decide) (fun cb_8 => ?_) (fun cb_8 => ?_)
        · skip
          refine lv_iconst (v := 0) hx hb dX6_isNoLink_43 (by decide) ?_
          have hP9 := hP.sub (ws' := []) [] rfl
          have hD9 := hD.sub (ws' := []) [] (by decide) rfl
          subst hQ
          refine W.widen (k := 0) (n := 0) (Nat.le_of_ble_eq_true rfl) (Nat.le_of_ble_eq_true rfl) ?_
          exact W.zret (v := 0) (ty := .boolean) hx hb hr (rfl) (fun tS htS _ => ⟨⟨_, _, rfl, ⟨rfl, (if_neg (fun h => h.elim (b01_0.mp cb_2) (fun h => h.elim (b01_0.mp cb_4) (fun h => h.elim (b01_0.mp cb_6) (b01_0.mp cb_8))))).symm⟩, by rw [htS]; exact hP9, hD9⟩, hS.F htS⟩) hS.2.2 dX6_isNoLink_44
        · skip
          refine lv_iconst (v := 1) hx hb dX6_isNoLink_39 (by decide) ?_
          refine lv_goto (tgt := 44) hx hb dX6_isNoLink_40 (by decide) ?_
          have hP9 := hP.sub (ws' := []) [] rfl
          have hD9 := hD.sub (ws' := []) [] (by decide) rfl
          subst hQ
          refine W.widen (k := 0) (n := 0) (Nat.le_of_ble_eq_true rfl) (Nat.le_of_ble_eq_true rfl) ?_
          exact W.zret (v := 1) (ty := .boolean) hx hb hr (rfl) (fun tS htS _ => ⟨⟨_, _, rfl, ⟨rfl, (if_pos (Or.inr (Or.inr (Or.inr (b01_1.mp cb_8))))).symm⟩, by rw [htS]; exact hP9, hD9⟩, hS.F htS⟩) hS.2.2 dX6_isNoLink_44
set_option maxHeartbeats 4000000 in
set_option maxRecDepth 100000 in
theorem c_X6_signsIn (l : Launch) (D : va_G) (g : Nat → ClassId) (sz : Nat) (w : Int32) : Met l yX6_signsIn wsX6_signsIn ({ frames := 0, cells := 0, slots := 0, locals := 0 }) (va_Pc [.int w] (pre D g sz [])) (va_Qi (fun (r : Int32) (u : va_W) => u = [] ∧ r = (nI (sg w))) (wd D (va_A [] sz)) (va_A [] sz)) 0 0 (va_A [] sz) := by
  refine Met.ofW (cc := cX6_signsIn) (maxL := 3) (ret := (some .int)) (by decide) rfl ?_
  intro p e s m args below meth c s₁ B hml hv
  obtain ⟨rfl, hsz, hP, ⟨hK, hN⟩, hD0, hZ⟩ := hv
  have hx := B.exec
  have hb := B.bytes
  have hr := B.returns
  have hts := atoms_spec (ws := wsX6_signsIn) B.pre
  have hown : s.vm.findClass RX6 = some m.cls := findClass_of_methodNamed B.named
  have hlocks := B.notSynchronized
  clear B
  subst hsz
  have hD := hD0.self (sz := s.heap.size)
  clear hD0
  generalize hAe : va_A [] s.heap.size = A at hD hZ ⊢
  have hA : ∀ q : Nat, s.heap.size ≤ q → A q := fun q h => by rw [← hAe]; exact Or.inr h
  have hS : va_S A s.heap s.heap [] := va_S.rf
  have hl := lv_entry ([.int w]) (n := 3) (Nat.le_of_ble_eq_true rfl)
  rw [lg_entry_eq]
  generalize (lg_sl ([.int w]) ++ List.replicate (3 - (lg_sl ([.int w])).length) Slot.unset).toArray = ls at hl ⊢
  have hl : lv_has ls 3 [(0, .int w)] := hl
  generalize hQ : MQ below _ _ s _ _ _ = Q
  generalize hH : s.heap = H at hP ⊢
  have hS : va_S A s.heap H [] := by rw [← hH]; exact hS
  clear hH
  refine lv_iconst (v := 0) hx hb dX6_signsIn_0 (by decide) ?_
  refine lv_istore_n (lv' := [(1, .int 0), (0, .int w)]) hx hb dX6_signsIn_1 rfl hl (by decide) rfl (fun ls hl => ?_)
  refine lv_bipush (v := 24) hx hb dX6_signsIn_2 (by decide) ?_
  refine lv_istore_n (lv' := [(2, .int 24), (1, .int 0), (0, .int w)]) hx hb dX6_signsIn_4 rfl hl (by decide) rfl (fun ls hl => ?_)
  refine lv_iload_n hx hb dX6_signsIn_5 rfl (lv_at hl 0 rfl) ?_
  refine lv_if_lt (tgt := 28) hx hb dX6_signsIn_6 (by decide) (fun cb => absurd cb (by decide)) (fun _ => ?_)
  refine lv_iload_n hx hb dX6_signsIn_9 rfl (lv_at hl 2 rfl) ?_
  refine lv_iload_n hx hb dX6_signsIn_10 rfl (lv_at hl 0 rfl) ?_
  refine lv_iushr hx hb dX6_signsIn_11 rfl ?_
  refine lv_sipush (v := 255) hx hb dX6_signsIn_12 (by decide) ?_
  refine lv_iand hx hb dX6_signsIn_15 ?_
  refine lv_if_eq (tgt := 22) hx hb dX6_signsIn_16 (by decide) (fun cb_1 => ?_) (fun cb_1 => ?_)
  · skip
    refine lv_iinc (v := 16) (lv' := [(2, .int 16), (1, .int 0), (0, .int w)]) hx hb dX6_signsIn_22 hl (k := 0) rfl (by decide) (by decide) rfl (fun ls hl => ?_)
    refine lv_goto (tgt := 5) hx hb dX6_signsIn_25 (by decide) ?_
    refine lv_iload_n hx hb dX6_signsIn_5 rfl (lv_at hl 0 rfl) ?_
    refine lv_if_lt (tgt := 28) hx hb dX6_signsIn_6 (by decide) (fun cb => absurd cb (by decide)) (fun _ => ?_)
    refine lv_iload_n hx hb dX6_signsIn_9 rfl (lv_at hl 2 rfl) ?_
    refine lv_iload_n hx hb dX6_signsIn_10 rfl (lv_at hl 0 rfl) ?_
    refine lv_iushr hx hb dX6_signsIn_11 rfl ?_
    refine lv_sipush (v := 255) hx hb dX6_signsIn_12 (by decide) ?_
    refine lv_iand hx hb dX6_signsIn_15 ?_
    refine lv_if_eq (tgt := 22) hx hb dX6_signsIn_16 (by decide) (fun cb_2 => ?_) (fun cb_2 => ?_)
    · skip
      refine lv_iinc (v := 8) (lv' := [(2, .int 8), (1, .int 0), (0, .int w)]) hx hb dX6_signsIn_22 hl (k := 0) rfl (by decide) (by decide) rfl (fun ls hl => ?_)
      refine lv_goto (tgt := 5) hx hb dX6_signsIn_25 (by decide) ?_
      refine lv_iload_n hx hb dX6_signsIn_5 rfl (lv_at hl 0 rfl) ?_
      refine lv_if_lt (tgt := 28) hx hb dX6_signsIn_6 (by decide) (fun cb => absurd cb (by decide)) (fun _ => ?_)
      refine lv_iload_n hx hb dX6_signsIn_9 rfl (lv_at hl 2 rfl) ?_
      refine lv_iload_n hx hb dX6_signsIn_10 rfl (lv_at hl 0 rfl) ?_
      refine lv_iushr hx hb dX6_signsIn_11 rfl ?_
      refine lv_sipush (v := 255) hx hb dX6_signsIn_12 (by decide) ?_
      refine lv_iand hx hb dX6_signsIn_15 ?_
      refine lv_if_eq (tgt := 22) hx hb dX6_signsIn_16 (by decide) (fun cb_3 => ?_) (fun cb_3 => ?_)
      · skip
        refine lv_iinc (v := 0) (lv' := [(2, .int 0), (1, .int 0), (0, .int w)]) hx hb dX6_signsIn_22 hl (k := 0) rfl (by decide) (by decide) rfl (fun ls hl => ?_)
        refine lv_goto (tgt := 5) hx hb dX6_signsIn_25 (by decide) ?_
        refine lv_iload_n hx hb dX6_signsIn_5 rfl (lv_at hl 0 rfl) ?_
        refine lv_if_lt (tgt := 28) hx hb dX6_signsIn_6 (by decide) (fun cb => absurd cb (by decide)) (fun _ => ?_)
        refine lv_iload_n hx hb dX6_signsIn_9 rfl (lv_at hl 2 rfl) ?_
        refine lv_iload_n hx hb dX6_signsIn_10 rfl (lv_at hl 0 rfl) ?_
        refine lv_iushr hx hb dX6_signsIn_11 rfl ?_
        refine lv_sipush (v := 255) hx hb dX6_signsIn_12 (by decide) ?_
        refine lv_iand hx hb dX6_signsIn_15 ?_
        refine lv_if_eq (tgt := 22) hx hb dX6_signsIn_16 (by decide) (fun cb_4 => ?_) (fun cb_4 => ?_)
        · skip
          refine lv_iinc (v := (-8)) (lv' := [(2, .int (-8)), (1, .int 0), (0, .int w)]) hx hb dX6_signsIn_22 hl (k := 0) rfl (by decide) (by decide) rfl (fun ls hl => ?_)
          refine lv_goto (tgt := 5) hx hb dX6_signsIn_25 (by decide) ?_
          refine lv_iload_n hx hb dX6_signsIn_5 rfl (lv_at hl 0 rfl) ?_
          refine lv_if_lt (tgt := 28) hx hb dX6_signsIn_6 (by decide) (fun _ => ?_) (fun cb => absurd (by decide) cb)
          refine lv_iload_n hx hb dX6_signsIn_28 rfl (lv_at hl 1 rfl) ?_
          have hP9 := hP.sub (ws' := []) [] rfl
          have hD9 := hD.sub (ws' := []) [] (by decide) rfl
          subst hQ
          refine W.widen (k := 0) (n := 0) (Nat.le_of_ble_eq_true rfl) (Nat.le_of_ble_eq_true rfl) ?_
          exact W.iret (v := 0) hx hb hr (fun tS htS _ => ⟨⟨_, _, rfl, ⟨rfl, by rw [sg, bz_0 cb_1, bz_0 cb_2, bz_0 cb_3, bz_0 cb_4]; rfl⟩, by rw [htS]; exact hP9, hD9⟩, hS.F htS⟩) hS.2.2 dX6_signsIn_29
        · skip
          refine lv_iinc (v := 1) (lv' := [(1, .int 1), (2, .int 0), (0, .int w)]) hx hb dX6_signsIn_19 hl (k := 1) rfl (by decide) (by decide) rfl (fun ls hl => ?_)
          refine lv_iinc (v := (-8)) (lv' := [(2, .int (-8)), (1, .int 1), (0, .int w)]) hx hb dX6_signsIn_22 hl (k := 1) rfl (by decide) (by decide) rfl (fun ls hl => ?_)
          refine lv_goto (tgt := 5) hx hb dX6_signsIn_25 (by decide) ?_
          refine lv_iload_n hx hb dX6_signsIn_5 rfl (lv_at hl 0 rfl) ?_
          refine lv_if_lt (tgt := 28) hx hb dX6_signsIn_6 (by decide) (fun _ => ?_) (fun cb => absurd (by decide) cb)
          refine lv_iload_n hx hb dX6_signsIn_28 rfl (lv_at hl 1 rfl) ?_
          have hP9 := hP.sub (ws' := []) [] rfl
          have hD9 := hD.sub (ws' := []) [] (by decide) rfl
          subst hQ
          refine W.widen (k := 0) (n := 0) (Nat.le_of_ble_eq_true rfl) (Nat.le_of_ble_eq_true rfl) ?_
          exact W.iret (v := 1) hx hb hr (fun tS htS _ => ⟨⟨_, _, rfl, ⟨rfl, by rw [sg, bz_0 cb_1, bz_0 cb_2, bz_0 cb_3, bz_1 cb_4]; rfl⟩, by rw [htS]; exact hP9, hD9⟩, hS.F htS⟩) hS.2.2 dX6_signsIn_29
      · skip
        refine lv_iinc (v := 1) (lv' := [(1, .int 1), (2, .int 8), (0, .int w)]) hx hb dX6_signsIn_19 hl (k := 1) rfl (by decide) (by decide) rfl (fun ls hl => ?_)
        refine lv_iinc (v := 0) (lv' := [(2, .int 0), (1, .int 1), (0, .int w)]) hx hb dX6_signsIn_22 hl (k := 1) rfl (by decide) (by decide) rfl (fun ls hl => ?_)
        refine lv_goto (tgt := 5) hx hb dX6_signsIn_25 (by decide) ?_
        refine lv_iload_n hx hb dX6_signsIn_5 rfl (lv_at hl 0 rfl) ?_
        refine lv_if_lt (tgt := 28) hx hb dX6_signsIn_6 (by decide) (fun cb => absurd cb (by decide)) (fun _ => ?_)
        refine lv_iload_n hx hb dX6_signsIn_9 rfl (lv_at hl 2 rfl) ?_
        refine lv_iload_n hx hb dX6_signsIn_10 rfl (lv_at hl 0 rfl) ?_
        refine lv_iushr hx hb dX6_signsIn_11 rfl ?_
        refine lv_sipush (v := 255) hx hb dX6_signsIn_12 (by decide) ?_
        refine lv_iand hx hb dX6_signsIn_15 ?_
        refine lv_if_eq (tgt := 22) hx hb dX6_signsIn_16 (by decide) (fun cb_5 => ?_) (fun cb_5 => ?_)
        · skip
          refine lv_iinc (v := (-8)) (lv' := [(2, .int (-8)), (1, .int 1), (0, .int w)]) hx hb dX6_signsIn_22 hl (k := 0) rfl (by decide) (by decide) rfl (fun ls hl => ?_)
          refine lv_goto (tgt := 5) hx hb dX6_signsIn_25 (by decide) ?_
          refine lv_iload_n hx hb dX6_signsIn_5 rfl (lv_at hl 0 rfl) ?_
          refine lv_if_lt (tgt := 28) hx hb dX6_signsIn_6 (by decide) (fun _ => ?_) (fun cb => absurd (by decide) cb)
          refine lv_iload_n hx hb dX6_signsIn_28 rfl (lv_at hl 1 rfl) ?_
          have hP9 := hP.sub (ws' := []) [] rfl
          have hD9 := hD.sub (ws' := []) [] (by decide) rfl
          subst hQ
          refine W.widen (k := 0) (n := 0) (Nat.le_of_ble_eq_true rfl) (Nat.le_of_ble_eq_true rfl) ?_
          exact W.iret (v := 1) hx hb hr (fun tS htS _ => ⟨⟨_, _, rfl, ⟨rfl, by rw [sg, bz_0 cb_1, bz_0 cb_2, bz_1 cb_3, bz_0 cb_5]; rfl⟩, by rw [htS]; exact hP9, hD9⟩, hS.F htS⟩) hS.2.2 dX6_signsIn_29
        · skip
          refine lv_iinc (v := 2) (lv' := [(1, .int 2), (2, .int 0), (0, .int w)]) hx hb dX6_signsIn_19 hl (k := 1) rfl (by decide) (by decide) rfl (fun ls hl => ?_)
          refine lv_iinc (v := (-8)) (lv' := [(2, .int (-8)), (1, .int 2), (0, .int w)]) hx hb dX6_signsIn_22 hl (k := 1) rfl (by decide) (by decide) rfl (fun ls hl => ?_)
          refine lv_goto (tgt := 5) hx hb dX6_signsIn_25 (by decide) ?_
          refine lv_iload_n hx hb dX6_signsIn_5 rfl (lv_at hl 0 rfl) ?_
          refine lv_if_lt (tgt := 28) hx hb dX6_signsIn_6 (by decide) (fun _ => ?_) (fun cb => absurd (by decide) cb)
          refine lv_iload_n hx hb dX6_signsIn_28 rfl (lv_at hl 1 rfl) ?_
          have hP9 := hP.sub (ws' := []) [] rfl
          have hD9 := hD.sub (ws' := []) [] (by decide) rfl
          subst hQ
          refine W.widen (k := 0) (n := 0) (Nat.le_of_ble_eq_true rfl) (Nat.le_of_ble_eq_true rfl) ?_
          exact W.iret (v := 2) hx hb hr (fun tS htS _ => ⟨⟨_, _, rfl, ⟨rfl, by rw [sg, bz_0 cb_1, bz_0 cb_2, bz_1 cb_3, bz_1 cb_5]; rfl⟩, by rw [htS]; exact hP9, hD9⟩, hS.F htS⟩) hS.2.2 dX6_signsIn_29
    · skip
      refine lv_iinc (v := 1) (lv' := [(1, .int 1), (2, .int 16), (0, .int w)]) hx hb dX6_signsIn_19 hl (k := 1) rfl (by decide) (by decide) rfl (fun ls hl => ?_)
      refine lv_iinc (v := 8) (lv' := [(2, .int 8), (1, .int 1), (0, .int w)]) hx hb dX6_signsIn_22 hl (k := 1) rfl (by decide) (by decide) rfl (fun ls hl => ?_)
      refine lv_goto (tgt := 5) hx hb dX6_signsIn_25 (by decide) ?_
      refine lv_iload_n hx hb dX6_signsIn_5 rfl (lv_at hl 0 rfl) ?_
      refine lv_if_lt (tgt := 28) hx hb dX6_signsIn_6 (by decide) (fun cb => absurd cb (by decide)) (fun _ => ?_)
      refine lv_iload_n hx hb dX6_signsIn_9 rfl (lv_at hl 2 rfl) ?_
      refine lv_iload_n hx hb dX6_signsIn_10 rfl (lv_at hl 0 rfl) ?_
      refine lv_iushr hx hb dX6_signsIn_11 rfl ?_
      refine lv_sipush (v := 255) hx hb dX6_signsIn_12 (by decide) ?_
      refine lv_iand hx hb dX6_signsIn_15 ?_
      refine lv_if_eq (tgt := 22) hx hb dX6_signsIn_16 (by decide) (fun cb_6 => ?_) (fun cb_6 => ?_)
      · skip
        refine lv_iinc (v := 0) (lv' := [(2, .int 0), (1, .int 1), (0, .int w)]) hx hb dX6_signsIn_22 hl (k := 0) rfl (by decide) (by decide) rfl (fun ls hl => ?_)
        refine lv_goto (tgt := 5) hx hb dX6_signsIn_25 (by decide) ?_
        refine lv_iload_n hx hb dX6_signsIn_5 rfl (lv_at hl 0 rfl) ?_
        refine lv_if_lt (tgt := 28) hx hb dX6_signsIn_6 (by decide) (fun cb => absurd cb (by decide)) (fun _ => ?_)
        refine lv_iload_n hx hb dX6_signsIn_9 rfl (lv_at hl 2 rfl) ?_
        refine lv_iload_n hx hb dX6_signsIn_10 rfl (lv_at hl 0 rfl) ?_
        refine lv_iushr hx hb dX6_signsIn_11 rfl ?_
        refine lv_sipush (v := 255) hx hb dX6_signsIn_12 (by decide) ?_
        refine lv_iand hx hb dX6_signsIn_15 ?_
        refine lv_if_eq (tgt := 22) hx hb dX6_signsIn_16 (by decide) (fun cb_7 => ?_) (fun cb_7 => ?_)
        · skip
          refine lv_iinc (v := (-8)) (lv' := [(2, .int (-8)), (1, .int 1), (0, .int w)]) hx hb dX6_signsIn_22 hl (k := 0) rfl (by decide) (by decide) rfl (fun ls hl => ?_)
          refine lv_goto (tgt := 5) hx hb dX6_signsIn_25 (by decide) ?_
          refine lv_iload_n hx hb dX6_signsIn_5 rfl (lv_at hl 0 rfl) ?_
          refine lv_if_lt (tgt := 28) hx hb dX6_signsIn_6 (by decide) (fun _ => ?_) (fun cb => absurd (by decide) cb)
          refine lv_iload_n hx hb dX6_signsIn_28 rfl (lv_at hl 1 rfl) ?_
          have hP9 := hP.sub (ws' := []) [] rfl
          have hD9 := hD.sub (ws' := []) [] (by decide) rfl
          subst hQ
          refine W.widen (k := 0) (n := 0) (Nat.le_of_ble_eq_true rfl) (Nat.le_of_ble_eq_true rfl) ?_
          exact W.iret (v := 1) hx hb hr (fun tS htS _ => ⟨⟨_, _, rfl, ⟨rfl, by rw [sg, bz_0 cb_1, bz_1 cb_2, bz_0 cb_6, bz_0 cb_7]; rfl⟩, by rw [htS]; exact hP9, hD9⟩, hS.F htS⟩) hS.2.2 dX6_signsIn_29
        · skip
          refine lv_iinc (v := 2) (lv' := [(1, .int 2), (2, .int 0), (0, .int w)]) hx hb dX6_signsIn_19 hl (k := 1) rfl (by decide) (by decide) rfl (fun ls hl => ?_)
          refine lv_iinc (v := (-8)) (lv' := [(2, .int (-8)), (1, .int 2), (0, .int w)]) hx hb dX6_signsIn_22 hl (k := 1) rfl (by decide) (by decide) rfl (fun ls hl => ?_)
          refine lv_goto (tgt := 5) hx hb dX6_signsIn_25 (by decide) ?_
          refine lv_iload_n hx hb dX6_signsIn_5 rfl (lv_at hl 0 rfl) ?_
          refine lv_if_lt (tgt := 28) hx hb dX6_signsIn_6 (by decide) (fun _ => ?_) (fun cb => absurd (by decide) cb)
          refine lv_iload_n hx hb dX6_signsIn_28 rfl (lv_at hl 1 rfl) ?_
          have hP9 := hP.sub (ws' := []) [] rfl
          have hD9 := hD.sub (ws' := []) [] (by decide) rfl
          subst hQ
          refine W.widen (k := 0) (n := 0) (Nat.le_of_ble_eq_true rfl) (Nat.le_of_ble_eq_true rfl) ?_
          exact W.iret (v := 2) hx hb hr (fun tS htS _ => ⟨⟨_, _, rfl, ⟨rfl, by rw [sg, bz_0 cb_1, bz_1 cb_2, bz_0 cb_6, bz_1 cb_7]; rfl⟩, by rw [htS]; exact hP9, hD9⟩, hS.F htS⟩) hS.2.2 dX6_signsIn_29
      · skip
        refine lv_iinc (v := 2) (lv' := [(1, .int 2), (2, .int 8), (0, .int w)]) hx hb dX6_signsIn_19 hl (k := 1) rfl (by decide) (by decide) rfl (fun ls hl => ?_)
        refine lv_iinc (v := 0) (lv' := [(2, .int 0), (1, .int 2), (0, .int w)]) hx hb dX6_signsIn_22 hl (k := 1) rfl (by decide) (by decide) rfl (fun ls hl => ?_)
        refine lv_goto (tgt := 5) hx hb dX6_signsIn_25 (by decide) ?_
        refine lv_iload_n hx hb dX6_signsIn_5 rfl (lv_at hl 0 rfl) ?_
        refine lv_if_lt (tgt := 28) hx hb dX6_signsIn_6 (by decide) (fun cb => absurd cb (by decide)) (fun _ => ?_)
        refine lv_iload_n hx hb dX6_signsIn_9 rfl (lv_at hl 2 rfl) ?_
        refine lv_iload_n hx hb dX6_signsIn_10 rfl (lv_at hl 0 rfl) ?_
        refine lv_iushr hx hb dX6_signsIn_11 rfl ?_
        refine lv_sipush (v := 255) hx hb dX6_signsIn_12 (by decide) ?_
        refine lv_iand hx hb dX6_signsIn_15 ?_
        refine lv_if_eq (tgt := 22) hx hb dX6_signsIn_16 (by decide) (fun cb_8 => ?_) (fun cb_8 => ?_)
        · skip
          refine lv_iinc (v := (-8)) (lv' := [(2, .int (-8)), (1, .int 2), (0, .int w)]) hx hb dX6_signsIn_22 hl (k := 0) rfl (by decide) (by decide) rfl (fun ls hl => ?_)
          refine lv_goto (tgt := 5) hx hb dX6_signsIn_25 (by decide) ?_
          refine lv_iload_n hx hb dX6_signsIn_5 rfl (lv_at hl 0 rfl) ?_
          refine lv_if_lt (tgt := 28) hx hb dX6_signsIn_6 (by decide) (fun _ => ?_) (fun cb => absurd (by decide) cb)
          refine lv_iload_n hx hb dX6_signsIn_28 rfl (lv_at hl 1 rfl) ?_
          have hP9 := hP.sub (ws' := []) [] rfl
          have hD9 := hD.sub (ws' := []) [] (by decide) rfl
          subst hQ
          refine W.widen (k := 0) (n := 0) (Nat.le_of_ble_eq_true rfl) (Nat.le_of_ble_eq_true rfl) ?_
          exact W.iret (v := 2) hx hb hr (fun tS htS _ => ⟨⟨_, _, rfl, ⟨rfl, by rw [sg, bz_0 cb_1, bz_1 cb_2, bz_1 cb_6, bz_0 cb_8]; rfl⟩, by rw [htS]; exact hP9, hD9⟩, hS.F htS⟩) hS.2.2 dX6_signsIn_29
        · skip
          refine lv_iinc (v := 3) (lv' := [(1, .int 3), (2, .int 0), (0, .int w)]) hx hb dX6_signsIn_19 hl (k := 1) rfl (by decide) (by decide) rfl (fun ls hl => ?_)
          refine lv_iinc (v := (-8)) (lv' := [(2, .int (-8)), (1, .int 3), (0, .int w)]) hx hb dX6_signsIn_22 hl (k := 1) rfl (by decide) (by decide) rfl (fun ls hl => ?_)
          refine lv_goto (tgt := 5) hx hb dX6_signsIn_25 (by decide) ?_
          refine lv_iload_n hx hb dX6_signsIn_5 rfl (lv_at hl 0 rfl) ?_
          refine lv_if_lt (tgt := 28) hx hb dX6_signsIn_6 (by decide) (fun _ => ?_) (fun cb => absurd (by decide) cb)
          refine lv_iload_n hx hb dX6_signsIn_28 rfl (lv_at hl 1 rfl) ?_
          have hP9 := hP.sub (ws' := []) [] rfl
          have hD9 := hD.sub (ws' := []) [] (by decide) rfl
          subst hQ
          refine W.widen (k := 0) (n := 0) (Nat.le_of_ble_eq_true rfl) (Nat.le_of_ble_eq_true rfl) ?_
          exact W.iret (v := 3) hx hb hr (fun tS htS _ => ⟨⟨_, _, rfl, ⟨rfl, by rw [sg, bz_0 cb_1, bz_1 cb_2, bz_1 cb_6, bz_1 cb_8]; rfl⟩, by rw [htS]; exact hP9, hD9⟩, hS.F htS⟩) hS.2.2 dX6_signsIn_29
  · skip
    refine lv_iinc (v := 1) (lv' := [(1, .int 1), (2, .int 24), (0, .int w)]) hx hb dX6_signsIn_19 hl (k := 1) rfl (by decide) (by decide) rfl (fun ls hl => ?_)
    refine lv_iinc (v := 16) (lv' := [(2, .int 16), (1, .int 1), (0, .int w)]) hx hb dX6_signsIn_22 hl (k := 1) rfl (by decide) (by decide) rfl (fun ls hl => ?_)
    refine lv_goto (tgt := 5) hx hb dX6_signsIn_25 (by decide) ?_
    refine lv_iload_n hx hb dX6_signsIn_5 rfl (lv_at hl 0 rfl) ?_
    refine lv_if_lt (tgt := 28) hx hb dX6_signsIn_6 (by decide) (fun cb => absurd cb (by decide)) (fun _ => ?_)
    refine lv_iload_n hx hb dX6_signsIn_9 rfl (lv_at hl 2 rfl) ?_
    refine lv_iload_n hx hb dX6_signsIn_10 rfl (lv_at hl 0 rfl) ?_
    refine lv_iushr hx hb dX6_signsIn_11 rfl ?_
    refine lv_sipush (v := 255) hx hb dX6_signsIn_12 (by decide) ?_
    refine lv_iand hx hb dX6_signsIn_15 ?_
    refine lv_if_eq (tgt := 22) hx hb dX6_signsIn_16 (by decide) (fun cb_9 => ?_) (fun cb_9 => ?_)
    · skip
      refine lv_iinc (v := 8) (lv' := [(2, .int 8), (1, .int 1), (0, .int w)]) hx hb dX6_signsIn_22 hl (k := 0) rfl (by decide) (by decide) rfl (fun ls hl => ?_)
      refine lv_goto (tgt := 5) hx hb dX6_signsIn_25 (by decide) ?_
      refine lv_iload_n hx hb dX6_signsIn_5 rfl (lv_at hl 0 rfl) ?_
      refine lv_if_lt (tgt := 28) hx hb dX6_signsIn_6 (by decide) (fun cb => absurd cb (by decide)) (fun _ => ?_)
      refine lv_iload_n hx hb dX6_signsIn_9 rfl (lv_at hl 2 rfl) ?_
      refine lv_iload_n hx hb dX6_signsIn_10 rfl (lv_at hl 0 rfl) ?_
      refine lv_iushr hx hb dX6_signsIn_11 rfl ?_
      refine lv_sipush (v := 255) hx hb dX6_signsIn_12 (by decide) ?_
      refine lv_iand hx hb dX6_signsIn_15 ?_
      refine lv_if_eq (tgt := 22) hx hb dX6_signsIn_16 (by decide) (fun cb_10 => ?_) (fun cb_10 => ?_)
      · skip
        refine lv_iinc (v := 0) (lv' := [(2, .int 0), (1, .int 1), (0, .int w)]) hx hb dX6_signsIn_22 hl (k := 0) rfl (by decide) (by decide) rfl (fun ls hl => ?_)
        refine lv_goto (tgt := 5) hx hb dX6_signsIn_25 (by decide) ?_
        refine lv_iload_n hx hb dX6_signsIn_5 rfl (lv_at hl 0 rfl) ?_
        refine lv_if_lt (tgt := 28) hx hb dX6_signsIn_6 (by decide) (fun cb => absurd cb (by decide)) (fun _ => ?_)
        refine lv_iload_n hx hb dX6_signsIn_9 rfl (lv_at hl 2 rfl) ?_
        refine lv_iload_n hx hb dX6_signsIn_10 rfl (lv_at hl 0 rfl) ?_
        refine lv_iushr hx hb dX6_signsIn_11 rfl ?_
        refine lv_sipush (v := 255) hx hb dX6_signsIn_12 (by decide) ?_
        refine lv_iand hx hb dX6_signsIn_15 ?_
        refine lv_if_eq (tgt := 22) hx hb dX6_signsIn_16 (by decide) (fun cb_11 => ?_) (fun cb_11 => ?_)
        · skip
          refine lv_iinc (v := (-8)) (lv' := [(2, .int (-8)), (1, .int 1), (0, .int w)]) hx hb dX6_signsIn_22 hl (k := 0) rfl (by decide) (by decide) rfl (fun ls hl => ?_)
          refine lv_goto (tgt := 5) hx hb dX6_signsIn_25 (by decide) ?_
          refine lv_iload_n hx hb dX6_signsIn_5 rfl (lv_at hl 0 rfl) ?_
          refine lv_if_lt (tgt := 28) hx hb dX6_signsIn_6 (by decide) (fun _ => ?_) (fun cb => absurd (by decide) cb)
          refine lv_iload_n hx hb dX6_signsIn_28 rfl (lv_at hl 1 rfl) ?_
          have hP9 := hP.sub (ws' := []) [] rfl
          have hD9 := hD.sub (ws' := []) [] (by decide) rfl
          subst hQ
          refine W.widen (k := 0) (n := 0) (Nat.le_of_ble_eq_true rfl) (Nat.le_of_ble_eq_true rfl) ?_
          exact W.iret (v := 1) hx hb hr (fun tS htS _ => ⟨⟨_, _, rfl, ⟨rfl, by rw [sg, bz_1 cb_1, bz_0 cb_9, bz_0 cb_10, bz_0 cb_11]; rfl⟩, by rw [htS]; exact hP9, hD9⟩, hS.F htS⟩) hS.2.2 dX6_signsIn_29
        · skip
          refine lv_iinc (v := 2) (lv' := [(1, .int 2), (2, .int 0), (0, .int w)]) hx hb dX6_signsIn_19 hl (k := 1) rfl (by decide) (by decide) rfl (fun ls hl => ?_)
          refine lv_iinc (v := (-8)) (lv' := [(2, .int (-8)), (1, .int 2), (0, .int w)]) hx hb dX6_signsIn_22 hl (k := 1) rfl (by decide) (by decide) rfl (fun ls hl => ?_)
          refine lv_goto (tgt := 5) hx hb dX6_signsIn_25 (by decide) ?_
          refine lv_iload_n hx hb dX6_signsIn_5 rfl (lv_at hl 0 rfl) ?_
          refine lv_if_lt (tgt := 28) hx hb dX6_signsIn_6 (by decide) (fun _ => ?_) (fun cb => absurd (by decide) cb)
          refine lv_iload_n hx hb dX6_signsIn_28 rfl (lv_at hl 1 rfl) ?_
          have hP9 := hP.sub (ws' := []) [] rfl
          have hD9 := hD.sub (ws' := []) [] (by decide) rfl
          subst hQ
          refine W.widen (k := 0) (n := 0) (Nat.le_of_ble_eq_true rfl) (Nat.le_of_ble_eq_true rfl) ?_
          exact W.iret (v := 2) hx hb hr (fun tS htS _ => ⟨⟨_, _, rfl, ⟨rfl, by rw [sg, bz_1 cb_1, bz_0 cb_9, bz_0 cb_10, bz_1 cb_11]; rfl⟩, by rw [htS]; exact hP9, hD9⟩, hS.F htS⟩) hS.2.2 dX6_signsIn_29
      · skip
        refine lv_iinc (v := 2) (lv' := [(1, .int 2), (2, .int 8), (0, .int w)]) hx hb dX6_signsIn_19 hl (k := 1) rfl (by decide) (by decide) rfl (fun ls hl => ?_)
        refine lv_iinc (v := 0) (lv' := [(2, .int 0), (1, .int 2), (0, .int w)]) hx hb dX6_signsIn_22 hl (k := 1) rfl (by decide) (by decide) rfl (fun ls hl => ?_)
        refine lv_goto (tgt := 5) hx hb dX6_signsIn_25 (by decide) ?_
        refine lv_iload_n hx hb dX6_signsIn_5 rfl (lv_at hl 0 rfl) ?_
        refine lv_if_lt (tgt := 28) hx hb dX6_signsIn_6 (by decide) (fun cb => absurd cb (by decide)) (fun _ => ?_)
        refine lv_iload_n hx hb dX6_signsIn_9 rfl (lv_at hl 2 rfl) ?_
        refine lv_iload_n hx hb dX6_signsIn_10 rfl (lv_at hl 0 rfl) ?_
        refine lv_iushr hx hb dX6_signsIn_11 rfl ?_
        refine lv_sipush (v := 255) hx hb dX6_signsIn_12 (by decide) ?_
        refine lv_iand hx hb dX6_signsIn_15 ?_
        refine lv_if_eq (tgt := 22) hx hb dX6_signsIn_16 (by decide) (fun cb_12 => ?_) (fun cb_12 => ?_)
        · skip
          refine lv_iinc (v := (-8)) (lv' := [(2, .int (-8)), (1, .int 2), (0, .int w)]) hx hb dX6_signsIn_22 hl (k := 0) rfl (by decide) (by decide) rfl (fun ls hl => ?_)
          refine lv_goto (tgt := 5) hx hb dX6_signsIn_25 (by decide) ?_
          refine lv_iload_n hx hb dX6_signsIn_5 rfl (lv_at hl 0 rfl) ?_
          refine lv_if_lt (tgt := 28) hx hb dX6_signsIn_6 (by decide) (fun _ => ?_) (fun cb => absurd (by decide) cb)
          refine lv_iload_n hx hb dX6_signsIn_28 rfl (lv_at hl 1 rfl) ?_
          have hP9 := hP.sub (ws' := []) [] rfl
          have hD9 := hD.sub (ws' := []) [] (by decide) rfl
          subst hQ
          refine W.widen (k := 0) (n := 0) (Nat.le_of_ble_eq_true rfl) (Nat.le_of_ble_eq_true rfl) ?_
          exact W.iret (v := 2) hx hb hr (fun tS htS _ => ⟨⟨_, _, rfl, ⟨rfl, by rw [sg, bz_1 cb_1, bz_0 cb_9, bz_1 cb_10, bz_0 cb_12]; rfl⟩, by rw [htS]; exact hP9, hD9⟩, hS.F htS⟩) hS.2.2 dX6_signsIn_29
        · skip
          refine lv_iinc (v := 3) (lv' := [(1, .int 3), (2, .int 0), (0, .int w)]) hx hb dX6_signsIn_19 hl (k := 1) rfl (by decide) (by decide) rfl (fun ls hl => ?_)
          refine lv_iinc (v := (-8)) (lv' := [(2, .int (-8)), (1, .int 3), (0, .int w)]) hx hb dX6_signsIn_22 hl (k := 1) rfl (by decide) (by decide) rfl (fun ls hl => ?_)
          refine lv_goto (tgt := 5) hx hb dX6_signsIn_25 (by decide) ?_
          refine lv_iload_n hx hb dX6_signsIn_5 rfl (lv_at hl 0 rfl) ?_
          refine lv_if_lt (tgt := 28) hx hb dX6_signsIn_6 (by decide) (fun _ => ?_) (fun cb => absurd (by decide) cb)
          refine lv_iload_n hx hb dX6_signsIn_28 rfl (lv_at hl 1 rfl) ?_
          have hP9 := hP.sub (ws' := []) [] rfl
          have hD9 := hD.sub (ws' := []) [] (by decide) rfl
          subst hQ
          refine W.widen (k := 0) (n := 0) (Nat.le_of_ble_eq_true rfl) (Nat.le_of_ble_eq_true rfl) ?_
          exact W.iret (v := 3) hx hb hr (fun tS htS _ => ⟨⟨_, _, rfl, ⟨rfl, by rw [sg, bz_1 cb_1, bz_0 cb_9, bz_1 cb_10, bz_1 cb_12]; rfl⟩, by rw [htS]; exact hP9, hD9⟩, hS.F htS⟩) hS.2.2 dX6_signsIn_29
    · skip
      refine lv_iinc (v := 2) (lv' := [(1, .int 2), (2, .int 16), (0, .int w)]) hx hb dX6_signsIn_19 hl (k := 1) rfl (by decide) (by decide) rfl (fun ls hl => ?_)
      refine lv_iinc (v := 8) (lv' := [(2, .int 8), (1, .int 2), (0, .int w)]) hx hb dX6_signsIn_22 hl (k := 1) rfl (by decide) (by decide) rfl (fun ls hl => ?_)
      refine lv_goto (tgt := 5) hx hb dX6_signsIn_25 (by decide) ?_
      refine lv_iload_n hx hb dX6_signsIn_5 rfl (lv_at hl 0 rfl) ?_
      refine lv_if_lt (tgt := 28) hx hb dX6_signsIn_6 (by decide) (fun cb => absurd cb (by decide)) (fun _ => ?_)
      refine lv_iload_n hx hb dX6_signsIn_9 rfl (lv_at hl 2 rfl) ?_
      refine lv_iload_n hx hb dX6_signsIn_10 rfl (lv_at hl 0 rfl) ?_
      refine lv_iushr hx hb dX6_signsIn_11 rfl ?_
      refine lv_sipush (v := 255) hx hb dX6_signsIn_12 (by decide) ?_
      refine lv_iand hx hb dX6_signsIn_15 ?_
      refine lv_if_eq (tgt := 22) hx hb dX6_signsIn_16 (by decide) (fun cb_13 => ?_) (fun cb_13 => ?_)
      · skip
        refine lv_iinc (v := 0) (lv' := [(2, .int 0), (1, .int 2), (0, .int w)]) hx hb dX6_signsIn_22 hl (k := 0) rfl (by decide) (by decide) rfl (fun ls hl => ?_)
        refine lv_goto (tgt := 5) hx hb dX6_signsIn_25 (by decide) ?_
        refine lv_iload_n hx hb dX6_signsIn_5 rfl (lv_at hl 0 rfl) ?_
        refine lv_if_lt (tgt := 28) hx hb dX6_signsIn_6 (by decide) (fun cb => absurd cb (by decide)) (fun _ => ?_)
        refine lv_iload_n hx hb dX6_signsIn_9 rfl (lv_at hl 2 rfl) ?_
        refine lv_iload_n hx hb dX6_signsIn_10 rfl (lv_at hl 0 rfl) ?_
        refine lv_iushr hx hb dX6_signsIn_11 rfl ?_
        refine lv_sipush (v := 255) hx hb dX6_signsIn_12 (by decide) ?_
        refine lv_iand hx hb dX6_signsIn_15 ?_
        refine lv_if_eq (tgt := 22) hx hb dX6_signsIn_16 (by decide) (fun cb_14 => ?_) (fun cb_14 => ?_)
        · skip
          refine lv_iinc (v := (-8)) (lv' := [(2, .int (-8)), (1, .int 2), (0, .int w)]) hx hb dX6_signsIn_22 hl (k := 0) rfl (by decide) (by decide) rfl (fun ls hl => ?_)
          refine lv_goto (tgt := 5) hx hb dX6_signsIn_25 (by decide) ?_
          refine lv_iload_n hx hb dX6_signsIn_5 rfl (lv_at hl 0 rfl) ?_
          refine lv_if_lt (tgt := 28) hx hb dX6_signsIn_6 (by decide) (fun _ => ?_) (fun cb => absurd (by decide) cb)
          refine lv_iload_n hx hb dX6_signsIn_28 rfl (lv_at hl 1 rfl) ?_
          have hP9 := hP.sub (ws' := []) [] rfl
          have hD9 := hD.sub (ws' := []) [] (by decide) rfl
          subst hQ
          refine W.widen (k := 0) (n := 0) (Nat.le_of_ble_eq_true rfl) (Nat.le_of_ble_eq_true rfl) ?_
          exact W.iret (v := 2) hx hb hr (fun tS htS _ => ⟨⟨_, _, rfl, ⟨rfl, by rw [sg, bz_1 cb_1, bz_1 cb_9, bz_0 cb_13, bz_0 cb_14]; rfl⟩, by rw [htS]; exact hP9, hD9⟩, hS.F htS⟩) hS.2.2 dX6_signsIn_29
        · skip
          refine lv_iinc (v := 3) (lv' := [(1, .int 3), (2, .int 0), (0, .int w)]) hx hb dX6_signsIn_19 hl (k := 1) rfl (by decide) (by decide) rfl (fun ls hl => ?_)
          refine lv_iinc (v := (-8)) (lv' := [(2, .int (-8)), (1, .int 3), (0, .int w)]) hx hb dX6_signsIn_22 hl (k := 1) rfl (by decide) (by decide) rfl (fun ls hl => ?_)
          refine lv_goto (tgt := 5) hx hb dX6_signsIn_25 (by decide) ?_
          refine lv_iload_n hx hb dX6_signsIn_5 rfl (lv_at hl 0 rfl) ?_
          refine lv_if_lt (tgt := 28) hx hb dX6_signsIn_6 (by decide) (fun _ => ?_) (fun cb => absurd (by decide) cb)
          refine lv_iload_n hx hb dX6_signsIn_28 rfl (lv_at hl 1 rfl) ?_
          have hP9 := hP.sub (ws' := []) [] rfl
          have hD9 := hD.sub (ws' := []) [] (by decide) rfl
          subst hQ
          refine W.widen (k := 0) (n := 0) (Nat.le_of_ble_eq_true rfl) (Nat.le_of_ble_eq_true rfl) ?_
          exact W.iret (v := 3) hx hb hr (fun tS htS _ => ⟨⟨_, _, rfl, ⟨rfl, by rw [sg, bz_1 cb_1, bz_1 cb_9, bz_0 cb_13, bz_1 cb_14]; rfl⟩, by rw [htS]; exact hP9, hD9⟩, hS.F htS⟩) hS.2.2 dX6_signsIn_29
      · skip
        refine lv_iinc (v := 3) (lv' := [(1, .int 3), (2, .int 8), (0, .int w)]) hx hb dX6_signsIn_19 hl (k := 1) rfl (by decide) (by decide) rfl (fun ls hl => ?_)
        refine lv_iinc (v := 0) (lv' := [(2, .int 0), (1, .int 3), (0, .int w)]) hx hb dX6_signsIn_22 hl (k := 1) rfl (by decide) (by decide) rfl (fun ls hl => ?_)
        refine lv_goto (tgt := 5) hx hb dX6_signsIn_25 (by decide) ?_
        refine lv_iload_n hx hb dX6_signsIn_5 rfl (lv_at hl 0 rfl) ?_
        refine lv_if_lt (tgt := 28) hx hb dX6_signsIn_6 (by decide) (fun cb => absurd cb (by decide)) (fun _ => ?_)
        refine lv_iload_n hx hb dX6_signsIn_9 rfl (lv_at hl 2 rfl) ?_
        refine lv_iload_n hx hb dX6_signsIn_10 rfl (lv_at hl 0 rfl) ?_
        refine lv_iushr hx hb dX6_signsIn_11 rfl ?_
        refine lv_sipush (v := 255) hx hb dX6_signsIn_12 (by decide) ?_
        refine lv_iand hx hb dX6_signsIn_15 ?_
        refine lv_if_eq (tgt := 22) hx hb dX6_signsIn_16 (by decide) (fun cb_15 => ?_) (fun cb_15 => ?_)
        · skip
          refine lv_iinc (v := (-8)) (lv' := [(2, .int (-8)), (1, .int 3), (0, .int w)]) hx hb dX6_signsIn_22 hl (k := 0) rfl (by decide) (by decide) rfl (fun ls hl => ?_)
          refine lv_goto (tgt := 5) hx hb dX6_signsIn_25 (by decide) ?_
          refine lv_iload_n hx hb dX6_signsIn_5 rfl (lv_at hl 0 rfl) ?_
          refine lv_if_lt (tgt := 28) hx hb dX6_signsIn_6 (by decide) (fun _ => ?_) (fun cb => absurd (by decide) cb)
          refine lv_iload_n hx hb dX6_signsIn_28 rfl (lv_at hl 1 rfl) ?_
          have hP9 := hP.sub (ws' := []) [] rfl
          have hD9 := hD.sub (ws' := []) [] (by decide) rfl
          subst hQ
          refine W.widen (k := 0) (n := 0) (Nat.le_of_ble_eq_true rfl) (Nat.le_of_ble_eq_true rfl) ?_
          exact W.iret (v := 3) hx hb hr (fun tS htS _ => ⟨⟨_, _, rfl, ⟨rfl, by rw [sg, bz_1 cb_1, bz_1 cb_9, bz_1 cb_13, bz_0 cb_15]; rfl⟩, by rw [htS]; exact hP9, hD9⟩, hS.F htS⟩) hS.2.2 dX6_signsIn_29
        · skip
          refine lv_iinc (v := 4) (lv' := [(1, .int 4), (2, .int 0), (0, .int w)]) hx hb dX6_signsIn_19 hl (k := 1) rfl (by decide) (by decide) rfl (fun ls hl => ?_)
          refine lv_iinc (v := (-8)) (lv' := [(2, .int (-8)), (1, .int 4), (0, .int w)]) hx hb dX6_signsIn_22 hl (k := 1) rfl (by decide) (by decide) rfl (fun ls hl => ?_)
          refine lv_goto (tgt := 5) hx hb dX6_signsIn_25 (by decide) ?_
          refine lv_iload_n hx hb dX6_signsIn_5 rfl (lv_at hl 0 rfl) ?_
          refine lv_if_lt (tgt := 28) hx hb dX6_signsIn_6 (by decide) (fun _ => ?_) (fun cb => absurd (by decide) cb)
          refine lv_iload_n hx hb dX6_signsIn_28 rfl (lv_at hl 1 rfl) ?_
          have hP9 := hP.sub (ws' := []) [] rfl
          have hD9 := hD.sub (ws' := []) [] (by decide) rfl
          subst hQ
          refine W.widen (k := 0) (n := 0) (Nat.le_of_ble_eq_true rfl) (Nat.le_of_ble_eq_true rfl) ?_
          exact W.iret (v := 4) hx hb hr (fun tS htS _ => ⟨⟨_, _, rfl, ⟨rfl, by rw [sg, bz_1 cb_1, bz_1 cb_9, bz_1 cb_13, bz_1 cb_15]; rfl⟩, by rw [htS]; exact hP9, hD9⟩, hS.F htS⟩) hS.2.2 dX6_signsIn_29
set_option maxHeartbeats 4000000 in
set_option maxRecDepth 100000 in
theorem c_X6_append (l : Launch) (D : va_G) (g : Nat → ClassId) (sz : Nat) (x : Nat) (xt : Nat) (xr : Nat) (xd : Nat) (xn : Nat) (xa : Nat) (xs : Nat) (xy : Nat) (q : Nat) (w : Int32) (ft : Nat → Int32) (hq : q < 150) : Met l yX6_append wsX6_append ({ frames := 0, cells := 0, slots := 0, locals := 0 }) (va_Pc [.ref x, .int w] (pre D g sz [(x, .inr (6, [.ref xt, .int (nI q), .ref xr, .ref xd, .ref xn, .ref xa, .ref xs, .ref xy, .int 0])), (xt, .inl (g 0, 160, .inl ft))])) (va_Qv (fun (u : va_W) => ∃ (tl2 : Int32) (ft2 : Nat → Int32), u = [(x, .inr (6, [.ref xt, .int tl2, .ref xr, .ref xd, .ref xn, .ref xa, .ref xs, .ref xy, .int 0])), (xt, .inl (g 0, 160, .inl ft2))] ∧ (tl2 = nI (q + sg w))) (wd D (va_A [(x, .inr (6, [.ref xt, .int (nI q), .ref xr, .ref xd, .ref xn, .ref xa, .ref xs, .ref xy, .int 0])), (xt, .inl (g 0, 160, .inl ft))] sz)) (va_A [(x, .inr (6, [.ref xt, .int (nI q), .ref xr, .ref xd, .ref xn, .ref xa, .ref xs, .ref xy, .int 0])), (xt, .inl (g 0, 160, .inl ft))] sz)) 0 0 (va_A [(x, .inr (6, [.ref xt, .int (nI q), .ref xr, .ref xd, .ref xn, .ref xa, .ref xs, .ref xy, .int 0])), (xt, .inl (g 0, 160, .inl ft))] sz) := by
  refine Met.ofW (cc := cX6_append) (maxL := 4) (ret := none) (by decide) rfl ?_
  intro p e s m args below meth c s₁ B hml hv
  obtain ⟨rfl, hsz, hP, ⟨hK, hN⟩, hD0, hZ⟩ := hv
  have hx := B.exec
  have hb := B.bytes
  have hr := B.returns
  have hts := atoms_spec (ws := wsX6_append) B.pre
  have hown : s.vm.findClass RX6 = some m.cls := findClass_of_methodNamed B.named
  have hlocks := B.notSynchronized
  clear B
  subst hsz
  have hD := hD0.self (sz := s.heap.size)
  clear hD0
  generalize hAe : va_A [(x, .inr (6, [.ref xt, .int (nI q), .ref xr, .ref xd, .ref xn, .ref xa, .ref xs, .ref xy, .int 0])), (xt, .inl (g 0, 160, .inl ft))] s.heap.size = A at hD hZ ⊢
  have hA : ∀ q : Nat, s.heap.size ≤ q → A q := fun q h => by rw [← hAe]; exact Or.inr h
  have hS : va_S A s.heap s.heap [] := va_S.rf
  have f47 := hts (.fieldLink RX6 47 "HopCredits" "tapeLength" "I") (by decide +kernel)
  have f9 := hts (.fieldLink RX6 9 "HopCredits" "tape" "[I") (by decide +kernel)
  have iX6 : ∀ w ∈ u_ws RX6 TX6 9, w ∈ wsX6_append := by decide +kernel
  have hl := lv_entry ([.ref x, .int w]) (n := 4) (Nat.le_of_ble_eq_true rfl)
  rw [lg_entry_eq]
  generalize (lg_sl ([.ref x, .int w]) ++ List.replicate (4 - (lg_sl ([.ref x, .int w])).length) Slot.unset).toArray = ls at hl ⊢
  have hl : lv_has ls 4 [(0, .ref x), (1, .int w)] := hl
  generalize hQ : MQ below _ _ s _ _ _ = Q
  generalize hH : s.heap = H at hP ⊢
  have hS : va_S A s.heap H [] := by rw [← hH]; exact hS
  clear hH
  refine lv_bipush (v := 24) hx hb dX6_append_0 (by decide) ?_
  refine lv_istore_n (lv' := [(2, .int 24), (0, .ref x), (1, .int w)]) hx hb dX6_append_2 rfl hl (by decide) rfl (fun ls hl => ?_)
  refine lv_iload_n hx hb dX6_append_3 rfl (lv_at hl 0 rfl) ?_
  refine lv_if_lt (tgt := 55) hx hb dX6_append_4 (by decide) (fun cb => absurd cb (by decide)) (fun _ => ?_)
  refine lv_iload_n hx hb dX6_append_7 rfl (lv_at hl 2 rfl) ?_
  refine lv_iload_n hx hb dX6_append_8 rfl (lv_at hl 0 rfl) ?_
  refine lv_iushr hx hb dX6_append_9 rfl ?_
  refine lv_sipush (v := 255) hx hb dX6_append_10 (by decide) ?_
  refine lv_iand hx hb dX6_append_13 ?_
  refine lv_istore_n (lv' := [(3, .int (((w.toUInt32 >>> ((24 : Int32).toUInt32 &&& Int32.toUInt32 31)).toInt32) &&& 255)), (2, .int 24), (0, .ref x), (1, .int w)]) hx hb dX6_append_14 rfl hl (by decide) rfl (fun ls hl => ?_)
  refine lv_iload_n hx hb dX6_append_15 rfl (lv_at hl 0 rfl) ?_
  refine lv_if_eq (tgt := 49) hx hb dX6_append_16 (by decide) (fun cb_1 => ?_) (fun cb_1 => ?_)
  · skip
    refine lv_iinc (v := 16) (lv' := [(2, .int 16), (3, .int (((w.toUInt32 >>> ((24 : Int32).toUInt32 &&& Int32.toUInt32 31)).toInt32) &&& 255)), (0, .ref x), (1, .int w)]) hx hb dX6_append_49 hl (k := 1) rfl (by decide) (by decide) rfl (fun ls hl => ?_)
    refine lv_goto (tgt := 3) hx hb dX6_append_52 (by decide) ?_
    refine lv_iload_n hx hb dX6_append_3 rfl (lv_at hl 0 rfl) ?_
    refine lv_if_lt (tgt := 55) hx hb dX6_append_4 (by decide) (fun cb => absurd cb (by decide)) (fun _ => ?_)
    refine lv_iload_n hx hb dX6_append_7 rfl (lv_at hl 3 rfl) ?_
    refine lv_iload_n hx hb dX6_append_8 rfl (lv_at hl 0 rfl) ?_
    refine lv_iushr hx hb dX6_append_9 rfl ?_
    refine lv_sipush (v := 255) hx hb dX6_append_10 (by decide) ?_
    refine lv_iand hx hb dX6_append_13 ?_
    refine lv_istore_n (lv' := [(3, .int (((w.toUInt32 >>> ((16 : Int32).toUInt32 &&& Int32.toUInt32 31)).toInt32) &&& 255)), (2, .int 16), (0, .ref x), (1, .int w)]) hx hb dX6_append_14 rfl hl (by decide) rfl (fun ls hl => ?_)
    refine lv_iload_n hx hb dX6_append_15 rfl (lv_at hl 0 rfl) ?_
    refine lv_if_eq (tgt := 49) hx hb dX6_append_16 (by decide) (fun cb_2 => ?_) (fun cb_2 => ?_)
    · skip
      refine lv_iinc (v := 8) (lv' := [(2, .int 8), (3, .int (((w.toUInt32 >>> ((16 : Int32).toUInt32 &&& Int32.toUInt32 31)).toInt32) &&& 255)), (0, .ref x), (1, .int w)]) hx hb dX6_append_49 hl (k := 1) rfl (by decide) (by decide) rfl (fun ls hl => ?_)
      refine lv_goto (tgt := 3) hx hb dX6_append_52 (by decide) ?_
      refine lv_iload_n hx hb dX6_append_3 rfl (lv_at hl 0 rfl) ?_
      refine lv_if_lt (tgt := 55) hx hb dX6_append_4 (by decide) (fun cb => absurd cb (by decide)) (fun _ => ?_)
      refine lv_iload_n hx hb dX6_append_7 rfl (lv_at hl 3 rfl) ?_
      refine lv_iload_n hx hb dX6_append_8 rfl (lv_at hl 0 rfl) ?_
      refine lv_iushr hx hb dX6_append_9 rfl ?_
      refine lv_sipush (v := 255) hx hb dX6_append_10 (by decide) ?_
      refine lv_iand hx hb dX6_append_13 ?_
      refine lv_istore_n (lv' := [(3, .int (((w.toUInt32 >>> ((8 : Int32).toUInt32 &&& Int32.toUInt32 31)).toInt32) &&& 255)), (2, .int 8), (0, .ref x), (1, .int w)]) hx hb dX6_append_14 rfl hl (by decide) rfl (fun ls hl => ?_)
      refine lv_iload_n hx hb dX6_append_15 rfl (lv_at hl 0 rfl) ?_
      refine lv_if_eq (tgt := 49) hx hb dX6_append_16 (by decide) (fun cb_3 => ?_) (fun cb_3 => ?_)
      · skip
        refine lv_iinc (v := 0) (lv' := [(2, .int 0), (3, .int (((w.toUInt32 >>> ((8 : Int32).toUInt32 &&& Int32.toUInt32 31)).toInt32) &&& 255)), (0, .ref x), (1, .int w)]) hx hb dX6_append_49 hl (k := 1) rfl (by decide) (by decide) rfl (fun ls hl => ?_)
        refine lv_goto (tgt := 3) hx hb dX6_append_52 (by decide) ?_
        refine lv_iload_n hx hb dX6_append_3 rfl (lv_at hl 0 rfl) ?_
        refine lv_if_lt (tgt := 55) hx hb dX6_append_4 (by decide) (fun cb => absurd cb (by decide)) (fun _ => ?_)
        refine lv_iload_n hx hb dX6_append_7 rfl (lv_at hl 3 rfl) ?_
        refine lv_iload_n hx hb dX6_append_8 rfl (lv_at hl 0 rfl) ?_
        refine lv_iushr hx hb dX6_append_9 rfl ?_
        refine lv_sipush (v := 255) hx hb dX6_append_10 (by decide) ?_
        refine lv_iand hx hb dX6_append_13 ?_
        refine lv_istore_n (lv' := [(3, .int (((w.toUInt32 >>> ((0 : Int32).toUInt32 &&& Int32.toUInt32 31)).toInt32) &&& 255)), (2, .int 0), (0, .ref x), (1, .int w)]) hx hb dX6_append_14 rfl hl (by decide) rfl (fun ls hl => ?_)
        refine lv_iload_n hx hb dX6_append_15 rfl (lv_at hl 0 rfl) ?_
        refine lv_if_eq (tgt := 49) hx hb dX6_append_16 (by decide) (fun cb_4 => ?_) (fun cb_4 => ?_)
        · skip
          refine lv_iinc (v := (-8)) (lv' := [(2, .int (-8)), (3, .int (((w.toUInt32 >>> ((0 : Int32).toUInt32 &&& Int32.toUInt32 31)).toInt32) &&& 255)), (0, .ref x), (1, .int w)]) hx hb dX6_append_49 hl (k := 1) rfl (by decide) (by decide) rfl (fun ls hl => ?_)
          refine lv_goto (tgt := 3) hx hb dX6_append_52 (by decide) ?_
          refine lv_iload_n hx hb dX6_append_3 rfl (lv_at hl 0 rfl) ?_
          refine lv_if_lt (tgt := 55) hx hb dX6_append_4 (by decide) (fun _ => ?_) (fun cb => absurd (by decide) cb)
          have hP9 := hP.sub (ws' := [(x, .inr (6, [.ref xt, .int (nI q), .ref xr, .ref xd, .ref xn, .ref xa, .ref xs, .ref xy, .int 0])), (xt, .inl (g 0, 160, .inl ft))]) [0, 1] rfl
          have hD9 := hD.sub (ws' := [(x, .inr (6, [.ref xt, .int (nI q), .ref xr, .ref xd, .ref xn, .ref xa, .ref xs, .ref xy, .int 0])), (xt, .inl (g 0, 160, .inl ft))]) [0, 1] (by decide) rfl
          subst hQ
          refine W.widen (k := 0) (n := 0) (Nat.le_of_ble_eq_true rfl) (Nat.le_of_ble_eq_true rfl) ?_
          exact W.vret hx hb hr (fun tS htS _ => ⟨⟨_, rfl, ⟨(nI q), ft, rfl, congrArg nI (by have e0 := bz_0 cb_1; have e1 := bz_0 cb_2; have e2 := bz_0 cb_3; have e3 := bz_0 cb_4; unfold sg; omega)⟩, by rw [htS]; exact hP9, hD9⟩, hS.F htS⟩) hS.2.2 dX6_append_55
        · skip
          refine lv_aload_n hx hb dX6_append_19 rfl (lv_at hl 2 rfl) ?_
          refine va_get (D := D) (ci := 6) (v := .int (nI q)) (C := RX6) (T := TX6) (N := 9) hx hb hts iX6 hown hK hP 0 rfl rfl 1 (by decide) f47 (fun _ h9 => h9) rfl dX6_append_20 ?_
          refine lv_sipush (v := 160) hx hb dX6_append_23 (by decide) ?_
          refine lv_icmp_ge (tgt := 49) hx hb dX6_append_26 (by decide) (fun cb => absurd cb (nI_ge (show q < 160 by omega) (by decide))) (fun _ => ?_)
          refine lv_aload_n hx hb dX6_append_29 rfl (lv_at hl 2 rfl) ?_
          refine va_get (D := D) (ci := 6) (v := .ref xt) (C := RX6) (T := TX6) (N := 9) hx hb hts iX6 hown hK hP 0 rfl rfl 0 (by decide) f9 (fun _ h9 => h9) rfl dX6_append_30 ?_
          refine lv_aload_n hx hb dX6_append_33 rfl (lv_at hl 2 rfl) ?_
          refine va_get (D := D) (ci := 6) (v := .int (nI q)) (C := RX6) (T := TX6) (N := 9) hx hb hts iX6 hown hK hP 0 rfl rfl 1 (by decide) f47 (fun _ h9 => h9) rfl dX6_append_34 ?_
          refine lv_iload_n hx hb dX6_append_37 rfl (lv_at hl 0 rfl) ?_
          refine va_iast hx hb hK hP hD hS 1 0 rfl rfl (vp_in_nI (show q < 160 by omega) (by decide)) dX6_append_38 (fun H locs hP hD hS => ?_)
          have hP : va_P D vwCl [(x, .inr (6, [.ref xt, .int (nI q), .ref xr, .ref xd, .ref xn, .ref xa, .ref xs, .ref xy, .int 0])), (xt, .inl (g 0, 160, .inl (upd ft (nI q).toNatClampNeg (((w.toUInt32 >>> ((0 : Int32).toUInt32 &&& Int32.toUInt32 31)).toInt32) &&& 255))))] H := hP
          have hD : va_D A [(x, .inr (6, [.ref xt, .int (nI q), .ref xr, .ref xd, .ref xn, .ref xa, .ref xs, .ref xy, .int 0])), (xt, .inl (g 0, 160, .inl (upd ft (nI q).toNatClampNeg (((w.toUInt32 >>> ((0 : Int32).toUInt32 &&& Int32.toUInt32 31)).toInt32) &&& 255))))] := hD
          rw [nI_clamp (show q < 2 ^ 31 by omega)] at hP hD
          have hP : va_P D vwCl [(x, .inr (6, [.ref xt, .int (nI q), .ref xr, .ref xd, .ref xn, .ref xa, .ref xs, .ref xy, .int 0])), (xt, .inl (g 0, 160, .inl (upd ft (q) (((w.toUInt32 >>> ((0 : Int32).toUInt32 &&& Int32.toUInt32 31)).toInt32) &&& 255))))] H := hP
          have hD : va_D A [(x, .inr (6, [.ref xt, .int (nI q), .ref xr, .ref xd, .ref xn, .ref xa, .ref xs, .ref xy, .int 0])), (xt, .inl (g 0, 160, .inl (upd ft (q) (((w.toUInt32 >>> ((0 : Int32).toUInt32 &&& Int32.toUInt32 31)).toInt32) &&& 255))))] := hD
          refine lv_aload_n hx hb dX6_append_39 rfl (lv_at hl 2 rfl) ?_
          refine lv_dup hx hb dX6_append_40 rfl ?_
          refine va_get (D := D) (ci := 6) (v := .int (nI q)) (C := RX6) (T := TX6) (N := 9) hx hb hts iX6 hown hK hP 0 rfl rfl 1 (by decide) f47 (fun _ h9 => h9) rfl dX6_append_41 ?_
          refine lv_iconst (v := 1) hx hb dX6_append_44 (by decide) ?_
          refine lv_iadd hx hb dX6_append_45 ?_
          refine lv_eqi (y := (nI (q + 1))) (nI_add (q) (1)) ?_
          refine va_put (D := D) (ci := 6) (v := .int (nI (q + 1))) (ty := .int) (C := RX6) (T := TX6) (N := 9) hx hb hts iX6 tyX6 tyX6_ok nmX6 hown hK hP hD hS 0 rfl rfl 1 (by decide) f47 (fun _ h9 => h9) rfl (by decide +kernel) (rfl) (rfl) (Nat.le_of_ble_eq_true rfl) dX6_append_46 (fun H locs hP hD hS => ?_)
          have hP : va_P D vwCl [(x, .inr (6, [.ref xt, .int (nI (q + 1)), .ref xr, .ref xd, .ref xn, .ref xa, .ref xs, .ref xy, .int 0])), (xt, .inl (g 0, 160, .inl (upd ft (q) (((w.toUInt32 >>> ((0 : Int32).toUInt32 &&& Int32.toUInt32 31)).toInt32) &&& 255))))] H := hP
          have hD : va_D A [(x, .inr (6, [.ref xt, .int (nI (q + 1)), .ref xr, .ref xd, .ref xn, .ref xa, .ref xs, .ref xy, .int 0])), (xt, .inl (g 0, 160, .inl (upd ft (q) (((w.toUInt32 >>> ((0 : Int32).toUInt32 &&& Int32.toUInt32 31)).toInt32) &&& 255))))] := hD
          refine lv_iinc (v := (-8)) (lv' := [(2, .int (-8)), (3, .int (((w.toUInt32 >>> ((0 : Int32).toUInt32 &&& Int32.toUInt32 31)).toInt32) &&& 255)), (0, .ref x), (1, .int w)]) hx hb dX6_append_49 hl (k := 1) rfl (by decide) (by decide) rfl (fun ls hl => ?_)
          refine lv_goto (tgt := 3) hx hb dX6_append_52 (by decide) ?_
          refine lv_iload_n hx hb dX6_append_3 rfl (lv_at hl 0 rfl) ?_
          refine lv_if_lt (tgt := 55) hx hb dX6_append_4 (by decide) (fun _ => ?_) (fun cb => absurd (by decide) cb)
          have hP9 := hP.sub (ws' := [(x, .inr (6, [.ref xt, .int (nI (q + 1)), .ref xr, .ref xd, .ref xn, .ref xa, .ref xs, .ref xy, .int 0])), (xt, .inl (g 0, 160, .inl (upd ft (q) (((w.toUInt32 >>> ((0 : Int32).toUInt32 &&& Int32.toUInt32 31)).toInt32) &&& 255))))]) [0, 1] rfl
          have hD9 := hD.sub (ws' := [(x, .inr (6, [.ref xt, .int (nI (q + 1)), .ref xr, .ref xd, .ref xn, .ref xa, .ref xs, .ref xy, .int 0])), (xt, .inl (g 0, 160, .inl (upd ft (q) (((w.toUInt32 >>> ((0 : Int32).toUInt32 &&& Int32.toUInt32 31)).toInt32) &&& 255))))]) [0, 1] (by decide) rfl
          subst hQ
          refine W.widen (k := 0) (n := 0) (Nat.le_of_ble_eq_true rfl) (Nat.le_of_ble_eq_true rfl) ?_
          exact W.vret hx hb hr (fun tS htS _ => ⟨⟨_, rfl, ⟨(nI (q + 1)), (upd ft (q) (((w.toUInt32 >>> ((0 : Int32).toUInt32 &&& Int32.toUInt32 31)).toInt32) &&& 255)), rfl, congrArg nI (by have e0 := bz_0 cb_1; have e1 := bz_0 cb_2; have e2 := bz_0 cb_3; have e3 := bz_1 cb_4; unfold sg; omega)⟩, by rw [htS]; exact hP9, hD9⟩, hS.F htS⟩) hS.2.2 dX6_append_55
      · skip
        refine lv_aload_n hx hb dX6_append_19 rfl (lv_at hl 2 rfl) ?_
        refine va_get (D := D) (ci := 6) (v := .int (nI q)) (C := RX6) (T := TX6) (N := 9) hx hb hts iX6 hown hK hP 0 rfl rfl 1 (by decide) f47 (fun _ h9 => h9) rfl dX6_append_20 ?_
        refine lv_sipush (v := 160) hx hb dX6_append_23 (by decide) ?_
        refine lv_icmp_ge (tgt := 49) hx hb dX6_append_26 (by decide) (fun cb => absurd cb (nI_ge (show q < 160 by omega) (by decide))) (fun _ => ?_)
        refine lv_aload_n hx hb dX6_append_29 rfl (lv_at hl 2 rfl) ?_
        refine va_get (D := D) (ci := 6) (v := .ref xt) (C := RX6) (T := TX6) (N := 9) hx hb hts iX6 hown hK hP 0 rfl rfl 0 (by decide) f9 (fun _ h9 => h9) rfl dX6_append_30 ?_
        refine lv_aload_n hx hb dX6_append_33 rfl (lv_at hl 2 rfl) ?_
        refine va_get (D := D) (ci := 6) (v := .int (nI q)) (C := RX6) (T := TX6) (N := 9) hx hb hts iX6 hown hK hP 0 rfl rfl 1 (by decide) f47 (fun _ h9 => h9) rfl dX6_append_34 ?_
        refine lv_iload_n hx hb dX6_append_37 rfl (lv_at hl 0 rfl) ?_
        refine va_iast hx hb hK hP hD hS 1 0 rfl rfl (vp_in_nI (show q < 160 by omega) (by decide)) dX6_append_38 (fun H locs hP hD hS => ?_)
        have hP : va_P D vwCl [(x, .inr (6, [.ref xt, .int (nI q), .ref xr, .ref xd, .ref xn, .ref xa, .ref xs, .ref xy, .int 0])), (xt, .inl (g 0, 160, .inl (upd ft (nI q).toNatClampNeg (((w.toUInt32 >>> ((8 : Int32).toUInt32 &&& Int32.toUInt32 31)).toInt32) &&& 255))))] H := hP
        have hD : va_D A [(x, .inr (6, [.ref xt, .int (nI q), .ref xr, .ref xd, .ref xn, .ref xa, .ref xs, .ref xy, .int 0])), (xt, .inl (g 0, 160, .inl (upd ft (nI q).toNatClampNeg (((w.toUInt32 >>> ((8 : Int32).toUInt32 &&& Int32.toUInt32 31)).toInt32) &&& 255))))] := hD
        rw [nI_clamp (show q < 2 ^ 31 by omega)] at hP hD
        have hP : va_P D vwCl [(x, .inr (6, [.ref xt, .int (nI q), .ref xr, .ref xd, .ref xn, .ref xa, .ref xs, .ref xy, .int 0])), (xt, .inl (g 0, 160, .inl (upd ft (q) (((w.toUInt32 >>> ((8 : Int32).toUInt32 &&& Int32.toUInt32 31)).toInt32) &&& 255))))] H := hP
        have hD : va_D A [(x, .inr (6, [.ref xt, .int (nI q), .ref xr, .ref xd, .ref xn, .ref xa, .ref xs, .ref xy, .int 0])), (xt, .inl (g 0, 160, .inl (upd ft (q) (((w.toUInt32 >>> ((8 : Int32).toUInt32 &&& Int32.toUInt32 31)).toInt32) &&& 255))))] := hD
        refine lv_aload_n hx hb dX6_append_39 rfl (lv_at hl 2 rfl) ?_
        refine lv_dup hx hb dX6_append_40 rfl ?_
        refine va_get (D := D) (ci := 6) (v := .int (nI q)) (C := RX6) (T := TX6) (N := 9) hx hb hts iX6 hown hK hP 0 rfl rfl 1 (by decide) f47 (fun _ h9 => h9) rfl dX6_append_41 ?_
        refine lv_iconst (v := 1) hx hb dX6_append_44 (by decide) ?_
        refine lv_iadd hx hb dX6_append_45 ?_
        refine lv_eqi (y := (nI (q + 1))) (nI_add (q) (1)) ?_
        refine va_put (D := D) (ci := 6) (v := .int (nI (q + 1))) (ty := .int) (C := RX6) (T := TX6) (N := 9) hx hb hts iX6 tyX6 tyX6_ok nmX6 hown hK hP hD hS 0 rfl rfl 1 (by decide) f47 (fun _ h9 => h9) rfl (by decide +kernel) (rfl) (rfl) (Nat.le_of_ble_eq_true rfl) dX6_append_46 (fun H locs hP hD hS => ?_)
        have hP : va_P D vwCl [(x, .inr (6, [.ref xt, .int (nI (q + 1)), .ref xr, .ref xd, .ref xn, .ref xa, .ref xs, .ref xy, .int 0])), (xt, .inl (g 0, 160, .inl (upd ft (q) (((w.toUInt32 >>> ((8 : Int32).toUInt32 &&& Int32.toUInt32 31)).toInt32) &&& 255))))] H := hP
        have hD : va_D A [(x, .inr (6, [.ref xt, .int (nI (q + 1)), .ref xr, .ref xd, .ref xn, .ref xa, .ref xs, .ref xy, .int 0])), (xt, .inl (g 0, 160, .inl (upd ft (q) (((w.toUInt32 >>> ((8 : Int32).toUInt32 &&& Int32.toUInt32 31)).toInt32) &&& 255))))] := hD
        refine lv_iinc (v := 0) (lv' := [(2, .int 0), (3, .int (((w.toUInt32 >>> ((8 : Int32).toUInt32 &&& Int32.toUInt32 31)).toInt32) &&& 255)), (0, .ref x), (1, .int w)]) hx hb dX6_append_49 hl (k := 1) rfl (by decide) (by decide) rfl (fun ls hl => ?_)
        refine lv_goto (tgt := 3) hx hb dX6_append_52 (by decide) ?_
        refine lv_iload_n hx hb dX6_append_3 rfl (lv_at hl 0 rfl) ?_
        refine lv_if_lt (tgt := 55) hx hb dX6_append_4 (by decide) (fun cb => absurd cb (by decide)) (fun _ => ?_)
        refine lv_iload_n hx hb dX6_append_7 rfl (lv_at hl 3 rfl) ?_
        refine lv_iload_n hx hb dX6_append_8 rfl (lv_at hl 0 rfl) ?_
        refine lv_iushr hx hb dX6_append_9 rfl ?_
        refine lv_sipush (v := 255) hx hb dX6_append_10 (by decide) ?_
        refine lv_iand hx hb dX6_append_13 ?_
        refine lv_istore_n (lv' := [(3, .int (((w.toUInt32 >>> ((0 : Int32).toUInt32 &&& Int32.toUInt32 31)).toInt32) &&& 255)), (2, .int 0), (0, .ref x), (1, .int w)]) hx hb dX6_append_14 rfl hl (by decide) rfl (fun ls hl => ?_)
        refine lv_iload_n hx hb dX6_append_15 rfl (lv_at hl 0 rfl) ?_
        refine lv_if_eq (tgt := 49) hx hb dX6_append_16 (by decide) (fun cb_5 => ?_) (fun cb_5 => ?_)
        · skip
          refine lv_iinc (v := (-8)) (lv' := [(2, .int (-8)), (3, .int (((w.toUInt32 >>> ((0 : Int32).toUInt32 &&& Int32.toUInt32 31)).toInt32) &&& 255)), (0, .ref x), (1, .int w)]) hx hb dX6_append_49 hl (k := 1) rfl (by decide) (by decide) rfl (fun ls hl => ?_)
          refine lv_goto (tgt := 3) hx hb dX6_append_52 (by decide) ?_
          refine lv_iload_n hx hb dX6_append_3 rfl (lv_at hl 0 rfl) ?_
          refine lv_if_lt (tgt := 55) hx hb dX6_append_4 (by decide) (fun _ => ?_) (fun cb => absurd (by decide) cb)
          have hP9 := hP.sub (ws' := [(x, .inr (6, [.ref xt, .int (nI (q + 1)), .ref xr, .ref xd, .ref xn, .ref xa, .ref xs, .ref xy, .int 0])), (xt, .inl (g 0, 160, .inl (upd ft (q) (((w.toUInt32 >>> ((8 : Int32).toUInt32 &&& Int32.toUInt32 31)).toInt32) &&& 255))))]) [0, 1] rfl
          have hD9 := hD.sub (ws' := [(x, .inr (6, [.ref xt, .int (nI (q + 1)), .ref xr, .ref xd, .ref xn, .ref xa, .ref xs, .ref xy, .int 0])), (xt, .inl (g 0, 160, .inl (upd ft (q) (((w.toUInt32 >>> ((8 : Int32).toUInt32 &&& Int32.toUInt32 31)).toInt32) &&& 255))))]) [0, 1] (by decide) rfl
          subst hQ
          refine W.widen (k := 0) (n := 0) (Nat.le_of_ble_eq_true rfl) (Nat.le_of_ble_eq_true rfl) ?_
          exact W.vret hx hb hr (fun tS htS _ => ⟨⟨_, rfl, ⟨(nI (q + 1)), (upd ft (q) (((w.toUInt32 >>> ((8 : Int32).toUInt32 &&& Int32.toUInt32 31)).toInt32) &&& 255)), rfl, congrArg nI (by have e0 := bz_0 cb_1; have e1 := bz_0 cb_2; have e2 := bz_1 cb_3; have e3 := bz_0 cb_5; unfold sg; omega)⟩, by rw [htS]; exact hP9, hD9⟩, hS.F htS⟩) hS.2.2 dX6_append_55
        · skip
          refine lv_aload_n hx hb dX6_append_19 rfl (lv_at hl 2 rfl) ?_
          refine va_get (D := D) (ci := 6) (v := .int (nI (q + 1))) (C := RX6) (T := TX6) (N := 9) hx hb hts iX6 hown hK hP 0 rfl rfl 1 (by decide) f47 (fun _ h9 => h9) rfl dX6_append_20 ?_
          refine lv_sipush (v := 160) hx hb dX6_append_23 (by decide) ?_
          refine lv_icmp_ge (tgt := 49) hx hb dX6_append_26 (by decide) (fun cb => absurd cb (nI_ge (show q + 1 < 160 by omega) (by decide))) (fun _ => ?_)
          refine lv_aload_n hx hb dX6_append_29 rfl (lv_at hl 2 rfl) ?_
          refine va_get (D := D) (ci := 6) (v := .ref xt) (C := RX6) (T := TX6) (N := 9) hx hb hts iX6 hown hK hP 0 rfl rfl 0 (by decide) f9 (fun _ h9 => h9) rfl dX6_append_30 ?_
          refine lv_aload_n hx hb dX6_append_33 rfl (lv_at hl 2 rfl) ?_
          refine va_get (D := D) (ci := 6) (v := .int (nI (q + 1))) (C := RX6) (T := TX6) (N := 9) hx hb hts iX6 hown hK hP 0 rfl rfl 1 (by decide) f47 (fun _ h9 => h9) rfl dX6_append_34 ?_
          refine lv_iload_n hx hb dX6_append_37 rfl (lv_at hl 0 rfl) ?_
          refine va_iast hx hb hK hP hD hS 1 0 rfl rfl (vp_in_nI (show q + 1 < 160 by omega) (by decide)) dX6_append_38 (fun H locs hP hD hS => ?_)
          have hP : va_P D vwCl [(x, .inr (6, [.ref xt, .int (nI (q + 1)), .ref xr, .ref xd, .ref xn, .ref xa, .ref xs, .ref xy, .int 0])), (xt, .inl (g 0, 160, .inl (upd (upd ft (q) (((w.toUInt32 >>> ((8 : Int32).toUInt32 &&& Int32.toUInt32 31)).toInt32) &&& 255)) (nI (q + 1)).toNatClampNeg (((w.toUInt32 >>> ((0 : Int32).toUInt32 &&& Int32.toUInt32 31)).toInt32) &&& 255))))] H := hP
          have hD : va_D A [(x, .inr (6, [.ref xt, .int (nI (q + 1)), .ref xr, .ref xd, .ref xn, .ref xa, .ref xs, .ref xy, .int 0])), (xt, .inl (g 0, 160, .inl (upd (upd ft (q) (((w.toUInt32 >>> ((8 : Int32).toUInt32 &&& Int32.toUInt32 31)).toInt32) &&& 255)) (nI (q + 1)).toNatClampNeg (((w.toUInt32 >>> ((0 : Int32).toUInt32 &&& Int32.toUInt32 31)).toInt32) &&& 255))))] := hD
          rw [nI_clamp (show q + 1 < 2 ^ 31 by omega)] at hP hD
          have hP : va_P D vwCl [(x, .inr (6, [.ref xt, .int (nI (q + 1)), .ref xr, .ref xd, .ref xn, .ref xa, .ref xs, .ref xy, .int 0])), (xt, .inl (g 0, 160, .inl (upd (upd ft (q) (((w.toUInt32 >>> ((8 : Int32).toUInt32 &&& Int32.toUInt32 31)).toInt32) &&& 255)) (q + 1) (((w.toUInt32 >>> ((0 : Int32).toUInt32 &&& Int32.toUInt32 31)).toInt32) &&& 255))))] H := hP
          have hD : va_D A [(x, .inr (6, [.ref xt, .int (nI (q + 1)), .ref xr, .ref xd, .ref xn, .ref xa, .ref xs, .ref xy, .int 0])), (xt, .inl (g 0, 160, .inl (upd (upd ft (q) (((w.toUInt32 >>> ((8 : Int32).toUInt32 &&& Int32.toUInt32 31)).toInt32) &&& 255)) (q + 1) (((w.toUInt32 >>> ((0 : Int32).toUInt32 &&& Int32.toUInt32 31)).toInt32) &&& 255))))] := hD
          refine lv_aload_n hx hb dX6_append_39 rfl (lv_at hl 2 rfl) ?_
          refine lv_dup hx hb dX6_append_40 rfl ?_
          refine va_get (D := D) (ci := 6) (v := .int (nI (q + 1))) (C := RX6) (T := TX6) (N := 9) hx hb hts iX6 hown hK hP 0 rfl rfl 1 (by decide) f47 (fun _ h9 => h9) rfl dX6_append_41 ?_
          refine lv_iconst (v := 1) hx hb dX6_append_44 (by decide) ?_
          refine lv_iadd hx hb dX6_append_45 ?_
          refine lv_eqi (y := (nI (q + 1 + 1))) (nI_add (q + 1) (1)) ?_
          refine va_put (D := D) (ci := 6) (v := .int (nI (q + 1 + 1))) (ty := .int) (C := RX6) (T := TX6) (N := 9) hx hb hts iX6 tyX6 tyX6_ok nmX6 hown hK hP hD hS 0 rfl rfl 1 (by decide) f47 (fun _ h9 => h9) rfl (by decide +kernel) (rfl) (rfl) (Nat.le_of_ble_eq_true rfl) dX6_append_46 (fun H locs hP hD hS => ?_)
          have hP : va_P D vwCl [(x, .inr (6, [.ref xt, .int (nI (q + 1 + 1)), .ref xr, .ref xd, .ref xn, .ref xa, .ref xs, .ref xy, .int 0])), (xt, .inl (g 0, 160, .inl (upd (upd ft (q) (((w.toUInt32 >>> ((8 : Int32).toUInt32 &&& Int32.toUInt32 31)).toInt32) &&& 255)) (q + 1) (((w.toUInt32 >>> ((0 : Int32).toUInt32 &&& Int32.toUInt32 31)).toInt32) &&& 255))))] H := hP
          have hD : va_D A [(x, .inr (6, [.ref xt, .int (nI (q + 1 + 1)), .ref xr, .ref xd, .ref xn, .ref xa, .ref xs, .ref xy, .int 0])), (xt, .inl (g 0, 160, .inl (upd (upd ft (q) (((w.toUInt32 >>> ((8 : Int32).toUInt32 &&& Int32.toUInt32 31)).toInt32) &&& 255)) (q + 1) (((w.toUInt32 >>> ((0 : Int32).toUInt32 &&& Int32.toUInt32 31)).toInt32) &&& 255))))] := hD
          refine lv_iinc (v := (-8)) (lv' := [(2, .int (-8)), (3, .int (((w.toUInt32 >>> ((0 : Int32).toUInt32 &&& Int32.toUInt32 31)).toInt32) &&& 255)), (0, .ref x), (1, .int w)]) hx hb dX6_append_49 hl (k := 1) rfl (by decide) (by decide) rfl (fun ls hl => ?_)
          refine lv_goto (tgt := 3) hx hb dX6_append_52 (by decide) ?_
          refine lv_iload_n hx hb dX6_append_3 rfl (lv_at hl 0 rfl) ?_
          refine lv_if_lt (tgt := 55) hx hb dX6_append_4 (by decide) (fun _ => ?_) (fun cb => absurd (by decide) cb)
          have hP9 := hP.sub (ws' := [(x, .inr (6, [.ref xt, .int (nI (q + 1 + 1)), .ref xr, .ref xd, .ref xn, .ref xa, .ref xs, .ref xy, .int 0])), (xt, .inl (g 0, 160, .inl (upd (upd ft (q) (((w.toUInt32 >>> ((8 : Int32).toUInt32 &&& Int32.toUInt32 31)).toInt32) &&& 255)) (q + 1) (((w.toUInt32 >>> ((0 : Int32).toUInt32 &&& Int32.toUInt32 31)).toInt32) &&& 255))))]) [0, 1] rfl
          have hD9 := hD.sub (ws' := [(x, .inr (6, [.ref xt, .int (nI (q + 1 + 1)), .ref xr, .ref xd, .ref xn, .ref xa, .ref xs, .ref xy, .int 0])), (xt, .inl (g 0, 160, .inl (upd (upd ft (q) (((w.toUInt32 >>> ((8 : Int32).toUInt32 &&& Int32.toUInt32 31)).toInt32) &&& 255)) (q + 1) (((w.toUInt32 >>> ((0 : Int32).toUInt32 &&& Int32.toUInt32 31)).toInt32) &&& 255))))]) [0, 1] (by decide) rfl
          subst hQ
          refine W.widen (k := 0) (n := 0) (Nat.le_of_ble_eq_true rfl) (Nat.le_of_ble_eq_true rfl) ?_
          exact W.vret hx hb hr (fun tS htS _ => ⟨⟨_, rfl, ⟨(nI (q + 1 + 1)), (upd (upd ft (q) (((w.toUInt32 >>> ((8 : Int32).toUInt32 &&& Int32.toUInt32 31)).toInt32) &&& 255)) (q + 1) (((w.toUInt32 >>> ((0 : Int32).toUInt32 &&& Int32.toUInt32 31)).toInt32) &&& 255)), rfl, congrArg nI (by have e0 := bz_0 cb_1; have e1 := bz_0 cb_2; have e2 := bz_1 cb_3; have e3 := bz_1 cb_5; unfold sg; omega)⟩, by rw [htS]; exact hP9, hD9⟩, hS.F htS⟩) hS.2.2 dX6_append_55
    · skip
      refine lv_aload_n hx hb dX6_append_19 rfl (lv_at hl 2 rfl) ?_
      refine va_get (D := D) (ci := 6) (v := .int (nI q)) (C := RX6) (T := TX6) (N := 9) hx hb hts iX6 hown hK hP 0 rfl rfl 1 (by decide) f47 (fun _ h9 => h9) rfl dX6_append_20 ?_
      refine lv_sipush (v := 160) hx hb dX6_append_23 (by decide) ?_
      refine lv_icmp_ge (tgt := 49) hx hb dX6_append_26 (by decide) (fun cb => absurd cb (nI_ge (show q < 160 by omega) (by decide))) (fun _ => ?_)
      refine lv_aload_n hx hb dX6_append_29 rfl (lv_at hl 2 rfl) ?_
      refine va_get (D := D) (ci := 6) (v := .ref xt) (C := RX6) (T := TX6) (N := 9) hx hb hts iX6 hown hK hP 0 rfl rfl 0 (by decide) f9 (fun _ h9 => h9) rfl dX6_append_30 ?_
      refine lv_aload_n hx hb dX6_append_33 rfl (lv_at hl 2 rfl) ?_
      refine va_get (D := D) (ci := 6) (v := .int (nI q)) (C := RX6) (T := TX6) (N := 9) hx hb hts iX6 hown hK hP 0 rfl rfl 1 (by decide) f47 (fun _ h9 => h9) rfl dX6_append_34 ?_
      refine lv_iload_n hx hb dX6_append_37 rfl (lv_at hl 0 rfl) ?_
      refine va_iast hx hb hK hP hD hS 1 0 rfl rfl (vp_in_nI (show q < 160 by omega) (by decide)) dX6_append_38 (fun H locs hP hD hS => ?_)
      have hP : va_P D vwCl [(x, .inr (6, [.ref xt, .int (nI q), .ref xr, .ref xd, .ref xn, .ref xa, .ref xs, .ref xy, .int 0])), (xt, .inl (g 0, 160, .inl (upd ft (nI q).toNatClampNeg (((w.toUInt32 >>> ((16 : Int32).toUInt32 &&& Int32.toUInt32 31)).toInt32) &&& 255))))] H := hP
      have hD : va_D A [(x, .inr (6, [.ref xt, .int (nI q), .ref xr, .ref xd, .ref xn, .ref xa, .ref xs, .ref xy, .int 0])), (xt, .inl (g 0, 160, .inl (upd ft (nI q).toNatClampNeg (((w.toUInt32 >>> ((16 : Int32).toUInt32 &&& Int32.toUInt32 31)).toInt32) &&& 255))))] := hD
      rw [nI_clamp (show q < 2 ^ 31 by omega)] at hP hD
      have hP : va_P D vwCl [(x, .inr (6, [.ref xt, .int (nI q), .ref xr, .ref xd, .ref xn, .ref xa, .ref xs, .ref xy, .int 0])), (xt, .inl (g 0, 160, .inl (upd ft (q) (((w.toUInt32 >>> ((16 : Int32).toUInt32 &&& Int32.toUInt32 31)).toInt32) &&& 255))))] H := hP
      have hD : va_D A [(x, .inr (6, [.ref xt, .int (nI q), .ref xr, .ref xd, .ref xn, .ref xa, .ref xs, .ref xy, .int 0])), (xt, .inl (g 0, 160, .inl (upd ft (q) (((w.toUInt32 >>> ((16 : Int32).toUInt32 &&& Int32.toUInt32 31)).toInt32) &&& 255))))] := hD
      refine lv_aload_n hx hb dX6_append_39 rfl (lv_at hl 2 rfl) ?_
      refine lv_dup hx hb dX6_append_40 rfl ?_
      refine va_get (D := D) (ci := 6) (v := .int (nI q)) (C := RX6) (T := TX6) (N := 9) hx hb hts iX6 hown hK hP 0 rfl rfl 1 (by decide) f47 (fun _ h9 => h9) rfl dX6_append_41 ?_
      refine lv_iconst (v := 1) hx hb dX6_append_44 (by decide) ?_
      refine lv_iadd hx hb dX6_append_45 ?_
      refine lv_eqi (y := (nI (q + 1))) (nI_add (q) (1)) ?_
      refine va_put (D := D) (ci := 6) (v := .int (nI (q + 1))) (ty := .int) (C := RX6) (T := TX6) (N := 9) hx hb hts iX6 tyX6 tyX6_ok nmX6 hown hK hP hD hS 0 rfl rfl 1 (by decide) f47 (fun _ h9 => h9) rfl (by decide +kernel) (rfl) (rfl) (Nat.le_of_ble_eq_true rfl) dX6_append_46 (fun H locs hP hD hS => ?_)
      have hP : va_P D vwCl [(x, .inr (6, [.ref xt, .int (nI (q + 1)), .ref xr, .ref xd, .ref xn, .ref xa, .ref xs, .ref xy, .int 0])), (xt, .inl (g 0, 160, .inl (upd ft (q) (((w.toUInt32 >>> ((16 : Int32).toUInt32 &&& Int32.toUInt32 31)).toInt32) &&& 255))))] H := hP
      have hD : va_D A [(x, .inr (6, [.ref xt, .int (nI (q + 1)), .ref xr, .ref xd, .ref xn, .ref xa, .ref xs, .ref xy, .int 0])), (xt, .inl (g 0, 160, .inl (upd ft (q) (((w.toUInt32 >>> ((16 : Int32).toUInt32 &&& Int32.toUInt32 31)).toInt32) &&& 255))))] := hD
      refine lv_iinc (v := 8) (lv' := [(2, .int 8), (3, .int (((w.toUInt32 >>> ((16 : Int32).toUInt32 &&& Int32.toUInt32 31)).toInt32) &&& 255)), (0, .ref x), (1, .int w)]) hx hb dX6_append_49 hl (k := 1) rfl (by decide) (by decide) rfl (fun ls hl => ?_)
      refine lv_goto (tgt := 3) hx hb dX6_append_52 (by decide) ?_
      refine lv_iload_n hx hb dX6_append_3 rfl (lv_at hl 0 rfl) ?_
      refine lv_if_lt (tgt := 55) hx hb dX6_append_4 (by decide) (fun cb => absurd cb (by decide)) (fun _ => ?_)
      refine lv_iload_n hx hb dX6_append_7 rfl (lv_at hl 3 rfl) ?_
      refine lv_iload_n hx hb dX6_append_8 rfl (lv_at hl 0 rfl) ?_
      refine lv_iushr hx hb dX6_append_9 rfl ?_
      refine lv_sipush (v := 255) hx hb dX6_append_10 (by decide) ?_
      refine lv_iand hx hb dX6_append_13 ?_
      refine lv_istore_n (lv' := [(3, .int (((w.toUInt32 >>> ((8 : Int32).toUInt32 &&& Int32.toUInt32 31)).toInt32) &&& 255)), (2, .int 8), (0, .ref x), (1, .int w)]) hx hb dX6_append_14 rfl hl (by decide) rfl (fun ls hl => ?_)
      refine lv_iload_n hx hb dX6_append_15 rfl (lv_at hl 0 rfl) ?_
      refine lv_if_eq (tgt := 49) hx hb dX6_append_16 (by decide) (fun cb_6 => ?_) (fun cb_6 => ?_)
      · skip
        refine lv_iinc (v := 0) (lv' := [(2, .int 0), (3, .int (((w.toUInt32 >>> ((8 : Int32).toUInt32 &&& Int32.toUInt32 31)).toInt32) &&& 255)), (0, .ref x), (1, .int w)]) hx hb dX6_append_49 hl (k := 1) rfl (by decide) (by decide) rfl (fun ls hl => ?_)
        refine lv_goto (tgt := 3) hx hb dX6_append_52 (by decide) ?_
        refine lv_iload_n hx hb dX6_append_3 rfl (lv_at hl 0 rfl) ?_
        refine lv_if_lt (tgt := 55) hx hb dX6_append_4 (by decide) (fun cb => absurd cb (by decide)) (fun _ => ?_)
        refine lv_iload_n hx hb dX6_append_7 rfl (lv_at hl 3 rfl) ?_
        refine lv_iload_n hx hb dX6_append_8 rfl (lv_at hl 0 rfl) ?_
        refine lv_iushr hx hb dX6_append_9 rfl ?_
        refine lv_sipush (v := 255) hx hb dX6_append_10 (by decide) ?_
        refine lv_iand hx hb dX6_append_13 ?_
        refine lv_istore_n (lv' := [(3, .int (((w.toUInt32 >>> ((0 : Int32).toUInt32 &&& Int32.toUInt32 31)).toInt32) &&& 255)), (2, .int 0), (0, .ref x), (1, .int w)]) hx hb dX6_append_14 rfl hl (by decide) rfl (fun ls hl => ?_)
        refine lv_iload_n hx hb dX6_append_15 rfl (lv_at hl 0 rfl) ?_
        refine lv_if_eq (tgt := 49) hx hb dX6_append_16 (by decide) (fun cb_7 => ?_) (fun cb_7 => ?_)
        · skip
          refine lv_iinc (v := (-8)) (lv' := [(2, .int (-8)), (3, .int (((w.toUInt32 >>> ((0 : Int32).toUInt32 &&& Int32.toUInt32 31)).toInt32) &&& 255)), (0, .ref x), (1, .int w)]) hx hb dX6_append_49 hl (k := 1) rfl (by decide) (by decide) rfl (fun ls hl => ?_)
          refine lv_goto (tgt := 3) hx hb dX6_append_52 (by decide) ?_
          refine lv_iload_n hx hb dX6_append_3 rfl (lv_at hl 0 rfl) ?_
          refine lv_if_lt (tgt := 55) hx hb dX6_append_4 (by decide) (fun _ => ?_) (fun cb => absurd (by decide) cb)
          have hP9 := hP.sub (ws' := [(x, .inr (6, [.ref xt, .int (nI (q + 1)), .ref xr, .ref xd, .ref xn, .ref xa, .ref xs, .ref xy, .int 0])), (xt, .inl (g 0, 160, .inl (upd ft (q) (((w.toUInt32 >>> ((16 : Int32).toUInt32 &&& Int32.toUInt32 31)).toInt32) &&& 255))))]) [0, 1] rfl
          have hD9 := hD.sub (ws' := [(x, .inr (6, [.ref xt, .int (nI (q + 1)), .ref xr, .ref xd, .ref xn, .ref xa, .ref xs, .ref xy, .int 0])), (xt, .inl (g 0, 160, .inl (upd ft (q) (((w.toUInt32 >>> ((16 : Int32).toUInt32 &&& Int32.toUInt32 31)).toInt32) &&& 255))))]) [0, 1] (by decide) rfl
          subst hQ
          refine W.widen (k := 0) (n := 0) (Nat.le_of_ble_eq_true rfl) (Nat.le_of_ble_eq_true rfl) ?_
          exact W.vret hx hb hr (fun tS htS _ => ⟨⟨_, rfl, ⟨(nI (q + 1)), (upd ft (q) (((w.toUInt32 >>> ((16 : Int32).toUInt32 &&& Int32.toUInt32 31)).toInt32) &&& 255)), rfl, congrArg nI (by have e0 := bz_0 cb_1; have e1 := bz_1 cb_2; have e2 := bz_0 cb_6; have e3 := bz_0 cb_7; unfold sg; omega)⟩, by rw [htS]; exact hP9, hD9⟩, hS.F htS⟩) hS.2.2 dX6_append_55
        · skip
          refine lv_aload_n hx hb dX6_append_19 rfl (lv_at hl 2 rfl) ?_
          refine va_get (D := D) (ci := 6) (v := .int (nI (q + 1))) (C := RX6) (T := TX6) (N := 9) hx hb hts iX6 hown hK hP 0 rfl rfl 1 (by decide) f47 (fun _ h9 => h9) rfl dX6_append_20 ?_
          refine lv_sipush (v := 160) hx hb dX6_append_23 (by decide) ?_
          refine lv_icmp_ge (tgt := 49) hx hb dX6_append_26 (by decide) (fun cb => absurd cb (nI_ge (show q + 1 < 160 by omega) (by decide))) (fun _ => ?_)
          refine lv_aload_n hx hb dX6_append_29 rfl (lv_at hl 2 rfl) ?_
          refine va_get (D := D) (ci := 6) (v := .ref xt) (C := RX6) (T := TX6) (N := 9) hx hb hts iX6 hown hK hP 0 rfl rfl 0 (by decide) f9 (fun _ h9 => h9) rfl dX6_append_30 ?_
          refine lv_aload_n hx hb dX6_append_33 rfl (lv_at hl 2 rfl) ?_
          refine va_get (D := D) (ci := 6) (v := .int (nI (q + 1))) (C := RX6) (T := TX6) (N := 9) hx hb hts iX6 hown hK hP 0 rfl rfl 1 (by decide) f47 (fun _ h9 => h9) rfl dX6_append_34 ?_
          refine lv_iload_n hx hb dX6_append_37 rfl (lv_at hl 0 rfl) ?_
          refine va_iast hx hb hK hP hD hS 1 0 rfl rfl (vp_in_nI (show q + 1 < 160 by omega) (by decide)) dX6_append_38 (fun H locs hP hD hS => ?_)
          have hP : va_P D vwCl [(x, .inr (6, [.ref xt, .int (nI (q + 1)), .ref xr, .ref xd, .ref xn, .ref xa, .ref xs, .ref xy, .int 0])), (xt, .inl (g 0, 160, .inl (upd (upd ft (q) (((w.toUInt32 >>> ((16 : Int32).toUInt32 &&& Int32.toUInt32 31)).toInt32) &&& 255)) (nI (q + 1)).toNatClampNeg (((w.toUInt32 >>> ((0 : Int32).toUInt32 &&& Int32.toUInt32 31)).toInt32) &&& 255))))] H := hP
          have hD : va_D A [(x, .inr (6, [.ref xt, .int (nI (q + 1)), .ref xr, .ref xd, .ref xn, .ref xa, .ref xs, .ref xy, .int 0])), (xt, .inl (g 0, 160, .inl (upd (upd ft (q) (((w.toUInt32 >>> ((16 : Int32).toUInt32 &&& Int32.toUInt32 31)).toInt32) &&& 255)) (nI (q + 1)).toNatClampNeg (((w.toUInt32 >>> ((0 : Int32).toUInt32 &&& Int32.toUInt32 31)).toInt32) &&& 255))))] := hD
          rw [nI_clamp (show q + 1 < 2 ^ 31 by omega)] at hP hD
          have hP : va_P D vwCl [(x, .inr (6, [.ref xt, .int (nI (q + 1)), .ref xr, .ref xd, .ref xn, .ref xa, .ref xs, .ref xy, .int 0])), (xt, .inl (g 0, 160, .inl (upd (upd ft (q) (((w.toUInt32 >>> ((16 : Int32).toUInt32 &&& Int32.toUInt32 31)).toInt32) &&& 255)) (q + 1) (((w.toUInt32 >>> ((0 : Int32).toUInt32 &&& Int32.toUInt32 31)).toInt32) &&& 255))))] H := hP
          have hD : va_D A [(x, .inr (6, [.ref xt, .int (nI (q + 1)), .ref xr, .ref xd, .ref xn, .ref xa, .ref xs, .ref xy, .int 0])), (xt, .inl (g 0, 160, .inl (upd (upd ft (q) (((w.toUInt32 >>> ((16 : Int32).toUInt32 &&& Int32.toUInt32 31)).toInt32) &&& 255)) (q + 1) (((w.toUInt32 >>> ((0 : Int32).toUInt32 &&& Int32.toUInt32 31)).toInt32) &&& 255))))] := hD
          refine lv_aload_n hx hb dX6_append_39 rfl (lv_at hl 2 rfl) ?_
          refine lv_dup hx hb dX6_append_40 rfl ?_
          refine va_get (D := D) (ci := 6) (v := .int (nI (q + 1))) (C := RX6) (T := TX6) (N := 9) hx hb hts iX6 hown hK hP 0 rfl rfl 1 (by decide) f47 (fun _ h9 => h9) rfl dX6_append_41 ?_
          refine lv_iconst (v := 1) hx hb dX6_append_44 (by decide) ?_
          refine lv_iadd hx hb dX6_append_45 ?_
          refine lv_eqi (y := (nI (q + 1 + 1))) (nI_add (q + 1) (1)) ?_
          refine va_put (D := D) (ci := 6) (v := .int (nI (q + 1 + 1))) (ty := .int) (C := RX6) (T := TX6) (N := 9) hx hb hts iX6 tyX6 tyX6_ok nmX6 hown hK hP hD hS 0 rfl rfl 1 (by decide) f47 (fun _ h9 => h9) rfl (by decide +kernel) (rfl) (rfl) (Nat.le_of_ble_eq_true rfl) dX6_append_46 (fun H locs hP hD hS => ?_)
          have hP : va_P D vwCl [(x, .inr (6, [.ref xt, .int (nI (q + 1 + 1)), .ref xr, .ref xd, .ref xn, .ref xa, .ref xs, .ref xy, .int 0])), (xt, .inl (g 0, 160, .inl (upd (upd ft (q) (((w.toUInt32 >>> ((16 : Int32).toUInt32 &&& Int32.toUInt32 31)).toInt32) &&& 255)) (q + 1) (((w.toUInt32 >>> ((0 : Int32).toUInt32 &&& Int32.toUInt32 31)).toInt32) &&& 255))))] H := hP
          have hD : va_D A [(x, .inr (6, [.ref xt, .int (nI (q + 1 + 1)), .ref xr, .ref xd, .ref xn, .ref xa, .ref xs, .ref xy, .int 0])), (xt, .inl (g 0, 160, .inl (upd (upd ft (q) (((w.toUInt32 >>> ((16 : Int32).toUInt32 &&& Int32.toUInt32 31)).toInt32) &&& 255)) (q + 1) (((w.toUInt32 >>> ((0 : Int32).toUInt32 &&& Int32.toUInt32 31)).toInt32) &&& 255))))] := hD
          refine lv_iinc (v := (-8)) (lv' := [(2, .int (-8)), (3, .int (((w.toUInt32 >>> ((0 : Int32).toUInt32 &&& Int32.toUInt32 31)).toInt32) &&& 255)), (0, .ref x), (1, .int w)]) hx hb dX6_append_49 hl (k := 1) rfl (by decide) (by decide) rfl (fun ls hl => ?_)
          refine lv_goto (tgt := 3) hx hb dX6_append_52 (by decide) ?_
          refine lv_iload_n hx hb dX6_append_3 rfl (lv_at hl 0 rfl) ?_
          refine lv_if_lt (tgt := 55) hx hb dX6_append_4 (by decide) (fun _ => ?_) (fun cb => absurd (by decide) cb)
          have hP9 := hP.sub (ws' := [(x, .inr (6, [.ref xt, .int (nI (q + 1 + 1)), .ref xr, .ref xd, .ref xn, .ref xa, .ref xs, .ref xy, .int 0])), (xt, .inl (g 0, 160, .inl (upd (upd ft (q) (((w.toUInt32 >>> ((16 : Int32).toUInt32 &&& Int32.toUInt32 31)).toInt32) &&& 255)) (q + 1) (((w.toUInt32 >>> ((0 : Int32).toUInt32 &&& Int32.toUInt32 31)).toInt32) &&& 255))))]) [0, 1] rfl
          have hD9 := hD.sub (ws' := [(x, .inr (6, [.ref xt, .int (nI (q + 1 + 1)), .ref xr, .ref xd, .ref xn, .ref xa, .ref xs, .ref xy, .int 0])), (xt, .inl (g 0, 160, .inl (upd (upd ft (q) (((w.toUInt32 >>> ((16 : Int32).toUInt32 &&& Int32.toUInt32 31)).toInt32) &&& 255)) (q + 1) (((w.toUInt32 >>> ((0 : Int32).toUInt32 &&& Int32.toUInt32 31)).toInt32) &&& 255))))]) [0, 1] (by decide) rfl
          subst hQ
          refine W.widen (k := 0) (n := 0) (Nat.le_of_ble_eq_true rfl) (Nat.le_of_ble_eq_true rfl) ?_
          exact W.vret hx hb hr (fun tS htS _ => ⟨⟨_, rfl, ⟨(nI (q + 1 + 1)), (upd (upd ft (q) (((w.toUInt32 >>> ((16 : Int32).toUInt32 &&& Int32.toUInt32 31)).toInt32) &&& 255)) (q + 1) (((w.toUInt32 >>> ((0 : Int32).toUInt32 &&& Int32.toUInt32 31)).toInt32) &&& 255)), rfl, congrArg nI (by have e0 := bz_0 cb_1; have e1 := bz_1 cb_2; have e2 := bz_0 cb_6; have e3 := bz_1 cb_7; unfold sg; omega)⟩, by rw [htS]; exact hP9, hD9⟩, hS.F htS⟩) hS.2.2 dX6_append_55
      · skip
        refine lv_aload_n hx hb dX6_append_19 rfl (lv_at hl 2 rfl) ?_
        refine va_get (D := D) (ci := 6) (v := .int (nI (q + 1))) (C := RX6) (T := TX6) (N := 9) hx hb hts iX6 hown hK hP 0 rfl rfl 1 (by decide) f47 (fun _ h9 => h9) rfl dX6_append_20 ?_
        refine lv_sipush (v := 160) hx hb dX6_append_23 (by decide) ?_
        refine lv_icmp_ge (tgt := 49) hx hb dX6_append_26 (by decide) (fun cb => absurd cb (nI_ge (show q + 1 < 160 by omega) (by decide))) (fun _ => ?_)
        refine lv_aload_n hx hb dX6_append_29 rfl (lv_at hl 2 rfl) ?_
        refine va_get (D := D) (ci := 6) (v := .ref xt) (C := RX6) (T := TX6) (N := 9) hx hb hts iX6 hown hK hP 0 rfl rfl 0 (by decide) f9 (fun _ h9 => h9) rfl dX6_append_30 ?_
        refine lv_aload_n hx hb dX6_append_33 rfl (lv_at hl 2 rfl) ?_
        refine va_get (D := D) (ci := 6) (v := .int (nI (q + 1))) (C := RX6) (T := TX6) (N := 9) hx hb hts iX6 hown hK hP 0 rfl rfl 1 (by decide) f47 (fun _ h9 => h9) rfl dX6_append_34 ?_
        refine lv_iload_n hx hb dX6_append_37 rfl (lv_at hl 0 rfl) ?_
        refine va_iast hx hb hK hP hD hS 1 0 rfl rfl (vp_in_nI (show q + 1 < 160 by omega) (by decide)) dX6_append_38 (fun H locs hP hD hS => ?_)
        have hP : va_P D vwCl [(x, .inr (6, [.ref xt, .int (nI (q + 1)), .ref xr, .ref xd, .ref xn, .ref xa, .ref xs, .ref xy, .int 0])), (xt, .inl (g 0, 160, .inl (upd (upd ft (q) (((w.toUInt32 >>> ((16 : Int32).toUInt32 &&& Int32.toUInt32 31)).toInt32) &&& 255)) (nI (q + 1)).toNatClampNeg (((w.toUInt32 >>> ((8 : Int32).toUInt32 &&& Int32.toUInt32 31)).toInt32) &&& 255))))] H := hP
        have hD : va_D A [(x, .inr (6, [.ref xt, .int (nI (q + 1)), .ref xr, .ref xd, .ref xn, .ref xa, .ref xs, .ref xy, .int 0])), (xt, .inl (g 0, 160, .inl (upd (upd ft (q) (((w.toUInt32 >>> ((16 : Int32).toUInt32 &&& Int32.toUInt32 31)).toInt32) &&& 255)) (nI (q + 1)).toNatClampNeg (((w.toUInt32 >>> ((8 : Int32).toUInt32 &&& Int32.toUInt32 31)).toInt32) &&& 255))))] := hD
        rw [nI_clamp (show q + 1 < 2 ^ 31 by omega)] at hP hD
        have hP : va_P D vwCl [(x, .inr (6, [.ref xt, .int (nI (q + 1)), .ref xr, .ref xd, .ref xn, .ref xa, .ref xs, .ref xy, .int 0])), (xt, .inl (g 0, 160, .inl (upd (upd ft (q) (((w.toUInt32 >>> ((16 : Int32).toUInt32 &&& Int32.toUInt32 31)).toInt32) &&& 255)) (q + 1) (((w.toUInt32 >>> ((8 : Int32).toUInt32 &&& Int32.toUInt32 31)).toInt32) &&& 255))))] H := hP
        have hD : va_D A [(x, .inr (6, [.ref xt, .int (nI (q + 1)), .ref xr, .ref xd, .ref xn, .ref xa, .ref xs, .ref xy, .int 0])), (xt, .inl (g 0, 160, .inl (upd (upd ft (q) (((w.toUInt32 >>> ((16 : Int32).toUInt32 &&& Int32.toUInt32 31)).toInt32) &&& 255)) (q + 1) (((w.toUInt32 >>> ((8 : Int32).toUInt32 &&& Int32.toUInt32 31)).toInt32) &&& 255))))] := hD
        refine lv_aload_n hx hb dX6_append_39 rfl (lv_at hl 2 rfl) ?_
        refine lv_dup hx hb dX6_append_40 rfl ?_
        refine va_get (D := D) (ci := 6) (v := .int (nI (q + 1))) (C := RX6) (T := TX6) (N := 9) hx hb hts iX6 hown hK hP 0 rfl rfl 1 (by decide) f47 (fun _ h9 => h9) rfl dX6_append_41 ?_
        refine lv_iconst (v := 1) hx hb dX6_append_44 (by decide) ?_
        refine lv_iadd hx hb dX6_append_45 ?_
        refine lv_eqi (y := (nI (q + 1 + 1))) (nI_add (q + 1) (1)) ?_
        refine va_put (D := D) (ci := 6) (v := .int (nI (q + 1 + 1))) (ty := .int) (C := RX6) (T := TX6) (N := 9) hx hb hts iX6 tyX6 tyX6_ok nmX6 hown hK hP hD hS 0 rfl rfl 1 (by decide) f47 (fun _ h9 => h9) rfl (by decide +kernel) (rfl) (rfl) (Nat.le_of_ble_eq_true rfl) dX6_append_46 (fun H locs hP hD hS => ?_)
        have hP : va_P D vwCl [(x, .inr (6, [.ref xt, .int (nI (q + 1 + 1)), .ref xr, .ref xd, .ref xn, .ref xa, .ref xs, .ref xy, .int 0])), (xt, .inl (g 0, 160, .inl (upd (upd ft (q) (((w.toUInt32 >>> ((16 : Int32).toUInt32 &&& Int32.toUInt32 31)).toInt32) &&& 255)) (q + 1) (((w.toUInt32 >>> ((8 : Int32).toUInt32 &&& Int32.toUInt32 31)).toInt32) &&& 255))))] H := hP
        have hD : va_D A [(x, .inr (6, [.ref xt, .int (nI (q + 1 + 1)), .ref xr, .ref xd, .ref xn, .ref xa, .ref xs, .ref xy, .int 0])), (xt, .inl (g 0, 160, .inl (upd (upd ft (q) (((w.toUInt32 >>> ((16 : Int32).toUInt32 &&& Int32.toUInt32 31)).toInt32) &&& 255)) (q + 1) (((w.toUInt32 >>> ((8 : Int32).toUInt32 &&& Int32.toUInt32 31)).toInt32) &&& 255))))] := hD
        refine lv_iinc (v := 0) (lv' := [(2, .int 0), (3, .int (((w.toUInt32 >>> ((8 : Int32).toUInt32 &&& Int32.toUInt32 31)).toInt32) &&& 255)), (0, .ref x), (1, .int w)]) hx hb dX6_append_49 hl (k := 1) rfl (by decide) (by decide) rfl (fun ls hl => ?_)
        refine lv_goto (tgt := 3) hx hb dX6_append_52 (by decide) ?_
        refine lv_iload_n hx hb dX6_append_3 rfl (lv_at hl 0 rfl) ?_
        refine lv_if_lt (tgt := 55) hx hb dX6_append_4 (by decide) (fun cb => absurd cb (by decide)) (fun _ => ?_)
        refine lv_iload_n hx hb dX6_append_7 rfl (lv_at hl 3 rfl) ?_
        refine lv_iload_n hx hb dX6_append_8 rfl (lv_at hl 0 rfl) ?_
        refine lv_iushr hx hb dX6_append_9 rfl ?_
        refine lv_sipush (v := 255) hx hb dX6_append_10 (by decide) ?_
        refine lv_iand hx hb dX6_append_13 ?_
        refine lv_istore_n (lv' := [(3, .int (((w.toUInt32 >>> ((0 : Int32).toUInt32 &&& Int32.toUInt32 31)).toInt32) &&& 255)), (2, .int 0), (0, .ref x), (1, .int w)]) hx hb dX6_append_14 rfl hl (by decide) rfl (fun ls hl => ?_)
        refine lv_iload_n hx hb dX6_append_15 rfl (lv_at hl 0 rfl) ?_
        refine lv_if_eq (tgt := 49) hx hb dX6_append_16 (by decide) (fun cb_8 => ?_) (fun cb_8 => ?_)
        · skip
          refine lv_iinc (v := (-8)) (lv' := [(2, .int (-8)), (3, .int (((w.toUInt32 >>> ((0 : Int32).toUInt32 &&& Int32.toUInt32 31)).toInt32) &&& 255)), (0, .ref x), (1, .int w)]) hx hb dX6_append_49 hl (k := 1) rfl (by decide) (by decide) rfl (fun ls hl => ?_)
          refine lv_goto (tgt := 3) hx hb dX6_append_52 (by decide) ?_
          refine lv_iload_n hx hb dX6_append_3 rfl (lv_at hl 0 rfl) ?_
          refine lv_if_lt (tgt := 55) hx hb dX6_append_4 (by decide) (fun _ => ?_) (fun cb => absurd (by decide) cb)
          have hP9 := hP.sub (ws' := [(x, .inr (6, [.ref xt, .int (nI (q + 1 + 1)), .ref xr, .ref xd, .ref xn, .ref xa, .ref xs, .ref xy, .int 0])), (xt, .inl (g 0, 160, .inl (upd (upd ft (q) (((w.toUInt32 >>> ((16 : Int32).toUInt32 &&& Int32.toUInt32 31)).toInt32) &&& 255)) (q + 1) (((w.toUInt32 >>> ((8 : Int32).toUInt32 &&& Int32.toUInt32 31)).toInt32) &&& 255))))]) [0, 1] rfl
          have hD9 := hD.sub (ws' := [(x, .inr (6, [.ref xt, .int (nI (q + 1 + 1)), .ref xr, .ref xd, .ref xn, .ref xa, .ref xs, .ref xy, .int 0])), (xt, .inl (g 0, 160, .inl (upd (upd ft (q) (((w.toUInt32 >>> ((16 : Int32).toUInt32 &&& Int32.toUInt32 31)).toInt32) &&& 255)) (q + 1) (((w.toUInt32 >>> ((8 : Int32).toUInt32 &&& Int32.toUInt32 31)).toInt32) &&& 255))))]) [0, 1] (by decide) rfl
          subst hQ
          refine W.widen (k := 0) (n := 0) (Nat.le_of_ble_eq_true rfl) (Nat.le_of_ble_eq_true rfl) ?_
          exact W.vret hx hb hr (fun tS htS _ => ⟨⟨_, rfl, ⟨(nI (q + 1 + 1)), (upd (upd ft (q) (((w.toUInt32 >>> ((16 : Int32).toUInt32 &&& Int32.toUInt32 31)).toInt32) &&& 255)) (q + 1) (((w.toUInt32 >>> ((8 : Int32).toUInt32 &&& Int32.toUInt32 31)).toInt32) &&& 255)), rfl, congrArg nI (by have e0 := bz_0 cb_1; have e1 := bz_1 cb_2; have e2 := bz_1 cb_6; have e3 := bz_0 cb_8; unfold sg; omega)⟩, by rw [htS]; exact hP9, hD9⟩, hS.F htS⟩) hS.2.2 dX6_append_55
        · skip
          refine lv_aload_n hx hb dX6_append_19 rfl (lv_at hl 2 rfl) ?_
          refine va_get (D := D) (ci := 6) (v := .int (nI (q + 1 + 1))) (C := RX6) (T := TX6) (N := 9) hx hb hts iX6 hown hK hP 0 rfl rfl 1 (by decide) f47 (fun _ h9 => h9) rfl dX6_append_20 ?_
          refine lv_sipush (v := 160) hx hb dX6_append_23 (by decide) ?_
          refine lv_icmp_ge (tgt := 49) hx hb dX6_append_26 (by decide) (fun cb => absurd cb (nI_ge (show q + 1 + 1 < 160 by omega) (by decide))) (fun _ => ?_)
          refine lv_aload_n hx hb dX6_append_29 rfl (lv_at hl 2 rfl) ?_
          refine va_get (D := D) (ci := 6) (v := .ref xt) (C := RX6) (T := TX6) (N := 9) hx hb hts iX6 hown hK hP 0 rfl rfl 0 (by decide) f9 (fun _ h9 => h9) rfl dX6_append_30 ?_
          refine lv_aload_n hx hb dX6_append_33 rfl (lv_at hl 2 rfl) ?_
          refine va_get (D := D) (ci := 6) (v := .int (nI (q + 1 + 1))) (C := RX6) (T := TX6) (N := 9) hx hb hts iX6 hown hK hP 0 rfl rfl 1 (by decide) f47 (fun _ h9 => h9) rfl dX6_append_34 ?_
          refine lv_iload_n hx hb dX6_append_37 rfl (lv_at hl 0 rfl) ?_
          refine va_iast hx hb hK hP hD hS 1 0 rfl rfl (vp_in_nI (show q + 1 + 1 < 160 by omega) (by decide)) dX6_append_38 (fun H locs hP hD hS => ?_)
          have hP : va_P D vwCl [(x, .inr (6, [.ref xt, .int (nI (q + 1 + 1)), .ref xr, .ref xd, .ref xn, .ref xa, .ref xs, .ref xy, .int 0])), (xt, .inl (g 0, 160, .inl (upd (upd (upd ft (q) (((w.toUInt32 >>> ((16 : Int32).toUInt32 &&& Int32.toUInt32 31)).toInt32) &&& 255)) (q + 1) (((w.toUInt32 >>> ((8 : Int32).toUInt32 &&& Int32.toUInt32 31)).toInt32) &&& 255)) (nI (q + 1 + 1)).toNatClampNeg (((w.toUInt32 >>> ((0 : Int32).toUInt32 &&& Int32.toUInt32 31)).toInt32) &&& 255))))] H := hP
          have hD : va_D A [(x, .inr (6, [.ref xt, .int (nI (q + 1 + 1)), .ref xr, .ref xd, .ref xn, .ref xa, .ref xs, .ref xy, .int 0])), (xt, .inl (g 0, 160, .inl (upd (upd (upd ft (q) (((w.toUInt32 >>> ((16 : Int32).toUInt32 &&& Int32.toUInt32 31)).toInt32) &&& 255)) (q + 1) (((w.toUInt32 >>> ((8 : Int32).toUInt32 &&& Int32.toUInt32 31)).toInt32) &&& 255)) (nI (q + 1 + 1)).toNatClampNeg (((w.toUInt32 >>> ((0 : Int32).toUInt32 &&& Int32.toUInt32 31)).toInt32) &&& 255))))] := hD
          rw [nI_clamp (show q + 1 + 1 < 2 ^ 31 by omega)] at hP hD
          have hP : va_P D vwCl [(x, .inr (6, [.ref xt, .int (nI (q + 1 + 1)), .ref xr, .ref xd, .ref xn, .ref xa, .ref xs, .ref xy, .int 0])), (xt, .inl (g 0, 160, .inl (upd (upd (upd ft (q) (((w.toUInt32 >>> ((16 : Int32).toUInt32 &&& Int32.toUInt32 31)).toInt32) &&& 255)) (q + 1) (((w.toUInt32 >>> ((8 : Int32).toUInt32 &&& Int32.toUInt32 31)).toInt32) &&& 255)) (q + 1 + 1) (((w.toUInt32 >>> ((0 : Int32).toUInt32 &&& Int32.toUInt32 31)).toInt32) &&& 255))))] H := hP
          have hD : va_D A [(x, .inr (6, [.ref xt, .int (nI (q + 1 + 1)), .ref xr, .ref xd, .ref xn, .ref xa, .ref xs, .ref xy, .int 0])), (xt, .inl (g 0, 160, .inl (upd (upd (upd ft (q) (((w.toUInt32 >>> ((16 : Int32).toUInt32 &&& Int32.toUInt32 31)).toInt32) &&& 255)) (q + 1) (((w.toUInt32 >>> ((8 : Int32).toUInt32 &&& Int32.toUInt32 31)).toInt32) &&& 255)) (q + 1 + 1) (((w.toUInt32 >>> ((0 : Int32).toUInt32 &&& Int32.toUInt32 31)).toInt32) &&& 255))))] := hD
          refine lv_aload_n hx hb dX6_append_39 rfl (lv_at hl 2 rfl) ?_
          refine lv_dup hx hb dX6_append_40 rfl ?_
          refine va_get (D := D) (ci := 6) (v := .int (nI (q + 1 + 1))) (C := RX6) (T := TX6) (N := 9) hx hb hts iX6 hown hK hP 0 rfl rfl 1 (by decide) f47 (fun _ h9 => h9) rfl dX6_append_41 ?_
          refine lv_iconst (v := 1) hx hb dX6_append_44 (by decide) ?_
          refine lv_iadd hx hb dX6_append_45 ?_
          refine lv_eqi (y := (nI (q + 1 + 1 + 1))) (nI_add (q + 1 + 1) (1)) ?_
          refine va_put (D := D) (ci := 6) (v := .int (nI (q + 1 + 1 + 1))) (ty := .int) (C := RX6) (T := TX6) (N := 9) hx hb hts iX6 tyX6 tyX6_ok nmX6 hown hK hP hD hS 0 rfl rfl 1 (by decide) f47 (fun _ h9 => h9) rfl (by decide +kernel) (rfl) (rfl) (Nat.le_of_ble_eq_true rfl) dX6_append_46 (fun H locs hP hD hS => ?_)
          have hP : va_P D vwCl [(x, .inr (6, [.ref xt, .int (nI (q + 1 + 1 + 1)), .ref xr, .ref xd, .ref xn, .ref xa, .ref xs, .ref xy, .int 0])), (xt, .inl (g 0, 160, .inl (upd (upd (upd ft (q) (((w.toUInt32 >>> ((16 : Int32).toUInt32 &&& Int32.toUInt32 31)).toInt32) &&& 255)) (q + 1) (((w.toUInt32 >>> ((8 : Int32).toUInt32 &&& Int32.toUInt32 31)).toInt32) &&& 255)) (q + 1 + 1) (((w.toUInt32 >>> ((0 : Int32).toUInt32 &&& Int32.toUInt32 31)).toInt32) &&& 255))))] H := hP
          have hD : va_D A [(x, .inr (6, [.ref xt, .int (nI (q + 1 + 1 + 1)), .ref xr, .ref xd, .ref xn, .ref xa, .ref xs, .ref xy, .int 0])), (xt, .inl (g 0, 160, .inl (upd (upd (upd ft (q) (((w.toUInt32 >>> ((16 : Int32).toUInt32 &&& Int32.toUInt32 31)).toInt32) &&& 255)) (q + 1) (((w.toUInt32 >>> ((8 : Int32).toUInt32 &&& Int32.toUInt32 31)).toInt32) &&& 255)) (q + 1 + 1) (((w.toUInt32 >>> ((0 : Int32).toUInt32 &&& Int32.toUInt32 31)).toInt32) &&& 255))))] := hD
          refine lv_iinc (v := (-8)) (lv' := [(2, .int (-8)), (3, .int (((w.toUInt32 >>> ((0 : Int32).toUInt32 &&& Int32.toUInt32 31)).toInt32) &&& 255)), (0, .ref x), (1, .int w)]) hx hb dX6_append_49 hl (k := 1) rfl (by decide) (by decide) rfl (fun ls hl => ?_)
          refine lv_goto (tgt := 3) hx hb dX6_append_52 (by decide) ?_
          refine lv_iload_n hx hb dX6_append_3 rfl (lv_at hl 0 rfl) ?_
          refine lv_if_lt (tgt := 55) hx hb dX6_append_4 (by decide) (fun _ => ?_) (fun cb => absurd (by decide) cb)
          have hP9 := hP.sub (ws' := [(x, .inr (6, [.ref xt, .int (nI (q + 1 + 1 + 1)), .ref xr, .ref xd, .ref xn, .ref xa, .ref xs, .ref xy, .int 0])), (xt, .inl (g 0, 160, .inl (upd (upd (upd ft (q) (((w.toUInt32 >>> ((16 : Int32).toUInt32 &&& Int32.toUInt32 31)).toInt32) &&& 255)) (q + 1) (((w.toUInt32 >>> ((8 : Int32).toUInt32 &&& Int32.toUInt32 31)).toInt32) &&& 255)) (q + 1 + 1) (((w.toUInt32 >>> ((0 : Int32).toUInt32 &&& Int32.toUInt32 31)).toInt32) &&& 255))))]) [0, 1] rfl
          have hD9 := hD.sub (ws' := [(x, .inr (6, [.ref xt, .int (nI (q + 1 + 1 + 1)), .ref xr, .ref xd, .ref xn, .ref xa, .ref xs, .ref xy, .int 0])), (xt, .inl (g 0, 160, .inl (upd (upd (upd ft (q) (((w.toUInt32 >>> ((16 : Int32).toUInt32 &&& Int32.toUInt32 31)).toInt32) &&& 255)) (q + 1) (((w.toUInt32 >>> ((8 : Int32).toUInt32 &&& Int32.toUInt32 31)).toInt32) &&& 255)) (q + 1 + 1) (((w.toUInt32 >>> ((0 : Int32).toUInt32 &&& Int32.toUInt32 31)).toInt32) &&& 255))))]) [0, 1] (by decide) rfl
          subst hQ
          refine W.widen (k := 0) (n := 0) (Nat.le_of_ble_eq_true rfl) (Nat.le_of_ble_eq_true rfl) ?_
          exact W.vret hx hb hr (fun tS htS _ => ⟨⟨_, rfl, ⟨(nI (q + 1 + 1 + 1)), (upd (upd (upd ft (q) (((w.toUInt32 >>> ((16 : Int32).toUInt32 &&& Int32.toUInt32 31)).toInt32) &&& 255)) (q + 1) (((w.toUInt32 >>> ((8 : Int32).toUInt32 &&& Int32.toUInt32 31)).toInt32) &&& 255)) (q + 1 + 1) (((w.toUInt32 >>> ((0 : Int32).toUInt32 &&& Int32.toUInt32 31)).toInt32) &&& 255)), rfl, congrArg nI (by have e0 := bz_0 cb_1; have e1 := bz_1 cb_2; have e2 := bz_1 cb_6; have e3 := bz_1 cb_8; unfold sg; omega)⟩, by rw [htS]; exact hP9, hD9⟩, hS.F htS⟩) hS.2.2 dX6_append_55
  · skip
    refine lv_aload_n hx hb dX6_append_19 rfl (lv_at hl 2 rfl) ?_
    refine va_get (D := D) (ci := 6) (v := .int (nI q)) (C := RX6) (T := TX6) (N := 9) hx hb hts iX6 hown hK hP 0 rfl rfl 1 (by decide) f47 (fun _ h9 => h9) rfl dX6_append_20 ?_
    refine lv_sipush (v := 160) hx hb dX6_append_23 (by decide) ?_
    refine lv_icmp_ge (tgt := 49) hx hb dX6_append_26 (by decide) (fun cb => absurd cb (nI_ge (show q < 160 by omega) (by decide))) (fun _ => ?_)
    refine lv_aload_n hx hb dX6_append_29 rfl (lv_at hl 2 rfl) ?_
    refine va_get (D := D) (ci := 6) (v := .ref xt) (C := RX6) (T := TX6) (N := 9) hx hb hts iX6 hown hK hP 0 rfl rfl 0 (by decide) f9 (fun _ h9 => h9) rfl dX6_append_30 ?_
    refine lv_aload_n hx hb dX6_append_33 rfl (lv_at hl 2 rfl) ?_
    refine va_get (D := D) (ci := 6) (v := .int (nI q)) (C := RX6) (T := TX6) (N := 9) hx hb hts iX6 hown hK hP 0 rfl rfl 1 (by decide) f47 (fun _ h9 => h9) rfl dX6_append_34 ?_
    refine lv_iload_n hx hb dX6_append_37 rfl (lv_at hl 0 rfl) ?_
    refine va_iast hx hb hK hP hD hS 1 0 rfl rfl (vp_in_nI (show q < 160 by omega) (by decide)) dX6_append_38 (fun H locs hP hD hS => ?_)
    have hP : va_P D vwCl [(x, .inr (6, [.ref xt, .int (nI q), .ref xr, .ref xd, .ref xn, .ref xa, .ref xs, .ref xy, .int 0])), (xt, .inl (g 0, 160, .inl (upd ft (nI q).toNatClampNeg (((w.toUInt32 >>> ((24 : Int32).toUInt32 &&& Int32.toUInt32 31)).toInt32) &&& 255))))] H := hP
    have hD : va_D A [(x, .inr (6, [.ref xt, .int (nI q), .ref xr, .ref xd, .ref xn, .ref xa, .ref xs, .ref xy, .int 0])), (xt, .inl (g 0, 160, .inl (upd ft (nI q).toNatClampNeg (((w.toUInt32 >>> ((24 : Int32).toUInt32 &&& Int32.toUInt32 31)).toInt32) &&& 255))))] := hD
    rw [nI_clamp (show q < 2 ^ 31 by omega)] at hP hD
    have hP : va_P D vwCl [(x, .inr (6, [.ref xt, .int (nI q), .ref xr, .ref xd, .ref xn, .ref xa, .ref xs, .ref xy, .int 0])), (xt, .inl (g 0, 160, .inl (upd ft (q) (((w.toUInt32 >>> ((24 : Int32).toUInt32 &&& Int32.toUInt32 31)).toInt32) &&& 255))))] H := hP
    have hD : va_D A [(x, .inr (6, [.ref xt, .int (nI q), .ref xr, .ref xd, .ref xn, .ref xa, .ref xs, .ref xy, .int 0])), (xt, .inl (g 0, 160, .inl (upd ft (q) (((w.toUInt32 >>> ((24 : Int32).toUInt32 &&& Int32.toUInt32 31)).toInt32) &&& 255))))] := hD
    refine lv_aload_n hx hb dX6_append_39 rfl (lv_at hl 2 rfl) ?_
    refine lv_dup hx hb dX6_append_40 rfl ?_
    refine va_get (D := D) (ci := 6) (v := .int (nI q)) (C := RX6) (T := TX6) (N := 9) hx hb hts iX6 hown hK hP 0 rfl rfl 1 (by decide) f47 (fun _ h9 => h9) rfl dX6_append_41 ?_
    refine lv_iconst (v := 1) hx hb dX6_append_44 (by decide) ?_
    refine lv_iadd hx hb dX6_append_45 ?_
    refine lv_eqi (y := (nI (q + 1))) (nI_add (q) (1)) ?_
    refine va_put (D := D) (ci := 6) (v := .int (nI (q + 1))) (ty := .int) (C := RX6) (T := TX6) (N := 9) hx hb hts iX6 tyX6 tyX6_ok nmX6 hown hK hP hD hS 0 rfl rfl 1 (by decide) f47 (fun _ h9 => h9) rfl (by decide +kernel) (rfl) (rfl) (Nat.le_of_ble_eq_true rfl) dX6_append_46 (fun H locs hP hD hS => ?_)
    have hP : va_P D vwCl [(x, .inr (6, [.ref xt, .int (nI (q + 1)), .ref xr, .ref xd, .ref xn, .ref xa, .ref xs, .ref xy, .int 0])), (xt, .inl (g 0, 160, .inl (upd ft (q) (((w.toUInt32 >>> ((24 : Int32).toUInt32 &&& Int32.toUInt32 31)).toInt32) &&& 255))))] H := hP
    have hD : va_D A [(x, .inr (6, [.ref xt, .int (nI (q + 1)), .ref xr, .ref xd, .ref xn, .ref xa, .ref xs, .ref xy, .int 0])), (xt, .inl (g 0, 160, .inl (upd ft (q) (((w.toUInt32 >>> ((24 : Int32).toUInt32 &&& Int32.toUInt32 31)).toInt32) &&& 255))))] := hD
    refine lv_iinc (v := 16) (lv' := [(2, .int 16), (3, .int (((w.toUInt32 >>> ((24 : Int32).toUInt32 &&& Int32.toUInt32 31)).toInt32) &&& 255)), (0, .ref x), (1, .int w)]) hx hb dX6_append_49 hl (k := 1) rfl (by decide) (by decide) rfl (fun ls hl => ?_)
    refine lv_goto (tgt := 3) hx hb dX6_append_52 (by decide) ?_
    refine lv_iload_n hx hb dX6_append_3 rfl (lv_at hl 0 rfl) ?_
    refine lv_if_lt (tgt := 55) hx hb dX6_append_4 (by decide) (fun cb => absurd cb (by decide)) (fun _ => ?_)
    refine lv_iload_n hx hb dX6_append_7 rfl (lv_at hl 3 rfl) ?_
    refine lv_iload_n hx hb dX6_append_8 rfl (lv_at hl 0 rfl) ?_
    refine lv_iushr hx hb dX6_append_9 rfl ?_
    refine lv_sipush (v := 255) hx hb dX6_append_10 (by decide) ?_
    refine lv_iand hx hb dX6_append_13 ?_
    refine lv_istore_n (lv' := [(3, .int (((w.toUInt32 >>> ((16 : Int32).toUInt32 &&& Int32.toUInt32 31)).toInt32) &&& 255)), (2, .int 16), (0, .ref x), (1, .int w)]) hx hb dX6_append_14 rfl hl (by decide) rfl (fun ls hl => ?_)
    refine lv_iload_n hx hb dX6_append_15 rfl (lv_at hl 0 rfl) ?_
    refine lv_if_eq (tgt := 49) hx hb dX6_append_16 (by decide) (fun cb_9 => ?_) (fun cb_9 => ?_)
    · skip
      refine lv_iinc (v := 8) (lv' := [(2, .int 8), (3, .int (((w.toUInt32 >>> ((16 : Int32).toUInt32 &&& Int32.toUInt32 31)).toInt32) &&& 255)), (0, .ref x), (1, .int w)]) hx hb dX6_append_49 hl (k := 1) rfl (by decide) (by decide) rfl (fun ls hl => ?_)
      refine lv_goto (tgt := 3) hx hb dX6_append_52 (by decide) ?_
      refine lv_iload_n hx hb dX6_append_3 rfl (lv_at hl 0 rfl) ?_
      refine lv_if_lt (tgt := 55) hx hb dX6_append_4 (by decide) (fun cb => absurd cb (by decide)) (fun _ => ?_)
      refine lv_iload_n hx hb dX6_append_7 rfl (lv_at hl 3 rfl) ?_
      refine lv_iload_n hx hb dX6_append_8 rfl (lv_at hl 0 rfl) ?_
      refine lv_iushr hx hb dX6_append_9 rfl ?_
      refine lv_sipush (v := 255) hx hb dX6_append_10 (by decide) ?_
      refine lv_iand hx hb dX6_append_13 ?_
      refine lv_istore_n (lv' := [(3, .int (((w.toUInt32 >>> ((8 : Int32).toUInt32 &&& Int32.toUInt32 31)).toInt32) &&& 255)), (2, .int 8), (0, .ref x), (1, .int w)]) hx hb dX6_append_14 rfl hl (by decide) rfl (fun ls hl => ?_)
      refine lv_iload_n hx hb dX6_append_15 rfl (lv_at hl 0 rfl) ?_
      refine lv_if_eq (tgt := 49) hx hb dX6_append_16 (by decide) (fun cb_10 => ?_) (fun cb_10 => ?_)
      · skip
        refine lv_iinc (v := 0) (lv' := [(2, .int 0), (3, .int (((w.toUInt32 >>> ((8 : Int32).toUInt32 &&& Int32.toUInt32 31)).toInt32) &&& 255)), (0, .ref x), (1, .int w)]) hx hb dX6_append_49 hl (k := 1) rfl (by decide) (by decide) rfl (fun ls hl => ?_)
        refine lv_goto (tgt := 3) hx hb dX6_append_52 (by decide) ?_
        refine lv_iload_n hx hb dX6_append_3 rfl (lv_at hl 0 rfl) ?_
        refine lv_if_lt (tgt := 55) hx hb dX6_append_4 (by decide) (fun cb => absurd cb (by decide)) (fun _ => ?_)
        refine lv_iload_n hx hb dX6_append_7 rfl (lv_at hl 3 rfl) ?_
        refine lv_iload_n hx hb dX6_append_8 rfl (lv_at hl 0 rfl) ?_
        refine lv_iushr hx hb dX6_append_9 rfl ?_
        refine lv_sipush (v := 255) hx hb dX6_append_10 (by decide) ?_
        refine lv_iand hx hb dX6_append_13 ?_
        refine lv_istore_n (lv' := [(3, .int (((w.toUInt32 >>> ((0 : Int32).toUInt32 &&& Int32.toUInt32 31)).toInt32) &&& 255)), (2, .int 0), (0, .ref x), (1, .int w)]) hx hb dX6_append_14 rfl hl (by decide) rfl (fun ls hl => ?_)
        refine lv_iload_n hx hb dX6_append_15 rfl (lv_at hl 0 rfl) ?_
        refine lv_if_eq (tgt := 49) hx hb dX6_append_16 (by decide) (fun cb_11 => ?_) (fun cb_11 => ?_)
        · skip
          refine lv_iinc (v := (-8)) (lv' := [(2, .int (-8)), (3, .int (((w.toUInt32 >>> ((0 : Int32).toUInt32 &&& Int32.toUInt32 31)).toInt32) &&& 255)), (0, .ref x), (1, .int w)]) hx hb dX6_append_49 hl (k := 1) rfl (by decide) (by decide) rfl (fun ls hl => ?_)
          refine lv_goto (tgt := 3) hx hb dX6_append_52 (by decide) ?_
          refine lv_iload_n hx hb dX6_append_3 rfl (lv_at hl 0 rfl) ?_
          refine lv_if_lt (tgt := 55) hx hb dX6_append_4 (by decide) (fun _ => ?_) (fun cb => absurd (by decide) cb)
          have hP9 := hP.sub (ws' := [(x, .inr (6, [.ref xt, .int (nI (q + 1)), .ref xr, .ref xd, .ref xn, .ref xa, .ref xs, .ref xy, .int 0])), (xt, .inl (g 0, 160, .inl (upd ft (q) (((w.toUInt32 >>> ((24 : Int32).toUInt32 &&& Int32.toUInt32 31)).toInt32) &&& 255))))]) [0, 1] rfl
          have hD9 := hD.sub (ws' := [(x, .inr (6, [.ref xt, .int (nI (q + 1)), .ref xr, .ref xd, .ref xn, .ref xa, .ref xs, .ref xy, .int 0])), (xt, .inl (g 0, 160, .inl (upd ft (q) (((w.toUInt32 >>> ((24 : Int32).toUInt32 &&& Int32.toUInt32 31)).toInt32) &&& 255))))]) [0, 1] (by decide) rfl
          subst hQ
          refine W.widen (k := 0) (n := 0) (Nat.le_of_ble_eq_true rfl) (Nat.le_of_ble_eq_true rfl) ?_
          exact W.vret hx hb hr (fun tS htS _ => ⟨⟨_, rfl, ⟨(nI (q + 1)), (upd ft (q) (((w.toUInt32 >>> ((24 : Int32).toUInt32 &&& Int32.toUInt32 31)).toInt32) &&& 255)), rfl, congrArg nI (by have e0 := bz_1 cb_1; have e1 := bz_0 cb_9; have e2 := bz_0 cb_10; have e3 := bz_0 cb_11; unfold sg; omega)⟩, by rw [htS]; exact hP9, hD9⟩, hS.F htS⟩) hS.2.2 dX6_append_55
        · skip
          refine lv_aload_n hx hb dX6_append_19 rfl (lv_at hl 2 rfl) ?_
          refine va_get (D := D) (ci := 6) (v := .int (nI (q + 1))) (C := RX6) (T := TX6) (N := 9) hx hb hts iX6 hown hK hP 0 rfl rfl 1 (by decide) f47 (fun _ h9 => h9) rfl dX6_append_20 ?_
          refine lv_sipush (v := 160) hx hb dX6_append_23 (by decide) ?_
          refine lv_icmp_ge (tgt := 49) hx hb dX6_append_26 (by decide) (fun cb => absurd cb (nI_ge (show q + 1 < 160 by omega) (by decide))) (fun _ => ?_)
          refine lv_aload_n hx hb dX6_append_29 rfl (lv_at hl 2 rfl) ?_
          refine va_get (D := D) (ci := 6) (v := .ref xt) (C := RX6) (T := TX6) (N := 9) hx hb hts iX6 hown hK hP 0 rfl rfl 0 (by decide) f9 (fun _ h9 => h9) rfl dX6_append_30 ?_
          refine lv_aload_n hx hb dX6_append_33 rfl (lv_at hl 2 rfl) ?_
          refine va_get (D := D) (ci := 6) (v := .int (nI (q + 1))) (C := RX6) (T := TX6) (N := 9) hx hb hts iX6 hown hK hP 0 rfl rfl 1 (by decide) f47 (fun _ h9 => h9) rfl dX6_append_34 ?_
          refine lv_iload_n hx hb dX6_append_37 rfl (lv_at hl 0 rfl) ?_
          refine va_iast hx hb hK hP hD hS 1 0 rfl rfl (vp_in_nI (show q + 1 < 160 by omega) (by decide)) dX6_append_38 (fun H locs hP hD hS => ?_)
          have hP : va_P D vwCl [(x, .inr (6, [.ref xt, .int (nI (q + 1)), .ref xr, .ref xd, .ref xn, .ref xa, .ref xs, .ref xy, .int 0])), (xt, .inl (g 0, 160, .inl (upd (upd ft (q) (((w.toUInt32 >>> ((24 : Int32).toUInt32 &&& Int32.toUInt32 31)).toInt32) &&& 255)) (nI (q + 1)).toNatClampNeg (((w.toUInt32 >>> ((0 : Int32).toUInt32 &&& Int32.toUInt32 31)).toInt32) &&& 255))))] H := hP
          have hD : va_D A [(x, .inr (6, [.ref xt, .int (nI (q + 1)), .ref xr, .ref xd, .ref xn, .ref xa, .ref xs, .ref xy, .int 0])), (xt, .inl (g 0, 160, .inl (upd (upd ft (q) (((w.toUInt32 >>> ((24 : Int32).toUInt32 &&& Int32.toUInt32 31)).toInt32) &&& 255)) (nI (q + 1)).toNatClampNeg (((w.toUInt32 >>> ((0 : Int32).toUInt32 &&& Int32.toUInt32 31)).toInt32) &&& 255))))] := hD
          rw [nI_clamp (show q + 1 < 2 ^ 31 by omega)] at hP hD
          have hP : va_P D vwCl [(x, .inr (6, [.ref xt, .int (nI (q + 1)), .ref xr, .ref xd, .ref xn, .ref xa, .ref xs, .ref xy, .int 0])), (xt, .inl (g 0, 160, .inl (upd (upd ft (q) (((w.toUInt32 >>> ((24 : Int32).toUInt32 &&& Int32.toUInt32 31)).toInt32) &&& 255)) (q + 1) (((w.toUInt32 >>> ((0 : Int32).toUInt32 &&& Int32.toUInt32 31)).toInt32) &&& 255))))] H := hP
          have hD : va_D A [(x, .inr (6, [.ref xt, .int (nI (q + 1)), .ref xr, .ref xd, .ref xn, .ref xa, .ref xs, .ref xy, .int 0])), (xt, .inl (g 0, 160, .inl (upd (upd ft (q) (((w.toUInt32 >>> ((24 : Int32).toUInt32 &&& Int32.toUInt32 31)).toInt32) &&& 255)) (q + 1) (((w.toUInt32 >>> ((0 : Int32).toUInt32 &&& Int32.toUInt32 31)).toInt32) &&& 255))))] := hD
          refine lv_aload_n hx hb dX6_append_39 rfl (lv_at hl 2 rfl) ?_
          refine lv_dup hx hb dX6_append_40 rfl ?_
          refine va_get (D := D) (ci := 6) (v := .int (nI (q + 1))) (C := RX6) (T := TX6) (N := 9) hx hb hts iX6 hown hK hP 0 rfl rfl 1 (by decide) f47 (fun _ h9 => h9) rfl dX6_append_41 ?_
          refine lv_iconst (v := 1) hx hb dX6_append_44 (by decide) ?_
          refine lv_iadd hx hb dX6_append_45 ?_
          refine lv_eqi (y := (nI (q + 1 + 1))) (nI_add (q + 1) (1)) ?_
          refine va_put (D := D) (ci := 6) (v := .int (nI (q + 1 + 1))) (ty := .int) (C := RX6) (T := TX6) (N := 9) hx hb hts iX6 tyX6 tyX6_ok nmX6 hown hK hP hD hS 0 rfl rfl 1 (by decide) f47 (fun _ h9 => h9) rfl (by decide +kernel) (rfl) (rfl) (Nat.le_of_ble_eq_true rfl) dX6_append_46 (fun H locs hP hD hS => ?_)
          have hP : va_P D vwCl [(x, .inr (6, [.ref xt, .int (nI (q + 1 + 1)), .ref xr, .ref xd, .ref xn, .ref xa, .ref xs, .ref xy, .int 0])), (xt, .inl (g 0, 160, .inl (upd (upd ft (q) (((w.toUInt32 >>> ((24 : Int32).toUInt32 &&& Int32.toUInt32 31)).toInt32) &&& 255)) (q + 1) (((w.toUInt32 >>> ((0 : Int32).toUInt32 &&& Int32.toUInt32 31)).toInt32) &&& 255))))] H := hP
          have hD : va_D A [(x, .inr (6, [.ref xt, .int (nI (q + 1 + 1)), .ref xr, .ref xd, .ref xn, .ref xa, .ref xs, .ref xy, .int 0])), (xt, .inl (g 0, 160, .inl (upd (upd ft (q) (((w.toUInt32 >>> ((24 : Int32).toUInt32 &&& Int32.toUInt32 31)).toInt32) &&& 255)) (q + 1) (((w.toUInt32 >>> ((0 : Int32).toUInt32 &&& Int32.toUInt32 31)).toInt32) &&& 255))))] := hD
          refine lv_iinc (v := (-8)) (lv' := [(2, .int (-8)), (3, .int (((w.toUInt32 >>> ((0 : Int32).toUInt32 &&& Int32.toUInt32 31)).toInt32) &&& 255)), (0, .ref x), (1, .int w)]) hx hb dX6_append_49 hl (k := 1) rfl (by decide) (by decide) rfl (fun ls hl => ?_)
          refine lv_goto (tgt := 3) hx hb dX6_append_52 (by decide) ?_
          refine lv_iload_n hx hb dX6_append_3 rfl (lv_at hl 0 rfl) ?_
          refine lv_if_lt (tgt := 55) hx hb dX6_append_4 (by decide) (fun _ => ?_) (fun cb => absurd (by decide) cb)
          have hP9 := hP.sub (ws' := [(x, .inr (6, [.ref xt, .int (nI (q + 1 + 1)), .ref xr, .ref xd, .ref xn, .ref xa, .ref xs, .ref xy, .int 0])), (xt, .inl (g 0, 160, .inl (upd (upd ft (q) (((w.toUInt32 >>> ((24 : Int32).toUInt32 &&& Int32.toUInt32 31)).toInt32) &&& 255)) (q + 1) (((w.toUInt32 >>> ((0 : Int32).toUInt32 &&& Int32.toUInt32 31)).toInt32) &&& 255))))]) [0, 1] rfl
          have hD9 := hD.sub (ws' := [(x, .inr (6, [.ref xt, .int (nI (q + 1 + 1)), .ref xr, .ref xd, .ref xn, .ref xa, .ref xs, .ref xy, .int 0])), (xt, .inl (g 0, 160, .inl (upd (upd ft (q) (((w.toUInt32 >>> ((24 : Int32).toUInt32 &&& Int32.toUInt32 31)).toInt32) &&& 255)) (q + 1) (((w.toUInt32 >>> ((0 : Int32).toUInt32 &&& Int32.toUInt32 31)).toInt32) &&& 255))))]) [0, 1] (by decide) rfl
          subst hQ
          refine W.widen (k := 0) (n := 0) (Nat.le_of_ble_eq_true rfl) (Nat.le_of_ble_eq_true rfl) ?_
          exact W.vret hx hb hr (fun tS htS _ => ⟨⟨_, rfl, ⟨(nI (q + 1 + 1)), (upd (upd ft (q) (((w.toUInt32 >>> ((24 : Int32).toUInt32 &&& Int32.toUInt32 31)).toInt32) &&& 255)) (q + 1) (((w.toUInt32 >>> ((0 : Int32).toUInt32 &&& Int32.toUInt32 31)).toInt32) &&& 255)), rfl, congrArg nI (by have e0 := bz_1 cb_1; have e1 := bz_0 cb_9; have e2 := bz_0 cb_10; have e3 := bz_1 cb_11; unfold sg; omega)⟩, by rw [htS]; exact hP9, hD9⟩, hS.F htS⟩) hS.2.2 dX6_append_55
      · skip
        refine lv_aload_n hx hb dX6_append_19 rfl (lv_at hl 2 rfl) ?_
        refine va_get (D := D) (ci := 6) (v := .int (nI (q + 1))) (C := RX6) (T := TX6) (N := 9) hx hb hts iX6 hown hK hP 0 rfl rfl 1 (by decide) f47 (fun _ h9 => h9) rfl dX6_append_20 ?_
        refine lv_sipush (v := 160) hx hb dX6_append_23 (by decide) ?_
        refine lv_icmp_ge (tgt := 49) hx hb dX6_append_26 (by decide) (fun cb => absurd cb (nI_ge (show q + 1 < 160 by omega) (by decide))) (fun _ => ?_)
        refine lv_aload_n hx hb dX6_append_29 rfl (lv_at hl 2 rfl) ?_
        refine va_get (D := D) (ci := 6) (v := .ref xt) (C := RX6) (T := TX6) (N := 9) hx hb hts iX6 hown hK hP 0 rfl rfl 0 (by decide) f9 (fun _ h9 => h9) rfl dX6_append_30 ?_
        refine lv_aload_n hx hb dX6_append_33 rfl (lv_at hl 2 rfl) ?_
        refine va_get (D := D) (ci := 6) (v := .int (nI (q + 1))) (C := RX6) (T := TX6) (N := 9) hx hb hts iX6 hown hK hP 0 rfl rfl 1 (by decide) f47 (fun _ h9 => h9) rfl dX6_append_34 ?_
        refine lv_iload_n hx hb dX6_append_37 rfl (lv_at hl 0 rfl) ?_
        refine va_iast hx hb hK hP hD hS 1 0 rfl rfl (vp_in_nI (show q + 1 < 160 by omega) (by decide)) dX6_append_38 (fun H locs hP hD hS => ?_)
        have hP : va_P D vwCl [(x, .inr (6, [.ref xt, .int (nI (q + 1)), .ref xr, .ref xd, .ref xn, .ref xa, .ref xs, .ref xy, .int 0])), (xt, .inl (g 0, 160, .inl (upd (upd ft (q) (((w.toUInt32 >>> ((24 : Int32).toUInt32 &&& Int32.toUInt32 31)).toInt32) &&& 255)) (nI (q + 1)).toNatClampNeg (((w.toUInt32 >>> ((8 : Int32).toUInt32 &&& Int32.toUInt32 31)).toInt32) &&& 255))))] H := hP
        have hD : va_D A [(x, .inr (6, [.ref xt, .int (nI (q + 1)), .ref xr, .ref xd, .ref xn, .ref xa, .ref xs, .ref xy, .int 0])), (xt, .inl (g 0, 160, .inl (upd (upd ft (q) (((w.toUInt32 >>> ((24 : Int32).toUInt32 &&& Int32.toUInt32 31)).toInt32) &&& 255)) (nI (q + 1)).toNatClampNeg (((w.toUInt32 >>> ((8 : Int32).toUInt32 &&& Int32.toUInt32 31)).toInt32) &&& 255))))] := hD
        rw [nI_clamp (show q + 1 < 2 ^ 31 by omega)] at hP hD
        have hP : va_P D vwCl [(x, .inr (6, [.ref xt, .int (nI (q + 1)), .ref xr, .ref xd, .ref xn, .ref xa, .ref xs, .ref xy, .int 0])), (xt, .inl (g 0, 160, .inl (upd (upd ft (q) (((w.toUInt32 >>> ((24 : Int32).toUInt32 &&& Int32.toUInt32 31)).toInt32) &&& 255)) (q + 1) (((w.toUInt32 >>> ((8 : Int32).toUInt32 &&& Int32.toUInt32 31)).toInt32) &&& 255))))] H := hP
        have hD : va_D A [(x, .inr (6, [.ref xt, .int (nI (q + 1)), .ref xr, .ref xd, .ref xn, .ref xa, .ref xs, .ref xy, .int 0])), (xt, .inl (g 0, 160, .inl (upd (upd ft (q) (((w.toUInt32 >>> ((24 : Int32).toUInt32 &&& Int32.toUInt32 31)).toInt32) &&& 255)) (q + 1) (((w.toUInt32 >>> ((8 : Int32).toUInt32 &&& Int32.toUInt32 31)).toInt32) &&& 255))))] := hD
        refine lv_aload_n hx hb dX6_append_39 rfl (lv_at hl 2 rfl) ?_
        refine lv_dup hx hb dX6_append_40 rfl ?_
        refine va_get (D := D) (ci := 6) (v := .int (nI (q + 1))) (C := RX6) (T := TX6) (N := 9) hx hb hts iX6 hown hK hP 0 rfl rfl 1 (by decide) f47 (fun _ h9 => h9) rfl dX6_append_41 ?_
        refine lv_iconst (v := 1) hx hb dX6_append_44 (by decide) ?_
        refine lv_iadd hx hb dX6_append_45 ?_
        refine lv_eqi (y := (nI (q + 1 + 1))) (nI_add (q + 1) (1)) ?_
        refine va_put (D := D) (ci := 6) (v := .int (nI (q + 1 + 1))) (ty := .int) (C := RX6) (T := TX6) (N := 9) hx hb hts iX6 tyX6 tyX6_ok nmX6 hown hK hP hD hS 0 rfl rfl 1 (by decide) f47 (fun _ h9 => h9) rfl (by decide +kernel) (rfl) (rfl) (Nat.le_of_ble_eq_true rfl) dX6_append_46 (fun H locs hP hD hS => ?_)
        have hP : va_P D vwCl [(x, .inr (6, [.ref xt, .int (nI (q + 1 + 1)), .ref xr, .ref xd, .ref xn, .ref xa, .ref xs, .ref xy, .int 0])), (xt, .inl (g 0, 160, .inl (upd (upd ft (q) (((w.toUInt32 >>> ((24 : Int32).toUInt32 &&& Int32.toUInt32 31)).toInt32) &&& 255)) (q + 1) (((w.toUInt32 >>> ((8 : Int32).toUInt32 &&& Int32.toUInt32 31)).toInt32) &&& 255))))] H := hP
        have hD : va_D A [(x, .inr (6, [.ref xt, .int (nI (q + 1 + 1)), .ref xr, .ref xd, .ref xn, .ref xa, .ref xs, .ref xy, .int 0])), (xt, .inl (g 0, 160, .inl (upd (upd ft (q) (((w.toUInt32 >>> ((24 : Int32).toUInt32 &&& Int32.toUInt32 31)).toInt32) &&& 255)) (q + 1) (((w.toUInt32 >>> ((8 : Int32).toUInt32 &&& Int32.toUInt32 31)).toInt32) &&& 255))))] := hD
        refine lv_iinc (v := 0) (lv' := [(2, .int 0), (3, .int (((w.toUInt32 >>> ((8 : Int32).toUInt32 &&& Int32.toUInt32 31)).toInt32) &&& 255)), (0, .ref x), (1, .int w)]) hx hb dX6_append_49 hl (k := 1) rfl (by decide) (by decide) rfl (fun ls hl => ?_)
        refine lv_goto (tgt := 3) hx hb dX6_append_52 (by decide) ?_
        refine lv_iload_n hx hb dX6_append_3 rfl (lv_at hl 0 rfl) ?_
        refine lv_if_lt (tgt := 55) hx hb dX6_append_4 (by decide) (fun cb => absurd cb (by decide)) (fun _ => ?_)
        refine lv_iload_n hx hb dX6_append_7 rfl (lv_at hl 3 rfl) ?_
        refine lv_iload_n hx hb dX6_append_8 rfl (lv_at hl 0 rfl) ?_
        refine lv_iushr hx hb dX6_append_9 rfl ?_
        refine lv_sipush (v := 255) hx hb dX6_append_10 (by decide) ?_
        refine lv_iand hx hb dX6_append_13 ?_
        refine lv_istore_n (lv' := [(3, .int (((w.toUInt32 >>> ((0 : Int32).toUInt32 &&& Int32.toUInt32 31)).toInt32) &&& 255)), (2, .int 0), (0, .ref x), (1, .int w)]) hx hb dX6_append_14 rfl hl (by decide) rfl (fun ls hl => ?_)
        refine lv_iload_n hx hb dX6_append_15 rfl (lv_at hl 0 rfl) ?_
        refine lv_if_eq (tgt := 49) hx hb dX6_append_16 (by decide) (fun cb_12 => ?_) (fun cb_12 => ?_)
        · skip
          refine lv_iinc (v := (-8)) (lv' := [(2, .int (-8)), (3, .int (((w.toUInt32 >>> ((0 : Int32).toUInt32 &&& Int32.toUInt32 31)).toInt32) &&& 255)), (0, .ref x), (1, .int w)]) hx hb dX6_append_49 hl (k := 1) rfl (by decide) (by decide) rfl (fun ls hl => ?_)
          refine lv_goto (tgt := 3) hx hb dX6_append_52 (by decide) ?_
          refine lv_iload_n hx hb dX6_append_3 rfl (lv_at hl 0 rfl) ?_
          refine lv_if_lt (tgt := 55) hx hb dX6_append_4 (by decide) (fun _ => ?_) (fun cb => absurd (by decide) cb)
          have hP9 := hP.sub (ws' := [(x, .inr (6, [.ref xt, .int (nI (q + 1 + 1)), .ref xr, .ref xd, .ref xn, .ref xa, .ref xs, .ref xy, .int 0])), (xt, .inl (g 0, 160, .inl (upd (upd ft (q) (((w.toUInt32 >>> ((24 : Int32).toUInt32 &&& Int32.toUInt32 31)).toInt32) &&& 255)) (q + 1) (((w.toUInt32 >>> ((8 : Int32).toUInt32 &&& Int32.toUInt32 31)).toInt32) &&& 255))))]) [0, 1] rfl
          have hD9 := hD.sub (ws' := [(x, .inr (6, [.ref xt, .int (nI (q + 1 + 1)), .ref xr, .ref xd, .ref xn, .ref xa, .ref xs, .ref xy, .int 0])), (xt, .inl (g 0, 160, .inl (upd (upd ft (q) (((w.toUInt32 >>> ((24 : Int32).toUInt32 &&& Int32.toUInt32 31)).toInt32) &&& 255)) (q + 1) (((w.toUInt32 >>> ((8 : Int32).toUInt32 &&& Int32.toUInt32 31)).toInt32) &&& 255))))]) [0, 1] (by decide) rfl
          subst hQ
          refine W.widen (k := 0) (n := 0) (Nat.le_of_ble_eq_true rfl) (Nat.le_of_ble_eq_true rfl) ?_
          exact W.vret hx hb hr (fun tS htS _ => ⟨⟨_, rfl, ⟨(nI (q + 1 + 1)), (upd (upd ft (q) (((w.toUInt32 >>> ((24 : Int32).toUInt32 &&& Int32.toUInt32 31)).toInt32) &&& 255)) (q + 1) (((w.toUInt32 >>> ((8 : Int32).toUInt32 &&& Int32.toUInt32 31)).toInt32) &&& 255)), rfl, congrArg nI (by have e0 := bz_1 cb_1; have e1 := bz_0 cb_9; have e2 := bz_1 cb_10; have e3 := bz_0 cb_12; unfold sg; omega)⟩, by rw [htS]; exact hP9, hD9⟩, hS.F htS⟩) hS.2.2 dX6_append_55
        · skip
          refine lv_aload_n hx hb dX6_append_19 rfl (lv_at hl 2 rfl) ?_
          refine va_get (D := D) (ci := 6) (v := .int (nI (q + 1 + 1))) (C := RX6) (T := TX6) (N := 9) hx hb hts iX6 hown hK hP 0 rfl rfl 1 (by decide) f47 (fun _ h9 => h9) rfl dX6_append_20 ?_
          refine lv_sipush (v := 160) hx hb dX6_append_23 (by decide) ?_
          refine lv_icmp_ge (tgt := 49) hx hb dX6_append_26 (by decide) (fun cb => absurd cb (nI_ge (show q + 1 + 1 < 160 by omega) (by decide))) (fun _ => ?_)
          refine lv_aload_n hx hb dX6_append_29 rfl (lv_at hl 2 rfl) ?_
          refine va_get (D := D) (ci := 6) (v := .ref xt) (C := RX6) (T := TX6) (N := 9) hx hb hts iX6 hown hK hP 0 rfl rfl 0 (by decide) f9 (fun _ h9 => h9) rfl dX6_append_30 ?_
          refine lv_aload_n hx hb dX6_append_33 rfl (lv_at hl 2 rfl) ?_
          refine va_get (D := D) (ci := 6) (v := .int (nI (q + 1 + 1))) (C := RX6) (T := TX6) (N := 9) hx hb hts iX6 hown hK hP 0 rfl rfl 1 (by decide) f47 (fun _ h9 => h9) rfl dX6_append_34 ?_
          refine lv_iload_n hx hb dX6_append_37 rfl (lv_at hl 0 rfl) ?_
          refine va_iast hx hb hK hP hD hS 1 0 rfl rfl (vp_in_nI (show q + 1 + 1 < 160 by omega) (by decide)) dX6_append_38 (fun H locs hP hD hS => ?_)
          have hP : va_P D vwCl [(x, .inr (6, [.ref xt, .int (nI (q + 1 + 1)), .ref xr, .ref xd, .ref xn, .ref xa, .ref xs, .ref xy, .int 0])), (xt, .inl (g 0, 160, .inl (upd (upd (upd ft (q) (((w.toUInt32 >>> ((24 : Int32).toUInt32 &&& Int32.toUInt32 31)).toInt32) &&& 255)) (q + 1) (((w.toUInt32 >>> ((8 : Int32).toUInt32 &&& Int32.toUInt32 31)).toInt32) &&& 255)) (nI (q + 1 + 1)).toNatClampNeg (((w.toUInt32 >>> ((0 : Int32).toUInt32 &&& Int32.toUInt32 31)).toInt32) &&& 255))))] H := hP
          have hD : va_D A [(x, .inr (6, [.ref xt, .int (nI (q + 1 + 1)), .ref xr, .ref xd, .ref xn, .ref xa, .ref xs, .ref xy, .int 0])), (xt, .inl (g 0, 160, .inl (upd (upd (upd ft (q) (((w.toUInt32 >>> ((24 : Int32).toUInt32 &&& Int32.toUInt32 31)).toInt32) &&& 255)) (q + 1) (((w.toUInt32 >>> ((8 : Int32).toUInt32 &&& Int32.toUInt32 31)).toInt32) &&& 255)) (nI (q + 1 + 1)).toNatClampNeg (((w.toUInt32 >>> ((0 : Int32).toUInt32 &&& Int32.toUInt32 31)).toInt32) &&& 255))))] := hD
          rw [nI_clamp (show q + 1 + 1 < 2 ^ 31 by omega)] at hP hD
          have hP : va_P D vwCl [(x, .inr (6, [.ref xt, .int (nI (q + 1 + 1)), .ref xr, .ref xd, .ref xn, .ref xa, .ref xs, .ref xy, .int 0])), (xt, .inl (g 0, 160, .inl (upd (upd (upd ft (q) (((w.toUInt32 >>> ((24 : Int32).toUInt32 &&& Int32.toUInt32 31)).toInt32) &&& 255)) (q + 1) (((w.toUInt32 >>> ((8 : Int32).toUInt32 &&& Int32.toUInt32 31)).toInt32) &&& 255)) (q + 1 + 1) (((w.toUInt32 >>> ((0 : Int32).toUInt32 &&& Int32.toUInt32 31)).toInt32) &&& 255))))] H := hP
          have hD : va_D A [(x, .inr (6, [.ref xt, .int (nI (q + 1 + 1)), .ref xr, .ref xd, .ref xn, .ref xa, .ref xs, .ref xy, .int 0])), (xt, .inl (g 0, 160, .inl (upd (upd (upd ft (q) (((w.toUInt32 >>> ((24 : Int32).toUInt32 &&& Int32.toUInt32 31)).toInt32) &&& 255)) (q + 1) (((w.toUInt32 >>> ((8 : Int32).toUInt32 &&& Int32.toUInt32 31)).toInt32) &&& 255)) (q + 1 + 1) (((w.toUInt32 >>> ((0 : Int32).toUInt32 &&& Int32.toUInt32 31)).toInt32) &&& 255))))] := hD
          refine lv_aload_n hx hb dX6_append_39 rfl (lv_at hl 2 rfl) ?_
          refine lv_dup hx hb dX6_append_40 rfl ?_
          refine va_get (D := D) (ci := 6) (v := .int (nI (q + 1 + 1))) (C := RX6) (T := TX6) (N := 9) hx hb hts iX6 hown hK hP 0 rfl rfl 1 (by decide) f47 (fun _ h9 => h9) rfl dX6_append_41 ?_
          refine lv_iconst (v := 1) hx hb dX6_append_44 (by decide) ?_
          refine lv_iadd hx hb dX6_append_45 ?_
          refine lv_eqi (y := (nI (q + 1 + 1 + 1))) (nI_add (q + 1 + 1) (1)) ?_
          refine va_put (D := D) (ci := 6) (v := .int (nI (q + 1 + 1 + 1))) (ty := .int) (C := RX6) (T := TX6) (N := 9) hx hb hts iX6 tyX6 tyX6_ok nmX6 hown hK hP hD hS 0 rfl rfl 1 (by decide) f47 (fun _ h9 => h9) rfl (by decide +kernel) (rfl) (rfl) (Nat.le_of_ble_eq_true rfl) dX6_append_46 (fun H locs hP hD hS => ?_)
          have hP : va_P D vwCl [(x, .inr (6, [.ref xt, .int (nI (q + 1 + 1 + 1)), .ref xr, .ref xd, .ref xn, .ref xa, .ref xs, .ref xy, .int 0])), (xt, .inl (g 0, 160, .inl (upd (upd (upd ft (q) (((w.toUInt32 >>> ((24 : Int32).toUInt32 &&& Int32.toUInt32 31)).toInt32) &&& 255)) (q + 1) (((w.toUInt32 >>> ((8 : Int32).toUInt32 &&& Int32.toUInt32 31)).toInt32) &&& 255)) (q + 1 + 1) (((w.toUInt32 >>> ((0 : Int32).toUInt32 &&& Int32.toUInt32 31)).toInt32) &&& 255))))] H := hP
          have hD : va_D A [(x, .inr (6, [.ref xt, .int (nI (q + 1 + 1 + 1)), .ref xr, .ref xd, .ref xn, .ref xa, .ref xs, .ref xy, .int 0])), (xt, .inl (g 0, 160, .inl (upd (upd (upd ft (q) (((w.toUInt32 >>> ((24 : Int32).toUInt32 &&& Int32.toUInt32 31)).toInt32) &&& 255)) (q + 1) (((w.toUInt32 >>> ((8 : Int32).toUInt32 &&& Int32.toUInt32 31)).toInt32) &&& 255)) (q + 1 + 1) (((w.toUInt32 >>> ((0 : Int32).toUInt32 &&& Int32.toUInt32 31)).toInt32) &&& 255))))] := hD
          refine lv_iinc (v := (-8)) (lv' := [(2, .int (-8)), (3, .int (((w.toUInt32 >>> ((0 : Int32).toUInt32 &&& Int32.toUInt32 31)).toInt32) &&& 255)), (0, .ref x), (1, .int w)]) hx hb dX6_append_49 hl (k := 1) rfl (by decide) (by decide) rfl (fun ls hl => ?_)
          refine lv_goto (tgt := 3) hx hb dX6_append_52 (by decide) ?_
          refine lv_iload_n hx hb dX6_append_3 rfl (lv_at hl 0 rfl) ?_
          refine lv_if_lt (tgt := 55) hx hb dX6_append_4 (by decide) (fun _ => ?_) (fun cb => absurd (by decide) cb)
          have hP9 := hP.sub (ws' := [(x, .inr (6, [.ref xt, .int (nI (q + 1 + 1 + 1)), .ref xr, .ref xd, .ref xn, .ref xa, .ref xs, .ref xy, .int 0])), (xt, .inl (g 0, 160, .inl (upd (upd (upd ft (q) (((w.toUInt32 >>> ((24 : Int32).toUInt32 &&& Int32.toUInt32 31)).toInt32) &&& 255)) (q + 1) (((w.toUInt32 >>> ((8 : Int32).toUInt32 &&& Int32.toUInt32 31)).toInt32) &&& 255)) (q + 1 + 1) (((w.toUInt32 >>> ((0 : Int32).toUInt32 &&& Int32.toUInt32 31)).toInt32) &&& 255))))]) [0, 1] rfl
          have hD9 := hD.sub (ws' := [(x, .inr (6, [.ref xt, .int (nI (q + 1 + 1 + 1)), .ref xr, .ref xd, .ref xn, .ref xa, .ref xs, .ref xy, .int 0])), (xt, .inl (g 0, 160, .inl (upd (upd (upd ft (q) (((w.toUInt32 >>> ((24 : Int32).toUInt32 &&& Int32.toUInt32 31)).toInt32) &&& 255)) (q + 1) (((w.toUInt32 >>> ((8 : Int32).toUInt32 &&& Int32.toUInt32 31)).toInt32) &&& 255)) (q + 1 + 1) (((w.toUInt32 >>> ((0 : Int32).toUInt32 &&& Int32.toUInt32 31)).toInt32) &&& 255))))]) [0, 1] (by decide) rfl
          subst hQ
          refine W.widen (k := 0) (n := 0) (Nat.le_of_ble_eq_true rfl) (Nat.le_of_ble_eq_true rfl) ?_
          exact W.vret hx hb hr (fun tS htS _ => ⟨⟨_, rfl, ⟨(nI (q + 1 + 1 + 1)), (upd (upd (upd ft (q) (((w.toUInt32 >>> ((24 : Int32).toUInt32 &&& Int32.toUInt32 31)).toInt32) &&& 255)) (q + 1) (((w.toUInt32 >>> ((8 : Int32).toUInt32 &&& Int32.toUInt32 31)).toInt32) &&& 255)) (q + 1 + 1) (((w.toUInt32 >>> ((0 : Int32).toUInt32 &&& Int32.toUInt32 31)).toInt32) &&& 255)), rfl, congrArg nI (by have e0 := bz_1 cb_1; have e1 := bz_0 cb_9; have e2 := bz_1 cb_10; have e3 := bz_1 cb_12; unfold sg; omega)⟩, by rw [htS]; exact hP9, hD9⟩, hS.F htS⟩) hS.2.2 dX6_append_55
    · skip
      refine lv_aload_n hx hb dX6_append_19 rfl (lv_at hl 2 rfl) ?_
      refine va_get (D := D) (ci := 6) (v := .int (nI (q + 1))) (C := RX6) (T := TX6) (N := 9) hx hb hts iX6 hown hK hP 0 rfl rfl 1 (by decide) f47 (fun _ h9 => h9) rfl dX6_append_20 ?_
      refine lv_sipush (v := 160) hx hb dX6_append_23 (by decide) ?_
      refine lv_icmp_ge (tgt := 49) hx hb dX6_append_26 (by decide) (fun cb => absurd cb (nI_ge (show q + 1 < 160 by omega) (by decide))) (fun _ => ?_)
      refine lv_aload_n hx hb dX6_append_29 rfl (lv_at hl 2 rfl) ?_
      refine va_get (D := D) (ci := 6) (v := .ref xt) (C := RX6) (T := TX6) (N := 9) hx hb hts iX6 hown hK hP 0 rfl rfl 0 (by decide) f9 (fun _ h9 => h9) rfl dX6_append_30 ?_
      refine lv_aload_n hx hb dX6_append_33 rfl (lv_at hl 2 rfl) ?_
      refine va_get (D := D) (ci := 6) (v := .int (nI (q + 1))) (C := RX6) (T := TX6) (N := 9) hx hb hts iX6 hown hK hP 0 rfl rfl 1 (by decide) f47 (fun _ h9 => h9) rfl dX6_append_34 ?_
      refine lv_iload_n hx hb dX6_append_37 rfl (lv_at hl 0 rfl) ?_
      refine va_iast hx hb hK hP hD hS 1 0 rfl rfl (vp_in_nI (show q + 1 < 160 by omega) (by decide)) dX6_append_38 (fun H locs hP hD hS => ?_)
      have hP : va_P D vwCl [(x, .inr (6, [.ref xt, .int (nI (q + 1)), .ref xr, .ref xd, .ref xn, .ref xa, .ref xs, .ref xy, .int 0])), (xt, .inl (g 0, 160, .inl (upd (upd ft (q) (((w.toUInt32 >>> ((24 : Int32).toUInt32 &&& Int32.toUInt32 31)).toInt32) &&& 255)) (nI (q + 1)).toNatClampNeg (((w.toUInt32 >>> ((16 : Int32).toUInt32 &&& Int32.toUInt32 31)).toInt32) &&& 255))))] H := hP
      have hD : va_D A [(x, .inr (6, [.ref xt, .int (nI (q + 1)), .ref xr, .ref xd, .ref xn, .ref xa, .ref xs, .ref xy, .int 0])), (xt, .inl (g 0, 160, .inl (upd (upd ft (q) (((w.toUInt32 >>> ((24 : Int32).toUInt32 &&& Int32.toUInt32 31)).toInt32) &&& 255)) (nI (q + 1)).toNatClampNeg (((w.toUInt32 >>> ((16 : Int32).toUInt32 &&& Int32.toUInt32 31)).toInt32) &&& 255))))] := hD
      rw [nI_clamp (show q + 1 < 2 ^ 31 by omega)] at hP hD
      have hP : va_P D vwCl [(x, .inr (6, [.ref xt, .int (nI (q + 1)), .ref xr, .ref xd, .ref xn, .ref xa, .ref xs, .ref xy, .int 0])), (xt, .inl (g 0, 160, .inl (upd (upd ft (q) (((w.toUInt32 >>> ((24 : Int32).toUInt32 &&& Int32.toUInt32 31)).toInt32) &&& 255)) (q + 1) (((w.toUInt32 >>> ((16 : Int32).toUInt32 &&& Int32.toUInt32 31)).toInt32) &&& 255))))] H := hP
      have hD : va_D A [(x, .inr (6, [.ref xt, .int (nI (q + 1)), .ref xr, .ref xd, .ref xn, .ref xa, .ref xs, .ref xy, .int 0])), (xt, .inl (g 0, 160, .inl (upd (upd ft (q) (((w.toUInt32 >>> ((24 : Int32).toUInt32 &&& Int32.toUInt32 31)).toInt32) &&& 255)) (q + 1) (((w.toUInt32 >>> ((16 : Int32).toUInt32 &&& Int32.toUInt32 31)).toInt32) &&& 255))))] := hD
      refine lv_aload_n hx hb dX6_append_39 rfl (lv_at hl 2 rfl) ?_
      refine lv_dup hx hb dX6_append_40 rfl ?_
      refine va_get (D := D) (ci := 6) (v := .int (nI (q + 1))) (C := RX6) (T := TX6) (N := 9) hx hb hts iX6 hown hK hP 0 rfl rfl 1 (by decide) f47 (fun _ h9 => h9) rfl dX6_append_41 ?_
      refine lv_iconst (v := 1) hx hb dX6_append_44 (by decide) ?_
      refine lv_iadd hx hb dX6_append_45 ?_
      refine lv_eqi (y := (nI (q + 1 + 1))) (nI_add (q + 1) (1)) ?_
      refine va_put (D := D) (ci := 6) (v := .int (nI (q + 1 + 1))) (ty := .int) (C := RX6) (T := TX6) (N := 9) hx hb hts iX6 tyX6 tyX6_ok nmX6 hown hK hP hD hS 0 rfl rfl 1 (by decide) f47 (fun _ h9 => h9) rfl (by decide +kernel) (rfl) (rfl) (Nat.le_of_ble_eq_true rfl) dX6_append_46 (fun H locs hP hD hS => ?_)
      have hP : va_P D vwCl [(x, .inr (6, [.ref xt, .int (nI (q + 1 + 1)), .ref xr, .ref xd, .ref xn, .ref xa, .ref xs, .ref xy, .int 0])), (xt, .inl (g 0, 160, .inl (upd (upd ft (q) (((w.toUInt32 >>> ((24 : Int32).toUInt32 &&& Int32.toUInt32 31)).toInt32) &&& 255)) (q + 1) (((w.toUInt32 >>> ((16 : Int32).toUInt32 &&& Int32.toUInt32 31)).toInt32) &&& 255))))] H := hP
      have hD : va_D A [(x, .inr (6, [.ref xt, .int (nI (q + 1 + 1)), .ref xr, .ref xd, .ref xn, .ref xa, .ref xs, .ref xy, .int 0])), (xt, .inl (g 0, 160, .inl (upd (upd ft (q) (((w.toUInt32 >>> ((24 : Int32).toUInt32 &&& Int32.toUInt32 31)).toInt32) &&& 255)) (q + 1) (((w.toUInt32 >>> ((16 : Int32).toUInt32 &&& Int32.toUInt32 31)).toInt32) &&& 255))))] := hD
      refine lv_iinc (v := 8) (lv' := [(2, .int 8), (3, .int (((w.toUInt32 >>> ((16 : Int32).toUInt32 &&& Int32.toUInt32 31)).toInt32) &&& 255)), (0, .ref x), (1, .int w)]) hx hb dX6_append_49 hl (k := 1) rfl (by decide) (by decide) rfl (fun ls hl => ?_)
      refine lv_goto (tgt := 3) hx hb dX6_append_52 (by decide) ?_
      refine lv_iload_n hx hb dX6_append_3 rfl (lv_at hl 0 rfl) ?_
      refine lv_if_lt (tgt := 55) hx hb dX6_append_4 (by decide) (fun cb => absurd cb (by decide)) (fun _ => ?_)
      refine lv_iload_n hx hb dX6_append_7 rfl (lv_at hl 3 rfl) ?_
      refine lv_iload_n hx hb dX6_append_8 rfl (lv_at hl 0 rfl) ?_
      refine lv_iushr hx hb dX6_append_9 rfl ?_
      refine lv_sipush (v := 255) hx hb dX6_append_10 (by decide) ?_
      refine lv_iand hx hb dX6_append_13 ?_
      refine lv_istore_n (lv' := [(3, .int (((w.toUInt32 >>> ((8 : Int32).toUInt32 &&& Int32.toUInt32 31)).toInt32) &&& 255)), (2, .int 8), (0, .ref x), (1, .int w)]) hx hb dX6_append_14 rfl hl (by decide) rfl (fun ls hl => ?_)
      refine lv_iload_n hx hb dX6_append_15 rfl (lv_at hl 0 rfl) ?_
      refine lv_if_eq (tgt := 49) hx hb dX6_append_16 (by decide) (fun cb_13 => ?_) (fun cb_13 => ?_)
      · skip
        refine lv_iinc (v := 0) (lv' := [(2, .int 0), (3, .int (((w.toUInt32 >>> ((8 : Int32).toUInt32 &&& Int32.toUInt32 31)).toInt32) &&& 255)), (0, .ref x), (1, .int w)]) hx hb dX6_append_49 hl (k := 1) rfl (by decide) (by decide) rfl (fun ls hl => ?_)
        refine lv_goto (tgt := 3) hx hb dX6_append_52 (by decide) ?_
        refine lv_iload_n hx hb dX6_append_3 rfl (lv_at hl 0 rfl) ?_
        refine lv_if_lt (tgt := 55) hx hb dX6_append_4 (by decide) (fun cb => absurd cb (by decide)) (fun _ => ?_)
        refine lv_iload_n hx hb dX6_append_7 rfl (lv_at hl 3 rfl) ?_
        refine lv_iload_n hx hb dX6_append_8 rfl (lv_at hl 0 rfl) ?_
        refine lv_iushr hx hb dX6_append_9 rfl ?_
        refine lv_sipush (v := 255) hx hb dX6_append_10 (by decide) ?_
        refine lv_iand hx hb dX6_append_13 ?_
        refine lv_istore_n (lv' := [(3, .int (((w.toUInt32 >>> ((0 : Int32).toUInt32 &&& Int32.toUInt32 31)).toInt32) &&& 255)), (2, .int 0), (0, .ref x), (1, .int w)]) hx hb dX6_append_14 rfl hl (by decide) rfl (fun ls hl => ?_)
        refine lv_iload_n hx hb dX6_append_15 rfl (lv_at hl 0 rfl) ?_
        refine lv_if_eq (tgt := 49) hx hb dX6_append_16 (by decide) (fun cb_14 => ?_) (fun cb_14 => ?_)
        · skip
          refine lv_iinc (v := (-8)) (lv' := [(2, .int (-8)), (3, .int (((w.toUInt32 >>> ((0 : Int32).toUInt32 &&& Int32.toUInt32 31)).toInt32) &&& 255)), (0, .ref x), (1, .int w)]) hx hb dX6_append_49 hl (k := 1) rfl (by decide) (by decide) rfl (fun ls hl => ?_)
          refine lv_goto (tgt := 3) hx hb dX6_append_52 (by decide) ?_
          refine lv_iload_n hx hb dX6_append_3 rfl (lv_at hl 0 rfl) ?_
          refine lv_if_lt (tgt := 55) hx hb dX6_append_4 (by decide) (fun _ => ?_) (fun cb => absurd (by decide) cb)
          have hP9 := hP.sub (ws' := [(x, .inr (6, [.ref xt, .int (nI (q + 1 + 1)), .ref xr, .ref xd, .ref xn, .ref xa, .ref xs, .ref xy, .int 0])), (xt, .inl (g 0, 160, .inl (upd (upd ft (q) (((w.toUInt32 >>> ((24 : Int32).toUInt32 &&& Int32.toUInt32 31)).toInt32) &&& 255)) (q + 1) (((w.toUInt32 >>> ((16 : Int32).toUInt32 &&& Int32.toUInt32 31)).toInt32) &&& 255))))]) [0, 1] rfl
          have hD9 := hD.sub (ws' := [(x, .inr (6, [.ref xt, .int (nI (q + 1 + 1)), .ref xr, .ref xd, .ref xn, .ref xa, .ref xs, .ref xy, .int 0])), (xt, .inl (g 0, 160, .inl (upd (upd ft (q) (((w.toUInt32 >>> ((24 : Int32).toUInt32 &&& Int32.toUInt32 31)).toInt32) &&& 255)) (q + 1) (((w.toUInt32 >>> ((16 : Int32).toUInt32 &&& Int32.toUInt32 31)).toInt32) &&& 255))))]) [0, 1] (by decide) rfl
          subst hQ
          refine W.widen (k := 0) (n := 0) (Nat.le_of_ble_eq_true rfl) (Nat.le_of_ble_eq_true rfl) ?_
          exact W.vret hx hb hr (fun tS htS _ => ⟨⟨_, rfl, ⟨(nI (q + 1 + 1)), (upd (upd ft (q) (((w.toUInt32 >>> ((24 : Int32).toUInt32 &&& Int32.toUInt32 31)).toInt32) &&& 255)) (q + 1) (((w.toUInt32 >>> ((16 : Int32).toUInt32 &&& Int32.toUInt32 31)).toInt32) &&& 255)), rfl, congrArg nI (by have e0 := bz_1 cb_1; have e1 := bz_1 cb_9; have e2 := bz_0 cb_13; have e3 := bz_0 cb_14; unfold sg; omega)⟩, by rw [htS]; exact hP9, hD9⟩, hS.F htS⟩) hS.2.2 dX6_append_55
        · skip
          refine lv_aload_n hx hb dX6_append_19 rfl (lv_at hl 2 rfl) ?_
          refine va_get (D := D) (ci := 6) (v := .int (nI (q + 1 + 1))) (C := RX6) (T := TX6) (N := 9) hx hb hts iX6 hown hK hP 0 rfl rfl 1 (by decide) f47 (fun _ h9 => h9) rfl dX6_append_20 ?_
          refine lv_sipush (v := 160) hx hb dX6_append_23 (by decide) ?_
          refine lv_icmp_ge (tgt := 49) hx hb dX6_append_26 (by decide) (fun cb => absurd cb (nI_ge (show q + 1 + 1 < 160 by omega) (by decide))) (fun _ => ?_)
          refine lv_aload_n hx hb dX6_append_29 rfl (lv_at hl 2 rfl) ?_
          refine va_get (D := D) (ci := 6) (v := .ref xt) (C := RX6) (T := TX6) (N := 9) hx hb hts iX6 hown hK hP 0 rfl rfl 0 (by decide) f9 (fun _ h9 => h9) rfl dX6_append_30 ?_
          refine lv_aload_n hx hb dX6_append_33 rfl (lv_at hl 2 rfl) ?_
          refine va_get (D := D) (ci := 6) (v := .int (nI (q + 1 + 1))) (C := RX6) (T := TX6) (N := 9) hx hb hts iX6 hown hK hP 0 rfl rfl 1 (by decide) f47 (fun _ h9 => h9) rfl dX6_append_34 ?_
          refine lv_iload_n hx hb dX6_append_37 rfl (lv_at hl 0 rfl) ?_
          refine va_iast hx hb hK hP hD hS 1 0 rfl rfl (vp_in_nI (show q + 1 + 1 < 160 by omega) (by decide)) dX6_append_38 (fun H locs hP hD hS => ?_)
          have hP : va_P D vwCl [(x, .inr (6, [.ref xt, .int (nI (q + 1 + 1)), .ref xr, .ref xd, .ref xn, .ref xa, .ref xs, .ref xy, .int 0])), (xt, .inl (g 0, 160, .inl (upd (upd (upd ft (q) (((w.toUInt32 >>> ((24 : Int32).toUInt32 &&& Int32.toUInt32 31)).toInt32) &&& 255)) (q + 1) (((w.toUInt32 >>> ((16 : Int32).toUInt32 &&& Int32.toUInt32 31)).toInt32) &&& 255)) (nI (q + 1 + 1)).toNatClampNeg (((w.toUInt32 >>> ((0 : Int32).toUInt32 &&& Int32.toUInt32 31)).toInt32) &&& 255))))] H := hP
          have hD : va_D A [(x, .inr (6, [.ref xt, .int (nI (q + 1 + 1)), .ref xr, .ref xd, .ref xn, .ref xa, .ref xs, .ref xy, .int 0])), (xt, .inl (g 0, 160, .inl (upd (upd (upd ft (q) (((w.toUInt32 >>> ((24 : Int32).toUInt32 &&& Int32.toUInt32 31)).toInt32) &&& 255)) (q + 1) (((w.toUInt32 >>> ((16 : Int32).toUInt32 &&& Int32.toUInt32 31)).toInt32) &&& 255)) (nI (q + 1 + 1)).toNatClampNeg (((w.toUInt32 >>> ((0 : Int32).toUInt32 &&& Int32.toUInt32 31)).toInt32) &&& 255))))] := hD
          rw [nI_clamp (show q + 1 + 1 < 2 ^ 31 by omega)] at hP hD
          have hP : va_P D vwCl [(x, .inr (6, [.ref xt, .int (nI (q + 1 + 1)), .ref xr, .ref xd, .ref xn, .ref xa, .ref xs, .ref xy, .int 0])), (xt, .inl (g 0, 160, .inl (upd (upd (upd ft (q) (((w.toUInt32 >>> ((24 : Int32).toUInt32 &&& Int32.toUInt32 31)).toInt32) &&& 255)) (q + 1) (((w.toUInt32 >>> ((16 : Int32).toUInt32 &&& Int32.toUInt32 31)).toInt32) &&& 255)) (q + 1 + 1) (((w.toUInt32 >>> ((0 : Int32).toUInt32 &&& Int32.toUInt32 31)).toInt32) &&& 255))))] H := hP
          have hD : va_D A [(x, .inr (6, [.ref xt, .int (nI (q + 1 + 1)), .ref xr, .ref xd, .ref xn, .ref xa, .ref xs, .ref xy, .int 0])), (xt, .inl (g 0, 160, .inl (upd (upd (upd ft (q) (((w.toUInt32 >>> ((24 : Int32).toUInt32 &&& Int32.toUInt32 31)).toInt32) &&& 255)) (q + 1) (((w.toUInt32 >>> ((16 : Int32).toUInt32 &&& Int32.toUInt32 31)).toInt32) &&& 255)) (q + 1 + 1) (((w.toUInt32 >>> ((0 : Int32).toUInt32 &&& Int32.toUInt32 31)).toInt32) &&& 255))))] := hD
          refine lv_aload_n hx hb dX6_append_39 rfl (lv_at hl 2 rfl) ?_
          refine lv_dup hx hb dX6_append_40 rfl ?_
          refine va_get (D := D) (ci := 6) (v := .int (nI (q + 1 + 1))) (C := RX6) (T := TX6) (N := 9) hx hb hts iX6 hown hK hP 0 rfl rfl 1 (by decide) f47 (fun _ h9 => h9) rfl dX6_append_41 ?_
          refine lv_iconst (v := 1) hx hb dX6_append_44 (by decide) ?_
          refine lv_iadd hx hb dX6_append_45 ?_
          refine lv_eqi (y := (nI (q + 1 + 1 + 1))) (nI_add (q + 1 + 1) (1)) ?_
          refine va_put (D := D) (ci := 6) (v := .int (nI (q + 1 + 1 + 1))) (ty := .int) (C := RX6) (T := TX6) (N := 9) hx hb hts iX6 tyX6 tyX6_ok nmX6 hown hK hP hD hS 0 rfl rfl 1 (by decide) f47 (fun _ h9 => h9) rfl (by decide +kernel) (rfl) (rfl) (Nat.le_of_ble_eq_true rfl) dX6_append_46 (fun H locs hP hD hS => ?_)
          have hP : va_P D vwCl [(x, .inr (6, [.ref xt, .int (nI (q + 1 + 1 + 1)), .ref xr, .ref xd, .ref xn, .ref xa, .ref xs, .ref xy, .int 0])), (xt, .inl (g 0, 160, .inl (upd (upd (upd ft (q) (((w.toUInt32 >>> ((24 : Int32).toUInt32 &&& Int32.toUInt32 31)).toInt32) &&& 255)) (q + 1) (((w.toUInt32 >>> ((16 : Int32).toUInt32 &&& Int32.toUInt32 31)).toInt32) &&& 255)) (q + 1 + 1) (((w.toUInt32 >>> ((0 : Int32).toUInt32 &&& Int32.toUInt32 31)).toInt32) &&& 255))))] H := hP
          have hD : va_D A [(x, .inr (6, [.ref xt, .int (nI (q + 1 + 1 + 1)), .ref xr, .ref xd, .ref xn, .ref xa, .ref xs, .ref xy, .int 0])), (xt, .inl (g 0, 160, .inl (upd (upd (upd ft (q) (((w.toUInt32 >>> ((24 : Int32).toUInt32 &&& Int32.toUInt32 31)).toInt32) &&& 255)) (q + 1) (((w.toUInt32 >>> ((16 : Int32).toUInt32 &&& Int32.toUInt32 31)).toInt32) &&& 255)) (q + 1 + 1) (((w.toUInt32 >>> ((0 : Int32).toUInt32 &&& Int32.toUInt32 31)).toInt32) &&& 255))))] := hD
          refine lv_iinc (v := (-8)) (lv' := [(2, .int (-8)), (3, .int (((w.toUInt32 >>> ((0 : Int32).toUInt32 &&& Int32.toUInt32 31)).toInt32) &&& 255)), (0, .ref x), (1, .int w)]) hx hb dX6_append_49 hl (k := 1) rfl (by decide) (by decide) rfl (fun ls hl => ?_)
          refine lv_goto (tgt := 3) hx hb dX6_append_52 (by decide) ?_
          refine lv_iload_n hx hb dX6_append_3 rfl (lv_at hl 0 rfl) ?_
          refine lv_if_lt (tgt := 55) hx hb dX6_append_4 (by decide) (fun _ => ?_) (fun cb => absurd (by decide) cb)
          have hP9 := hP.sub (ws' := [(x, .inr (6, [.ref xt, .int (nI (q + 1 + 1 + 1)), .ref xr, .ref xd, .ref xn, .ref xa, .ref xs, .ref xy, .int 0])), (xt, .inl (g 0, 160, .inl (upd (upd (upd ft (q) (((w.toUInt32 >>> ((24 : Int32).toUInt32 &&& Int32.toUInt32 31)).toInt32) &&& 255)) (q + 1) (((w.toUInt32 >>> ((16 : Int32).toUInt32 &&& Int32.toUInt32 31)).toInt32) &&& 255)) (q + 1 + 1) (((w.toUInt32 >>> ((0 : Int32).toUInt32 &&& Int32.toUInt32 31)).toInt32) &&& 255))))]) [0, 1] rfl
          have hD9 := hD.sub (ws' := [(x, .inr (6, [.ref xt, .int (nI (q + 1 + 1 + 1)), .ref xr, .ref xd, .ref xn, .ref xa, .ref xs, .ref xy, .int 0])), (xt, .inl (g 0, 160, .inl (upd (upd (upd ft (q) (((w.toUInt32 >>> ((24 : Int32).toUInt32 &&& Int32.toUInt32 31)).toInt32) &&& 255)) (q + 1) (((w.toUInt32 >>> ((16 : Int32).toUInt32 &&& Int32.toUInt32 31)).toInt32) &&& 255)) (q + 1 + 1) (((w.toUInt32 >>> ((0 : Int32).toUInt32 &&& Int32.toUInt32 31)).toInt32) &&& 255))))]) [0, 1] (by decide) rfl
          subst hQ
          refine W.widen (k := 0) (n := 0) (Nat.le_of_ble_eq_true rfl) (Nat.le_of_ble_eq_true rfl) ?_
          exact W.vret hx hb hr (fun tS htS _ => ⟨⟨_, rfl, ⟨(nI (q + 1 + 1 + 1)), (upd (upd (upd ft (q) (((w.toUInt32 >>> ((24 : Int32).toUInt32 &&& Int32.toUInt32 31)).toInt32) &&& 255)) (q + 1) (((w.toUInt32 >>> ((16 : Int32).toUInt32 &&& Int32.toUInt32 31)).toInt32) &&& 255)) (q + 1 + 1) (((w.toUInt32 >>> ((0 : Int32).toUInt32 &&& Int32.toUInt32 31)).toInt32) &&& 255)), rfl, congrArg nI (by have e0 := bz_1 cb_1; have e1 := bz_1 cb_9; have e2 := bz_0 cb_13; have e3 := bz_1 cb_14; unfold sg; omega)⟩, by rw [htS]; exact hP9, hD9⟩, hS.F htS⟩) hS.2.2 dX6_append_55
      · skip
        refine lv_aload_n hx hb dX6_append_19 rfl (lv_at hl 2 rfl) ?_
        refine va_get (D := D) (ci := 6) (v := .int (nI (q + 1 + 1))) (C := RX6) (T := TX6) (N := 9) hx hb hts iX6 hown hK hP 0 rfl rfl 1 (by decide) f47 (fun _ h9 => h9) rfl dX6_append_20 ?_
        refine lv_sipush (v := 160) hx hb dX6_append_23 (by decide) ?_
        refine lv_icmp_ge (tgt := 49) hx hb dX6_append_26 (by decide) (fun cb => absurd cb (nI_ge (show q + 1 + 1 < 160 by omega) (by decide))) (fun _ => ?_)
        refine lv_aload_n hx hb dX6_append_29 rfl (lv_at hl 2 rfl) ?_
        refine va_get (D := D) (ci := 6) (v := .ref xt) (C := RX6) (T := TX6) (N := 9) hx hb hts iX6 hown hK hP 0 rfl rfl 0 (by decide) f9 (fun _ h9 => h9) rfl dX6_append_30 ?_
        refine lv_aload_n hx hb dX6_append_33 rfl (lv_at hl 2 rfl) ?_
        refine va_get (D := D) (ci := 6) (v := .int (nI (q + 1 + 1))) (C := RX6) (T := TX6) (N := 9) hx hb hts iX6 hown hK hP 0 rfl rfl 1 (by decide) f47 (fun _ h9 => h9) rfl dX6_append_34 ?_
        refine lv_iload_n hx hb dX6_append_37 rfl (lv_at hl 0 rfl) ?_
        refine va_iast hx hb hK hP hD hS 1 0 rfl rfl (vp_in_nI (show q + 1 + 1 < 160 by omega) (by decide)) dX6_append_38 (fun H locs hP hD hS => ?_)
        have hP : va_P D vwCl [(x, .inr (6, [.ref xt, .int (nI (q + 1 + 1)), .ref xr, .ref xd, .ref xn, .ref xa, .ref xs, .ref xy, .int 0])), (xt, .inl (g 0, 160, .inl (upd (upd (upd ft (q) (((w.toUInt32 >>> ((24 : Int32).toUInt32 &&& Int32.toUInt32 31)).toInt32) &&& 255)) (q + 1) (((w.toUInt32 >>> ((16 : Int32).toUInt32 &&& Int32.toUInt32 31)).toInt32) &&& 255)) (nI (q + 1 + 1)).toNatClampNeg (((w.toUInt32 >>> ((8 : Int32).toUInt32 &&& Int32.toUInt32 31)).toInt32) &&& 255))))] H := hP
        have hD : va_D A [(x, .inr (6, [.ref xt, .int (nI (q + 1 + 1)), .ref xr, .ref xd, .ref xn, .ref xa, .ref xs, .ref xy, .int 0])), (xt, .inl (g 0, 160, .inl (upd (upd (upd ft (q) (((w.toUInt32 >>> ((24 : Int32).toUInt32 &&& Int32.toUInt32 31)).toInt32) &&& 255)) (q + 1) (((w.toUInt32 >>> ((16 : Int32).toUInt32 &&& Int32.toUInt32 31)).toInt32) &&& 255)) (nI (q + 1 + 1)).toNatClampNeg (((w.toUInt32 >>> ((8 : Int32).toUInt32 &&& Int32.toUInt32 31)).toInt32) &&& 255))))] := hD
        rw [nI_clamp (show q + 1 + 1 < 2 ^ 31 by omega)] at hP hD
        have hP : va_P D vwCl [(x, .inr (6, [.ref xt, .int (nI (q + 1 + 1)), .ref xr, .ref xd, .ref xn, .ref xa, .ref xs, .ref xy, .int 0])), (xt, .inl (g 0, 160, .inl (upd (upd (upd ft (q) (((w.toUInt32 >>> ((24 : Int32).toUInt32 &&& Int32.toUInt32 31)).toInt32) &&& 255)) (q + 1) (((w.toUInt32 >>> ((16 : Int32).toUInt32 &&& Int32.toUInt32 31)).toInt32) &&& 255)) (q + 1 + 1) (((w.toUInt32 >>> ((8 : Int32).toUInt32 &&& Int32.toUInt32 31)).toInt32) &&& 255))))] H := hP
        have hD : va_D A [(x, .inr (6, [.ref xt, .int (nI (q + 1 + 1)), .ref xr, .ref xd, .ref xn, .ref xa, .ref xs, .ref xy, .int 0])), (xt, .inl (g 0, 160, .inl (upd (upd (upd ft (q) (((w.toUInt32 >>> ((24 : Int32).toUInt32 &&& Int32.toUInt32 31)).toInt32) &&& 255)) (q + 1) (((w.toUInt32 >>> ((16 : Int32).toUInt32 &&& Int32.toUInt32 31)).toInt32) &&& 255)) (q + 1 + 1) (((w.toUInt32 >>> ((8 : Int32).toUInt32 &&& Int32.toUInt32 31)).toInt32) &&& 255))))] := hD
        refine lv_aload_n hx hb dX6_append_39 rfl (lv_at hl 2 rfl) ?_
        refine lv_dup hx hb dX6_append_40 rfl ?_
        refine va_get (D := D) (ci := 6) (v := .int (nI (q + 1 + 1))) (C := RX6) (T := TX6) (N := 9) hx hb hts iX6 hown hK hP 0 rfl rfl 1 (by decide) f47 (fun _ h9 => h9) rfl dX6_append_41 ?_
        refine lv_iconst (v := 1) hx hb dX6_append_44 (by decide) ?_
        refine lv_iadd hx hb dX6_append_45 ?_
        refine lv_eqi (y := (nI (q + 1 + 1 + 1))) (nI_add (q + 1 + 1) (1)) ?_
        refine va_put (D := D) (ci := 6) (v := .int (nI (q + 1 + 1 + 1))) (ty := .int) (C := RX6) (T := TX6) (N := 9) hx hb hts iX6 tyX6 tyX6_ok nmX6 hown hK hP hD hS 0 rfl rfl 1 (by decide) f47 (fun _ h9 => h9) rfl (by decide +kernel) (rfl) (rfl) (Nat.le_of_ble_eq_true rfl) dX6_append_46 (fun H locs hP hD hS => ?_)
        have hP : va_P D vwCl [(x, .inr (6, [.ref xt, .int (nI (q + 1 + 1 + 1)), .ref xr, .ref xd, .ref xn, .ref xa, .ref xs, .ref xy, .int 0])), (xt, .inl (g 0, 160, .inl (upd (upd (upd ft (q) (((w.toUInt32 >>> ((24 : Int32).toUInt32 &&& Int32.toUInt32 31)).toInt32) &&& 255)) (q + 1) (((w.toUInt32 >>> ((16 : Int32).toUInt32 &&& Int32.toUInt32 31)).toInt32) &&& 255)) (q + 1 + 1) (((w.toUInt32 >>> ((8 : Int32).toUInt32 &&& Int32.toUInt32 31)).toInt32) &&& 255))))] H := hP
        have hD : va_D A [(x, .inr (6, [.ref xt, .int (nI (q + 1 + 1 + 1)), .ref xr, .ref xd, .ref xn, .ref xa, .ref xs, .ref xy, .int 0])), (xt, .inl (g 0, 160, .inl (upd (upd (upd ft (q) (((w.toUInt32 >>> ((24 : Int32).toUInt32 &&& Int32.toUInt32 31)).toInt32) &&& 255)) (q + 1) (((w.toUInt32 >>> ((16 : Int32).toUInt32 &&& Int32.toUInt32 31)).toInt32) &&& 255)) (q + 1 + 1) (((w.toUInt32 >>> ((8 : Int32).toUInt32 &&& Int32.toUInt32 31)).toInt32) &&& 255))))] := hD
        refine lv_iinc (v := 0) (lv' := [(2, .int 0), (3, .int (((w.toUInt32 >>> ((8 : Int32).toUInt32 &&& Int32.toUInt32 31)).toInt32) &&& 255)), (0, .ref x), (1, .int w)]) hx hb dX6_append_49 hl (k := 1) rfl (by decide) (by decide) rfl (fun ls hl => ?_)
        refine lv_goto (tgt := 3) hx hb dX6_append_52 (by decide) ?_
        refine lv_iload_n hx hb dX6_append_3 rfl (lv_at hl 0 rfl) ?_
        refine lv_if_lt (tgt := 55) hx hb dX6_append_4 (by decide) (fun cb => absurd cb (by decide)) (fun _ => ?_)
        refine lv_iload_n hx hb dX6_append_7 rfl (lv_at hl 3 rfl) ?_
        refine lv_iload_n hx hb dX6_append_8 rfl (lv_at hl 0 rfl) ?_
        refine lv_iushr hx hb dX6_append_9 rfl ?_
        refine lv_sipush (v := 255) hx hb dX6_append_10 (by decide) ?_
        refine lv_iand hx hb dX6_append_13 ?_
        refine lv_istore_n (lv' := [(3, .int (((w.toUInt32 >>> ((0 : Int32).toUInt32 &&& Int32.toUInt32 31)).toInt32) &&& 255)), (2, .int 0), (0, .ref x), (1, .int w)]) hx hb dX6_append_14 rfl hl (by decide) rfl (fun ls hl => ?_)
        refine lv_iload_n hx hb dX6_append_15 rfl (lv_at hl 0 rfl) ?_
        refine lv_if_eq (tgt := 49) hx hb dX6_append_16 (by decide) (fun cb_15 => ?_) (fun cb_15 => ?_)
        · skip
          refine lv_iinc (v := (-8)) (lv' := [(2, .int (-8)), (3, .int (((w.toUInt32 >>> ((0 : Int32).toUInt32 &&& Int32.toUInt32 31)).toInt32) &&& 255)), (0, .ref x), (1, .int w)]) hx hb dX6_append_49 hl (k := 1) rfl (by decide) (by decide) rfl (fun ls hl => ?_)
          refine lv_goto (tgt := 3) hx hb dX6_append_52 (by decide) ?_
          refine lv_iload_n hx hb dX6_append_3 rfl (lv_at hl 0 rfl) ?_
          refine lv_if_lt (tgt := 55) hx hb dX6_append_4 (by decide) (fun _ => ?_) (fun cb => absurd (by decide) cb)
          have hP9 := hP.sub (ws' := [(x, .inr (6, [.ref xt, .int (nI (q + 1 + 1 + 1)), .ref xr, .ref xd, .ref xn, .ref xa, .ref xs, .ref xy, .int 0])), (xt, .inl (g 0, 160, .inl (upd (upd (upd ft (q) (((w.toUInt32 >>> ((24 : Int32).toUInt32 &&& Int32.toUInt32 31)).toInt32) &&& 255)) (q + 1) (((w.toUInt32 >>> ((16 : Int32).toUInt32 &&& Int32.toUInt32 31)).toInt32) &&& 255)) (q + 1 + 1) (((w.toUInt32 >>> ((8 : Int32).toUInt32 &&& Int32.toUInt32 31)).toInt32) &&& 255))))]) [0, 1] rfl
          have hD9 := hD.sub (ws' := [(x, .inr (6, [.ref xt, .int (nI (q + 1 + 1 + 1)), .ref xr, .ref xd, .ref xn, .ref xa, .ref xs, .ref xy, .int 0])), (xt, .inl (g 0, 160, .inl (upd (upd (upd ft (q) (((w.toUInt32 >>> ((24 : Int32).toUInt32 &&& Int32.toUInt32 31)).toInt32) &&& 255)) (q + 1) (((w.toUInt32 >>> ((16 : Int32).toUInt32 &&& Int32.toUInt32 31)).toInt32) &&& 255)) (q + 1 + 1) (((w.toUInt32 >>> ((8 : Int32).toUInt32 &&& Int32.toUInt32 31)).toInt32) &&& 255))))]) [0, 1] (by decide) rfl
          subst hQ
          refine W.widen (k := 0) (n := 0) (Nat.le_of_ble_eq_true rfl) (Nat.le_of_ble_eq_true rfl) ?_
          exact W.vret hx hb hr (fun tS htS _ => ⟨⟨_, rfl, ⟨(nI (q + 1 + 1 + 1)), (upd (upd (upd ft (q) (((w.toUInt32 >>> ((24 : Int32).toUInt32 &&& Int32.toUInt32 31)).toInt32) &&& 255)) (q + 1) (((w.toUInt32 >>> ((16 : Int32).toUInt32 &&& Int32.toUInt32 31)).toInt32) &&& 255)) (q + 1 + 1) (((w.toUInt32 >>> ((8 : Int32).toUInt32 &&& Int32.toUInt32 31)).toInt32) &&& 255)), rfl, congrArg nI (by have e0 := bz_1 cb_1; have e1 := bz_1 cb_9; have e2 := bz_1 cb_13; have e3 := bz_0 cb_15; unfold sg; omega)⟩, by rw [htS]; exact hP9, hD9⟩, hS.F htS⟩) hS.2.2 dX6_append_55
        · skip
          refine lv_aload_n hx hb dX6_append_19 rfl (lv_at hl 2 rfl) ?_
          refine va_get (D := D) (ci := 6) (v := .int (nI (q + 1 + 1 + 1))) (C := RX6) (T := TX6) (N := 9) hx hb hts iX6 hown hK hP 0 rfl rfl 1 (by decide) f47 (fun _ h9 => h9) rfl dX6_append_20 ?_
          refine lv_sipush (v := 160) hx hb dX6_append_23 (by decide) ?_
          refine lv_icmp_ge (tgt := 49) hx hb dX6_append_26 (by decide) (fun cb => absurd cb (nI_ge (show q + 1 + 1 + 1 < 160 by omega) (by decide))) (fun _ => ?_)
          refine lv_aload_n hx hb dX6_append_29 rfl (lv_at hl 2 rfl) ?_
          refine va_get (D := D) (ci := 6) (v := .ref xt) (C := RX6) (T := TX6) (N := 9) hx hb hts iX6 hown hK hP 0 rfl rfl 0 (by decide) f9 (fun _ h9 => h9) rfl dX6_append_30 ?_
          refine lv_aload_n hx hb dX6_append_33 rfl (lv_at hl 2 rfl) ?_
          refine va_get (D := D) (ci := 6) (v := .int (nI (q + 1 + 1 + 1))) (C := RX6) (T := TX6) (N := 9) hx hb hts iX6 hown hK hP 0 rfl rfl 1 (by decide) f47 (fun _ h9 => h9) rfl dX6_append_34 ?_
          refine lv_iload_n hx hb dX6_append_37 rfl (lv_at hl 0 rfl) ?_
          refine va_iast hx hb hK hP hD hS 1 0 rfl rfl (vp_in_nI (show q + 1 + 1 + 1 < 160 by omega) (by decide)) dX6_append_38 (fun H locs hP hD hS => ?_)
          have hP : va_P D vwCl [(x, .inr (6, [.ref xt, .int (nI (q + 1 + 1 + 1)), .ref xr, .ref xd, .ref xn, .ref xa, .ref xs, .ref xy, .int 0])), (xt, .inl (g 0, 160, .inl (upd (upd (upd (upd ft (q) (((w.toUInt32 >>> ((24 : Int32).toUInt32 &&& Int32.toUInt32 31)).toInt32) &&& 255)) (q + 1) (((w.toUInt32 >>> ((16 : Int32).toUInt32 &&& Int32.toUInt32 31)).toInt32) &&& 255)) (q + 1 + 1) (((w.toUInt32 >>> ((8 : Int32).toUInt32 &&& Int32.toUInt32 31)).toInt32) &&& 255)) (nI (q + 1 + 1 + 1)).toNatClampNeg (((w.toUInt32 >>> ((0 : Int32).toUInt32 &&& Int32.toUInt32 31)).toInt32) &&& 255))))] H := hP
          have hD : va_D A [(x, .inr (6, [.ref xt, .int (nI (q + 1 + 1 + 1)), .ref xr, .ref xd, .ref xn, .ref xa, .ref xs, .ref xy, .int 0])), (xt, .inl (g 0, 160, .inl (upd (upd (upd (upd ft (q) (((w.toUInt32 >>> ((24 : Int32).toUInt32 &&& Int32.toUInt32 31)).toInt32) &&& 255)) (q + 1) (((w.toUInt32 >>> ((16 : Int32).toUInt32 &&& Int32.toUInt32 31)).toInt32) &&& 255)) (q + 1 + 1) (((w.toUInt32 >>> ((8 : Int32).toUInt32 &&& Int32.toUInt32 31)).toInt32) &&& 255)) (nI (q + 1 + 1 + 1)).toNatClampNeg (((w.toUInt32 >>> ((0 : Int32).toUInt32 &&& Int32.toUInt32 31)).toInt32) &&& 255))))] := hD
          rw [nI_clamp (show q + 1 + 1 + 1 < 2 ^ 31 by omega)] at hP hD
          have hP : va_P D vwCl [(x, .inr (6, [.ref xt, .int (nI (q + 1 + 1 + 1)), .ref xr, .ref xd, .ref xn, .ref xa, .ref xs, .ref xy, .int 0])), (xt, .inl (g 0, 160, .inl (upd (upd (upd (upd ft (q) (((w.toUInt32 >>> ((24 : Int32).toUInt32 &&& Int32.toUInt32 31)).toInt32) &&& 255)) (q + 1) (((w.toUInt32 >>> ((16 : Int32).toUInt32 &&& Int32.toUInt32 31)).toInt32) &&& 255)) (q + 1 + 1) (((w.toUInt32 >>> ((8 : Int32).toUInt32 &&& Int32.toUInt32 31)).toInt32) &&& 255)) (q + 1 + 1 + 1) (((w.toUInt32 >>> ((0 : Int32).toUInt32 &&& Int32.toUInt32 31)).toInt32) &&& 255))))] H := hP
          have hD : va_D A [(x, .inr (6, [.ref xt, .int (nI (q + 1 + 1 + 1)), .ref xr, .ref xd, .ref xn, .ref xa, .ref xs, .ref xy, .int 0])), (xt, .inl (g 0, 160, .inl (upd (upd (upd (upd ft (q) (((w.toUInt32 >>> ((24 : Int32).toUInt32 &&& Int32.toUInt32 31)).toInt32) &&& 255)) (q + 1) (((w.toUInt32 >>> ((16 : Int32).toUInt32 &&& Int32.toUInt32 31)).toInt32) &&& 255)) (q + 1 + 1) (((w.toUInt32 >>> ((8 : Int32).toUInt32 &&& Int32.toUInt32 31)).toInt32) &&& 255)) (q + 1 + 1 + 1) (((w.toUInt32 >>> ((0 : Int32).toUInt32 &&& Int32.toUInt32 31)).toInt32) &&& 255))))] := hD
          refine lv_aload_n hx hb dX6_append_39 rfl (lv_at hl 2 rfl) ?_
          refine lv_dup hx hb dX6_append_40 rfl ?_
          refine va_get (D := D) (ci := 6) (v := .int (nI (q + 1 + 1 + 1))) (C := RX6) (T := TX6) (N := 9) hx hb hts iX6 hown hK hP 0 rfl rfl 1 (by decide) f47 (fun _ h9 => h9) rfl dX6_append_41 ?_
          refine lv_iconst (v := 1) hx hb dX6_append_44 (by decide) ?_
          refine lv_iadd hx hb dX6_append_45 ?_
          refine lv_eqi (y := (nI (q + 1 + 1 + 1 + 1))) (nI_add (q + 1 + 1 + 1) (1)) ?_
          refine va_put (D := D) (ci := 6) (v := .int (nI (q + 1 + 1 + 1 + 1))) (ty := .int) (C := RX6) (T := TX6) (N := 9) hx hb hts iX6 tyX6 tyX6_ok nmX6 hown hK hP hD hS 0 rfl rfl 1 (by decide) f47 (fun _ h9 => h9) rfl (by decide +kernel) (rfl) (rfl) (Nat.le_of_ble_eq_true rfl) dX6_append_46 (fun H locs hP hD hS => ?_)
          have hP : va_P D vwCl [(x, .inr (6, [.ref xt, .int (nI (q + 1 + 1 + 1 + 1)), .ref xr, .ref xd, .ref xn, .ref xa, .ref xs, .ref xy, .int 0])), (xt, .inl (g 0, 160, .inl (upd (upd (upd (upd ft (q) (((w.toUInt32 >>> ((24 : Int32).toUInt32 &&& Int32.toUInt32 31)).toInt32) &&& 255)) (q + 1) (((w.toUInt32 >>> ((16 : Int32).toUInt32 &&& Int32.toUInt32 31)).toInt32) &&& 255)) (q + 1 + 1) (((w.toUInt32 >>> ((8 : Int32).toUInt32 &&& Int32.toUInt32 31)).toInt32) &&& 255)) (q + 1 + 1 + 1) (((w.toUInt32 >>> ((0 : Int32).toUInt32 &&& Int32.toUInt32 31)).toInt32) &&& 255))))] H := hP
          have hD : va_D A [(x, .inr (6, [.ref xt, .int (nI (q + 1 + 1 + 1 + 1)), .ref xr, .ref xd, .ref xn, .ref xa, .ref xs, .ref xy, .int 0])), (xt, .inl (g 0, 160, .inl (upd (upd (upd (upd ft (q) (((w.toUInt32 >>> ((24 : Int32).toUInt32 &&& Int32.toUInt32 31)).toInt32) &&& 255)) (q + 1) (((w.toUInt32 >>> ((16 : Int32).toUInt32 &&& Int32.toUInt32 31)).toInt32) &&& 255)) (q + 1 + 1) (((w.toUInt32 >>> ((8 : Int32).toUInt32 &&& Int32.toUInt32 31)).toInt32) &&& 255)) (q + 1 + 1 + 1) (((w.toUInt32 >>> ((0 : Int32).toUInt32 &&& Int32.toUInt32 31)).toInt32) &&& 255))))] := hD
          refine lv_iinc (v := (-8)) (lv' := [(2, .int (-8)), (3, .int (((w.toUInt32 >>> ((0 : Int32).toUInt32 &&& Int32.toUInt32 31)).toInt32) &&& 255)), (0, .ref x), (1, .int w)]) hx hb dX6_append_49 hl (k := 1) rfl (by decide) (by decide) rfl (fun ls hl => ?_)
          refine lv_goto (tgt := 3) hx hb dX6_append_52 (by decide) ?_
          refine lv_iload_n hx hb dX6_append_3 rfl (lv_at hl 0 rfl) ?_
          refine lv_if_lt (tgt := 55) hx hb dX6_append_4 (by decide) (fun _ => ?_) (fun cb => absurd (by decide) cb)
          have hP9 := hP.sub (ws' := [(x, .inr (6, [.ref xt, .int (nI (q + 1 + 1 + 1 + 1)), .ref xr, .ref xd, .ref xn, .ref xa, .ref xs, .ref xy, .int 0])), (xt, .inl (g 0, 160, .inl (upd (upd (upd (upd ft (q) (((w.toUInt32 >>> ((24 : Int32).toUInt32 &&& Int32.toUInt32 31)).toInt32) &&& 255)) (q + 1) (((w.toUInt32 >>> ((16 : Int32).toUInt32 &&& Int32.toUInt32 31)).toInt32) &&& 255)) (q + 1 + 1) (((w.toUInt32 >>> ((8 : Int32).toUInt32 &&& Int32.toUInt32 31)).toInt32) &&& 255)) (q + 1 + 1 + 1) (((w.toUInt32 >>> ((0 : Int32).toUInt32 &&& Int32.toUInt32 31)).toInt32) &&& 255))))]) [0, 1] rfl
          have hD9 := hD.sub (ws' := [(x, .inr (6, [.ref xt, .int (nI (q + 1 + 1 + 1 + 1)), .ref xr, .ref xd, .ref xn, .ref xa, .ref xs, .ref xy, .int 0])), (xt, .inl (g 0, 160, .inl (upd (upd (upd (upd ft (q) (((w.toUInt32 >>> ((24 : Int32).toUInt32 &&& Int32.toUInt32 31)).toInt32) &&& 255)) (q + 1) (((w.toUInt32 >>> ((16 : Int32).toUInt32 &&& Int32.toUInt32 31)).toInt32) &&& 255)) (q + 1 + 1) (((w.toUInt32 >>> ((8 : Int32).toUInt32 &&& Int32.toUInt32 31)).toInt32) &&& 255)) (q + 1 + 1 + 1) (((w.toUInt32 >>> ((0 : Int32).toUInt32 &&& Int32.toUInt32 31)).toInt32) &&& 255))))]) [0, 1] (by decide) rfl
          subst hQ
          refine W.widen (k := 0) (n := 0) (Nat.le_of_ble_eq_true rfl) (Nat.le_of_ble_eq_true rfl) ?_
          exact W.vret hx hb hr (fun tS htS _ => ⟨⟨_, rfl, ⟨(nI (q + 1 + 1 + 1 + 1)), (upd (upd (upd (upd ft (q) (((w.toUInt32 >>> ((24 : Int32).toUInt32 &&& Int32.toUInt32 31)).toInt32) &&& 255)) (q + 1) (((w.toUInt32 >>> ((16 : Int32).toUInt32 &&& Int32.toUInt32 31)).toInt32) &&& 255)) (q + 1 + 1) (((w.toUInt32 >>> ((8 : Int32).toUInt32 &&& Int32.toUInt32 31)).toInt32) &&& 255)) (q + 1 + 1 + 1) (((w.toUInt32 >>> ((0 : Int32).toUInt32 &&& Int32.toUInt32 31)).toInt32) &&& 255)), rfl, congrArg nI (by have e0 := bz_1 cb_1; have e1 := bz_1 cb_9; have e2 := bz_1 cb_13; have e3 := bz_1 cb_15; unfold sg; omega)⟩, by rw [htS]; exact hP9, hD9⟩, hS.F htS⟩) hS.2.2 dX6_append_55
set_option maxHeartbeats 4000000 in
set_option maxRecDepth 100000 in
theorem c_X6_feed (l : Launch) (D : va_G) (g : Nat → ClassId) (sz : Nat) (x : Nat) (xt : Nat) (xr : Nat) (xd : Nat) (xn : Nat) (xa : Nat) (xs : Nat) (xy : Nat) (p0 : Int32) (p1 : Int32) (p2 : Int32) (p3 : Int32) (p4 : Int32) (ft : Nat → Int32) : Met l yX6_feed wsX6_feed ({ frames := 1, cells := 0, slots := 0, locals := 23 }) (va_Pc [.ref x, .int p0, .int p1, .int p2, .int p3, .int p4] (pre D g sz [(x, .inr (6, [.ref xt, .int 0, .ref xr, .ref xd, .ref xn, .ref xa, .ref xs, .ref xy, .int 0])), (xt, .inl (g 0, 160, .inl ft))])) (va_Qi (fun (r : Int32) (u : va_W) => ∃ (tl2 : Int32) (ft2 : Nat → Int32), u = [(x, .inr (6, [.ref xt, .int tl2, .ref xr, .ref xd, .ref xn, .ref xa, .ref xs, .ref xy, .int 0])), (xt, .inl (g 0, 160, .inl ft2))] ∧ r = (nI (0 + sg p0 + sg p1 + sg p2 + sg p3 + sg p4))) (wd D (va_A [(x, .inr (6, [.ref xt, .int 0, .ref xr, .ref xd, .ref xn, .ref xa, .ref xs, .ref xy, .int 0])), (xt, .inl (g 0, 160, .inl ft))] sz)) (va_A [(x, .inr (6, [.ref xt, .int 0, .ref xr, .ref xd, .ref xn, .ref xa, .ref xs, .ref xy, .int 0])), (xt, .inl (g 0, 160, .inl ft))] sz)) 0 0 (va_A [(x, .inr (6, [.ref xt, .int 0, .ref xr, .ref xd, .ref xn, .ref xa, .ref xs, .ref xy, .int 0])), (xt, .inl (g 0, 160, .inl ft))] sz) := by
  refine Met.ofW (cc := cX6_feed) (maxL := 7) (ret := (some .int)) (by decide) rfl ?_
  intro p e s m args below meth c s₁ B hml hv
  obtain ⟨rfl, hsz, hP, ⟨hK, hN⟩, hD0, hZ⟩ := hv
  have hx := B.exec
  have hb := B.bytes
  have hr := B.returns
  have hts := atoms_spec (ws := wsX6_feed) B.pre
  have hown : s.vm.findClass RX6 = some m.cls := findClass_of_methodNamed B.named
  have hlocks := B.notSynchronized
  clear B
  subst hsz
  have hD := hD0.self (sz := s.heap.size)
  clear hD0
  generalize hAe : va_A [(x, .inr (6, [.ref xt, .int 0, .ref xr, .ref xd, .ref xn, .ref xa, .ref xs, .ref xy, .int 0])), (xt, .inl (g 0, 160, .inl ft))] s.heap.size = A at hD hZ ⊢
  have hA : ∀ q : Nat, s.heap.size ≤ q → A q := fun q h => by rw [← hAe]; exact Or.inr h
  have hS : va_S A s.heap s.heap [] := va_S.rf
  have f47 := hts (.fieldLink RX6 47 "HopCredits" "tapeLength" "I") (by decide +kernel)
  have iX6 : ∀ w ∈ u_ws RX6 TX6 9, w ∈ wsX6_feed := by decide +kernel
  have hl := lv_entry ([.ref x, .int p0, .int p1, .int p2, .int p3, .int p4]) (n := 7) (Nat.le_of_ble_eq_true rfl)
  rw [lg_entry_eq]
  generalize (lg_sl ([.ref x, .int p0, .int p1, .int p2, .int p3, .int p4]) ++ List.replicate (7 - (lg_sl ([.ref x, .int p0, .int p1, .int p2, .int p3, .int p4])).length) Slot.unset).toArray = ls at hl ⊢
  have hl : lv_has ls 7 [(0, .ref x), (1, .int p0), (2, .int p1), (3, .int p2), (4, .int p3), (5, .int p4)] := hl
  generalize hQ : MQ below _ _ s _ _ _ = Q
  generalize hH : s.heap = H at hP ⊢
  have hS : va_S A s.heap H [] := by rw [← hH]; exact hS
  clear hH
  have hs0 := sg_le p0
  have hs1 := sg_le p1
  have hs2 := sg_le p2
  have hs3 := sg_le p3
  have hs4 := sg_le p4
  refine lv_iload_n hx hb dX6_feed_0 rfl (lv_at hl 1 rfl) ?_
  refine ky_Si (As := [.int p0]) (rest := []) ⟨hx, hb, hml, hown, hts⟩ ⟨hK, hN⟩ hZ hP hD hS hA [] [0, 1] (wc := []) (wr := [(x, .inr (6, [.ref xt, .int 0, .ref xr, .ref xd, .ref xn, .ref xa, .ref xs, .ref xy, .int 0])), (xt, .inl (g 0, 160, .inl ft))]) rfl rfl rfl rfl (by decide) (c_X6_signsIn l D g H.size p0) (va_cwS 1 hts gX6_feed_X6_signsIn rfl rfl rfl (by decide +kernel) ⟨(Nat.le_of_ble_eq_true rfl), (Nat.le_of_ble_eq_true rfl)⟩) rfl hl.1 rfl (Nat.le_of_ble_eq_true rfl) dX6_feed_1 ⟨(Nat.le_of_ble_eq_true rfl), (Nat.le_of_ble_eq_true rfl)⟩ (fun r_1 u H locs hw hP hD hS => ?_)
  obtain ⟨rfl, rfl⟩ := hw
  have hP : va_P D vwCl [(x, .inr (6, [.ref xt, .int 0, .ref xr, .ref xd, .ref xn, .ref xa, .ref xs, .ref xy, .int 0])), (xt, .inl (g 0, 160, .inl ft))] H := hP
  have hD : va_D A [(x, .inr (6, [.ref xt, .int 0, .ref xr, .ref xd, .ref xn, .ref xa, .ref xs, .ref xy, .int 0])), (xt, .inl (g 0, 160, .inl ft))] := hD
  refine W.widen (k := 0) (n := 0) (Nat.le_of_ble_eq_true rfl) (Nat.le_of_ble_eq_true rfl) ?_
  refine lv_iload_n hx hb dX6_feed_4 rfl (lv_at hl 2 rfl) ?_
  refine ky_Si (As := [.int p1]) (rest := [.int (nI (sg p0))]) ⟨hx, hb, hml, hown, hts⟩ ⟨hK, hN⟩ hZ hP hD hS hA [] [0, 1] (wc := []) (wr := [(x, .inr (6, [.ref xt, .int 0, .ref xr, .ref xd, .ref xn, .ref xa, .ref xs, .ref xy, .int 0])), (xt, .inl (g 0, 160, .inl ft))]) rfl rfl rfl rfl (by decide) (c_X6_signsIn l D g H.size p1) (va_cwS 1 hts gX6_feed_X6_signsIn rfl rfl rfl (by decide +kernel) ⟨(Nat.le_of_ble_eq_true rfl), (Nat.le_of_ble_eq_true rfl)⟩) rfl hl.1 rfl (Nat.le_of_ble_eq_true rfl) dX6_feed_5 ⟨(Nat.le_of_ble_eq_true rfl), (Nat.le_of_ble_eq_true rfl)⟩ (fun r_2 u H locs hw hP hD hS => ?_)
  obtain ⟨rfl, rfl⟩ := hw
  have hP : va_P D vwCl [(x, .inr (6, [.ref xt, .int 0, .ref xr, .ref xd, .ref xn, .ref xa, .ref xs, .ref xy, .int 0])), (xt, .inl (g 0, 160, .inl ft))] H := hP
  have hD : va_D A [(x, .inr (6, [.ref xt, .int 0, .ref xr, .ref xd, .ref xn, .ref xa, .ref xs, .ref xy, .int 0])), (xt, .inl (g 0, 160, .inl ft))] := hD
  refine W.widen (k := 0) (n := 0) (Nat.le_of_ble_eq_true rfl) (Nat.le_of_ble_eq_true rfl) ?_
  refine lv_iadd hx hb dX6_feed_8 ?_
  refine lv_eqi (y := (nI (sg p0 + (sg p1)))) (nI_add (sg p0) (sg p1)) ?_
  refine lv_iload_n hx hb dX6_feed_9 rfl (lv_at hl 3 rfl) ?_
  refine ky_Si (As := [.int p2]) (rest := [.int (nI (sg p0 + (sg p1)))]) ⟨hx, hb, hml, hown, hts⟩ ⟨hK, hN⟩ hZ hP hD hS hA [] [0, 1] (wc := []) (wr := [(x, .inr (6, [.ref xt, .int 0, .ref xr, .ref xd, .ref xn, .ref xa, .ref xs, .ref xy, .int 0])), (xt, .inl (g 0, 160, .inl ft))]) rfl rfl rfl rfl (by decide) (c_X6_signsIn l D g H.size p2) (va_cwS 1 hts gX6_feed_X6_signsIn rfl rfl rfl (by decide +kernel) ⟨(Nat.le_of_ble_eq_true rfl), (Nat.le_of_ble_eq_true rfl)⟩) rfl hl.1 rfl (Nat.le_of_ble_eq_true rfl) dX6_feed_10 ⟨(Nat.le_of_ble_eq_true rfl), (Nat.le_of_ble_eq_true rfl)⟩ (fun r_3 u H locs hw hP hD hS => ?_)
  obtain ⟨rfl, rfl⟩ := hw
  have hP : va_P D vwCl [(x, .inr (6, [.ref xt, .int 0, .ref xr, .ref xd, .ref xn, .ref xa, .ref xs, .ref xy, .int 0])), (xt, .inl (g 0, 160, .inl ft))] H := hP
  have hD : va_D A [(x, .inr (6, [.ref xt, .int 0, .ref xr, .ref xd, .ref xn, .ref xa, .ref xs, .ref xy, .int 0])), (xt, .inl (g 0, 160, .inl ft))] := hD
  refine W.widen (k := 0) (n := 0) (Nat.le_of_ble_eq_true rfl) (Nat.le_of_ble_eq_true rfl) ?_
  refine lv_iadd hx hb dX6_feed_13 ?_
  refine lv_eqi (y := (nI (sg p0 + (sg p1) + (sg p2)))) (nI_add (sg p0 + (sg p1)) (sg p2)) ?_
  refine lv_iload hx hb dX6_feed_14 (lv_at hl 4 rfl) ?_
  refine ky_Si (As := [.int p3]) (rest := [.int (nI (sg p0 + (sg p1) + (sg p2)))]) ⟨hx, hb, hml, hown, hts⟩ ⟨hK, hN⟩ hZ hP hD hS hA [] [0, 1] (wc := []) (wr := [(x, .inr (6, [.ref xt, .int 0, .ref xr, .ref xd, .ref xn, .ref xa, .ref xs, .ref xy, .int 0])), (xt, .inl (g 0, 160, .inl ft))]) rfl rfl rfl rfl (by decide) (c_X6_signsIn l D g H.size p3) (va_cwS 1 hts gX6_feed_X6_signsIn rfl rfl rfl (by decide +kernel) ⟨(Nat.le_of_ble_eq_true rfl), (Nat.le_of_ble_eq_true rfl)⟩) rfl hl.1 rfl (Nat.le_of_ble_eq_true rfl) dX6_feed_16 ⟨(Nat.le_of_ble_eq_true rfl), (Nat.le_of_ble_eq_true rfl)⟩ (fun r_4 u H locs hw hP hD hS => ?_)
  obtain ⟨rfl, rfl⟩ := hw
  have hP : va_P D vwCl [(x, .inr (6, [.ref xt, .int 0, .ref xr, .ref xd, .ref xn, .ref xa, .ref xs, .ref xy, .int 0])), (xt, .inl (g 0, 160, .inl ft))] H := hP
  have hD : va_D A [(x, .inr (6, [.ref xt, .int 0, .ref xr, .ref xd, .ref xn, .ref xa, .ref xs, .ref xy, .int 0])), (xt, .inl (g 0, 160, .inl ft))] := hD
  refine W.widen (k := 0) (n := 0) (Nat.le_of_ble_eq_true rfl) (Nat.le_of_ble_eq_true rfl) ?_
  refine lv_iadd hx hb dX6_feed_19 ?_
  refine lv_eqi (y := (nI (sg p0 + (sg p1) + (sg p2) + (sg p3)))) (nI_add (sg p0 + (sg p1) + (sg p2)) (sg p3)) ?_
  refine lv_iload hx hb dX6_feed_20 (lv_at hl 5 rfl) ?_
  refine ky_Si (As := [.int p4]) (rest := [.int (nI (sg p0 + (sg p1) + (sg p2) + (sg p3)))]) ⟨hx, hb, hml, hown, hts⟩ ⟨hK, hN⟩ hZ hP hD hS hA [] [0, 1] (wc := []) (wr := [(x, .inr (6, [.ref xt, .int 0, .ref xr, .ref xd, .ref xn, .ref xa, .ref xs, .ref xy, .int 0])), (xt, .inl (g 0, 160, .inl ft))]) rfl rfl rfl rfl (by decide) (c_X6_signsIn l D g H.size p4) (va_cwS 1 hts gX6_feed_X6_signsIn rfl rfl rfl (by decide +kernel) ⟨(Nat.le_of_ble_eq_true rfl), (Nat.le_of_ble_eq_true rfl)⟩) rfl hl.1 rfl (Nat.le_of_ble_eq_true rfl) dX6_feed_22 ⟨(Nat.le_of_ble_eq_true rfl), (Nat.le_of_ble_eq_true rfl)⟩ (fun r_5 u H locs hw hP hD hS => ?_)
  obtain ⟨rfl, rfl⟩ := hw
  have hP : va_P D vwCl [(x, .inr (6, [.ref xt, .int 0, .ref xr, .ref xd, .ref xn, .ref xa, .ref xs, .ref xy, .int 0])), (xt, .inl (g 0, 160, .inl ft))] H := hP
  have hD : va_D A [(x, .inr (6, [.ref xt, .int 0, .ref xr, .ref xd, .ref xn, .ref xa, .ref xs, .ref xy, .int 0])), (xt, .inl (g 0, 160, .inl ft))] := hD
  refine W.widen (k := 0) (n := 0) (Nat.le_of_ble_eq_true rfl) (Nat.le_of_ble_eq_true rfl) ?_
  refine lv_iadd hx hb dX6_feed_25 ?_
  refine lv_eqi (y := (nI (sg p0 + (sg p1) + (sg p2) + (sg p3) + (sg p4)))) (nI_add (sg p0 + (sg p1) + (sg p2) + (sg p3)) (sg p4)) ?_
  refine lv_istore (lv' := [(6, .int (nI (sg p0 + (sg p1) + (sg p2) + (sg p3) + (sg p4)))), (0, .ref x), (1, .int p0), (2, .int p1), (3, .int p2), (4, .int p3), (5, .int p4)]) hx hb dX6_feed_26 hl (by decide) rfl (fun ls hl => ?_)
  refine lv_aload_n hx hb dX6_feed_28 rfl (lv_at hl 1 rfl) ?_
  refine va_get (D := D) (ci := 6) (v := .int 0) (C := RX6) (T := TX6) (N := 9) hx hb hts iX6 hown hK hP 0 rfl rfl 1 (by decide) f47 (fun _ h9 => h9) rfl dX6_feed_29 ?_
  refine lv_iload hx hb dX6_feed_32 (lv_at hl 0 rfl) ?_
  refine lv_iadd hx hb dX6_feed_34 ?_
  refine lv_eqi (y := (nI (0 + (sg p0 + (sg p1) + (sg p2) + (sg p3) + (sg p4))))) (nI_add (0) (sg p0 + (sg p1) + (sg p2) + (sg p3) + (sg p4))) ?_
  refine lv_sipush (v := 160) hx hb dX6_feed_35 (by decide) ?_
  refine lv_icmp_le (tgt := 43) hx hb dX6_feed_38 (by decide) (fun _ => ?_) (fun cb => absurd (nI_le (show 0 + (sg p0 + sg p1 + sg p2 + sg p3 + sg p4) ≤ 160 by omega) (by decide)) cb)
  refine lv_aload_n hx hb dX6_feed_43 rfl (lv_at hl 1 rfl) ?_
  refine lv_iload_n hx hb dX6_feed_44 rfl (lv_at hl 2 rfl) ?_
  refine ky_Vv (As := [.int p0]) (rest := []) ⟨hx, hb, hml, hown, hts⟩ ⟨hK, hN⟩ hZ hP hD hS hA [0, 1] [] (wc := [(x, .inr (6, [.ref xt, .int 0, .ref xr, .ref xd, .ref xn, .ref xa, .ref xs, .ref xy, .int 0])), (xt, .inl (g 0, 160, .inl ft))]) (wr := []) rfl rfl rfl rfl (by decide) (c_X6_append l D g H.size x xt xr xd xn xa xs xy 0 p0 ft (by omega)) (cwV 1 hts gX6_feed_X6_append rfl rfl rfl (by decide +kernel) ⟨(Nat.le_of_ble_eq_true rfl), (Nat.le_of_ble_eq_true rfl)⟩) 0 6 rfl rfl rfl rfl hl.1 rfl (Nat.le_of_ble_eq_true rfl) dX6_feed_45 ⟨(Nat.le_of_ble_eq_true rfl), (Nat.le_of_ble_eq_true rfl)⟩ (fun u H locs hw hP hD hS => ?_)
  obtain ⟨tl2_6, ft2_7, rfl, hf_9⟩ := hw
  have hP : va_P D vwCl [(x, .inr (6, [.ref xt, .int tl2_6, .ref xr, .ref xd, .ref xn, .ref xa, .ref xs, .ref xy, .int 0])), (xt, .inl (g 0, 160, .inl ft2_7))] H := hP
  have hD : va_D A [(x, .inr (6, [.ref xt, .int tl2_6, .ref xr, .ref xd, .ref xn, .ref xa, .ref xs, .ref xy, .int 0])), (xt, .inl (g 0, 160, .inl ft2_7))] := hD
  refine W.widen (k := 0) (n := 0) (Nat.le_of_ble_eq_true rfl) (Nat.le_of_ble_eq_true rfl) ?_
  subst hf_9
  have hP : va_P D vwCl [(x, .inr (6, [.ref xt, .int (nI (0 + sg p0)), .ref xr, .ref xd, .ref xn, .ref xa, .ref xs, .ref xy, .int 0])), (xt, .inl (g 0, 160, .inl ft2_7))] H := hP
  have hD : va_D A [(x, .inr (6, [.ref xt, .int (nI (0 + sg p0)), .ref xr, .ref xd, .ref xn, .ref xa, .ref xs, .ref xy, .int 0])), (xt, .inl (g 0, 160, .inl ft2_7))] := hD
  refine lv_aload_n hx hb dX6_feed_48 rfl (lv_at hl 1 rfl) ?_
  refine lv_iload_n hx hb dX6_feed_49 rfl (lv_at hl 3 rfl) ?_
  refine ky_Vv (As := [.int p1]) (rest := []) ⟨hx, hb, hml, hown, hts⟩ ⟨hK, hN⟩ hZ hP hD hS hA [0, 1] [] (wc := [(x, .inr (6, [.ref xt, .int (nI (0 + sg p0)), .ref xr, .ref xd, .ref xn, .ref xa, .ref xs, .ref xy, .int 0])), (xt, .inl (g 0, 160, .inl ft2_7))]) (wr := []) rfl rfl rfl rfl (by decide) (c_X6_append l D g H.size x xt xr xd xn xa xs xy (0 + sg p0) p1 ft2_7 (by omega)) (cwV 1 hts gX6_feed_X6_append rfl rfl rfl (by decide +kernel) ⟨(Nat.le_of_ble_eq_true rfl), (Nat.le_of_ble_eq_true rfl)⟩) 0 6 rfl rfl rfl rfl hl.1 rfl (Nat.le_of_ble_eq_true rfl) dX6_feed_50 ⟨(Nat.le_of_ble_eq_true rfl), (Nat.le_of_ble_eq_true rfl)⟩ (fun u H locs hw hP hD hS => ?_)
  obtain ⟨tl2_10, ft2_11, rfl, hf_13⟩ := hw
  have hP : va_P D vwCl [(x, .inr (6, [.ref xt, .int tl2_10, .ref xr, .ref xd, .ref xn, .ref xa, .ref xs, .ref xy, .int 0])), (xt, .inl (g 0, 160, .inl ft2_11))] H := hP
  have hD : va_D A [(x, .inr (6, [.ref xt, .int tl2_10, .ref xr, .ref xd, .ref xn, .ref xa, .ref xs, .ref xy, .int 0])), (xt, .inl (g 0, 160, .inl ft2_11))] := hD
  refine W.widen (k := 0) (n := 0) (Nat.le_of_ble_eq_true rfl) (Nat.le_of_ble_eq_true rfl) ?_
  subst hf_13
  have hP : va_P D vwCl [(x, .inr (6, [.ref xt, .int (nI ((0 + sg p0) + sg p1)), .ref xr, .ref xd, .ref xn, .ref xa, .ref xs, .ref xy, .int 0])), (xt, .inl (g 0, 160, .inl ft2_11))] H := hP
  have hD : va_D A [(x, .inr (6, [.ref xt, .int (nI ((0 + sg p0) + sg p1)), .ref xr, .ref xd, .ref xn, .ref xa, .ref xs, .ref xy, .int 0])), (xt, .inl (g 0, 160, .inl ft2_11))] := hD
  refine lv_aload_n hx hb dX6_feed_53 rfl (lv_at hl 1 rfl) ?_
  refine lv_iload_n hx hb dX6_feed_54 rfl (lv_at hl 4 rfl) ?_
  refine ky_Vv (As := [.int p2]) (rest := []) ⟨hx, hb, hml, hown, hts⟩ ⟨hK, hN⟩ hZ hP hD hS hA [0, 1] [] (wc := [(x, .inr (6, [.ref xt, .int (nI ((0 + sg p0) + sg p1)), .ref xr, .ref xd, .ref xn, .ref xa, .ref xs, .ref xy, .int 0])), (xt, .inl (g 0, 160, .inl ft2_11))]) (wr := []) rfl rfl rfl rfl (by decide) (c_X6_append l D g H.size x xt xr xd xn xa xs xy ((0 + sg p0) + sg p1) p2 ft2_11 (by omega)) (cwV 1 hts gX6_feed_X6_append rfl rfl rfl (by decide +kernel) ⟨(Nat.le_of_ble_eq_true rfl), (Nat.le_of_ble_eq_true rfl)⟩) 0 6 rfl rfl rfl rfl hl.1 rfl (Nat.le_of_ble_eq_true rfl) dX6_feed_55 ⟨(Nat.le_of_ble_eq_true rfl), (Nat.le_of_ble_eq_true rfl)⟩ (fun u H locs hw hP hD hS => ?_)
  obtain ⟨tl2_14, ft2_15, rfl, hf_17⟩ := hw
  have hP : va_P D vwCl [(x, .inr (6, [.ref xt, .int tl2_14, .ref xr, .ref xd, .ref xn, .ref xa, .ref xs, .ref xy, .int 0])), (xt, .inl (g 0, 160, .inl ft2_15))] H := hP
  have hD : va_D A [(x, .inr (6, [.ref xt, .int tl2_14, .ref xr, .ref xd, .ref xn, .ref xa, .ref xs, .ref xy, .int 0])), (xt, .inl (g 0, 160, .inl ft2_15))] := hD
  refine W.widen (k := 0) (n := 0) (Nat.le_of_ble_eq_true rfl) (Nat.le_of_ble_eq_true rfl) ?_
  subst hf_17
  have hP : va_P D vwCl [(x, .inr (6, [.ref xt, .int (nI (((0 + sg p0) + sg p1) + sg p2)), .ref xr, .ref xd, .ref xn, .ref xa, .ref xs, .ref xy, .int 0])), (xt, .inl (g 0, 160, .inl ft2_15))] H := hP
  have hD : va_D A [(x, .inr (6, [.ref xt, .int (nI (((0 + sg p0) + sg p1) + sg p2)), .ref xr, .ref xd, .ref xn, .ref xa, .ref xs, .ref xy, .int 0])), (xt, .inl (g 0, 160, .inl ft2_15))] := hD
  refine lv_aload_n hx hb dX6_feed_58 rfl (lv_at hl 1 rfl) ?_
  refine lv_iload hx hb dX6_feed_59 (lv_at hl 5 rfl) ?_
  refine ky_Vv (As := [.int p3]) (rest := []) ⟨hx, hb, hml, hown, hts⟩ ⟨hK, hN⟩ hZ hP hD hS hA [0, 1] [] (wc := [(x, .inr (6, [.ref xt, .int (nI (((0 + sg p0) + sg p1) + sg p2)), .ref xr, .ref xd, .ref xn, .ref xa, .ref xs, .ref xy, .int 0])), (xt, .inl (g 0, 160, .inl ft2_15))]) (wr := []) rfl rfl rfl rfl (by decide) (c_X6_append l D g H.size x xt xr xd xn xa xs xy (((0 + sg p0) + sg p1) + sg p2) p3 ft2_15 (by omega)) (cwV 1 hts gX6_feed_X6_append rfl rfl rfl (by decide +kernel) ⟨(Nat.le_of_ble_eq_true rfl), (Nat.le_of_ble_eq_true rfl)⟩) 0 6 rfl rfl rfl rfl hl.1 rfl (Nat.le_of_ble_eq_true rfl) dX6_feed_61 ⟨(Nat.le_of_ble_eq_true rfl), (Nat.le_of_ble_eq_true rfl)⟩ (fun u H locs hw hP hD hS => ?_)
  obtain ⟨tl2_18, ft2_19, rfl, hf_21⟩ := hw
  have hP : va_P D vwCl [(x, .inr (6, [.ref xt, .int tl2_18, .ref xr, .ref xd, .ref xn, .ref xa, .ref xs, .ref xy, .int 0])), (xt, .inl (g 0, 160, .inl ft2_19))] H := hP
  have hD : va_D A [(x, .inr (6, [.ref xt, .int tl2_18, .ref xr, .ref xd, .ref xn, .ref xa, .ref xs, .ref xy, .int 0])), (xt, .inl (g 0, 160, .inl ft2_19))] := hD
  refine W.widen (k := 0) (n := 0) (Nat.le_of_ble_eq_true rfl) (Nat.le_of_ble_eq_true rfl) ?_
  subst hf_21
  have hP : va_P D vwCl [(x, .inr (6, [.ref xt, .int (nI ((((0 + sg p0) + sg p1) + sg p2) + sg p3)), .ref xr, .ref xd, .ref xn, .ref xa, .ref xs, .ref xy, .int 0])), (xt, .inl (g 0, 160, .inl ft2_19))] H := hP
  have hD : va_D A [(x, .inr (6, [.ref xt, .int (nI ((((0 + sg p0) + sg p1) + sg p2) + sg p3)), .ref xr, .ref xd, .ref xn, .ref xa, .ref xs, .ref xy, .int 0])), (xt, .inl (g 0, 160, .inl ft2_19))] := hD
  refine lv_aload_n hx hb dX6_feed_64 rfl (lv_at hl 1 rfl) ?_
  refine lv_iload hx hb dX6_feed_65 (lv_at hl 6 rfl) ?_
  refine ky_Vv (As := [.int p4]) (rest := []) ⟨hx, hb, hml, hown, hts⟩ ⟨hK, hN⟩ hZ hP hD hS hA [0, 1] [] (wc := [(x, .inr (6, [.ref xt, .int (nI ((((0 + sg p0) + sg p1) + sg p2) + sg p3)), .ref xr, .ref xd, .ref xn, .ref xa, .ref xs, .ref xy, .int 0])), (xt, .inl (g 0, 160, .inl ft2_19))]) (wr := []) rfl rfl rfl rfl (by decide) (c_X6_append l D g H.size x xt xr xd xn xa xs xy ((((0 + sg p0) + sg p1) + sg p2) + sg p3) p4 ft2_19 (by omega)) (cwV 1 hts gX6_feed_X6_append rfl rfl rfl (by decide +kernel) ⟨(Nat.le_of_ble_eq_true rfl), (Nat.le_of_ble_eq_true rfl)⟩) 0 6 rfl rfl rfl rfl hl.1 rfl (Nat.le_of_ble_eq_true rfl) dX6_feed_67 ⟨(Nat.le_of_ble_eq_true rfl), (Nat.le_of_ble_eq_true rfl)⟩ (fun u H locs hw hP hD hS => ?_)
  obtain ⟨tl2_22, ft2_23, rfl, hf_25⟩ := hw
  have hP : va_P D vwCl [(x, .inr (6, [.ref xt, .int tl2_22, .ref xr, .ref xd, .ref xn, .ref xa, .ref xs, .ref xy, .int 0])), (xt, .inl (g 0, 160, .inl ft2_23))] H := hP
  have hD : va_D A [(x, .inr (6, [.ref xt, .int tl2_22, .ref xr, .ref xd, .ref xn, .ref xa, .ref xs, .ref xy, .int 0])), (xt, .inl (g 0, 160, .inl ft2_23))] := hD
  refine W.widen (k := 0) (n := 0) (Nat.le_of_ble_eq_true rfl) (Nat.le_of_ble_eq_true rfl) ?_
  subst hf_25
  have hP : va_P D vwCl [(x, .inr (6, [.ref xt, .int (nI (((((0 + sg p0) + sg p1) + sg p2) + sg p3) + sg p4)), .ref xr, .ref xd, .ref xn, .ref xa, .ref xs, .ref xy, .int 0])), (xt, .inl (g 0, 160, .inl ft2_23))] H := hP
  have hD : va_D A [(x, .inr (6, [.ref xt, .int (nI (((((0 + sg p0) + sg p1) + sg p2) + sg p3) + sg p4)), .ref xr, .ref xd, .ref xn, .ref xa, .ref xs, .ref xy, .int 0])), (xt, .inl (g 0, 160, .inl ft2_23))] := hD
  refine lv_aload_n hx hb dX6_feed_70 rfl (lv_at hl 1 rfl) ?_
  refine va_get (D := D) (ci := 6) (v := .int (nI (((((0 + sg p0) + sg p1) + sg p2) + sg p3) + sg p4))) (C := RX6) (T := TX6) (N := 9) hx hb hts iX6 hown hK hP 0 rfl rfl 1 (by decide) f47 (fun _ h9 => h9) rfl dX6_feed_71 ?_
  have hP9 := hP.sub (ws' := [(x, .inr (6, [.ref xt, .int (nI (((((0 + sg p0) + sg p1) + sg p2) + sg p3) + sg p4)), .ref xr, .ref xd, .ref xn, .ref xa, .ref xs, .ref xy, .int 0])), (xt, .inl (g 0, 160, .inl ft2_23))]) [0, 1] rfl
  have hD9 := hD.sub (ws' := [(x, .inr (6, [.ref xt, .int (nI (((((0 + sg p0) + sg p1) + sg p2) + sg p3) + sg p4)), .ref xr, .ref xd, .ref xn, .ref xa, .ref xs, .ref xy, .int 0])), (xt, .inl (g 0, 160, .inl ft2_23))]) [0, 1] (by decide) rfl
  subst hQ
  refine W.widen (k := 0) (n := 0) (Nat.le_of_ble_eq_true rfl) (Nat.le_of_ble_eq_true rfl) ?_
  exact W.iret (v := (nI (((((0 + sg p0) + sg p1) + sg p2) + sg p3) + sg p4))) hx hb hr (fun tS htS _ => ⟨⟨_, _, rfl, ⟨(nI (((((0 + sg p0) + sg p1) + sg p2) + sg p3) + sg p4)), ft2_23, rfl, rfl⟩, by rw [htS]; exact hP9, hD9⟩, hS.F htS⟩) hS.2.2 dX6_feed_74
