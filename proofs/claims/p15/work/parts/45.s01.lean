set_option maxHeartbeats 4000000 in
set_option maxRecDepth 100000 in
theorem u_X6_bufferAhead (l : Launch) (D : va_G) (g : Nat → ClassId) (sz : Nat) (Xx : Nat) (zxa : Int32) (zxb : Int32) (zxc : Int32) (Tp : Nat) (tl : Nat) (Fr : Nat) (Rd : Nat) (Nn : Nat) (oNn : Nat) (Ts : Nat) (Ty : Nat) : Met l yX6_bufferAhead wsX6_bufferAhead ({ frames := 1, cells := 0, slots := 0, locals := 21 }) (va_Pc [.ref Xx, .int zxa, .int zxb, .int zxc] (pre D g sz [(Xx, .inr (6, [.ref Tp, .int (nI tl), .ref Fr, .ref Rd, .ref Nn, .ref oNn, .ref Ts, .ref Ty, .int 0]))])) (va_Qi (fun (r : Int32) (u : va_W) => u = [(Xx, .inr (6, [.ref Tp, .int (nI tl), .ref Fr, .ref Rd, .ref Nn, .ref oNn, .ref Ts, .ref Ty, .int 0]))]) (wd D (va_A [(Xx, .inr (6, [.ref Tp, .int (nI tl), .ref Fr, .ref Rd, .ref Nn, .ref oNn, .ref Ts, .ref Ty, .int 0]))] sz)) (va_A [(Xx, .inr (6, [.ref Tp, .int (nI tl), .ref Fr, .ref Rd, .ref Nn, .ref oNn, .ref Ts, .ref Ty, .int 0]))] sz)) 0 0 (va_A [(Xx, .inr (6, [.ref Tp, .int (nI tl), .ref Fr, .ref Rd, .ref Nn, .ref oNn, .ref Ts, .ref Ty, .int 0]))] sz) := by
  refine Met.ofW (cc := cX6_bufferAhead) (maxL := 4) (ret := (some .int)) (by decide) rfl ?_
  intro p e s m args below meth c s₁ B hml hv
  obtain ⟨rfl, hsz, hP, ⟨hK, hN⟩, hD0, hZ⟩ := hv
  have hx := B.exec
  have hb := B.bytes
  have hr := B.returns
  have hts := atoms_spec (ws := wsX6_bufferAhead) B.pre
  have hown : s.vm.findClass RX6 = some m.cls := findClass_of_methodNamed B.named
  have hlocks := B.notSynchronized
  clear B
  subst hsz
  have hD := hD0.self (sz := s.heap.size)
  clear hD0
  generalize hAe : va_A [(Xx, .inr (6, [.ref Tp, .int (nI tl), .ref Fr, .ref Rd, .ref Nn, .ref oNn, .ref Ts, .ref Ty, .int 0]))] s.heap.size = A at hD hZ ⊢
  have hA : ∀ q : Nat, s.heap.size ≤ q → A q := fun q h => by rw [← hAe]; exact Or.inr h
  have hS : va_S A s.heap s.heap [] := va_S.rf
  have hl := lv_entry ([.ref Xx, .int zxa, .int zxb, .int zxc]) (n := 4) (Nat.le_of_ble_eq_true rfl)
  rw [lg_entry_eq]
  generalize (lg_sl ([.ref Xx, .int zxa, .int zxb, .int zxc]) ++ List.replicate (4 - (lg_sl ([.ref Xx, .int zxa, .int zxb, .int zxc])).length) Slot.unset).toArray = ls at hl ⊢
  have hl : lv_has ls 4 [(0, .ref Xx), (1, .int zxa), (2, .int zxb), (3, .int zxc)] := hl
  generalize hQ : MQ below _ _ s _ _ _ = Q
  generalize hH : s.heap = H at hP ⊢
  have hS : va_S A s.heap H [] := by rw [← hH]; exact hS
  clear hH
  refine lv_aload_n hx hb dX6_bufferAhead_0 rfl (lv_at hl 0 rfl) ?_
  refine lv_iload_n hx hb dX6_bufferAhead_1 rfl (lv_at hl 1 rfl) ?_
  refine ky_Vi (As := [.int zxa]) (rest := []) ⟨hx, hb, hml, hown, hts⟩ ⟨hK, hN⟩ hZ hP hD hS hA [0] [] (wc := [(Xx, .inr (6, [.ref Tp, .int (nI tl), .ref Fr, .ref Rd, .ref Nn, .ref oNn, .ref Ts, .ref Ty, .int 0]))]) (wr := []) rfl rfl rfl rfl (by decide) (u_X6_isNode l D g H.size Xx zxa Tp tl Fr Rd Nn oNn Ts Ty) (cwV 1 hts gX6_bufferAhead_X6_isNode rfl rfl rfl (by decide +kernel) ⟨(Nat.le_of_ble_eq_true rfl), (Nat.le_of_ble_eq_true rfl)⟩) 0 6 rfl rfl rfl rfl hl.1 rfl (Nat.le_of_ble_eq_true rfl) dX6_bufferAhead_2 ⟨(Nat.le_of_ble_eq_true rfl), (Nat.le_of_ble_eq_true rfl)⟩ (fun r_1 u H locs hw hP2 hD2 hS2 => ?_)
  clear hP hD hS
  obtain ⟨rfl, rfl⟩ := hw
  have hPD : PD D A [(Xx, .inr (6, [.ref Tp, .int (nI tl), .ref Fr, .ref Rd, .ref Nn, .ref oNn, .ref Ts, .ref Ty, .int 0]))] H := ⟨hP2, hD2⟩
  have hS := hS2; clear hP2 hD2 hS2; have hP := hPD.1; have hD := hPD.2; clear hPD
  refine W.widen (k := 0) (n := 0) (Nat.le_of_ble_eq_true rfl) (Nat.le_of_ble_eq_true rfl) ?_
  refine lv_if_eq (tgt := 27) hx hb dX6_bufferAhead_5 (by decide) (fun _ => ?_) (fun cb => absurd (by decide) cb)
  refine lv_iconst (v := (-1)) hx hb dX6_bufferAhead_27 (by decide) ?_
  have hP9 := hP; have hD9 := hD
  subst hQ
  refine W.widen (k := 0) (n := 0) (Nat.le_of_ble_eq_true rfl) (Nat.le_of_ble_eq_true rfl) ?_
  exact W.iret (v := (-1)) hx hb hr (fun tS htS _ => ⟨⟨_, _, rfl, rfl, by rw [htS]; exact hP9, hD9⟩, hS.F htS⟩) hS.2.2 dX6_bufferAhead_28

set_option maxHeartbeats 4000000 in
set_option maxRecDepth 100000 in
theorem u_X6_delivered (l : Launch) (D : va_G) (g : Nat → ClassId) (sz : Nat) (Xx : Nat) (zxa : Int32) (zxb : Int32) (Tp : Nat) (tl : Nat) (Fr : Nat) (Rd : Nat) (Nn : Nat) (oNn : Nat) (Ts : Nat) (Ty : Nat) : Met l yX6_delivered wsX6_delivered ({ frames := 0, cells := 0, slots := 0, locals := 0 }) (va_Pc [.ref Xx, .int zxa, .int zxb] (pre D g sz [(Xx, .inr (6, [.ref Tp, .int (nI tl), .ref Fr, .ref Rd, .ref Nn, .ref oNn, .ref Ts, .ref Ty, .int 0]))])) (va_Qi (fun (r : Int32) (u : va_W) => u = [(Xx, .inr (6, [.ref Tp, .int (nI tl), .ref Fr, .ref Rd, .ref Nn, .ref oNn, .ref Ts, .ref Ty, .int 0]))]) (wd D (va_A [(Xx, .inr (6, [.ref Tp, .int (nI tl), .ref Fr, .ref Rd, .ref Nn, .ref oNn, .ref Ts, .ref Ty, .int 0]))] sz)) (va_A [(Xx, .inr (6, [.ref Tp, .int (nI tl), .ref Fr, .ref Rd, .ref Nn, .ref oNn, .ref Ts, .ref Ty, .int 0]))] sz)) 0 0 (va_A [(Xx, .inr (6, [.ref Tp, .int (nI tl), .ref Fr, .ref Rd, .ref Nn, .ref oNn, .ref Ts, .ref Ty, .int 0]))] sz) := by
  refine Met.ofW (cc := cX6_delivered) (maxL := 3) (ret := (some .int)) (by decide) rfl ?_
  intro p e s m args below meth c s₁ B hml hv
  obtain ⟨rfl, hsz, hP, ⟨hK, hN⟩, hD0, hZ⟩ := hv
  have hx := B.exec
  have hb := B.bytes
  have hr := B.returns
  have hts := atoms_spec (ws := wsX6_delivered) B.pre
  have hown : s.vm.findClass RX6 = some m.cls := findClass_of_methodNamed B.named
  have hlocks := B.notSynchronized
  clear B
  subst hsz
  have hD := hD0.self (sz := s.heap.size)
  clear hD0
  generalize hAe : va_A [(Xx, .inr (6, [.ref Tp, .int (nI tl), .ref Fr, .ref Rd, .ref Nn, .ref oNn, .ref Ts, .ref Ty, .int 0]))] s.heap.size = A at hD hZ ⊢
  have hA : ∀ q : Nat, s.heap.size ≤ q → A q := fun q h => by rw [← hAe]; exact Or.inr h
  have hS : va_S A s.heap s.heap [] := va_S.rf
  have f70 := hts (.fieldLink RX6 70 "HopCredits" "laid" "Z") (List.mem_of_getElem? (i := 1) rfl)
  have iX6 : ∀ w ∈ u_ws RX6 TX6 9, w ∈ wsX6_delivered := fun w h => List.mem_cons_of_mem _ (List.mem_append_left _ (List.mem_append_left _ (List.mem_append_left _ (List.mem_append_left _ (List.mem_append_right _ (h))))))
  have hl := lv_entry ([.ref Xx, .int zxa, .int zxb]) (n := 3) (Nat.le_of_ble_eq_true rfl)
  rw [lg_entry_eq]
  generalize (lg_sl ([.ref Xx, .int zxa, .int zxb]) ++ List.replicate (3 - (lg_sl ([.ref Xx, .int zxa, .int zxb])).length) Slot.unset).toArray = ls at hl ⊢
  have hl : lv_has ls 3 [(0, .ref Xx), (1, .int zxa), (2, .int zxb)] := hl
  generalize hQ : MQ below _ _ s _ _ _ = Q
  generalize hH : s.heap = H at hP ⊢
  have hS : va_S A s.heap H [] := by rw [← hH]; exact hS
  clear hH
  refine lv_aload_n hx hb dX6_delivered_0 rfl (lv_at hl 0 rfl) ?_
  refine va_get (D := D) (ci := 6) (v := .int 0) (C := RX6) (T := TX6) (N := 9) hx hb hts iX6 hown hK hP 0 rfl rfl 8 (by decide) f70 (fun _ h9 => h9) rfl dX6_delivered_1 ?_
  refine lv_if_eq (tgt := 31) hx hb dX6_delivered_4 (by decide) (fun _ => ?_) (fun cb => absurd (by decide) cb)
  refine lv_iconst (v := (-1)) hx hb dX6_delivered_31 (by decide) ?_
  have hP9 := hP; have hD9 := hD
  subst hQ
  refine W.widen (k := 0) (n := 0) (Nat.le_of_ble_eq_true rfl) (Nat.le_of_ble_eq_true rfl) ?_
  exact W.iret (v := (-1)) hx hb hr (fun tS htS _ => ⟨⟨_, _, rfl, rfl, by rw [htS]; exact hP9, hD9⟩, hS.F htS⟩) hS.2.2 dX6_delivered_32

set_option maxHeartbeats 4000000 in
set_option maxRecDepth 100000 in
theorem u_X6_heldUp (l : Launch) (D : va_G) (g : Nat → ClassId) (sz : Nat) (Xx : Nat) (zxa : Int32) (zxb : Int32) (Tp : Nat) (tl : Nat) (Fr : Nat) (Rd : Nat) (Nn : Nat) (oNn : Nat) (Ts : Nat) (Ty : Nat) : Met l yX6_heldUp wsX6_heldUp ({ frames := 2, cells := 0, slots := 0, locals := 43 }) (va_Pc [.ref Xx, .int zxa, .int zxb] (pre D g sz [(Xx, .inr (6, [.ref Tp, .int (nI tl), .ref Fr, .ref Rd, .ref Nn, .ref oNn, .ref Ts, .ref Ty, .int 0]))])) (va_Qi (fun (r : Int32) (u : va_W) => u = [(Xx, .inr (6, [.ref Tp, .int (nI tl), .ref Fr, .ref Rd, .ref Nn, .ref oNn, .ref Ts, .ref Ty, .int 0]))]) (wd D (va_A [(Xx, .inr (6, [.ref Tp, .int (nI tl), .ref Fr, .ref Rd, .ref Nn, .ref oNn, .ref Ts, .ref Ty, .int 0]))] sz)) (va_A [(Xx, .inr (6, [.ref Tp, .int (nI tl), .ref Fr, .ref Rd, .ref Nn, .ref oNn, .ref Ts, .ref Ty, .int 0]))] sz)) 0 0 (va_A [(Xx, .inr (6, [.ref Tp, .int (nI tl), .ref Fr, .ref Rd, .ref Nn, .ref oNn, .ref Ts, .ref Ty, .int 0]))] sz) := by
  refine Met.ofW (cc := cX6_heldUp) (maxL := 4) (ret := (some .int)) (by decide) rfl ?_
  intro p e s m args below meth c s₁ B hml hv
  obtain ⟨rfl, hsz, hP, ⟨hK, hN⟩, hD0, hZ⟩ := hv
  have hx := B.exec
  have hb := B.bytes
  have hr := B.returns
  have hts := atoms_spec (ws := wsX6_heldUp) B.pre
  have hown : s.vm.findClass RX6 = some m.cls := findClass_of_methodNamed B.named
  have hlocks := B.notSynchronized
  clear B
  subst hsz
  have hD := hD0.self (sz := s.heap.size)
  clear hD0
  generalize hAe : va_A [(Xx, .inr (6, [.ref Tp, .int (nI tl), .ref Fr, .ref Rd, .ref Nn, .ref oNn, .ref Ts, .ref Ty, .int 0]))] s.heap.size = A at hD hZ ⊢
  have hA : ∀ q : Nat, s.heap.size ≤ q → A q := fun q h => by rw [← hAe]; exact Or.inr h
  have hS : va_S A s.heap s.heap [] := va_S.rf
  have hl := lv_entry ([.ref Xx, .int zxa, .int zxb]) (n := 4) (Nat.le_of_ble_eq_true rfl)
  rw [lg_entry_eq]
  generalize (lg_sl ([.ref Xx, .int zxa, .int zxb]) ++ List.replicate (4 - (lg_sl ([.ref Xx, .int zxa, .int zxb])).length) Slot.unset).toArray = ls at hl ⊢
  have hl : lv_has ls 4 [(0, .ref Xx), (1, .int zxa), (2, .int zxb)] := hl
  generalize hQ : MQ below _ _ s _ _ _ = Q
  generalize hH : s.heap = H at hP ⊢
  have hS : va_S A s.heap H [] := by rw [← hH]; exact hS
  clear hH
  refine lv_aload_n hx hb dX6_heldUp_0 rfl (lv_at hl 0 rfl) ?_
  refine lv_iload_n hx hb dX6_heldUp_1 rfl (lv_at hl 1 rfl) ?_
  refine lv_iload_n hx hb dX6_heldUp_2 rfl (lv_at hl 2 rfl) ?_
  refine ky_Vi (As := [.int zxa, .int zxb]) (rest := []) ⟨hx, hb, hml, hown, hts⟩ ⟨hK, hN⟩ hZ hP hD hS hA [0] [] (wc := [(Xx, .inr (6, [.ref Tp, .int (nI tl), .ref Fr, .ref Rd, .ref Nn, .ref oNn, .ref Ts, .ref Ty, .int 0]))]) (wr := []) rfl rfl rfl rfl (by decide) (u_X6_isLane l D g H.size Xx zxa zxb Tp tl Fr Rd Nn oNn Ts Ty) (cwV 2 hts gX6_heldUp_X6_isLane rfl rfl rfl (by decide +kernel) ⟨(Nat.le_of_ble_eq_true rfl), (Nat.le_of_ble_eq_true rfl)⟩) 0 6 rfl rfl rfl rfl hl.1 rfl (Nat.le_of_ble_eq_true rfl) dX6_heldUp_3 ⟨(Nat.le_of_ble_eq_true rfl), (Nat.le_of_ble_eq_true rfl)⟩ (fun r_1 u H locs hw hP2 hD2 hS2 => ?_)
  clear hP hD hS
  obtain ⟨rfl, rfl⟩ := hw
  have hPD : PD D A [(Xx, .inr (6, [.ref Tp, .int (nI tl), .ref Fr, .ref Rd, .ref Nn, .ref oNn, .ref Ts, .ref Ty, .int 0]))] H := ⟨hP2, hD2⟩
  have hS := hS2; clear hP2 hD2 hS2; have hP := hPD.1; have hD := hPD.2; clear hPD
  refine W.widen (k := 0) (n := 0) (Nat.le_of_ble_eq_true rfl) (Nat.le_of_ble_eq_true rfl) ?_
  refine lv_if_ne (tgt := 11) hx hb dX6_heldUp_6 (by decide) (fun cb => absurd (by decide) cb) (fun _ => ?_)
  refine lv_iconst (v := (-1)) hx hb dX6_heldUp_9 (by decide) ?_
  have hP9 := hP; have hD9 := hD
  subst hQ
  refine W.widen (k := 0) (n := 0) (Nat.le_of_ble_eq_true rfl) (Nat.le_of_ble_eq_true rfl) ?_
  exact W.iret (v := (-1)) hx hb hr (fun tS htS _ => ⟨⟨_, _, rfl, rfl, by rw [htS]; exact hP9, hD9⟩, hS.F htS⟩) hS.2.2 dX6_heldUp_10

set_option maxHeartbeats 4000000 in
set_option maxRecDepth 100000 in
theorem u_X6_idle (l : Launch) (D : va_G) (g : Nat → ClassId) (sz : Nat) (Xx : Nat) (zxa : Int32) (zxb : Int32) (Tp : Nat) (tl : Nat) (Fr : Nat) (Rd : Nat) (Nn : Nat) (oNn : Nat) (Ts : Nat) (Ty : Nat) : Met l yX6_idle wsX6_idle ({ frames := 1, cells := 0, slots := 0, locals := 21 }) (va_Pc [.ref Xx, .int zxa, .int zxb] (pre D g sz [(Xx, .inr (6, [.ref Tp, .int (nI tl), .ref Fr, .ref Rd, .ref Nn, .ref oNn, .ref Ts, .ref Ty, .int 0]))])) (va_Qi (fun (r : Int32) (u : va_W) => u = [(Xx, .inr (6, [.ref Tp, .int (nI tl), .ref Fr, .ref Rd, .ref Nn, .ref oNn, .ref Ts, .ref Ty, .int 0]))]) (wd D (va_A [(Xx, .inr (6, [.ref Tp, .int (nI tl), .ref Fr, .ref Rd, .ref Nn, .ref oNn, .ref Ts, .ref Ty, .int 0]))] sz)) (va_A [(Xx, .inr (6, [.ref Tp, .int (nI tl), .ref Fr, .ref Rd, .ref Nn, .ref oNn, .ref Ts, .ref Ty, .int 0]))] sz)) 0 0 (va_A [(Xx, .inr (6, [.ref Tp, .int (nI tl), .ref Fr, .ref Rd, .ref Nn, .ref oNn, .ref Ts, .ref Ty, .int 0]))] sz) := by
  refine Met.ofW (cc := cX6_idle) (maxL := 3) (ret := (some .int)) (by decide) rfl ?_
  intro p e s m args below meth c s₁ B hml hv
  obtain ⟨rfl, hsz, hP, ⟨hK, hN⟩, hD0, hZ⟩ := hv
  have hx := B.exec
  have hb := B.bytes
  have hr := B.returns
  have hts := atoms_spec (ws := wsX6_idle) B.pre
  have hown : s.vm.findClass RX6 = some m.cls := findClass_of_methodNamed B.named
  have hlocks := B.notSynchronized
  clear B
  subst hsz
  have hD := hD0.self (sz := s.heap.size)
  clear hD0
  generalize hAe : va_A [(Xx, .inr (6, [.ref Tp, .int (nI tl), .ref Fr, .ref Rd, .ref Nn, .ref oNn, .ref Ts, .ref Ty, .int 0]))] s.heap.size = A at hD hZ ⊢
  have hA : ∀ q : Nat, s.heap.size ≤ q → A q := fun q h => by rw [← hAe]; exact Or.inr h
  have hS : va_S A s.heap s.heap [] := va_S.rf
  have hl := lv_entry ([.ref Xx, .int zxa, .int zxb]) (n := 3) (Nat.le_of_ble_eq_true rfl)
  rw [lg_entry_eq]
  generalize (lg_sl ([.ref Xx, .int zxa, .int zxb]) ++ List.replicate (3 - (lg_sl ([.ref Xx, .int zxa, .int zxb])).length) Slot.unset).toArray = ls at hl ⊢
  have hl : lv_has ls 3 [(0, .ref Xx), (1, .int zxa), (2, .int zxb)] := hl
  generalize hQ : MQ below _ _ s _ _ _ = Q
  generalize hH : s.heap = H at hP ⊢
  have hS : va_S A s.heap H [] := by rw [← hH]; exact hS
  clear hH
  refine lv_aload_n hx hb dX6_idle_0 rfl (lv_at hl 0 rfl) ?_
  refine lv_iload_n hx hb dX6_idle_1 rfl (lv_at hl 1 rfl) ?_
  refine ky_Vi (As := [.int zxa]) (rest := []) ⟨hx, hb, hml, hown, hts⟩ ⟨hK, hN⟩ hZ hP hD hS hA [0] [] (wc := [(Xx, .inr (6, [.ref Tp, .int (nI tl), .ref Fr, .ref Rd, .ref Nn, .ref oNn, .ref Ts, .ref Ty, .int 0]))]) (wr := []) rfl rfl rfl rfl (by decide) (u_X6_isHop l D g H.size Xx zxa Tp tl Fr Rd Nn oNn Ts Ty) (cwV 1 hts gX6_idle_X6_isHop rfl rfl rfl (by decide +kernel) ⟨(Nat.le_of_ble_eq_true rfl), (Nat.le_of_ble_eq_true rfl)⟩) 0 6 rfl rfl rfl rfl hl.1 rfl (Nat.le_of_ble_eq_true rfl) dX6_idle_2 ⟨(Nat.le_of_ble_eq_true rfl), (Nat.le_of_ble_eq_true rfl)⟩ (fun r_1 u H locs hw hP2 hD2 hS2 => ?_)
  clear hP hD hS
  obtain ⟨rfl, rfl⟩ := hw
  have hPD : PD D A [(Xx, .inr (6, [.ref Tp, .int (nI tl), .ref Fr, .ref Rd, .ref Nn, .ref oNn, .ref Ts, .ref Ty, .int 0]))] H := ⟨hP2, hD2⟩
  have hS := hS2; clear hP2 hD2 hS2; have hP := hPD.1; have hD := hPD.2; clear hPD
  refine W.widen (k := 0) (n := 0) (Nat.le_of_ble_eq_true rfl) (Nat.le_of_ble_eq_true rfl) ?_
  refine lv_if_eq (tgt := 19) hx hb dX6_idle_5 (by decide) (fun _ => ?_) (fun cb => absurd (by decide) cb)
  refine lv_iconst (v := (-1)) hx hb dX6_idle_19 (by decide) ?_
  have hP9 := hP; have hD9 := hD
  subst hQ
  refine W.widen (k := 0) (n := 0) (Nat.le_of_ble_eq_true rfl) (Nat.le_of_ble_eq_true rfl) ?_
  exact W.iret (v := (-1)) hx hb hr (fun tS htS _ => ⟨⟨_, _, rfl, rfl, by rw [htS]; exact hP9, hD9⟩, hS.F htS⟩) hS.2.2 dX6_idle_20

set_option maxHeartbeats 4000000 in
set_option maxRecDepth 100000 in
theorem u_X6_most (l : Launch) (D : va_G) (g : Nat → ClassId) (sz : Nat) (Xx : Nat) (zxa : Int32) (zxb : Int32) (zxc : Int32) (zxd : Int32) (Tp : Nat) (tl : Nat) (Fr : Nat) (Rd : Nat) (Nn : Nat) (oNn : Nat) (Ts : Nat) (Ty : Nat) : Met l yX6_most wsX6_most ({ frames := 1, cells := 0, slots := 0, locals := 21 }) (va_Pc [.ref Xx, .int zxa, .int zxb, .int zxc, .int zxd] (pre D g sz [(Xx, .inr (6, [.ref Tp, .int (nI tl), .ref Fr, .ref Rd, .ref Nn, .ref oNn, .ref Ts, .ref Ty, .int 0]))])) (va_Qi (fun (r : Int32) (u : va_W) => u = [(Xx, .inr (6, [.ref Tp, .int (nI tl), .ref Fr, .ref Rd, .ref Nn, .ref oNn, .ref Ts, .ref Ty, .int 0]))]) (wd D (va_A [(Xx, .inr (6, [.ref Tp, .int (nI tl), .ref Fr, .ref Rd, .ref Nn, .ref oNn, .ref Ts, .ref Ty, .int 0]))] sz)) (va_A [(Xx, .inr (6, [.ref Tp, .int (nI tl), .ref Fr, .ref Rd, .ref Nn, .ref oNn, .ref Ts, .ref Ty, .int 0]))] sz)) 0 0 (va_A [(Xx, .inr (6, [.ref Tp, .int (nI tl), .ref Fr, .ref Rd, .ref Nn, .ref oNn, .ref Ts, .ref Ty, .int 0]))] sz) := by
  refine Met.ofW (cc := cX6_most) (maxL := 7) (ret := (some .int)) (by decide) rfl ?_
  intro p e s m args below meth c s₁ B hml hv
  obtain ⟨rfl, hsz, hP, ⟨hK, hN⟩, hD0, hZ⟩ := hv
  have hx := B.exec
  have hb := B.bytes
  have hr := B.returns
  have hts := atoms_spec (ws := wsX6_most) B.pre
  have hown : s.vm.findClass RX6 = some m.cls := findClass_of_methodNamed B.named
  have hlocks := B.notSynchronized
  clear B
  subst hsz
  have hD := hD0.self (sz := s.heap.size)
  clear hD0
  generalize hAe : va_A [(Xx, .inr (6, [.ref Tp, .int (nI tl), .ref Fr, .ref Rd, .ref Nn, .ref oNn, .ref Ts, .ref Ty, .int 0]))] s.heap.size = A at hD hZ ⊢
  have hA : ∀ q : Nat, s.heap.size ≤ q → A q := fun q h => by rw [← hAe]; exact Or.inr h
  have hS : va_S A s.heap s.heap [] := va_S.rf
  have hl := lv_entry ([.ref Xx, .int zxa, .int zxb, .int zxc, .int zxd]) (n := 7) (Nat.le_of_ble_eq_true rfl)
  rw [lg_entry_eq]
  generalize (lg_sl ([.ref Xx, .int zxa, .int zxb, .int zxc, .int zxd]) ++ List.replicate (7 - (lg_sl ([.ref Xx, .int zxa, .int zxb, .int zxc, .int zxd])).length) Slot.unset).toArray = ls at hl ⊢
  have hl : lv_has ls 7 [(0, .ref Xx), (1, .int zxa), (2, .int zxb), (3, .int zxc), (4, .int zxd)] := hl
  generalize hQ : MQ below _ _ s _ _ _ = Q
  generalize hH : s.heap = H at hP ⊢
  have hS : va_S A s.heap H [] := by rw [← hH]; exact hS
  clear hH
  refine lv_aload_n hx hb dX6_most_0 rfl (lv_at hl 0 rfl) ?_
  refine lv_iload_n hx hb dX6_most_1 rfl (lv_at hl 1 rfl) ?_
  refine ky_Vi (As := [.int zxa]) (rest := []) ⟨hx, hb, hml, hown, hts⟩ ⟨hK, hN⟩ hZ hP hD hS hA [0] [] (wc := [(Xx, .inr (6, [.ref Tp, .int (nI tl), .ref Fr, .ref Rd, .ref Nn, .ref oNn, .ref Ts, .ref Ty, .int 0]))]) (wr := []) rfl rfl rfl rfl (by decide) (u_X6_isNode l D g H.size Xx zxa Tp tl Fr Rd Nn oNn Ts Ty) (cwV 1 hts gX6_most_X6_isNode rfl rfl rfl (by decide +kernel) ⟨(Nat.le_of_ble_eq_true rfl), (Nat.le_of_ble_eq_true rfl)⟩) 0 6 rfl rfl rfl rfl hl.1 rfl (Nat.le_of_ble_eq_true rfl) dX6_most_2 ⟨(Nat.le_of_ble_eq_true rfl), (Nat.le_of_ble_eq_true rfl)⟩ (fun r_1 u H locs hw hP2 hD2 hS2 => ?_)
  clear hP hD hS
  obtain ⟨rfl, rfl⟩ := hw
  have hPD : PD D A [(Xx, .inr (6, [.ref Tp, .int (nI tl), .ref Fr, .ref Rd, .ref Nn, .ref oNn, .ref Ts, .ref Ty, .int 0]))] H := ⟨hP2, hD2⟩
  have hS := hS2; clear hP2 hD2 hS2; have hP := hPD.1; have hD := hPD.2; clear hPD
  refine W.widen (k := 0) (n := 0) (Nat.le_of_ble_eq_true rfl) (Nat.le_of_ble_eq_true rfl) ?_
  refine lv_if_eq (tgt := 37) hx hb dX6_most_5 (by decide) (fun _ => ?_) (fun cb => absurd (by decide) cb)
  refine lv_iconst (v := (-1)) hx hb dX6_most_37 (by decide) ?_
  have hP9 := hP; have hD9 := hD
  subst hQ
  refine W.widen (k := 0) (n := 0) (Nat.le_of_ble_eq_true rfl) (Nat.le_of_ble_eq_true rfl) ?_
  exact W.iret (v := (-1)) hx hb hr (fun tS htS _ => ⟨⟨_, _, rfl, rfl, by rw [htS]; exact hP9, hD9⟩, hS.F htS⟩) hS.2.2 dX6_most_38

set_option maxHeartbeats 4000000 in
set_option maxRecDepth 100000 in
theorem u_X6_healed (l : Launch) (D : va_G) (g : Nat → ClassId) (sz : Nat) (Xx : Nat) (Tp : Nat) (tl : Nat) (Fr : Nat) (Rd : Nat) (Nn : Nat) (oNn : Nat) (Ts : Nat) (Ty : Nat) : Met l yX6_healed wsX6_healed ({ frames := 0, cells := 0, slots := 0, locals := 0 }) (va_Pc [.ref Xx] (pre D g sz [(Xx, .inr (6, [.ref Tp, .int (nI tl), .ref Fr, .ref Rd, .ref Nn, .ref oNn, .ref Ts, .ref Ty, .int 0]))])) (va_Qi (fun (r : Int32) (u : va_W) => u = [(Xx, .inr (6, [.ref Tp, .int (nI tl), .ref Fr, .ref Rd, .ref Nn, .ref oNn, .ref Ts, .ref Ty, .int 0]))]) (wd D (va_A [(Xx, .inr (6, [.ref Tp, .int (nI tl), .ref Fr, .ref Rd, .ref Nn, .ref oNn, .ref Ts, .ref Ty, .int 0]))] sz)) (va_A [(Xx, .inr (6, [.ref Tp, .int (nI tl), .ref Fr, .ref Rd, .ref Nn, .ref oNn, .ref Ts, .ref Ty, .int 0]))] sz)) 0 0 (va_A [(Xx, .inr (6, [.ref Tp, .int (nI tl), .ref Fr, .ref Rd, .ref Nn, .ref oNn, .ref Ts, .ref Ty, .int 0]))] sz) := by
  refine Met.ofW (cc := cX6_healed) (maxL := 2) (ret := (some .int)) (by decide) rfl ?_
  intro p e s m args below meth c s₁ B hml hv
  obtain ⟨rfl, hsz, hP, ⟨hK, hN⟩, hD0, hZ⟩ := hv
  have hx := B.exec
  have hb := B.bytes
  have hr := B.returns
  have hts := atoms_spec (ws := wsX6_healed) B.pre
  have hown : s.vm.findClass RX6 = some m.cls := findClass_of_methodNamed B.named
  have hlocks := B.notSynchronized
  clear B
  subst hsz
  have hD := hD0.self (sz := s.heap.size)
  clear hD0
  generalize hAe : va_A [(Xx, .inr (6, [.ref Tp, .int (nI tl), .ref Fr, .ref Rd, .ref Nn, .ref oNn, .ref Ts, .ref Ty, .int 0]))] s.heap.size = A at hD hZ ⊢
  have hA : ∀ q : Nat, s.heap.size ≤ q → A q := fun q h => by rw [← hAe]; exact Or.inr h
  have hS : va_S A s.heap s.heap [] := va_S.rf
  have f70 := hts (.fieldLink RX6 70 "HopCredits" "laid" "Z") (List.mem_of_getElem? (i := 1) rfl)
  have iX6 : ∀ w ∈ u_ws RX6 TX6 9, w ∈ wsX6_healed := fun w h => List.mem_cons_of_mem _ (List.mem_append_left _ (List.mem_append_left _ (List.mem_append_left _ (List.mem_append_left _ (List.mem_append_right _ (h))))))
  have hl := lv_entry ([.ref Xx]) (n := 2) (Nat.le_of_ble_eq_true rfl)
  rw [lg_entry_eq]
  generalize (lg_sl ([.ref Xx]) ++ List.replicate (2 - (lg_sl ([.ref Xx])).length) Slot.unset).toArray = ls at hl ⊢
  have hl : lv_has ls 2 [(0, .ref Xx)] := hl
  generalize hQ : MQ below _ _ s _ _ _ = Q
  generalize hH : s.heap = H at hP ⊢
  have hS : va_S A s.heap H [] := by rw [← hH]; exact hS
  clear hH
  refine lv_aload_n hx hb dX6_healed_0 rfl (lv_at hl 0 rfl) ?_
  refine va_get (D := D) (ci := 6) (v := .int 0) (C := RX6) (T := TX6) (N := 9) hx hb hts iX6 hown hK hP 0 rfl rfl 8 (by decide) f70 (fun _ h9 => h9) rfl dX6_healed_1 ?_
  refine lv_if_ne (tgt := 9) hx hb dX6_healed_4 (by decide) (fun cb => absurd (by decide) cb) (fun _ => ?_)
  refine lv_iconst (v := (-1)) hx hb dX6_healed_7 (by decide) ?_
  have hP9 := hP; have hD9 := hD
  subst hQ
  refine W.widen (k := 0) (n := 0) (Nat.le_of_ble_eq_true rfl) (Nat.le_of_ble_eq_true rfl) ?_
  exact W.iret (v := (-1)) hx hb hr (fun tS htS _ => ⟨⟨_, _, rfl, rfl, by rw [htS]; exact hP9, hD9⟩, hS.F htS⟩) hS.2.2 dX6_healed_8

set_option maxHeartbeats 4000000 in
set_option maxRecDepth 100000 in
theorem u_X6_loss (l : Launch) (D : va_G) (g : Nat → ClassId) (sz : Nat) (Xx : Nat) (zxa : Int32) (zxb : Int32) (Tp : Nat) (tl : Nat) (Fr : Nat) (Rd : Nat) (Nn : Nat) (oNn : Nat) (Ts : Nat) (Ty : Nat) : Met l yX6_loss wsX6_loss ({ frames := 0, cells := 0, slots := 0, locals := 0 }) (va_Pc [.ref Xx, .int zxa, .int zxb] (pre D g sz [(Xx, .inr (6, [.ref Tp, .int (nI tl), .ref Fr, .ref Rd, .ref Nn, .ref oNn, .ref Ts, .ref Ty, .int 0]))])) (va_Qi (fun (r : Int32) (u : va_W) => u = [(Xx, .inr (6, [.ref Tp, .int (nI tl), .ref Fr, .ref Rd, .ref Nn, .ref oNn, .ref Ts, .ref Ty, .int 0]))]) (wd D (va_A [(Xx, .inr (6, [.ref Tp, .int (nI tl), .ref Fr, .ref Rd, .ref Nn, .ref oNn, .ref Ts, .ref Ty, .int 0]))] sz)) (va_A [(Xx, .inr (6, [.ref Tp, .int (nI tl), .ref Fr, .ref Rd, .ref Nn, .ref oNn, .ref Ts, .ref Ty, .int 0]))] sz)) 0 0 (va_A [(Xx, .inr (6, [.ref Tp, .int (nI tl), .ref Fr, .ref Rd, .ref Nn, .ref oNn, .ref Ts, .ref Ty, .int 0]))] sz) := by
  refine Met.ofW (cc := cX6_loss) (maxL := 3) (ret := (some .int)) (by decide) rfl ?_
  intro p e s m args below meth c s₁ B hml hv
  obtain ⟨rfl, hsz, hP, ⟨hK, hN⟩, hD0, hZ⟩ := hv
  have hx := B.exec
  have hb := B.bytes
  have hr := B.returns
  have hts := atoms_spec (ws := wsX6_loss) B.pre
  have hown : s.vm.findClass RX6 = some m.cls := findClass_of_methodNamed B.named
  have hlocks := B.notSynchronized
  clear B
  subst hsz
  have hD := hD0.self (sz := s.heap.size)
  clear hD0
  generalize hAe : va_A [(Xx, .inr (6, [.ref Tp, .int (nI tl), .ref Fr, .ref Rd, .ref Nn, .ref oNn, .ref Ts, .ref Ty, .int 0]))] s.heap.size = A at hD hZ ⊢
  have hA : ∀ q : Nat, s.heap.size ≤ q → A q := fun q h => by rw [← hAe]; exact Or.inr h
  have hS : va_S A s.heap s.heap [] := va_S.rf
  have f70 := hts (.fieldLink RX6 70 "HopCredits" "laid" "Z") (List.mem_of_getElem? (i := 1) rfl)
  have k77 := hts (.constant RX6 77 (-1000000)) (List.mem_of_getElem? (i := 2) rfl)
  have iX6 : ∀ w ∈ u_ws RX6 TX6 9, w ∈ wsX6_loss := fun w h => List.mem_cons_of_mem _ (List.mem_append_left _ (List.mem_append_left _ (List.mem_append_left _ (List.mem_append_left _ (List.mem_append_right _ (h))))))
  have hl := lv_entry ([.ref Xx, .int zxa, .int zxb]) (n := 3) (Nat.le_of_ble_eq_true rfl)
  rw [lg_entry_eq]
  generalize (lg_sl ([.ref Xx, .int zxa, .int zxb]) ++ List.replicate (3 - (lg_sl ([.ref Xx, .int zxa, .int zxb])).length) Slot.unset).toArray = ls at hl ⊢
  have hl : lv_has ls 3 [(0, .ref Xx), (1, .int zxa), (2, .int zxb)] := hl
  generalize hQ : MQ below _ _ s _ _ _ = Q
  generalize hH : s.heap = H at hP ⊢
  have hS : va_S A s.heap H [] := by rw [← hH]; exact hS
  clear hH
  refine lv_aload_n hx hb dX6_loss_0 rfl (lv_at hl 0 rfl) ?_
  refine va_get (D := D) (ci := 6) (v := .int 0) (C := RX6) (T := TX6) (N := 9) hx hb hts iX6 hown hK hP 0 rfl rfl 8 (by decide) f70 (fun _ h9 => h9) rfl dX6_loss_1 ?_
  refine lv_if_eq (tgt := 28) hx hb dX6_loss_4 (by decide) (fun _ => ?_) (fun cb => absurd (by decide) cb)
  refine lv_ldc (v := (-1000000)) hx hb hown k77 dX6_loss_28 ?_
  have hP9 := hP; have hD9 := hD
  subst hQ
  refine W.widen (k := 0) (n := 0) (Nat.le_of_ble_eq_true rfl) (Nat.le_of_ble_eq_true rfl) ?_
  exact W.iret (v := (-1000000)) hx hb hr (fun tS htS _ => ⟨⟨_, _, rfl, rfl, by rw [htS]; exact hP9, hD9⟩, hS.F htS⟩) hS.2.2 dX6_loss_30

set_option maxHeartbeats 4000000 in
set_option maxRecDepth 100000 in
theorem u_X6_fair (l : Launch) (D : va_G) (g : Nat → ClassId) (sz : Nat) (Xx : Nat) (zxa : Int32) (Tp : Nat) (tl : Nat) (Fr : Nat) (Rd : Nat) (Nn : Nat) (oNn : Nat) (Ts : Nat) (Ty : Nat) : Met l yX6_fair wsX6_fair ({ frames := 0, cells := 0, slots := 0, locals := 0 }) (va_Pc [.ref Xx, .int zxa] (pre D g sz [(Xx, .inr (6, [.ref Tp, .int (nI tl), .ref Fr, .ref Rd, .ref Nn, .ref oNn, .ref Ts, .ref Ty, .int 0]))])) (va_Qi (fun (r : Int32) (u : va_W) => u = [(Xx, .inr (6, [.ref Tp, .int (nI tl), .ref Fr, .ref Rd, .ref Nn, .ref oNn, .ref Ts, .ref Ty, .int 0]))]) (wd D (va_A [(Xx, .inr (6, [.ref Tp, .int (nI tl), .ref Fr, .ref Rd, .ref Nn, .ref oNn, .ref Ts, .ref Ty, .int 0]))] sz)) (va_A [(Xx, .inr (6, [.ref Tp, .int (nI tl), .ref Fr, .ref Rd, .ref Nn, .ref oNn, .ref Ts, .ref Ty, .int 0]))] sz)) 0 0 (va_A [(Xx, .inr (6, [.ref Tp, .int (nI tl), .ref Fr, .ref Rd, .ref Nn, .ref oNn, .ref Ts, .ref Ty, .int 0]))] sz) := by
  refine Met.ofW (cc := cX6_fair) (maxL := 6) (ret := (some .int)) (by decide) rfl ?_
  intro p e s m args below meth c s₁ B hml hv
  obtain ⟨rfl, hsz, hP, ⟨hK, hN⟩, hD0, hZ⟩ := hv
  have hx := B.exec
  have hb := B.bytes
  have hr := B.returns
  have hts := atoms_spec (ws := wsX6_fair) B.pre
  have hown : s.vm.findClass RX6 = some m.cls := findClass_of_methodNamed B.named
  have hlocks := B.notSynchronized
  clear B
  subst hsz
  have hD := hD0.self (sz := s.heap.size)
  clear hD0
  generalize hAe : va_A [(Xx, .inr (6, [.ref Tp, .int (nI tl), .ref Fr, .ref Rd, .ref Nn, .ref oNn, .ref Ts, .ref Ty, .int 0]))] s.heap.size = A at hD hZ ⊢
  have hA : ∀ q : Nat, s.heap.size ≤ q → A q := fun q h => by rw [← hAe]; exact Or.inr h
  have hS : va_S A s.heap s.heap [] := va_S.rf
  have f70 := hts (.fieldLink RX6 70 "HopCredits" "laid" "Z") (List.mem_of_getElem? (i := 1) rfl)
  have iX6 : ∀ w ∈ u_ws RX6 TX6 9, w ∈ wsX6_fair := fun w h => List.mem_cons_of_mem _ (List.mem_append_left _ (List.mem_append_left _ (List.mem_append_left _ (List.mem_append_left _ (List.mem_append_right _ (h))))))
  have hl := lv_entry ([.ref Xx, .int zxa]) (n := 6) (Nat.le_of_ble_eq_true rfl)
  rw [lg_entry_eq]
  generalize (lg_sl ([.ref Xx, .int zxa]) ++ List.replicate (6 - (lg_sl ([.ref Xx, .int zxa])).length) Slot.unset).toArray = ls at hl ⊢
  have hl : lv_has ls 6 [(0, .ref Xx), (1, .int zxa)] := hl
  generalize hQ : MQ below _ _ s _ _ _ = Q
  generalize hH : s.heap = H at hP ⊢
  have hS : va_S A s.heap H [] := by rw [← hH]; exact hS
  clear hH
  refine lv_aload_n hx hb dX6_fair_0 rfl (lv_at hl 0 rfl) ?_
  refine va_get (D := D) (ci := 6) (v := .int 0) (C := RX6) (T := TX6) (N := 9) hx hb hts iX6 hown hK hP 0 rfl rfl 8 (by decide) f70 (fun _ h9 => h9) rfl dX6_fair_1 ?_
  refine lv_if_eq (tgt := 18) hx hb dX6_fair_4 (by decide) (fun _ => ?_) (fun cb => absurd (by decide) cb)
  refine lv_iconst (v := (-1)) hx hb dX6_fair_18 (by decide) ?_
  have hP9 := hP; have hD9 := hD
  subst hQ
  refine W.widen (k := 0) (n := 0) (Nat.le_of_ble_eq_true rfl) (Nat.le_of_ble_eq_true rfl) ?_
  exact W.iret (v := (-1)) hx hb hr (fun tS htS _ => ⟨⟨_, _, rfl, rfl, by rw [htS]; exact hP9, hD9⟩, hS.F htS⟩) hS.2.2 dX6_fair_19

set_option maxHeartbeats 4000000 in
set_option maxRecDepth 100000 in
theorem u_X6_learns (l : Launch) (D : va_G) (g : Nat → ClassId) (sz : Nat) (Xx : Nat) (zxa : Int32) (zxb : Int32) (Tp : Nat) (tl : Nat) (Fr : Nat) (Rd : Nat) (Nn : Nat) (oNn : Nat) (Ts : Nat) (Ty : Nat) : Met l yX6_learns wsX6_learns ({ frames := 2, cells := 0, slots := 0, locals := 43 }) (va_Pc [.ref Xx, .int zxa, .int zxb] (pre D g sz [(Xx, .inr (6, [.ref Tp, .int (nI tl), .ref Fr, .ref Rd, .ref Nn, .ref oNn, .ref Ts, .ref Ty, .int 0]))])) (va_Qi (fun (r : Int32) (u : va_W) => u = [(Xx, .inr (6, [.ref Tp, .int (nI tl), .ref Fr, .ref Rd, .ref Nn, .ref oNn, .ref Ts, .ref Ty, .int 0]))]) (wd D (va_A [(Xx, .inr (6, [.ref Tp, .int (nI tl), .ref Fr, .ref Rd, .ref Nn, .ref oNn, .ref Ts, .ref Ty, .int 0]))] sz)) (va_A [(Xx, .inr (6, [.ref Tp, .int (nI tl), .ref Fr, .ref Rd, .ref Nn, .ref oNn, .ref Ts, .ref Ty, .int 0]))] sz)) 0 0 (va_A [(Xx, .inr (6, [.ref Tp, .int (nI tl), .ref Fr, .ref Rd, .ref Nn, .ref oNn, .ref Ts, .ref Ty, .int 0]))] sz) := by
  refine Met.ofW (cc := cX6_learns) (maxL := 6) (ret := (some .int)) (by decide) rfl ?_
  intro p e s m args below meth c s₁ B hml hv
  obtain ⟨rfl, hsz, hP, ⟨hK, hN⟩, hD0, hZ⟩ := hv
  have hx := B.exec
  have hb := B.bytes
  have hr := B.returns
  have hts := atoms_spec (ws := wsX6_learns) B.pre
  have hown : s.vm.findClass RX6 = some m.cls := findClass_of_methodNamed B.named
  have hlocks := B.notSynchronized
  clear B
  subst hsz
  have hD := hD0.self (sz := s.heap.size)
  clear hD0
  generalize hAe : va_A [(Xx, .inr (6, [.ref Tp, .int (nI tl), .ref Fr, .ref Rd, .ref Nn, .ref oNn, .ref Ts, .ref Ty, .int 0]))] s.heap.size = A at hD hZ ⊢
  have hA : ∀ q : Nat, s.heap.size ≤ q → A q := fun q h => by rw [← hAe]; exact Or.inr h
  have hS : va_S A s.heap s.heap [] := va_S.rf
  have hl := lv_entry ([.ref Xx, .int zxa, .int zxb]) (n := 6) (Nat.le_of_ble_eq_true rfl)
  rw [lg_entry_eq]
  generalize (lg_sl ([.ref Xx, .int zxa, .int zxb]) ++ List.replicate (6 - (lg_sl ([.ref Xx, .int zxa, .int zxb])).length) Slot.unset).toArray = ls at hl ⊢
  have hl : lv_has ls 6 [(0, .ref Xx), (1, .int zxa), (2, .int zxb)] := hl
  generalize hQ : MQ below _ _ s _ _ _ = Q
  generalize hH : s.heap = H at hP ⊢
  have hS : va_S A s.heap H [] := by rw [← hH]; exact hS
  clear hH
  refine lv_aload_n hx hb dX6_learns_0 rfl (lv_at hl 0 rfl) ?_
  refine lv_iload_n hx hb dX6_learns_1 rfl (lv_at hl 1 rfl) ?_
  refine lv_iload_n hx hb dX6_learns_2 rfl (lv_at hl 2 rfl) ?_
  refine ky_Vi (As := [.int zxa, .int zxb]) (rest := []) ⟨hx, hb, hml, hown, hts⟩ ⟨hK, hN⟩ hZ hP hD hS hA [0] [] (wc := [(Xx, .inr (6, [.ref Tp, .int (nI tl), .ref Fr, .ref Rd, .ref Nn, .ref oNn, .ref Ts, .ref Ty, .int 0]))]) (wr := []) rfl rfl rfl rfl (by decide) (u_X6_isLane l D g H.size Xx zxa zxb Tp tl Fr Rd Nn oNn Ts Ty) (cwV 2 hts gX6_learns_X6_isLane rfl rfl rfl (by decide +kernel) ⟨(Nat.le_of_ble_eq_true rfl), (Nat.le_of_ble_eq_true rfl)⟩) 0 6 rfl rfl rfl rfl hl.1 rfl (Nat.le_of_ble_eq_true rfl) dX6_learns_3 ⟨(Nat.le_of_ble_eq_true rfl), (Nat.le_of_ble_eq_true rfl)⟩ (fun r_1 u H locs hw hP2 hD2 hS2 => ?_)
  clear hP hD hS
  obtain ⟨rfl, rfl⟩ := hw
  have hPD : PD D A [(Xx, .inr (6, [.ref Tp, .int (nI tl), .ref Fr, .ref Rd, .ref Nn, .ref oNn, .ref Ts, .ref Ty, .int 0]))] H := ⟨hP2, hD2⟩
  have hS := hS2; clear hP2 hD2 hS2; have hP := hPD.1; have hD := hPD.2; clear hPD
  refine W.widen (k := 0) (n := 0) (Nat.le_of_ble_eq_true rfl) (Nat.le_of_ble_eq_true rfl) ?_
  refine lv_if_ne (tgt := 11) hx hb dX6_learns_6 (by decide) (fun cb => absurd (by decide) cb) (fun _ => ?_)
  refine lv_iconst (v := (-1)) hx hb dX6_learns_9 (by decide) ?_
  have hP9 := hP; have hD9 := hD
  subst hQ
  refine W.widen (k := 0) (n := 0) (Nat.le_of_ble_eq_true rfl) (Nat.le_of_ble_eq_true rfl) ?_
  exact W.iret (v := (-1)) hx hb hr (fun tS htS _ => ⟨⟨_, _, rfl, rfl, by rw [htS]; exact hP9, hD9⟩, hS.F htS⟩) hS.2.2 dX6_learns_10

set_option maxHeartbeats 4000000 in
set_option maxRecDepth 100000 in
theorem u_X6_stuck (l : Launch) (D : va_G) (g : Nat → ClassId) (sz : Nat) (Xx : Nat) (Tp : Nat) (tl : Nat) (Fr : Nat) (Rd : Nat) (Nn : Nat) (oNn : Nat) (Ts : Nat) (Ty : Nat) : Met l yX6_stuck wsX6_stuck ({ frames := 0, cells := 0, slots := 0, locals := 0 }) (va_Pc [.ref Xx] (pre D g sz [(Xx, .inr (6, [.ref Tp, .int (nI tl), .ref Fr, .ref Rd, .ref Nn, .ref oNn, .ref Ts, .ref Ty, .int 0]))])) (va_Qi (fun (r : Int32) (u : va_W) => u = [(Xx, .inr (6, [.ref Tp, .int (nI tl), .ref Fr, .ref Rd, .ref Nn, .ref oNn, .ref Ts, .ref Ty, .int 0]))]) (wd D (va_A [(Xx, .inr (6, [.ref Tp, .int (nI tl), .ref Fr, .ref Rd, .ref Nn, .ref oNn, .ref Ts, .ref Ty, .int 0]))] sz)) (va_A [(Xx, .inr (6, [.ref Tp, .int (nI tl), .ref Fr, .ref Rd, .ref Nn, .ref oNn, .ref Ts, .ref Ty, .int 0]))] sz)) 0 0 (va_A [(Xx, .inr (6, [.ref Tp, .int (nI tl), .ref Fr, .ref Rd, .ref Nn, .ref oNn, .ref Ts, .ref Ty, .int 0]))] sz) := by
  refine Met.ofW (cc := cX6_stuck) (maxL := 2) (ret := (some .boolean)) (by decide) rfl ?_
  intro p e s m args below meth c s₁ B hml hv
  obtain ⟨rfl, hsz, hP, ⟨hK, hN⟩, hD0, hZ⟩ := hv
  have hx := B.exec
  have hb := B.bytes
  have hr := B.returns
  have hts := atoms_spec (ws := wsX6_stuck) B.pre
  have hown : s.vm.findClass RX6 = some m.cls := findClass_of_methodNamed B.named
  have hlocks := B.notSynchronized
  clear B
  subst hsz
  have hD := hD0.self (sz := s.heap.size)
  clear hD0
  generalize hAe : va_A [(Xx, .inr (6, [.ref Tp, .int (nI tl), .ref Fr, .ref Rd, .ref Nn, .ref oNn, .ref Ts, .ref Ty, .int 0]))] s.heap.size = A at hD hZ ⊢
  have hA : ∀ q : Nat, s.heap.size ≤ q → A q := fun q h => by rw [← hAe]; exact Or.inr h
  have hS : va_S A s.heap s.heap [] := va_S.rf
  have f70 := hts (.fieldLink RX6 70 "HopCredits" "laid" "Z") (List.mem_of_getElem? (i := 1) rfl)
  have iX6 : ∀ w ∈ u_ws RX6 TX6 9, w ∈ wsX6_stuck := fun w h => List.mem_cons_of_mem _ (List.mem_append_left _ (List.mem_append_left _ (List.mem_append_left _ (List.mem_append_left _ (List.mem_append_right _ (h))))))
  have hl := lv_entry ([.ref Xx]) (n := 2) (Nat.le_of_ble_eq_true rfl)
  rw [lg_entry_eq]
  generalize (lg_sl ([.ref Xx]) ++ List.replicate (2 - (lg_sl ([.ref Xx])).length) Slot.unset).toArray = ls at hl ⊢
  have hl : lv_has ls 2 [(0, .ref Xx)] := hl
  generalize hQ : MQ below _ _ s _ _ _ = Q
  generalize hH : s.heap = H at hP ⊢
  have hS : va_S A s.heap H [] := by rw [← hH]; exact hS
  clear hH
  refine lv_aload_n hx hb dX6_stuck_0 rfl (lv_at hl 0 rfl) ?_
  refine va_get (D := D) (ci := 6) (v := .int 0) (C := RX6) (T := TX6) (N := 9) hx hb hts iX6 hown hK hP 0 rfl rfl 8 (by decide) f70 (fun _ h9 => h9) rfl dX6_stuck_1 ?_
  refine lv_if_eq (tgt := 17) hx hb dX6_stuck_4 (by decide) (fun _ => ?_) (fun cb => absurd (by decide) cb)
  refine lv_iconst (v := 0) hx hb dX6_stuck_17 (by decide) ?_
  have hP9 := hP; have hD9 := hD
  subst hQ
  refine W.widen (k := 0) (n := 0) (Nat.le_of_ble_eq_true rfl) (Nat.le_of_ble_eq_true rfl) ?_
  exact W.zret (v := 0) (ty := .boolean) hx hb hr (rfl) (fun tS htS _ => ⟨⟨_, _, rfl, rfl, by rw [htS]; exact hP9, hD9⟩, hS.F htS⟩) hS.2.2 dX6_stuck_18

set_option maxHeartbeats 4000000 in
set_option maxRecDepth 100000 in
theorem u_X6_bestZone (l : Launch) (D : va_G) (g : Nat → ClassId) (sz : Nat) (Xx : Nat) (zxa : Int32) (zxb : Int32) (zxc : Int32) (Tp : Nat) (tl : Nat) (Fr : Nat) (Rd : Nat) (Nn : Nat) (oNn : Nat) (Ts : Nat) (Ty : Nat) : Met l yX6_bestZone wsX6_bestZone ({ frames := 2, cells := 0, slots := 0, locals := 43 }) (va_Pc [.ref Xx, .int zxa, .int zxb, .int zxc] (pre D g sz [(Xx, .inr (6, [.ref Tp, .int (nI tl), .ref Fr, .ref Rd, .ref Nn, .ref oNn, .ref Ts, .ref Ty, .int 0]))])) (va_Qi (fun (r : Int32) (u : va_W) => u = [(Xx, .inr (6, [.ref Tp, .int (nI tl), .ref Fr, .ref Rd, .ref Nn, .ref oNn, .ref Ts, .ref Ty, .int 0]))]) (wd D (va_A [(Xx, .inr (6, [.ref Tp, .int (nI tl), .ref Fr, .ref Rd, .ref Nn, .ref oNn, .ref Ts, .ref Ty, .int 0]))] sz)) (va_A [(Xx, .inr (6, [.ref Tp, .int (nI tl), .ref Fr, .ref Rd, .ref Nn, .ref oNn, .ref Ts, .ref Ty, .int 0]))] sz)) 0 0 (va_A [(Xx, .inr (6, [.ref Tp, .int (nI tl), .ref Fr, .ref Rd, .ref Nn, .ref oNn, .ref Ts, .ref Ty, .int 0]))] sz) := by
  refine Met.ofW (cc := cX6_bestZone) (maxL := 9) (ret := (some .int)) (by decide) rfl ?_
  intro p e s m args below meth c s₁ B hml hv
  obtain ⟨rfl, hsz, hP, ⟨hK, hN⟩, hD0, hZ⟩ := hv
  have hx := B.exec
  have hb := B.bytes
  have hr := B.returns
  have hts := atoms_spec (ws := wsX6_bestZone) B.pre
  have hown : s.vm.findClass RX6 = some m.cls := findClass_of_methodNamed B.named
  have hlocks := B.notSynchronized
  clear B
  subst hsz
  have hD := hD0.self (sz := s.heap.size)
  clear hD0
  generalize hAe : va_A [(Xx, .inr (6, [.ref Tp, .int (nI tl), .ref Fr, .ref Rd, .ref Nn, .ref oNn, .ref Ts, .ref Ty, .int 0]))] s.heap.size = A at hD hZ ⊢
  have hA : ∀ q : Nat, s.heap.size ≤ q → A q := fun q h => by rw [← hAe]; exact Or.inr h
  have hS : va_S A s.heap s.heap [] := va_S.rf
  have hl := lv_entry ([.ref Xx, .int zxa, .int zxb, .int zxc]) (n := 9) (Nat.le_of_ble_eq_true rfl)
  rw [lg_entry_eq]
  generalize (lg_sl ([.ref Xx, .int zxa, .int zxb, .int zxc]) ++ List.replicate (9 - (lg_sl ([.ref Xx, .int zxa, .int zxb, .int zxc])).length) Slot.unset).toArray = ls at hl ⊢
  have hl : lv_has ls 9 [(0, .ref Xx), (1, .int zxa), (2, .int zxb), (3, .int zxc)] := hl
  generalize hQ : MQ below _ _ s _ _ _ = Q
  generalize hH : s.heap = H at hP ⊢
  have hS : va_S A s.heap H [] := by rw [← hH]; exact hS
  clear hH
  refine lv_aload_n hx hb dX6_bestZone_0 rfl (lv_at hl 0 rfl) ?_
  refine lv_iload_n hx hb dX6_bestZone_1 rfl (lv_at hl 1 rfl) ?_
  refine lv_iload_n hx hb dX6_bestZone_2 rfl (lv_at hl 2 rfl) ?_
  refine ky_Vi (As := [.int zxa, .int zxb]) (rest := []) ⟨hx, hb, hml, hown, hts⟩ ⟨hK, hN⟩ hZ hP hD hS hA [0] [] (wc := [(Xx, .inr (6, [.ref Tp, .int (nI tl), .ref Fr, .ref Rd, .ref Nn, .ref oNn, .ref Ts, .ref Ty, .int 0]))]) (wr := []) rfl rfl rfl rfl (by decide) (u_X6_isLane l D g H.size Xx zxa zxb Tp tl Fr Rd Nn oNn Ts Ty) (cwV 2 hts gX6_bestZone_X6_isLane rfl rfl rfl (by decide +kernel) ⟨(Nat.le_of_ble_eq_true rfl), (Nat.le_of_ble_eq_true rfl)⟩) 0 6 rfl rfl rfl rfl hl.1 rfl (Nat.le_of_ble_eq_true rfl) dX6_bestZone_3 ⟨(Nat.le_of_ble_eq_true rfl), (Nat.le_of_ble_eq_true rfl)⟩ (fun r_1 u H locs hw hP2 hD2 hS2 => ?_)
  clear hP hD hS
  obtain ⟨rfl, rfl⟩ := hw
  have hPD : PD D A [(Xx, .inr (6, [.ref Tp, .int (nI tl), .ref Fr, .ref Rd, .ref Nn, .ref oNn, .ref Ts, .ref Ty, .int 0]))] H := ⟨hP2, hD2⟩
  have hS := hS2; clear hP2 hD2 hS2; have hP := hPD.1; have hD := hPD.2; clear hPD
  refine W.widen (k := 0) (n := 0) (Nat.le_of_ble_eq_true rfl) (Nat.le_of_ble_eq_true rfl) ?_
  refine lv_if_eq (tgt := 19) hx hb dX6_bestZone_6 (by decide) (fun _ => ?_) (fun cb => absurd (by decide) cb)
  refine lv_iconst (v := (-1)) hx hb dX6_bestZone_19 (by decide) ?_
  have hP9 := hP; have hD9 := hD
  subst hQ
  refine W.widen (k := 0) (n := 0) (Nat.le_of_ble_eq_true rfl) (Nat.le_of_ble_eq_true rfl) ?_
  exact W.iret (v := (-1)) hx hb hr (fun tS htS _ => ⟨⟨_, _, rfl, rfl, by rw [htS]; exact hP9, hD9⟩, hS.F htS⟩) hS.2.2 dX6_bestZone_20

set_option maxHeartbeats 4000000 in
set_option maxRecDepth 100000 in
theorem u_X6_bears (l : Launch) (D : va_G) (g : Nat → ClassId) (sz : Nat) (Xx : Nat) (zxa : Int32) (Tp : Nat) (tl : Nat) (Fr : Nat) (Rd : Nat) (Nn : Nat) (oNn : Nat) (Ts : Nat) (Ty : Nat) : Met l yX6_bears wsX6_bears ({ frames := 0, cells := 0, slots := 0, locals := 0 }) (va_Pc [.ref Xx, .int zxa] (pre D g sz [(Xx, .inr (6, [.ref Tp, .int (nI tl), .ref Fr, .ref Rd, .ref Nn, .ref oNn, .ref Ts, .ref Ty, .int 0]))])) (va_Qi (fun (r : Int32) (u : va_W) => u = [(Xx, .inr (6, [.ref Tp, .int (nI tl), .ref Fr, .ref Rd, .ref Nn, .ref oNn, .ref Ts, .ref Ty, .int 0]))]) (wd D (va_A [(Xx, .inr (6, [.ref Tp, .int (nI tl), .ref Fr, .ref Rd, .ref Nn, .ref oNn, .ref Ts, .ref Ty, .int 0]))] sz)) (va_A [(Xx, .inr (6, [.ref Tp, .int (nI tl), .ref Fr, .ref Rd, .ref Nn, .ref oNn, .ref Ts, .ref Ty, .int 0]))] sz)) 0 0 (va_A [(Xx, .inr (6, [.ref Tp, .int (nI tl), .ref Fr, .ref Rd, .ref Nn, .ref oNn, .ref Ts, .ref Ty, .int 0]))] sz) := by
  refine Met.ofW (cc := cX6_bears) (maxL := 4) (ret := (some .int)) (by decide) rfl ?_
  intro p e s m args below meth c s₁ B hml hv
  obtain ⟨rfl, hsz, hP, ⟨hK, hN⟩, hD0, hZ⟩ := hv
  have hx := B.exec
  have hb := B.bytes
  have hr := B.returns
  have hts := atoms_spec (ws := wsX6_bears) B.pre
  have hown : s.vm.findClass RX6 = some m.cls := findClass_of_methodNamed B.named
  have hlocks := B.notSynchronized
  clear B
  subst hsz
  have hD := hD0.self (sz := s.heap.size)
  clear hD0
  generalize hAe : va_A [(Xx, .inr (6, [.ref Tp, .int (nI tl), .ref Fr, .ref Rd, .ref Nn, .ref oNn, .ref Ts, .ref Ty, .int 0]))] s.heap.size = A at hD hZ ⊢
  have hA : ∀ q : Nat, s.heap.size ≤ q → A q := fun q h => by rw [← hAe]; exact Or.inr h
  have hS : va_S A s.heap s.heap [] := va_S.rf
  have f70 := hts (.fieldLink RX6 70 "HopCredits" "laid" "Z") (List.mem_of_getElem? (i := 1) rfl)
  have iX6 : ∀ w ∈ u_ws RX6 TX6 9, w ∈ wsX6_bears := fun w h => List.mem_cons_of_mem _ (List.mem_append_left _ (List.mem_append_left _ (List.mem_append_left _ (List.mem_append_left _ (List.mem_append_right _ (h))))))
  have hl := lv_entry ([.ref Xx, .int zxa]) (n := 4) (Nat.le_of_ble_eq_true rfl)
  rw [lg_entry_eq]
  generalize (lg_sl ([.ref Xx, .int zxa]) ++ List.replicate (4 - (lg_sl ([.ref Xx, .int zxa])).length) Slot.unset).toArray = ls at hl ⊢
  have hl : lv_has ls 4 [(0, .ref Xx), (1, .int zxa)] := hl
  generalize hQ : MQ below _ _ s _ _ _ = Q
  generalize hH : s.heap = H at hP ⊢
  have hS : va_S A s.heap H [] := by rw [← hH]; exact hS
  clear hH
  refine lv_aload_n hx hb dX6_bears_0 rfl (lv_at hl 0 rfl) ?_
  refine va_get (D := D) (ci := 6) (v := .int 0) (C := RX6) (T := TX6) (N := 9) hx hb hts iX6 hown hK hP 0 rfl rfl 8 (by decide) f70 (fun _ h9 => h9) rfl dX6_bears_1 ?_
  refine lv_if_eq (tgt := 18) hx hb dX6_bears_4 (by decide) (fun _ => ?_) (fun cb => absurd (by decide) cb)
  refine lv_iconst (v := (-1)) hx hb dX6_bears_18 (by decide) ?_
  have hP9 := hP; have hD9 := hD
  subst hQ
  refine W.widen (k := 0) (n := 0) (Nat.le_of_ble_eq_true rfl) (Nat.le_of_ble_eq_true rfl) ?_
  exact W.iret (v := (-1)) hx hb hr (fun tS htS _ => ⟨⟨_, _, rfl, rfl, by rw [htS]; exact hP9, hD9⟩, hS.F htS⟩) hS.2.2 dX6_bears_19

set_option maxHeartbeats 4000000 in
set_option maxRecDepth 100000 in
theorem u_X6_waits (l : Launch) (D : va_G) (g : Nat → ClassId) (sz : Nat) (Xx : Nat) (zxa : Int32) (zxb : Int32) (zxc : Int32) (Tp : Nat) (tl : Nat) (Fr : Nat) (Rd : Nat) (Nn : Nat) (oNn : Nat) (Ts : Nat) (Ty : Nat) : Met l yX6_waits wsX6_waits ({ frames := 2, cells := 0, slots := 0, locals := 43 }) (va_Pc [.ref Xx, .int zxa, .int zxb, .int zxc] (pre D g sz [(Xx, .inr (6, [.ref Tp, .int (nI tl), .ref Fr, .ref Rd, .ref Nn, .ref oNn, .ref Ts, .ref Ty, .int 0]))])) (va_Qi (fun (r : Int32) (u : va_W) => u = [(Xx, .inr (6, [.ref Tp, .int (nI tl), .ref Fr, .ref Rd, .ref Nn, .ref oNn, .ref Ts, .ref Ty, .int 0]))]) (wd D (va_A [(Xx, .inr (6, [.ref Tp, .int (nI tl), .ref Fr, .ref Rd, .ref Nn, .ref oNn, .ref Ts, .ref Ty, .int 0]))] sz)) (va_A [(Xx, .inr (6, [.ref Tp, .int (nI tl), .ref Fr, .ref Rd, .ref Nn, .ref oNn, .ref Ts, .ref Ty, .int 0]))] sz)) 0 0 (va_A [(Xx, .inr (6, [.ref Tp, .int (nI tl), .ref Fr, .ref Rd, .ref Nn, .ref oNn, .ref Ts, .ref Ty, .int 0]))] sz) := by
  refine Met.ofW (cc := cX6_waits) (maxL := 4) (ret := (some .int)) (by decide) rfl ?_
  intro p e s m args below meth c s₁ B hml hv
  obtain ⟨rfl, hsz, hP, ⟨hK, hN⟩, hD0, hZ⟩ := hv
  have hx := B.exec
  have hb := B.bytes
  have hr := B.returns
  have hts := atoms_spec (ws := wsX6_waits) B.pre
  have hown : s.vm.findClass RX6 = some m.cls := findClass_of_methodNamed B.named
  have hlocks := B.notSynchronized
  clear B
  subst hsz
  have hD := hD0.self (sz := s.heap.size)
  clear hD0
  generalize hAe : va_A [(Xx, .inr (6, [.ref Tp, .int (nI tl), .ref Fr, .ref Rd, .ref Nn, .ref oNn, .ref Ts, .ref Ty, .int 0]))] s.heap.size = A at hD hZ ⊢
  have hA : ∀ q : Nat, s.heap.size ≤ q → A q := fun q h => by rw [← hAe]; exact Or.inr h
  have hS : va_S A s.heap s.heap [] := va_S.rf
  have hl := lv_entry ([.ref Xx, .int zxa, .int zxb, .int zxc]) (n := 4) (Nat.le_of_ble_eq_true rfl)
  rw [lg_entry_eq]
  generalize (lg_sl ([.ref Xx, .int zxa, .int zxb, .int zxc]) ++ List.replicate (4 - (lg_sl ([.ref Xx, .int zxa, .int zxb, .int zxc])).length) Slot.unset).toArray = ls at hl ⊢
  have hl : lv_has ls 4 [(0, .ref Xx), (1, .int zxa), (2, .int zxb), (3, .int zxc)] := hl
  generalize hQ : MQ below _ _ s _ _ _ = Q
  generalize hH : s.heap = H at hP ⊢
  have hS : va_S A s.heap H [] := by rw [← hH]; exact hS
  clear hH
  refine lv_aload_n hx hb dX6_waits_0 rfl (lv_at hl 0 rfl) ?_
  refine lv_iload_n hx hb dX6_waits_1 rfl (lv_at hl 1 rfl) ?_
  refine lv_iload_n hx hb dX6_waits_2 rfl (lv_at hl 2 rfl) ?_
  refine ky_Vi (As := [.int zxa, .int zxb]) (rest := []) ⟨hx, hb, hml, hown, hts⟩ ⟨hK, hN⟩ hZ hP hD hS hA [0] [] (wc := [(Xx, .inr (6, [.ref Tp, .int (nI tl), .ref Fr, .ref Rd, .ref Nn, .ref oNn, .ref Ts, .ref Ty, .int 0]))]) (wr := []) rfl rfl rfl rfl (by decide) (u_X6_isLane l D g H.size Xx zxa zxb Tp tl Fr Rd Nn oNn Ts Ty) (cwV 2 hts gX6_waits_X6_isLane rfl rfl rfl (by decide +kernel) ⟨(Nat.le_of_ble_eq_true rfl), (Nat.le_of_ble_eq_true rfl)⟩) 0 6 rfl rfl rfl rfl hl.1 rfl (Nat.le_of_ble_eq_true rfl) dX6_waits_3 ⟨(Nat.le_of_ble_eq_true rfl), (Nat.le_of_ble_eq_true rfl)⟩ (fun r_1 u H locs hw hP2 hD2 hS2 => ?_)
  clear hP hD hS
  obtain ⟨rfl, rfl⟩ := hw
  have hPD : PD D A [(Xx, .inr (6, [.ref Tp, .int (nI tl), .ref Fr, .ref Rd, .ref Nn, .ref oNn, .ref Ts, .ref Ty, .int 0]))] H := ⟨hP2, hD2⟩
  have hS := hS2; clear hP2 hD2 hS2; have hP := hPD.1; have hD := hPD.2; clear hPD
  refine W.widen (k := 0) (n := 0) (Nat.le_of_ble_eq_true rfl) (Nat.le_of_ble_eq_true rfl) ?_
  refine lv_if_eq (tgt := 20) hx hb dX6_waits_6 (by decide) (fun _ => ?_) (fun cb => absurd (by decide) cb)
  refine lv_iconst (v := (-1)) hx hb dX6_waits_20 (by decide) ?_
  have hP9 := hP; have hD9 := hD
  subst hQ
  refine W.widen (k := 0) (n := 0) (Nat.le_of_ble_eq_true rfl) (Nat.le_of_ble_eq_true rfl) ?_
  exact W.iret (v := (-1)) hx hb hr (fun tS htS _ => ⟨⟨_, _, rfl, rfl, by rw [htS]; exact hP9, hD9⟩, hS.F htS⟩) hS.2.2 dX6_waits_21

set_option maxHeartbeats 4000000 in
set_option maxRecDepth 100000 in
theorem u_X6_worst (l : Launch) (D : va_G) (g : Nat → ClassId) (sz : Nat) (Xx : Nat) (zxa : Int32) (zxb : Int32) (Tp : Nat) (tl : Nat) (Fr : Nat) (Rd : Nat) (Nn : Nat) (oNn : Nat) (Ts : Nat) (Ty : Nat) : Met l yX6_worst wsX6_worst ({ frames := 1, cells := 0, slots := 0, locals := 21 }) (va_Pc [.ref Xx, .int zxa, .int zxb] (pre D g sz [(Xx, .inr (6, [.ref Tp, .int (nI tl), .ref Fr, .ref Rd, .ref Nn, .ref oNn, .ref Ts, .ref Ty, .int 0]))])) (va_Qi (fun (r : Int32) (u : va_W) => u = [(Xx, .inr (6, [.ref Tp, .int (nI tl), .ref Fr, .ref Rd, .ref Nn, .ref oNn, .ref Ts, .ref Ty, .int 0]))]) (wd D (va_A [(Xx, .inr (6, [.ref Tp, .int (nI tl), .ref Fr, .ref Rd, .ref Nn, .ref oNn, .ref Ts, .ref Ty, .int 0]))] sz)) (va_A [(Xx, .inr (6, [.ref Tp, .int (nI tl), .ref Fr, .ref Rd, .ref Nn, .ref oNn, .ref Ts, .ref Ty, .int 0]))] sz)) 0 0 (va_A [(Xx, .inr (6, [.ref Tp, .int (nI tl), .ref Fr, .ref Rd, .ref Nn, .ref oNn, .ref Ts, .ref Ty, .int 0]))] sz) := by
  refine Met.ofW (cc := cX6_worst) (maxL := 6) (ret := (some .int)) (by decide) rfl ?_
  intro p e s m args below meth c s₁ B hml hv
  obtain ⟨rfl, hsz, hP, ⟨hK, hN⟩, hD0, hZ⟩ := hv
  have hx := B.exec
  have hb := B.bytes
  have hr := B.returns
  have hts := atoms_spec (ws := wsX6_worst) B.pre
  have hown : s.vm.findClass RX6 = some m.cls := findClass_of_methodNamed B.named
  have hlocks := B.notSynchronized
  clear B
  subst hsz
  have hD := hD0.self (sz := s.heap.size)
  clear hD0
  generalize hAe : va_A [(Xx, .inr (6, [.ref Tp, .int (nI tl), .ref Fr, .ref Rd, .ref Nn, .ref oNn, .ref Ts, .ref Ty, .int 0]))] s.heap.size = A at hD hZ ⊢
  have hA : ∀ q : Nat, s.heap.size ≤ q → A q := fun q h => by rw [← hAe]; exact Or.inr h
  have hS : va_S A s.heap s.heap [] := va_S.rf
  have hl := lv_entry ([.ref Xx, .int zxa, .int zxb]) (n := 6) (Nat.le_of_ble_eq_true rfl)
  rw [lg_entry_eq]
  generalize (lg_sl ([.ref Xx, .int zxa, .int zxb]) ++ List.replicate (6 - (lg_sl ([.ref Xx, .int zxa, .int zxb])).length) Slot.unset).toArray = ls at hl ⊢
  have hl : lv_has ls 6 [(0, .ref Xx), (1, .int zxa), (2, .int zxb)] := hl
  generalize hQ : MQ below _ _ s _ _ _ = Q
  generalize hH : s.heap = H at hP ⊢
  have hS : va_S A s.heap H [] := by rw [← hH]; exact hS
  clear hH
  refine lv_aload_n hx hb dX6_worst_0 rfl (lv_at hl 0 rfl) ?_
  refine lv_iload_n hx hb dX6_worst_1 rfl (lv_at hl 1 rfl) ?_
  refine ky_Vi (As := [.int zxa]) (rest := []) ⟨hx, hb, hml, hown, hts⟩ ⟨hK, hN⟩ hZ hP hD hS hA [0] [] (wc := [(Xx, .inr (6, [.ref Tp, .int (nI tl), .ref Fr, .ref Rd, .ref Nn, .ref oNn, .ref Ts, .ref Ty, .int 0]))]) (wr := []) rfl rfl rfl rfl (by decide) (u_X6_isCircuit l D g H.size Xx zxa Tp tl Fr Rd Nn oNn Ts Ty) (cwV 1 hts gX6_worst_X6_isCircuit rfl rfl rfl (by decide +kernel) ⟨(Nat.le_of_ble_eq_true rfl), (Nat.le_of_ble_eq_true rfl)⟩) 0 6 rfl rfl rfl rfl hl.1 rfl (Nat.le_of_ble_eq_true rfl) dX6_worst_2 ⟨(Nat.le_of_ble_eq_true rfl), (Nat.le_of_ble_eq_true rfl)⟩ (fun r_1 u H locs hw hP2 hD2 hS2 => ?_)
  clear hP hD hS
  obtain ⟨rfl, rfl⟩ := hw
  have hPD : PD D A [(Xx, .inr (6, [.ref Tp, .int (nI tl), .ref Fr, .ref Rd, .ref Nn, .ref oNn, .ref Ts, .ref Ty, .int 0]))] H := ⟨hP2, hD2⟩
  have hS := hS2; clear hP2 hD2 hS2; have hP := hPD.1; have hD := hPD.2; clear hPD
  refine W.widen (k := 0) (n := 0) (Nat.le_of_ble_eq_true rfl) (Nat.le_of_ble_eq_true rfl) ?_
  refine lv_if_eq (tgt := 19) hx hb dX6_worst_5 (by decide) (fun _ => ?_) (fun cb => absurd (by decide) cb)
  refine lv_iconst (v := (-1)) hx hb dX6_worst_19 (by decide) ?_
  have hP9 := hP; have hD9 := hD
  subst hQ
  refine W.widen (k := 0) (n := 0) (Nat.le_of_ble_eq_true rfl) (Nat.le_of_ble_eq_true rfl) ?_
  exact W.iret (v := (-1)) hx hb hr (fun tS htS _ => ⟨⟨_, _, rfl, rfl, by rw [htS]; exact hP9, hD9⟩, hS.F htS⟩) hS.2.2 dX6_worst_20

set_option maxHeartbeats 4000000 in
set_option maxRecDepth 100000 in
theorem u_X6_busiest (l : Launch) (D : va_G) (g : Nat → ClassId) (sz : Nat) (Xx : Nat) (zxa : Int32) (Tp : Nat) (tl : Nat) (Fr : Nat) (Rd : Nat) (Nn : Nat) (oNn : Nat) (Ts : Nat) (Ty : Nat) : Met l yX6_busiest wsX6_busiest ({ frames := 0, cells := 0, slots := 0, locals := 0 }) (va_Pc [.ref Xx, .int zxa] (pre D g sz [(Xx, .inr (6, [.ref Tp, .int (nI tl), .ref Fr, .ref Rd, .ref Nn, .ref oNn, .ref Ts, .ref Ty, .int 0]))])) (va_Qi (fun (r : Int32) (u : va_W) => u = [(Xx, .inr (6, [.ref Tp, .int (nI tl), .ref Fr, .ref Rd, .ref Nn, .ref oNn, .ref Ts, .ref Ty, .int 0]))]) (wd D (va_A [(Xx, .inr (6, [.ref Tp, .int (nI tl), .ref Fr, .ref Rd, .ref Nn, .ref oNn, .ref Ts, .ref Ty, .int 0]))] sz)) (va_A [(Xx, .inr (6, [.ref Tp, .int (nI tl), .ref Fr, .ref Rd, .ref Nn, .ref oNn, .ref Ts, .ref Ty, .int 0]))] sz)) 0 0 (va_A [(Xx, .inr (6, [.ref Tp, .int (nI tl), .ref Fr, .ref Rd, .ref Nn, .ref oNn, .ref Ts, .ref Ty, .int 0]))] sz) := by
  refine Met.ofW (cc := cX6_busiest) (maxL := 4) (ret := (some .int)) (by decide) rfl ?_
  intro p e s m args below meth c s₁ B hml hv
  obtain ⟨rfl, hsz, hP, ⟨hK, hN⟩, hD0, hZ⟩ := hv
  have hx := B.exec
  have hb := B.bytes
  have hr := B.returns
  have hts := atoms_spec (ws := wsX6_busiest) B.pre
  have hown : s.vm.findClass RX6 = some m.cls := findClass_of_methodNamed B.named
  have hlocks := B.notSynchronized
  clear B
  subst hsz
  have hD := hD0.self (sz := s.heap.size)
  clear hD0
  generalize hAe : va_A [(Xx, .inr (6, [.ref Tp, .int (nI tl), .ref Fr, .ref Rd, .ref Nn, .ref oNn, .ref Ts, .ref Ty, .int 0]))] s.heap.size = A at hD hZ ⊢
  have hA : ∀ q : Nat, s.heap.size ≤ q → A q := fun q h => by rw [← hAe]; exact Or.inr h
  have hS : va_S A s.heap s.heap [] := va_S.rf
  have f70 := hts (.fieldLink RX6 70 "HopCredits" "laid" "Z") (List.mem_of_getElem? (i := 1) rfl)
  have iX6 : ∀ w ∈ u_ws RX6 TX6 9, w ∈ wsX6_busiest := fun w h => List.mem_cons_of_mem _ (List.mem_append_left _ (List.mem_append_left _ (List.mem_append_left _ (List.mem_append_left _ (List.mem_append_right _ (h))))))
  have hl := lv_entry ([.ref Xx, .int zxa]) (n := 4) (Nat.le_of_ble_eq_true rfl)
  rw [lg_entry_eq]
  generalize (lg_sl ([.ref Xx, .int zxa]) ++ List.replicate (4 - (lg_sl ([.ref Xx, .int zxa])).length) Slot.unset).toArray = ls at hl ⊢
  have hl : lv_has ls 4 [(0, .ref Xx), (1, .int zxa)] := hl
  generalize hQ : MQ below _ _ s _ _ _ = Q
  generalize hH : s.heap = H at hP ⊢
  have hS : va_S A s.heap H [] := by rw [← hH]; exact hS
  clear hH
  refine lv_aload_n hx hb dX6_busiest_0 rfl (lv_at hl 0 rfl) ?_
  refine va_get (D := D) (ci := 6) (v := .int 0) (C := RX6) (T := TX6) (N := 9) hx hb hts iX6 hown hK hP 0 rfl rfl 8 (by decide) f70 (fun _ h9 => h9) rfl dX6_busiest_1 ?_
  refine lv_if_eq (tgt := 18) hx hb dX6_busiest_4 (by decide) (fun _ => ?_) (fun cb => absurd (by decide) cb)
  refine lv_iconst (v := (-1)) hx hb dX6_busiest_18 (by decide) ?_
  have hP9 := hP; have hD9 := hD
  subst hQ
  refine W.widen (k := 0) (n := 0) (Nat.le_of_ble_eq_true rfl) (Nat.le_of_ble_eq_true rfl) ?_
  exact W.iret (v := (-1)) hx hb hr (fun tS htS _ => ⟨⟨_, _, rfl, rfl, by rw [htS]; exact hP9, hD9⟩, hS.F htS⟩) hS.2.2 dX6_busiest_19

set_option maxHeartbeats 4000000 in
set_option maxRecDepth 100000 in
theorem u_X6_aim (l : Launch) (D : va_G) (g : Nat → ClassId) (sz : Nat) (Xx : Nat) (zxa : Int32) (zxb : Int32) (Tp : Nat) (tl : Nat) (Fr : Nat) (Rd : Nat) (Nn : Nat) (oNn : Nat) (Ts : Nat) (Ty : Nat) : Met l yX6_aim wsX6_aim ({ frames := 2, cells := 0, slots := 0, locals := 43 }) (va_Pc [.ref Xx, .int zxa, .int zxb] (pre D g sz [(Xx, .inr (6, [.ref Tp, .int (nI tl), .ref Fr, .ref Rd, .ref Nn, .ref oNn, .ref Ts, .ref Ty, .int 0]))])) (va_Qi (fun (r : Int32) (u : va_W) => u = [(Xx, .inr (6, [.ref Tp, .int (nI tl), .ref Fr, .ref Rd, .ref Nn, .ref oNn, .ref Ts, .ref Ty, .int 0]))]) (wd D (va_A [(Xx, .inr (6, [.ref Tp, .int (nI tl), .ref Fr, .ref Rd, .ref Nn, .ref oNn, .ref Ts, .ref Ty, .int 0]))] sz)) (va_A [(Xx, .inr (6, [.ref Tp, .int (nI tl), .ref Fr, .ref Rd, .ref Nn, .ref oNn, .ref Ts, .ref Ty, .int 0]))] sz)) 0 0 (va_A [(Xx, .inr (6, [.ref Tp, .int (nI tl), .ref Fr, .ref Rd, .ref Nn, .ref oNn, .ref Ts, .ref Ty, .int 0]))] sz) := by
  refine Met.ofW (cc := cX6_aim) (maxL := 3) (ret := (some .int)) (by decide) rfl ?_
  intro p e s m args below meth c s₁ B hml hv
  obtain ⟨rfl, hsz, hP, ⟨hK, hN⟩, hD0, hZ⟩ := hv
  have hx := B.exec
  have hb := B.bytes
  have hr := B.returns
  have hts := atoms_spec (ws := wsX6_aim) B.pre
  have hown : s.vm.findClass RX6 = some m.cls := findClass_of_methodNamed B.named
  have hlocks := B.notSynchronized
  clear B
  subst hsz
  have hD := hD0.self (sz := s.heap.size)
  clear hD0
  generalize hAe : va_A [(Xx, .inr (6, [.ref Tp, .int (nI tl), .ref Fr, .ref Rd, .ref Nn, .ref oNn, .ref Ts, .ref Ty, .int 0]))] s.heap.size = A at hD hZ ⊢
  have hA : ∀ q : Nat, s.heap.size ≤ q → A q := fun q h => by rw [← hAe]; exact Or.inr h
  have hS : va_S A s.heap s.heap [] := va_S.rf
  have hl := lv_entry ([.ref Xx, .int zxa, .int zxb]) (n := 3) (Nat.le_of_ble_eq_true rfl)
  rw [lg_entry_eq]
  generalize (lg_sl ([.ref Xx, .int zxa, .int zxb]) ++ List.replicate (3 - (lg_sl ([.ref Xx, .int zxa, .int zxb])).length) Slot.unset).toArray = ls at hl ⊢
  have hl : lv_has ls 3 [(0, .ref Xx), (1, .int zxa), (2, .int zxb)] := hl
  generalize hQ : MQ below _ _ s _ _ _ = Q
  generalize hH : s.heap = H at hP ⊢
  have hS : va_S A s.heap H [] := by rw [← hH]; exact hS
  clear hH
  refine lv_aload_n hx hb dX6_aim_0 rfl (lv_at hl 0 rfl) ?_
  refine lv_iload_n hx hb dX6_aim_1 rfl (lv_at hl 1 rfl) ?_
  refine lv_iload_n hx hb dX6_aim_2 rfl (lv_at hl 2 rfl) ?_
  refine ky_Vi (As := [.int zxa, .int zxb]) (rest := []) ⟨hx, hb, hml, hown, hts⟩ ⟨hK, hN⟩ hZ hP hD hS hA [0] [] (wc := [(Xx, .inr (6, [.ref Tp, .int (nI tl), .ref Fr, .ref Rd, .ref Nn, .ref oNn, .ref Ts, .ref Ty, .int 0]))]) (wr := []) rfl rfl rfl rfl (by decide) (u_X6_isLane l D g H.size Xx zxa zxb Tp tl Fr Rd Nn oNn Ts Ty) (cwV 2 hts gX6_aim_X6_isLane rfl rfl rfl (by decide +kernel) ⟨(Nat.le_of_ble_eq_true rfl), (Nat.le_of_ble_eq_true rfl)⟩) 0 6 rfl rfl rfl rfl hl.1 rfl (Nat.le_of_ble_eq_true rfl) dX6_aim_3 ⟨(Nat.le_of_ble_eq_true rfl), (Nat.le_of_ble_eq_true rfl)⟩ (fun r_1 u H locs hw hP2 hD2 hS2 => ?_)
  clear hP hD hS
  obtain ⟨rfl, rfl⟩ := hw
  have hPD : PD D A [(Xx, .inr (6, [.ref Tp, .int (nI tl), .ref Fr, .ref Rd, .ref Nn, .ref oNn, .ref Ts, .ref Ty, .int 0]))] H := ⟨hP2, hD2⟩
  have hS := hS2; clear hP2 hD2 hS2; have hP := hPD.1; have hD := hPD.2; clear hPD
  refine W.widen (k := 0) (n := 0) (Nat.le_of_ble_eq_true rfl) (Nat.le_of_ble_eq_true rfl) ?_
  refine lv_if_eq (tgt := 29) hx hb dX6_aim_6 (by decide) (fun _ => ?_) (fun cb => absurd (by decide) cb)
  refine lv_iconst (v := (-1)) hx hb dX6_aim_29 (by decide) ?_
  have hP9 := hP; have hD9 := hD
  subst hQ
  refine W.widen (k := 0) (n := 0) (Nat.le_of_ble_eq_true rfl) (Nat.le_of_ble_eq_true rfl) ?_
  exact W.iret (v := (-1)) hx hb hr (fun tS htS _ => ⟨⟨_, _, rfl, rfl, by rw [htS]; exact hP9, hD9⟩, hS.F htS⟩) hS.2.2 dX6_aim_30

set_option maxHeartbeats 4000000 in
set_option maxRecDepth 100000 in
theorem u_X6_room (l : Launch) (D : va_G) (g : Nat → ClassId) (sz : Nat) (Xx : Nat) (zxa : Int32) (zxb : Int32) (Tp : Nat) (tl : Nat) (Fr : Nat) (Rd : Nat) (Nn : Nat) (oNn : Nat) (Ts : Nat) (Ty : Nat) : Met l yX6_room wsX6_room ({ frames := 2, cells := 0, slots := 0, locals := 43 }) (va_Pc [.ref Xx, .int zxa, .int zxb] (pre D g sz [(Xx, .inr (6, [.ref Tp, .int (nI tl), .ref Fr, .ref Rd, .ref Nn, .ref oNn, .ref Ts, .ref Ty, .int 0]))])) (va_Qi (fun (r : Int32) (u : va_W) => u = [(Xx, .inr (6, [.ref Tp, .int (nI tl), .ref Fr, .ref Rd, .ref Nn, .ref oNn, .ref Ts, .ref Ty, .int 0]))]) (wd D (va_A [(Xx, .inr (6, [.ref Tp, .int (nI tl), .ref Fr, .ref Rd, .ref Nn, .ref oNn, .ref Ts, .ref Ty, .int 0]))] sz)) (va_A [(Xx, .inr (6, [.ref Tp, .int (nI tl), .ref Fr, .ref Rd, .ref Nn, .ref oNn, .ref Ts, .ref Ty, .int 0]))] sz)) 0 0 (va_A [(Xx, .inr (6, [.ref Tp, .int (nI tl), .ref Fr, .ref Rd, .ref Nn, .ref oNn, .ref Ts, .ref Ty, .int 0]))] sz) := by
  refine Met.ofW (cc := cX6_room) (maxL := 3) (ret := (some .int)) (by decide) rfl ?_
  intro p e s m args below meth c s₁ B hml hv
  obtain ⟨rfl, hsz, hP, ⟨hK, hN⟩, hD0, hZ⟩ := hv
  have hx := B.exec
  have hb := B.bytes
  have hr := B.returns
  have hts := atoms_spec (ws := wsX6_room) B.pre
  have hown : s.vm.findClass RX6 = some m.cls := findClass_of_methodNamed B.named
  have hlocks := B.notSynchronized
  clear B
  subst hsz
  have hD := hD0.self (sz := s.heap.size)
  clear hD0
  generalize hAe : va_A [(Xx, .inr (6, [.ref Tp, .int (nI tl), .ref Fr, .ref Rd, .ref Nn, .ref oNn, .ref Ts, .ref Ty, .int 0]))] s.heap.size = A at hD hZ ⊢
  have hA : ∀ q : Nat, s.heap.size ≤ q → A q := fun q h => by rw [← hAe]; exact Or.inr h
  have hS : va_S A s.heap s.heap [] := va_S.rf
  have hl := lv_entry ([.ref Xx, .int zxa, .int zxb]) (n := 3) (Nat.le_of_ble_eq_true rfl)
  rw [lg_entry_eq]
  generalize (lg_sl ([.ref Xx, .int zxa, .int zxb]) ++ List.replicate (3 - (lg_sl ([.ref Xx, .int zxa, .int zxb])).length) Slot.unset).toArray = ls at hl ⊢
  have hl : lv_has ls 3 [(0, .ref Xx), (1, .int zxa), (2, .int zxb)] := hl
  generalize hQ : MQ below _ _ s _ _ _ = Q
  generalize hH : s.heap = H at hP ⊢
  have hS : va_S A s.heap H [] := by rw [← hH]; exact hS
  clear hH
  refine lv_aload_n hx hb dX6_room_0 rfl (lv_at hl 0 rfl) ?_
  refine lv_iload_n hx hb dX6_room_1 rfl (lv_at hl 1 rfl) ?_
  refine lv_iload_n hx hb dX6_room_2 rfl (lv_at hl 2 rfl) ?_
  refine ky_Vi (As := [.int zxa, .int zxb]) (rest := []) ⟨hx, hb, hml, hown, hts⟩ ⟨hK, hN⟩ hZ hP hD hS hA [0] [] (wc := [(Xx, .inr (6, [.ref Tp, .int (nI tl), .ref Fr, .ref Rd, .ref Nn, .ref oNn, .ref Ts, .ref Ty, .int 0]))]) (wr := []) rfl rfl rfl rfl (by decide) (u_X6_isLane l D g H.size Xx zxa zxb Tp tl Fr Rd Nn oNn Ts Ty) (cwV 2 hts gX6_room_X6_isLane rfl rfl rfl (by decide +kernel) ⟨(Nat.le_of_ble_eq_true rfl), (Nat.le_of_ble_eq_true rfl)⟩) 0 6 rfl rfl rfl rfl hl.1 rfl (Nat.le_of_ble_eq_true rfl) dX6_room_3 ⟨(Nat.le_of_ble_eq_true rfl), (Nat.le_of_ble_eq_true rfl)⟩ (fun r_1 u H locs hw hP2 hD2 hS2 => ?_)
  clear hP hD hS
  obtain ⟨rfl, rfl⟩ := hw
  have hPD : PD D A [(Xx, .inr (6, [.ref Tp, .int (nI tl), .ref Fr, .ref Rd, .ref Nn, .ref oNn, .ref Ts, .ref Ty, .int 0]))] H := ⟨hP2, hD2⟩
  have hS := hS2; clear hP2 hD2 hS2; have hP := hPD.1; have hD := hPD.2; clear hPD
  refine W.widen (k := 0) (n := 0) (Nat.le_of_ble_eq_true rfl) (Nat.le_of_ble_eq_true rfl) ?_
  refine lv_if_eq (tgt := 18) hx hb dX6_room_6 (by decide) (fun _ => ?_) (fun cb => absurd (by decide) cb)
  refine lv_iconst (v := (-1)) hx hb dX6_room_18 (by decide) ?_
  have hP9 := hP; have hD9 := hD
  subst hQ
  refine W.widen (k := 0) (n := 0) (Nat.le_of_ble_eq_true rfl) (Nat.le_of_ble_eq_true rfl) ?_
  exact W.iret (v := (-1)) hx hb hr (fun tS htS _ => ⟨⟨_, _, rfl, rfl, by rw [htS]; exact hP9, hD9⟩, hS.F htS⟩) hS.2.2 dX6_room_19

set_option maxHeartbeats 4000000 in
set_option maxRecDepth 100000 in
theorem u_X6_trip (l : Launch) (D : va_G) (g : Nat → ClassId) (sz : Nat) (Xx : Nat) (zxa : Int32) (zxb : Int32) (Tp : Nat) (tl : Nat) (Fr : Nat) (Rd : Nat) (Nn : Nat) (oNn : Nat) (Ts : Nat) (Ty : Nat) : Met l yX6_trip wsX6_trip ({ frames := 1, cells := 0, slots := 0, locals := 21 }) (va_Pc [.ref Xx, .int zxa, .int zxb] (pre D g sz [(Xx, .inr (6, [.ref Tp, .int (nI tl), .ref Fr, .ref Rd, .ref Nn, .ref oNn, .ref Ts, .ref Ty, .int 0]))])) (va_Qi (fun (r : Int32) (u : va_W) => u = [(Xx, .inr (6, [.ref Tp, .int (nI tl), .ref Fr, .ref Rd, .ref Nn, .ref oNn, .ref Ts, .ref Ty, .int 0]))]) (wd D (va_A [(Xx, .inr (6, [.ref Tp, .int (nI tl), .ref Fr, .ref Rd, .ref Nn, .ref oNn, .ref Ts, .ref Ty, .int 0]))] sz)) (va_A [(Xx, .inr (6, [.ref Tp, .int (nI tl), .ref Fr, .ref Rd, .ref Nn, .ref oNn, .ref Ts, .ref Ty, .int 0]))] sz)) 0 0 (va_A [(Xx, .inr (6, [.ref Tp, .int (nI tl), .ref Fr, .ref Rd, .ref Nn, .ref oNn, .ref Ts, .ref Ty, .int 0]))] sz) := by
  refine Met.ofW (cc := cX6_trip) (maxL := 3) (ret := (some .int)) (by decide) rfl ?_
  intro p e s m args below meth c s₁ B hml hv
  obtain ⟨rfl, hsz, hP, ⟨hK, hN⟩, hD0, hZ⟩ := hv
  have hx := B.exec
  have hb := B.bytes
  have hr := B.returns
  have hts := atoms_spec (ws := wsX6_trip) B.pre
  have hown : s.vm.findClass RX6 = some m.cls := findClass_of_methodNamed B.named
  have hlocks := B.notSynchronized
  clear B
  subst hsz
  have hD := hD0.self (sz := s.heap.size)
  clear hD0
  generalize hAe : va_A [(Xx, .inr (6, [.ref Tp, .int (nI tl), .ref Fr, .ref Rd, .ref Nn, .ref oNn, .ref Ts, .ref Ty, .int 0]))] s.heap.size = A at hD hZ ⊢
  have hA : ∀ q : Nat, s.heap.size ≤ q → A q := fun q h => by rw [← hAe]; exact Or.inr h
  have hS : va_S A s.heap s.heap [] := va_S.rf
  have hl := lv_entry ([.ref Xx, .int zxa, .int zxb]) (n := 3) (Nat.le_of_ble_eq_true rfl)
  rw [lg_entry_eq]
  generalize (lg_sl ([.ref Xx, .int zxa, .int zxb]) ++ List.replicate (3 - (lg_sl ([.ref Xx, .int zxa, .int zxb])).length) Slot.unset).toArray = ls at hl ⊢
  have hl : lv_has ls 3 [(0, .ref Xx), (1, .int zxa), (2, .int zxb)] := hl
  generalize hQ : MQ below _ _ s _ _ _ = Q
  generalize hH : s.heap = H at hP ⊢
  have hS : va_S A s.heap H [] := by rw [← hH]; exact hS
  clear hH
  refine lv_aload_n hx hb dX6_trip_0 rfl (lv_at hl 0 rfl) ?_
  refine lv_iload_n hx hb dX6_trip_1 rfl (lv_at hl 1 rfl) ?_
  refine ky_Vi (As := [.int zxa]) (rest := []) ⟨hx, hb, hml, hown, hts⟩ ⟨hK, hN⟩ hZ hP hD hS hA [0] [] (wc := [(Xx, .inr (6, [.ref Tp, .int (nI tl), .ref Fr, .ref Rd, .ref Nn, .ref oNn, .ref Ts, .ref Ty, .int 0]))]) (wr := []) rfl rfl rfl rfl (by decide) (u_X6_isCircuit l D g H.size Xx zxa Tp tl Fr Rd Nn oNn Ts Ty) (cwV 1 hts gX6_trip_X6_isCircuit rfl rfl rfl (by decide +kernel) ⟨(Nat.le_of_ble_eq_true rfl), (Nat.le_of_ble_eq_true rfl)⟩) 0 6 rfl rfl rfl rfl hl.1 rfl (Nat.le_of_ble_eq_true rfl) dX6_trip_2 ⟨(Nat.le_of_ble_eq_true rfl), (Nat.le_of_ble_eq_true rfl)⟩ (fun r_1 u H locs hw hP2 hD2 hS2 => ?_)
  clear hP hD hS
  obtain ⟨rfl, rfl⟩ := hw
  have hPD : PD D A [(Xx, .inr (6, [.ref Tp, .int (nI tl), .ref Fr, .ref Rd, .ref Nn, .ref oNn, .ref Ts, .ref Ty, .int 0]))] H := ⟨hP2, hD2⟩
  have hS := hS2; clear hP2 hD2 hS2; have hP := hPD.1; have hD := hPD.2; clear hPD
  refine W.widen (k := 0) (n := 0) (Nat.le_of_ble_eq_true rfl) (Nat.le_of_ble_eq_true rfl) ?_
  refine lv_if_eq (tgt := 23) hx hb dX6_trip_5 (by decide) (fun _ => ?_) (fun cb => absurd (by decide) cb)
  refine lv_iconst (v := (-1)) hx hb dX6_trip_23 (by decide) ?_
  have hP9 := hP; have hD9 := hD
  subst hQ
  refine W.widen (k := 0) (n := 0) (Nat.le_of_ble_eq_true rfl) (Nat.le_of_ble_eq_true rfl) ?_
  exact W.iret (v := (-1)) hx hb hr (fun tS htS _ => ⟨⟨_, _, rfl, rfl, by rw [htS]; exact hP9, hD9⟩, hS.F htS⟩) hS.2.2 dX6_trip_24

set_option maxHeartbeats 4000000 in
set_option maxRecDepth 100000 in
theorem u_X6_oldest (l : Launch) (D : va_G) (g : Nat → ClassId) (sz : Nat) (Xx : Nat) (zxa : Int32) (Tp : Nat) (tl : Nat) (Fr : Nat) (Rd : Nat) (Nn : Nat) (oNn : Nat) (Ts : Nat) (Ty : Nat) : Met l yX6_oldest wsX6_oldest ({ frames := 1, cells := 0, slots := 0, locals := 21 }) (va_Pc [.ref Xx, .int zxa] (pre D g sz [(Xx, .inr (6, [.ref Tp, .int (nI tl), .ref Fr, .ref Rd, .ref Nn, .ref oNn, .ref Ts, .ref Ty, .int 0]))])) (va_Qi (fun (r : Int32) (u : va_W) => u = [(Xx, .inr (6, [.ref Tp, .int (nI tl), .ref Fr, .ref Rd, .ref Nn, .ref oNn, .ref Ts, .ref Ty, .int 0]))]) (wd D (va_A [(Xx, .inr (6, [.ref Tp, .int (nI tl), .ref Fr, .ref Rd, .ref Nn, .ref oNn, .ref Ts, .ref Ty, .int 0]))] sz)) (va_A [(Xx, .inr (6, [.ref Tp, .int (nI tl), .ref Fr, .ref Rd, .ref Nn, .ref oNn, .ref Ts, .ref Ty, .int 0]))] sz)) 0 0 (va_A [(Xx, .inr (6, [.ref Tp, .int (nI tl), .ref Fr, .ref Rd, .ref Nn, .ref oNn, .ref Ts, .ref Ty, .int 0]))] sz) := by
  refine Met.ofW (cc := cX6_oldest) (maxL := 2) (ret := (some .int)) (by decide) rfl ?_
  intro p e s m args below meth c s₁ B hml hv
  obtain ⟨rfl, hsz, hP, ⟨hK, hN⟩, hD0, hZ⟩ := hv
  have hx := B.exec
  have hb := B.bytes
  have hr := B.returns
  have hts := atoms_spec (ws := wsX6_oldest) B.pre
  have hown : s.vm.findClass RX6 = some m.cls := findClass_of_methodNamed B.named
  have hlocks := B.notSynchronized
  clear B
  subst hsz
  have hD := hD0.self (sz := s.heap.size)
  clear hD0
  generalize hAe : va_A [(Xx, .inr (6, [.ref Tp, .int (nI tl), .ref Fr, .ref Rd, .ref Nn, .ref oNn, .ref Ts, .ref Ty, .int 0]))] s.heap.size = A at hD hZ ⊢
  have hA : ∀ q : Nat, s.heap.size ≤ q → A q := fun q h => by rw [← hAe]; exact Or.inr h
  have hS : va_S A s.heap s.heap [] := va_S.rf
  have hl := lv_entry ([.ref Xx, .int zxa]) (n := 2) (Nat.le_of_ble_eq_true rfl)
  rw [lg_entry_eq]
  generalize (lg_sl ([.ref Xx, .int zxa]) ++ List.replicate (2 - (lg_sl ([.ref Xx, .int zxa])).length) Slot.unset).toArray = ls at hl ⊢
  have hl : lv_has ls 2 [(0, .ref Xx), (1, .int zxa)] := hl
  generalize hQ : MQ below _ _ s _ _ _ = Q
  generalize hH : s.heap = H at hP ⊢
  have hS : va_S A s.heap H [] := by rw [← hH]; exact hS
  clear hH
  refine lv_aload_n hx hb dX6_oldest_0 rfl (lv_at hl 0 rfl) ?_
  refine lv_iload_n hx hb dX6_oldest_1 rfl (lv_at hl 1 rfl) ?_
  refine ky_Vi (As := [.int zxa]) (rest := []) ⟨hx, hb, hml, hown, hts⟩ ⟨hK, hN⟩ hZ hP hD hS hA [0] [] (wc := [(Xx, .inr (6, [.ref Tp, .int (nI tl), .ref Fr, .ref Rd, .ref Nn, .ref oNn, .ref Ts, .ref Ty, .int 0]))]) (wr := []) rfl rfl rfl rfl (by decide) (u_X6_isCircuit l D g H.size Xx zxa Tp tl Fr Rd Nn oNn Ts Ty) (cwV 1 hts gX6_oldest_X6_isCircuit rfl rfl rfl (by decide +kernel) ⟨(Nat.le_of_ble_eq_true rfl), (Nat.le_of_ble_eq_true rfl)⟩) 0 6 rfl rfl rfl rfl hl.1 rfl (Nat.le_of_ble_eq_true rfl) dX6_oldest_2 ⟨(Nat.le_of_ble_eq_true rfl), (Nat.le_of_ble_eq_true rfl)⟩ (fun r_1 u H locs hw hP2 hD2 hS2 => ?_)
  clear hP hD hS
  obtain ⟨rfl, rfl⟩ := hw
  have hPD : PD D A [(Xx, .inr (6, [.ref Tp, .int (nI tl), .ref Fr, .ref Rd, .ref Nn, .ref oNn, .ref Ts, .ref Ty, .int 0]))] H := ⟨hP2, hD2⟩
  have hS := hS2; clear hP2 hD2 hS2; have hP := hPD.1; have hD := hPD.2; clear hPD
  refine W.widen (k := 0) (n := 0) (Nat.le_of_ble_eq_true rfl) (Nat.le_of_ble_eq_true rfl) ?_
  refine lv_if_eq (tgt := 20) hx hb dX6_oldest_5 (by decide) (fun _ => ?_) (fun cb => absurd (by decide) cb)
  refine lv_iconst (v := (-1)) hx hb dX6_oldest_20 (by decide) ?_
  have hP9 := hP; have hD9 := hD
  subst hQ
  refine W.widen (k := 0) (n := 0) (Nat.le_of_ble_eq_true rfl) (Nat.le_of_ble_eq_true rfl) ?_
  exact W.iret (v := (-1)) hx hb hr (fun tS htS _ => ⟨⟨_, _, rfl, rfl, by rw [htS]; exact hP9, hD9⟩, hS.F htS⟩) hS.2.2 dX6_oldest_21

set_option maxHeartbeats 4000000 in
set_option maxRecDepth 100000 in
theorem u_X6_count (l : Launch) (D : va_G) (g : Nat → ClassId) (sz : Nat) (Xx : Nat) (zxa : Int32) (Tp : Nat) (tl : Nat) (Fr : Nat) (Rd : Nat) (Nn : Nat) (oNn : Nat) (Ts : Nat) (Ty : Nat) : Met l yX6_count wsX6_count ({ frames := 0, cells := 0, slots := 0, locals := 0 }) (va_Pc [.ref Xx, .int zxa] (pre D g sz [(Xx, .inr (6, [.ref Tp, .int (nI tl), .ref Fr, .ref Rd, .ref Nn, .ref oNn, .ref Ts, .ref Ty, .int 0]))])) (va_Qi (fun (r : Int32) (u : va_W) => u = [(Xx, .inr (6, [.ref Tp, .int (nI tl), .ref Fr, .ref Rd, .ref Nn, .ref oNn, .ref Ts, .ref Ty, .int 0]))]) (wd D (va_A [(Xx, .inr (6, [.ref Tp, .int (nI tl), .ref Fr, .ref Rd, .ref Nn, .ref oNn, .ref Ts, .ref Ty, .int 0]))] sz)) (va_A [(Xx, .inr (6, [.ref Tp, .int (nI tl), .ref Fr, .ref Rd, .ref Nn, .ref oNn, .ref Ts, .ref Ty, .int 0]))] sz)) 0 0 (va_A [(Xx, .inr (6, [.ref Tp, .int (nI tl), .ref Fr, .ref Rd, .ref Nn, .ref oNn, .ref Ts, .ref Ty, .int 0]))] sz) := by
  refine Met.ofW (cc := cX6_count) (maxL := 2) (ret := (some .int)) (by decide) rfl ?_
  intro p e s m args below meth c s₁ B hml hv
  obtain ⟨rfl, hsz, hP, ⟨hK, hN⟩, hD0, hZ⟩ := hv
  have hx := B.exec
  have hb := B.bytes
  have hr := B.returns
  have hts := atoms_spec (ws := wsX6_count) B.pre
  have hown : s.vm.findClass RX6 = some m.cls := findClass_of_methodNamed B.named
  have hlocks := B.notSynchronized
  clear B
  subst hsz
  have hD := hD0.self (sz := s.heap.size)
  clear hD0
  generalize hAe : va_A [(Xx, .inr (6, [.ref Tp, .int (nI tl), .ref Fr, .ref Rd, .ref Nn, .ref oNn, .ref Ts, .ref Ty, .int 0]))] s.heap.size = A at hD hZ ⊢
  have hA : ∀ q : Nat, s.heap.size ≤ q → A q := fun q h => by rw [← hAe]; exact Or.inr h
  have hS : va_S A s.heap s.heap [] := va_S.rf
  have f47 := hts (.fieldLink RX6 47 "HopCredits" "tapeLength" "I") (List.mem_of_getElem? (i := 1) rfl)
  have f70 := hts (.fieldLink RX6 70 "HopCredits" "laid" "Z") (List.mem_of_getElem? (i := 2) rfl)
  have k77 := hts (.constant RX6 77 (-1000000)) (List.mem_of_getElem? (i := 3) rfl)
  have iX6 : ∀ w ∈ u_ws RX6 TX6 9, w ∈ wsX6_count := fun w h => List.mem_cons_of_mem _ (List.mem_append_left _ (List.mem_append_left _ (List.mem_append_left _ (List.mem_append_left _ (List.mem_append_right _ (h))))))
  have hl := lv_entry ([.ref Xx, .int zxa]) (n := 2) (Nat.le_of_ble_eq_true rfl)
  rw [lg_entry_eq]
  generalize (lg_sl ([.ref Xx, .int zxa]) ++ List.replicate (2 - (lg_sl ([.ref Xx, .int zxa])).length) Slot.unset).toArray = ls at hl ⊢
  have hl : lv_has ls 2 [(0, .ref Xx), (1, .int zxa)] := hl
  generalize hQ : MQ below _ _ s _ _ _ = Q
  generalize hH : s.heap = H at hP ⊢
  have hS : va_S A s.heap H [] := by rw [← hH]; exact hS
  clear hH
  refine lv_iload_n hx hb dX6_count_0 rfl (lv_at hl 1 rfl) ?_
  refine lv_if_ne (tgt := 9) hx hb dX6_count_1 (by decide) (fun cb_1 => ?_) (fun cb_1 => ?_)
  · skip
    refine lv_aload_n hx hb dX6_count_9 rfl (lv_at hl 0 rfl) ?_
    refine va_get (D := D) (ci := 6) (v := .int 0) (C := RX6) (T := TX6) (N := 9) hx hb hts iX6 hown hK hP 0 rfl rfl 8 (by decide) f70 (fun _ h9 => h9) rfl dX6_count_10 ?_
    refine lv_if_ne (tgt := 19) hx hb dX6_count_13 (by decide) (fun cb => absurd (by decide) cb) (fun _ => ?_)
    refine lv_ldc (v := (-1000000)) hx hb hown k77 dX6_count_16 ?_
    have hP9 := hP; have hD9 := hD
    subst hQ
    refine W.widen (k := 0) (n := 0) (Nat.le_of_ble_eq_true rfl) (Nat.le_of_ble_eq_true rfl) ?_
    exact W.iret (v := (-1000000)) hx hb hr (fun tS htS _ => ⟨⟨_, _, rfl, rfl, by rw [htS]; exact hP9, hD9⟩, hS.F htS⟩) hS.2.2 dX6_count_18
  · skip
    have hPq_2 := hP; have hDq_2 := hD; have hSq_2 := hS; have hlq_2 := hl; clear hP hD hS hl
    subst cb_1
    have hP := hPq_2; have hD := hDq_2; have hS := hSq_2; have hl := hlq_2; clear hPq_2 hDq_2 hSq_2 hlq_2
    refine lv_aload_n hx hb dX6_count_4 rfl (lv_at hl 0 rfl) ?_
    refine va_get (D := D) (ci := 6) (v := .int (nI tl)) (C := RX6) (T := TX6) (N := 9) hx hb hts iX6 hown hK hP 0 rfl rfl 1 (by decide) f47 (fun _ h9 => h9) rfl dX6_count_5 ?_
    have hP9 := hP; have hD9 := hD
    subst hQ
    refine W.widen (k := 0) (n := 0) (Nat.le_of_ble_eq_true rfl) (Nat.le_of_ble_eq_true rfl) ?_
    exact W.iret (v := (nI tl)) hx hb hr (fun tS htS _ => ⟨⟨_, _, rfl, rfl, by rw [htS]; exact hP9, hD9⟩, hS.F htS⟩) hS.2.2 dX6_count_8

set_option maxHeartbeats 4000000 in
set_option maxRecDepth 100000 in
theorem u_X6_status (l : Launch) (D : va_G) (g : Nat → ClassId) (sz : Nat) (Xx : Nat) (zw : Int32) (Tp : Nat) (tl : Nat) (Fr : Nat) (Rd : Nat) (Nn : Nat) (oNn : Nat) (Ts : Nat) (Ty : Nat) (frf : Nat → Int32) : Met l yX6_status wsX6_status ({ frames := 1, cells := 0, slots := 0, locals := 22 }) (va_Pc [.ref Xx, .int zw] (pre D g sz [(Xx, .inr (6, [.ref Tp, .int (nI tl), .ref Fr, .ref Rd, .ref Nn, .ref oNn, .ref Ts, .ref Ty, .int 0])), (Fr, .inl (g 0, 4, .inl frf))])) (va_Qi (fun (r : Int32) (u : va_W) => u = [(Xx, .inr (6, [.ref Tp, .int (nI tl), .ref Fr, .ref Rd, .ref Nn, .ref oNn, .ref Ts, .ref Ty, .int 0])), (Fr, .inl (g 0, 4, .inl frf))]) (wd D (va_A [(Xx, .inr (6, [.ref Tp, .int (nI tl), .ref Fr, .ref Rd, .ref Nn, .ref oNn, .ref Ts, .ref Ty, .int 0])), (Fr, .inl (g 0, 4, .inl frf))] sz)) (va_A [(Xx, .inr (6, [.ref Tp, .int (nI tl), .ref Fr, .ref Rd, .ref Nn, .ref oNn, .ref Ts, .ref Ty, .int 0])), (Fr, .inl (g 0, 4, .inl frf))] sz)) 0 0 (va_A [(Xx, .inr (6, [.ref Tp, .int (nI tl), .ref Fr, .ref Rd, .ref Nn, .ref oNn, .ref Ts, .ref Ty, .int 0])), (Fr, .inl (g 0, 4, .inl frf))] sz) := by
  refine Met.ofW (cc := cX6_status) (maxL := 2) (ret := (some .int)) (by decide) rfl ?_
  intro p e s m args below meth c s₁ B hml hv
  obtain ⟨rfl, hsz, hP, ⟨hK, hN⟩, hD0, hZ⟩ := hv
  have hx := B.exec
  have hb := B.bytes
  have hr := B.returns
  have hts := atoms_spec (ws := wsX6_status) B.pre
  have hown : s.vm.findClass RX6 = some m.cls := findClass_of_methodNamed B.named
  have hlocks := B.notSynchronized
  clear B
  subst hsz
  have hD := hD0.self (sz := s.heap.size)
  clear hD0
  generalize hAe : va_A [(Xx, .inr (6, [.ref Tp, .int (nI tl), .ref Fr, .ref Rd, .ref Nn, .ref oNn, .ref Ts, .ref Ty, .int 0])), (Fr, .inl (g 0, 4, .inl frf))] s.heap.size = A at hD hZ ⊢
  have hA : ∀ q : Nat, s.heap.size ≤ q → A q := fun q h => by rw [← hAe]; exact Or.inr h
  have hS : va_S A s.heap s.heap [] := va_S.rf
  have f13 := hts (.fieldLink RX6 13 "HopCredits" "refused" "[I") (List.mem_of_getElem? (i := 1) rfl)
  have iX6 : ∀ w ∈ u_ws RX6 TX6 9, w ∈ wsX6_status := fun w h => List.mem_cons_of_mem _ (List.mem_append_right _ (h))
  have hl := lv_entry ([.ref Xx, .int zw]) (n := 2) (Nat.le_of_ble_eq_true rfl)
  rw [lg_entry_eq]
  generalize (lg_sl ([.ref Xx, .int zw]) ++ List.replicate (2 - (lg_sl ([.ref Xx, .int zw])).length) Slot.unset).toArray = ls at hl ⊢
  have hl : lv_has ls 2 [(0, .ref Xx), (1, .int zw)] := hl
  generalize hQ : MQ below _ _ s _ _ _ = Q
  generalize hH : s.heap = H at hP ⊢
  have hS : va_S A s.heap H [] := by rw [← hH]; exact hS
  clear hH
  refine lv_iload_n hx hb dX6_status_0 rfl (lv_at hl 1 rfl) ?_
  refine lv_iconst (v := 0) hx hb dX6_status_1 (by decide) ?_
  refine lv_iconst (v := 3) hx hb dX6_status_2 (by decide) ?_
  refine ky_Si (As := [.int zw, .int 0, .int 3]) (rest := []) ⟨hx, hb, hml, hown, hts⟩ ⟨hK, hN⟩ hZ hP hD hS hA [] [0, 1] (wc := []) (wr := [(Xx, .inr (6, [.ref Tp, .int (nI tl), .ref Fr, .ref Rd, .ref Nn, .ref oNn, .ref Ts, .ref Ty, .int 0])), (Fr, .inl (g 0, 4, .inl frf))]) rfl rfl rfl rfl (by decide) (k_X6_outside l D g H.size zw 0 3) (va_cwS 3 hts gX6_status_X6_outside rfl rfl rfl (by decide +kernel) ⟨(Nat.le_of_ble_eq_true rfl), (Nat.le_of_ble_eq_true rfl)⟩) rfl hl.1 rfl (Nat.le_of_ble_eq_true rfl) dX6_status_3 ⟨(Nat.le_of_ble_eq_true rfl), (Nat.le_of_ble_eq_true rfl)⟩ (fun r_1 u H locs hw hP2 hD2 hS2 => ?_)
  clear hP hD hS
  obtain ⟨rfl, rfl⟩ := hw
  have hPD : PD D A [(Xx, .inr (6, [.ref Tp, .int (nI tl), .ref Fr, .ref Rd, .ref Nn, .ref oNn, .ref Ts, .ref Ty, .int 0])), (Fr, .inl (g 0, 4, .inl frf))] H := ⟨hP2, hD2⟩
  have hS := hS2; clear hP2 hD2 hS2; have hP := hPD.1; have hD := hPD.2; clear hPD
  refine W.widen (k := 0) (n := 0) (Nat.le_of_ble_eq_true rfl) (Nat.le_of_ble_eq_true rfl) ?_
  refine lv_if_eq (tgt := 13) hx hb dX6_status_6 (by decide) (fun cb_2 => ?_) (fun cb_2 => ?_)
  · skip
    have hq_3 : ¬ (zw < 0 ∨ 3 < zw) := b01_0.mp cb_2
    have hPq_7 := hP; have hDq_7 := hD; have hSq_7 := hS; have hlq_7 := hl; clear hP hD hS hl
    obtain ⟨j_4, hl_5, hu_6, rfl⟩ := rgo (L := 0) (U := 3) rfl rfl (show 0 < 2 ^ 31 by omega) (show 3 < 2 ^ 31 by omega) hq_3
    have hP := hPq_7; have hD := hDq_7; have hS := hSq_7; have hl := hlq_7; clear hPq_7 hDq_7 hSq_7 hlq_7
    refine lv_aload_n hx hb dX6_status_13 rfl (lv_at hl 0 rfl) ?_
    refine va_get (D := D) (ci := 6) (v := .ref Fr) (C := RX6) (T := TX6) (N := 9) hx hb hts iX6 hown hK hP 0 rfl rfl 2 (by decide) f13 (fun _ h9 => h9) rfl dX6_status_14 ?_
    refine lv_iload_n hx hb dX6_status_17 rfl (lv_at hl 1 rfl) ?_
    refine va_iald hx hb hK hP 1 0 rfl rfl (vp_in_nI (show j_4 < 4 by omega) (by decide)) dX6_status_18 ?_
    refine lv_eqi (y := (frf (j_4))) (congrArg frf (nI_clamp (show j_4 < 2 ^ 31 by omega))) ?_
    refine lv_topi (fun y_8 _ => ?_)
    have hP9 := hP; have hD9 := hD
    subst hQ
    refine W.widen (k := 0) (n := 0) (Nat.le_of_ble_eq_true rfl) (Nat.le_of_ble_eq_true rfl) ?_
    exact W.iret (v := y_8) hx hb hr (fun tS htS _ => ⟨⟨_, _, rfl, rfl, by rw [htS]; exact hP9, hD9⟩, hS.F htS⟩) hS.2.2 dX6_status_19
  · skip
    have hq_9 : zw < 0 ∨ 3 < zw := b01_1.mp cb_2
    refine lv_iconst (v := (-1)) hx hb dX6_status_9 (by decide) ?_
    refine lv_goto (tgt := 19) hx hb dX6_status_10 (by decide) ?_
    have hP9 := hP; have hD9 := hD
    subst hQ
    refine W.widen (k := 0) (n := 0) (Nat.le_of_ble_eq_true rfl) (Nat.le_of_ble_eq_true rfl) ?_
    exact W.iret (v := (-1)) hx hb hr (fun tS htS _ => ⟨⟨_, _, rfl, rfl, by rw [htS]; exact hP9, hD9⟩, hS.F htS⟩) hS.2.2 dX6_status_19

set_option maxHeartbeats 4000000 in
set_option maxRecDepth 100000 in
theorem u_X6_zoneRefusal (l : Launch) (D : va_G) (g : Nat → ClassId) (sz : Nat) (Xx : Nat) (zh : Int32) (zc : Int32) (zk : Int32) (Tp : Nat) (tl : Nat) (Fr : Nat) (Rd : Nat) (Nn : Nat) (oNn : Nat) (Ts : Nat) (Ty : Nat) : Met l yX6_zoneRefusal wsX6_zoneRefusal ({ frames := 2, cells := 0, slots := 0, locals := 43 }) (va_Pc [.ref Xx, .int zh, .int zc, .int zk] (pre D g sz [(Xx, .inr (6, [.ref Tp, .int (nI tl), .ref Fr, .ref Rd, .ref Nn, .ref oNn, .ref Ts, .ref Ty, .int 0]))])) (va_Qi (fun (r : Int32) (u : va_W) => u = [(Xx, .inr (6, [.ref Tp, .int (nI tl), .ref Fr, .ref Rd, .ref Nn, .ref oNn, .ref Ts, .ref Ty, .int 0]))] ∧ r = 0) (wd D (va_A [(Xx, .inr (6, [.ref Tp, .int (nI tl), .ref Fr, .ref Rd, .ref Nn, .ref oNn, .ref Ts, .ref Ty, .int 0]))] sz)) (va_A [(Xx, .inr (6, [.ref Tp, .int (nI tl), .ref Fr, .ref Rd, .ref Nn, .ref oNn, .ref Ts, .ref Ty, .int 0]))] sz)) 0 0 (va_A [(Xx, .inr (6, [.ref Tp, .int (nI tl), .ref Fr, .ref Rd, .ref Nn, .ref oNn, .ref Ts, .ref Ty, .int 0]))] sz) := by
  refine Met.ofW (cc := cX6_zoneRefusal) (maxL := 5) (ret := (some .int)) (by decide) rfl ?_
  intro p e s m args below meth c s₁ B hml hv
  obtain ⟨rfl, hsz, hP, ⟨hK, hN⟩, hD0, hZ⟩ := hv
  have hx := B.exec
  have hb := B.bytes
  have hr := B.returns
  have hts := atoms_spec (ws := wsX6_zoneRefusal) B.pre
  have hown : s.vm.findClass RX6 = some m.cls := findClass_of_methodNamed B.named
  have hlocks := B.notSynchronized
  clear B
  subst hsz
  have hD := hD0.self (sz := s.heap.size)
  clear hD0
  generalize hAe : va_A [(Xx, .inr (6, [.ref Tp, .int (nI tl), .ref Fr, .ref Rd, .ref Nn, .ref oNn, .ref Ts, .ref Ty, .int 0]))] s.heap.size = A at hD hZ ⊢
  have hA : ∀ q : Nat, s.heap.size ≤ q → A q := fun q h => by rw [← hAe]; exact Or.inr h
  have hS : va_S A s.heap s.heap [] := va_S.rf
  have hl := lv_entry ([.ref Xx, .int zh, .int zc, .int zk]) (n := 5) (Nat.le_of_ble_eq_true rfl)
  rw [lg_entry_eq]
  generalize (lg_sl ([.ref Xx, .int zh, .int zc, .int zk]) ++ List.replicate (5 - (lg_sl ([.ref Xx, .int zh, .int zc, .int zk])).length) Slot.unset).toArray = ls at hl ⊢
  have hl : lv_has ls 5 [(0, .ref Xx), (1, .int zh), (2, .int zc), (3, .int zk)] := hl
  generalize hQ : MQ below _ _ s _ _ _ = Q
  generalize hH : s.heap = H at hP ⊢
  have hS : va_S A s.heap H [] := by rw [← hH]; exact hS
  clear hH
  refine lv_aload_n hx hb dX6_zoneRefusal_0 rfl (lv_at hl 0 rfl) ?_
  refine lv_iload_n hx hb dX6_zoneRefusal_1 rfl (lv_at hl 1 rfl) ?_
  refine lv_iload_n hx hb dX6_zoneRefusal_2 rfl (lv_at hl 2 rfl) ?_
  refine ky_Vi (As := [.int zh, .int zc]) (rest := []) ⟨hx, hb, hml, hown, hts⟩ ⟨hK, hN⟩ hZ hP hD hS hA [0] [] (wc := [(Xx, .inr (6, [.ref Tp, .int (nI tl), .ref Fr, .ref Rd, .ref Nn, .ref oNn, .ref Ts, .ref Ty, .int 0]))]) (wr := []) rfl rfl rfl rfl (by decide) (u_X6_isLane l D g H.size Xx zh zc Tp tl Fr Rd Nn oNn Ts Ty) (cwV 2 hts gX6_zoneRefusal_X6_isLane rfl rfl rfl (by decide +kernel) ⟨(Nat.le_of_ble_eq_true rfl), (Nat.le_of_ble_eq_true rfl)⟩) 0 6 rfl rfl rfl rfl hl.1 rfl (Nat.le_of_ble_eq_true rfl) dX6_zoneRefusal_3 ⟨(Nat.le_of_ble_eq_true rfl), (Nat.le_of_ble_eq_true rfl)⟩ (fun r_1 u H locs hw hP2 hD2 hS2 => ?_)
  clear hP hD hS
  obtain ⟨rfl, rfl⟩ := hw
  have hPD : PD D A [(Xx, .inr (6, [.ref Tp, .int (nI tl), .ref Fr, .ref Rd, .ref Nn, .ref oNn, .ref Ts, .ref Ty, .int 0]))] H := ⟨hP2, hD2⟩
  have hS := hS2; clear hP2 hD2 hS2; have hP := hPD.1; have hD := hPD.2; clear hPD
  refine W.widen (k := 0) (n := 0) (Nat.le_of_ble_eq_true rfl) (Nat.le_of_ble_eq_true rfl) ?_
  refine lv_if_ne (tgt := 11) hx hb dX6_zoneRefusal_6 (by decide) (fun cb => absurd (by decide) cb) (fun _ => ?_)
  refine lv_iconst (v := 0) hx hb dX6_zoneRefusal_9 (by decide) ?_
  have hP9 := hP; have hD9 := hD
  subst hQ
  refine W.widen (k := 0) (n := 0) (Nat.le_of_ble_eq_true rfl) (Nat.le_of_ble_eq_true rfl) ?_
  exact W.iret (v := 0) hx hb hr (fun tS htS _ => ⟨⟨_, _, rfl, ⟨rfl, rfl⟩, by rw [htS]; exact hP9, hD9⟩, hS.F htS⟩) hS.2.2 dX6_zoneRefusal_10

set_option maxHeartbeats 4000000 in
set_option maxRecDepth 100000 in
theorem u_X6_would (l : Launch) (D : va_G) (g : Nat → ClassId) (sz : Nat) (Xx : Nat) (zxa : Int32) (zxb : Int32) (zxc : Int32) (zxd : Int32) (Tp : Nat) (tl : Nat) (Fr : Nat) (Rd : Nat) (Nn : Nat) (oNn : Nat) (Ts : Nat) (Ty : Nat) : Met l yX6_would wsX6_would ({ frames := 3, cells := 0, slots := 0, locals := 67 }) (va_Pc [.ref Xx, .int zxa, .int zxb, .int zxc, .int zxd] (pre D g sz [(Xx, .inr (6, [.ref Tp, .int (nI tl), .ref Fr, .ref Rd, .ref Nn, .ref oNn, .ref Ts, .ref Ty, .int 0]))])) (va_Qi (fun (r : Int32) (u : va_W) => u = [(Xx, .inr (6, [.ref Tp, .int (nI tl), .ref Fr, .ref Rd, .ref Nn, .ref oNn, .ref Ts, .ref Ty, .int 0]))]) (wd D (va_A [(Xx, .inr (6, [.ref Tp, .int (nI tl), .ref Fr, .ref Rd, .ref Nn, .ref oNn, .ref Ts, .ref Ty, .int 0]))] sz)) (va_A [(Xx, .inr (6, [.ref Tp, .int (nI tl), .ref Fr, .ref Rd, .ref Nn, .ref oNn, .ref Ts, .ref Ty, .int 0]))] sz)) 0 0 (va_A [(Xx, .inr (6, [.ref Tp, .int (nI tl), .ref Fr, .ref Rd, .ref Nn, .ref oNn, .ref Ts, .ref Ty, .int 0]))] sz) := by
  refine Met.ofW (cc := cX6_would) (maxL := 5) (ret := (some .int)) (by decide) rfl ?_
  intro p e s m args below meth c s₁ B hml hv
  obtain ⟨rfl, hsz, hP, ⟨hK, hN⟩, hD0, hZ⟩ := hv
  have hx := B.exec
  have hb := B.bytes
  have hr := B.returns
  have hts := atoms_spec (ws := wsX6_would) B.pre
  have hown : s.vm.findClass RX6 = some m.cls := findClass_of_methodNamed B.named
  have hlocks := B.notSynchronized
  clear B
  subst hsz
  have hD := hD0.self (sz := s.heap.size)
  clear hD0
  generalize hAe : va_A [(Xx, .inr (6, [.ref Tp, .int (nI tl), .ref Fr, .ref Rd, .ref Nn, .ref oNn, .ref Ts, .ref Ty, .int 0]))] s.heap.size = A at hD hZ ⊢
  have hA : ∀ q : Nat, s.heap.size ≤ q → A q := fun q h => by rw [← hAe]; exact Or.inr h
  have hS : va_S A s.heap s.heap [] := va_S.rf
  have hl := lv_entry ([.ref Xx, .int zxa, .int zxb, .int zxc, .int zxd]) (n := 5) (Nat.le_of_ble_eq_true rfl)
  rw [lg_entry_eq]
  generalize (lg_sl ([.ref Xx, .int zxa, .int zxb, .int zxc, .int zxd]) ++ List.replicate (5 - (lg_sl ([.ref Xx, .int zxa, .int zxb, .int zxc, .int zxd])).length) Slot.unset).toArray = ls at hl ⊢
  have hl : lv_has ls 5 [(0, .ref Xx), (1, .int zxa), (2, .int zxb), (3, .int zxc), (4, .int zxd)] := hl
  generalize hQ : MQ below _ _ s _ _ _ = Q
  generalize hH : s.heap = H at hP ⊢
  have hS : va_S A s.heap H [] := by rw [← hH]; exact hS
  clear hH
  refine lv_aload_n hx hb dX6_would_0 rfl (lv_at hl 0 rfl) ?_
  refine lv_iload_n hx hb dX6_would_1 rfl (lv_at hl 1 rfl) ?_
  refine lv_iload_n hx hb dX6_would_2 rfl (lv_at hl 2 rfl) ?_
  refine lv_iload_n hx hb dX6_would_3 rfl (lv_at hl 3 rfl) ?_
  refine ky_Vi (As := [.int zxa, .int zxb, .int zxc]) (rest := []) ⟨hx, hb, hml, hown, hts⟩ ⟨hK, hN⟩ hZ hP hD hS hA [0] [] (wc := [(Xx, .inr (6, [.ref Tp, .int (nI tl), .ref Fr, .ref Rd, .ref Nn, .ref oNn, .ref Ts, .ref Ty, .int 0]))]) (wr := []) rfl rfl rfl rfl (by decide) (u_X6_zoneRefusal l D g H.size Xx zxa zxb zxc Tp tl Fr Rd Nn oNn Ts Ty) (cwV 3 hts gX6_would_X6_zoneRefusal rfl rfl rfl (by decide +kernel) ⟨(Nat.le_of_ble_eq_true rfl), (Nat.le_of_ble_eq_true rfl)⟩) 0 6 rfl rfl rfl rfl hl.1 rfl (Nat.le_of_ble_eq_true rfl) dX6_would_4 ⟨(Nat.le_of_ble_eq_true rfl), (Nat.le_of_ble_eq_true rfl)⟩ (fun r_1 u H locs hw hP2 hD2 hS2 => ?_)
  clear hP hD hS
  obtain ⟨rfl, rfl⟩ := hw
  have hPD : PD D A [(Xx, .inr (6, [.ref Tp, .int (nI tl), .ref Fr, .ref Rd, .ref Nn, .ref oNn, .ref Ts, .ref Ty, .int 0]))] H := ⟨hP2, hD2⟩
  have hS := hS2; clear hP2 hD2 hS2; have hP := hPD.1; have hD := hPD.2; clear hPD
  refine W.widen (k := 0) (n := 0) (Nat.le_of_ble_eq_true rfl) (Nat.le_of_ble_eq_true rfl) ?_
  refine lv_iconst (v := (-1)) hx hb dX6_would_7 (by decide) ?_
  refine lv_icmp_ne (tgt := 23) hx hb dX6_would_8 (by decide) (fun _ => ?_) (fun cb => absurd cb (by decide))
  refine lv_iconst (v := (-1)) hx hb dX6_would_23 (by decide) ?_
  have hP9 := hP; have hD9 := hD
  subst hQ
  refine W.widen (k := 0) (n := 0) (Nat.le_of_ble_eq_true rfl) (Nat.le_of_ble_eq_true rfl) ?_
  exact W.iret (v := (-1)) hx hb hr (fun tS htS _ => ⟨⟨_, _, rfl, rfl, by rw [htS]; exact hP9, hD9⟩, hS.F htS⟩) hS.2.2 dX6_would_24

set_option maxHeartbeats 4000000 in
set_option maxRecDepth 100000 in
theorem u_X6_go (l : Launch) (D : va_G) (g : Nat → ClassId) (sz : Nat) (Xx : Nat) (zxa : Int32) (Tp : Nat) (tl : Nat) (Fr : Nat) (Rd : Nat) (Nn : Nat) (oNn : Nat) (Ts : Nat) (Ty : Nat) (frf : Nat → Int32) : Met l yX6_go wsX6_go ({ frames := 1, cells := 0, slots := 0, locals := 21 }) (va_Pc [.ref Xx, .int zxa] (pre D g sz [(Xx, .inr (6, [.ref Tp, .int (nI tl), .ref Fr, .ref Rd, .ref Nn, .ref oNn, .ref Ts, .ref Ty, .int 0])), (Fr, .inl (g 0, 4, .inl frf))])) (va_Qi (fun (r : Int32) (u : va_W) => ∃ (frfx : Nat → Int32), u = [(Xx, .inr (6, [.ref Tp, .int (nI tl), .ref Fr, .ref Rd, .ref Nn, .ref oNn, .ref Ts, .ref Ty, .int 0])), (Fr, .inl (g 0, 4, .inl frfx))]) (wd D (va_A [(Xx, .inr (6, [.ref Tp, .int (nI tl), .ref Fr, .ref Rd, .ref Nn, .ref oNn, .ref Ts, .ref Ty, .int 0])), (Fr, .inl (g 0, 4, .inl frf))] sz)) (va_A [(Xx, .inr (6, [.ref Tp, .int (nI tl), .ref Fr, .ref Rd, .ref Nn, .ref oNn, .ref Ts, .ref Ty, .int 0])), (Fr, .inl (g 0, 4, .inl frf))] sz)) 0 0 (va_A [(Xx, .inr (6, [.ref Tp, .int (nI tl), .ref Fr, .ref Rd, .ref Nn, .ref oNn, .ref Ts, .ref Ty, .int 0])), (Fr, .inl (g 0, 4, .inl frf))] sz) := by
  refine Met.ofW (cc := cX6_go) (maxL := 3) (ret := (some .int)) (by decide) rfl ?_
  intro p e s m args below meth c s₁ B hml hv
  obtain ⟨rfl, hsz, hP, ⟨hK, hN⟩, hD0, hZ⟩ := hv
  have hx := B.exec
  have hb := B.bytes
  have hr := B.returns
  have hts := atoms_spec (ws := wsX6_go) B.pre
  have hown : s.vm.findClass RX6 = some m.cls := findClass_of_methodNamed B.named
  have hlocks := B.notSynchronized
  clear B
  subst hsz
  have hD := hD0.self (sz := s.heap.size)
  clear hD0
  generalize hAe : va_A [(Xx, .inr (6, [.ref Tp, .int (nI tl), .ref Fr, .ref Rd, .ref Nn, .ref oNn, .ref Ts, .ref Ty, .int 0])), (Fr, .inl (g 0, 4, .inl frf))] s.heap.size = A at hD hZ ⊢
  have hA : ∀ q : Nat, s.heap.size ≤ q → A q := fun q h => by rw [← hAe]; exact Or.inr h
  have hS : va_S A s.heap s.heap [] := va_S.rf
  have f70 := hts (.fieldLink RX6 70 "HopCredits" "laid" "Z") (List.mem_of_getElem? (i := 1) rfl)
  have iX6 : ∀ w ∈ u_ws RX6 TX6 9, w ∈ wsX6_go := fun w h => List.mem_cons_of_mem _ (List.mem_append_left _ (List.mem_append_left _ (List.mem_append_left _ (List.mem_append_left _ (List.mem_append_left _ (List.mem_append_right _ (h)))))))
  have hl := lv_entry ([.ref Xx, .int zxa]) (n := 3) (Nat.le_of_ble_eq_true rfl)
  rw [lg_entry_eq]
  generalize (lg_sl ([.ref Xx, .int zxa]) ++ List.replicate (3 - (lg_sl ([.ref Xx, .int zxa])).length) Slot.unset).toArray = ls at hl ⊢
  have hl : lv_has ls 3 [(0, .ref Xx), (1, .int zxa)] := hl
  generalize hQ : MQ below _ _ s _ _ _ = Q
  generalize hH : s.heap = H at hP ⊢
  have hS : va_S A s.heap H [] := by rw [← hH]; exact hS
  clear hH
  refine lv_aload_n hx hb dX6_go_0 rfl (lv_at hl 0 rfl) ?_
  refine va_get (D := D) (ci := 6) (v := .int 0) (C := RX6) (T := TX6) (N := 9) hx hb hts iX6 hown hK hP 0 rfl rfl 8 (by decide) f70 (fun _ h9 => h9) rfl dX6_go_1 ?_
  refine lv_if_ne (tgt := 13) hx hb dX6_go_4 (by decide) (fun cb => absurd (by decide) cb) (fun _ => ?_)
  refine lv_aload_n hx hb dX6_go_7 rfl (lv_at hl 0 rfl) ?_
  refine lv_iconst (v := 0) hx hb dX6_go_8 (by decide) ?_
  refine ky_Vi (As := [.int 0]) (rest := []) ⟨hx, hb, hml, hown, hts⟩ ⟨hK, hN⟩ hZ hP hD hS hA [0, 1] [] (wc := [(Xx, .inr (6, [.ref Tp, .int (nI tl), .ref Fr, .ref Rd, .ref Nn, .ref oNn, .ref Ts, .ref Ty, .int 0])), (Fr, .inl (g 0, 4, .inl frf))]) (wr := []) rfl rfl rfl rfl (by decide) (u_X6_refuse l D g H.size Xx 0 Tp tl Fr Rd Nn oNn Ts Ty frf (show 0 < 4 by omega)) (cwV 1 hts gX6_go_X6_refuse rfl rfl rfl (by decide +kernel) ⟨(Nat.le_of_ble_eq_true rfl), (Nat.le_of_ble_eq_true rfl)⟩) 0 6 rfl rfl rfl rfl hl.1 rfl (Nat.le_of_ble_eq_true rfl) dX6_go_9 ⟨(Nat.le_of_ble_eq_true rfl), (Nat.le_of_ble_eq_true rfl)⟩ (fun r_1 u H locs hw hP2 hD2 hS2 => ?_)
  clear hP hD hS
  obtain ⟨frfx_2, rfl, rfl⟩ := hw
  have hPD : PD D A [(Xx, .inr (6, [.ref Tp, .int (nI tl), .ref Fr, .ref Rd, .ref Nn, .ref oNn, .ref Ts, .ref Ty, .int 0])), (Fr, .inl (g 0, 4, .inl frfx_2))] H := ⟨hP2, hD2⟩
  have hS := hS2; clear hP2 hD2 hS2; have hP := hPD.1; have hD := hPD.2; clear hPD
  refine W.widen (k := 0) (n := 0) (Nat.le_of_ble_eq_true rfl) (Nat.le_of_ble_eq_true rfl) ?_
  have hP9 := hP; have hD9 := hD
  subst hQ
  refine W.widen (k := 0) (n := 0) (Nat.le_of_ble_eq_true rfl) (Nat.le_of_ble_eq_true rfl) ?_
  exact W.iret (v := (-1)) hx hb hr (fun tS htS _ => ⟨⟨_, _, rfl, ⟨frfx_2, rfl⟩, by rw [htS]; exact hP9, hD9⟩, hS.F htS⟩) hS.2.2 dX6_go_12
