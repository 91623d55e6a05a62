set_option maxHeartbeats 4000000 in
set_option maxRecDepth 100000 in
theorem u_X6_jam (l : Launch) (D : va_G) (g : Nat → ClassId) (sz : Nat) (Xx : Nat) (zxa : Int32) (zxb : Int32) (Tp : Nat) (tl : Nat) (Fr : Nat) (Rd : Nat) (Nn : Nat) (oNn : Nat) (Ts : Nat) (Ty : Nat) (frf : Nat → Int32) : Met l yX6_jam wsX6_jam ({ frames := 1, cells := 0, slots := 0, locals := 21 }) (va_Pc [.ref Xx, .int zxa, .int zxb] (pre D g sz [(Xx, .inr (6, [.ref Tp, .int (nI tl), .ref Fr, .ref Rd, .ref Nn, .ref oNn, .ref Ts, .ref Ty, .int 0])), (Fr, .inl (g 0, 4, .inl frf))])) (va_Qi (fun (r : Int32) (u : va_W) => ∃ (frfx : Nat → Int32), u = [(Xx, .inr (6, [.ref Tp, .int (nI tl), .ref Fr, .ref Rd, .ref Nn, .ref oNn, .ref Ts, .ref Ty, .int 0])), (Fr, .inl (g 0, 4, .inl frfx))]) (wd D (va_A [(Xx, .inr (6, [.ref Tp, .int (nI tl), .ref Fr, .ref Rd, .ref Nn, .ref oNn, .ref Ts, .ref Ty, .int 0])), (Fr, .inl (g 0, 4, .inl frf))] sz)) (va_A [(Xx, .inr (6, [.ref Tp, .int (nI tl), .ref Fr, .ref Rd, .ref Nn, .ref oNn, .ref Ts, .ref Ty, .int 0])), (Fr, .inl (g 0, 4, .inl frf))] sz)) 0 0 (va_A [(Xx, .inr (6, [.ref Tp, .int (nI tl), .ref Fr, .ref Rd, .ref Nn, .ref oNn, .ref Ts, .ref Ty, .int 0])), (Fr, .inl (g 0, 4, .inl frf))] sz) := by
  refine Met.ofW (cc := cX6_jam) (maxL := 5) (ret := (some .int)) (by decide) rfl ?_
  intro p e s m args below meth c s₁ B hml hv
  obtain ⟨rfl, hsz, hP, ⟨hK, hN⟩, hD0, hZ⟩ := hv
  have hx := B.exec
  have hb := B.bytes
  have hr := B.returns
  have hts := atoms_spec (ws := wsX6_jam) B.pre
  have hown : s.vm.findClass RX6 = some m.cls := findClass_of_methodNamed B.named
  have hlocks := B.notSynchronized
  clear B
  subst hsz
  have hD := hD0.self (sz := s.heap.size)
  clear hD0
  generalize hAe : va_A [(Xx, .inr (6, [.ref Tp, .int (nI tl), .ref Fr, .ref Rd, .ref Nn, .ref oNn, .ref Ts, .ref Ty, .int 0])), (Fr, .inl (g 0, 4, .inl frf))] s.heap.size = A at hD hZ ⊢
  have hA : ∀ q : Nat, s.heap.size ≤ q → A q := fun q h => by rw [← hAe]; exact Or.inr h
  have hS : va_S A s.heap s.heap [] := va_S.rf
  have hl := lv_entry ([.ref Xx, .int zxa, .int zxb]) (n := 5) (Nat.le_of_ble_eq_true rfl)
  rw [lg_entry_eq]
  generalize (lg_sl ([.ref Xx, .int zxa, .int zxb]) ++ List.replicate (5 - (lg_sl ([.ref Xx, .int zxa, .int zxb])).length) Slot.unset).toArray = ls at hl ⊢
  have hl : lv_has ls 5 [(0, .ref Xx), (1, .int zxa), (2, .int zxb)] := hl
  generalize hQ : MQ below _ _ s _ _ _ = Q
  generalize hH : s.heap = H at hP ⊢
  have hS : va_S A s.heap H [] := by rw [← hH]; exact hS
  clear hH
  refine lv_aload_n hx hb dX6_jam_0 rfl (lv_at hl 0 rfl) ?_
  refine lv_iload_n hx hb dX6_jam_1 rfl (lv_at hl 1 rfl) ?_
  refine ky_Vi (As := [.int zxa]) (rest := []) ⟨hx, hb, hml, hown, hts⟩ ⟨hK, hN⟩ hZ hP hD hS hA [0] [1] (wc := [(Xx, .inr (6, [.ref Tp, .int (nI tl), .ref Fr, .ref Rd, .ref Nn, .ref oNn, .ref Ts, .ref Ty, .int 0]))]) (wr := [(Fr, .inl (g 0, 4, .inl frf))]) rfl rfl rfl rfl (by decide) (u_X6_isHop l D g H.size Xx zxa Tp tl Fr Rd Nn oNn Ts Ty) (cwV 1 hts gX6_jam_X6_isHop rfl rfl rfl (by decide +kernel) ⟨(Nat.le_of_ble_eq_true rfl), (Nat.le_of_ble_eq_true rfl)⟩) 0 6 rfl rfl rfl rfl hl.1 rfl (Nat.le_of_ble_eq_true rfl) dX6_jam_2 ⟨(Nat.le_of_ble_eq_true rfl), (Nat.le_of_ble_eq_true rfl)⟩ (fun r_1 u H locs hw hP2 hD2 hS2 => ?_)
  clear hP hD hS
  obtain ⟨rfl, rfl⟩ := hw
  have hPD : PD D A [(Fr, .inl (g 0, 4, .inl frf)), (Xx, .inr (6, [.ref Tp, .int (nI tl), .ref Fr, .ref Rd, .ref Nn, .ref oNn, .ref Ts, .ref Ty, .int 0]))] H := ⟨hP2, hD2⟩
  have hS := hS2; clear hP2 hD2 hS2; have hP := hPD.1; have hD := hPD.2; clear hPD
  refine W.widen (k := 0) (n := 0) (Nat.le_of_ble_eq_true rfl) (Nat.le_of_ble_eq_true rfl) ?_
  refine lv_if_ne (tgt := 14) hx hb dX6_jam_5 (by decide) (fun cb => absurd (by decide) cb) (fun _ => ?_)
  refine lv_aload_n hx hb dX6_jam_8 rfl (lv_at hl 0 rfl) ?_
  refine lv_iconst (v := 0) hx hb dX6_jam_9 (by decide) ?_
  refine ky_Vi (As := [.int 0]) (rest := []) ⟨hx, hb, hml, hown, hts⟩ ⟨hK, hN⟩ hZ hP hD hS hA [1, 0] [] (wc := [(Xx, .inr (6, [.ref Tp, .int (nI tl), .ref Fr, .ref Rd, .ref Nn, .ref oNn, .ref Ts, .ref Ty, .int 0])), (Fr, .inl (g 0, 4, .inl frf))]) (wr := []) rfl rfl rfl rfl (by decide) (u_X6_refuse l D g H.size Xx 0 Tp tl Fr Rd Nn oNn Ts Ty frf (show 0 < 4 by omega)) (cwV 1 hts gX6_jam_X6_refuse rfl rfl rfl (by decide +kernel) ⟨(Nat.le_of_ble_eq_true rfl), (Nat.le_of_ble_eq_true rfl)⟩) 1 6 rfl rfl rfl rfl hl.1 rfl (Nat.le_of_ble_eq_true rfl) dX6_jam_10 ⟨(Nat.le_of_ble_eq_true rfl), (Nat.le_of_ble_eq_true rfl)⟩ (fun r_2 u H locs hw hP2 hD2 hS2 => ?_)
  clear hP hD hS
  obtain ⟨frfx_3, rfl, rfl⟩ := hw
  have hPD : PD D A [(Xx, .inr (6, [.ref Tp, .int (nI tl), .ref Fr, .ref Rd, .ref Nn, .ref oNn, .ref Ts, .ref Ty, .int 0])), (Fr, .inl (g 0, 4, .inl frfx_3))] H := ⟨hP2, hD2⟩
  have hS := hS2; clear hP2 hD2 hS2; have hP := hPD.1; have hD := hPD.2; clear hPD
  refine W.widen (k := 0) (n := 0) (Nat.le_of_ble_eq_true rfl) (Nat.le_of_ble_eq_true rfl) ?_
  have hP9 := hP; have hD9 := hD
  subst hQ
  refine W.widen (k := 0) (n := 0) (Nat.le_of_ble_eq_true rfl) (Nat.le_of_ble_eq_true rfl) ?_
  exact W.iret (v := (-1)) hx hb hr (fun tS htS _ => ⟨⟨_, _, rfl, ⟨frfx_3, rfl⟩, by rw [htS]; exact hP9, hD9⟩, hS.F htS⟩) hS.2.2 dX6_jam_13

set_option maxHeartbeats 4000000 in
set_option maxRecDepth 100000 in
theorem u_X6_source (l : Launch) (D : va_G) (g : Nat → ClassId) (sz : Nat) (Xx : Nat) (zxa : Int32) (zxb : Int32) (zxc : Int32) (Tp : Nat) (tl : Nat) (Fr : Nat) (Rd : Nat) (Nn : Nat) (oNn : Nat) (Ts : Nat) (Ty : Nat) (frf : Nat → Int32) : Met l yX6_source wsX6_source ({ frames := 1, cells := 0, slots := 0, locals := 21 }) (va_Pc [.ref Xx, .int zxa, .int zxb, .int zxc] (pre D g sz [(Xx, .inr (6, [.ref Tp, .int (nI tl), .ref Fr, .ref Rd, .ref Nn, .ref oNn, .ref Ts, .ref Ty, .int 0])), (Fr, .inl (g 0, 4, .inl frf))])) (va_Qi (fun (r : Int32) (u : va_W) => ∃ (frfx : Nat → Int32), u = [(Xx, .inr (6, [.ref Tp, .int (nI tl), .ref Fr, .ref Rd, .ref Nn, .ref oNn, .ref Ts, .ref Ty, .int 0])), (Fr, .inl (g 0, 4, .inl frfx))]) (wd D (va_A [(Xx, .inr (6, [.ref Tp, .int (nI tl), .ref Fr, .ref Rd, .ref Nn, .ref oNn, .ref Ts, .ref Ty, .int 0])), (Fr, .inl (g 0, 4, .inl frf))] sz)) (va_A [(Xx, .inr (6, [.ref Tp, .int (nI tl), .ref Fr, .ref Rd, .ref Nn, .ref oNn, .ref Ts, .ref Ty, .int 0])), (Fr, .inl (g 0, 4, .inl frf))] sz)) 0 0 (va_A [(Xx, .inr (6, [.ref Tp, .int (nI tl), .ref Fr, .ref Rd, .ref Nn, .ref oNn, .ref Ts, .ref Ty, .int 0])), (Fr, .inl (g 0, 4, .inl frf))] sz) := by
  refine Met.ofW (cc := cX6_source) (maxL := 6) (ret := (some .int)) (by decide) rfl ?_
  intro p e s m args below meth c s₁ B hml hv
  obtain ⟨rfl, hsz, hP, ⟨hK, hN⟩, hD0, hZ⟩ := hv
  have hx := B.exec
  have hb := B.bytes
  have hr := B.returns
  have hts := atoms_spec (ws := wsX6_source) B.pre
  have hown : s.vm.findClass RX6 = some m.cls := findClass_of_methodNamed B.named
  have hlocks := B.notSynchronized
  clear B
  subst hsz
  have hD := hD0.self (sz := s.heap.size)
  clear hD0
  generalize hAe : va_A [(Xx, .inr (6, [.ref Tp, .int (nI tl), .ref Fr, .ref Rd, .ref Nn, .ref oNn, .ref Ts, .ref Ty, .int 0])), (Fr, .inl (g 0, 4, .inl frf))] s.heap.size = A at hD hZ ⊢
  have hA : ∀ q : Nat, s.heap.size ≤ q → A q := fun q h => by rw [← hAe]; exact Or.inr h
  have hS : va_S A s.heap s.heap [] := va_S.rf
  have hl := lv_entry ([.ref Xx, .int zxa, .int zxb, .int zxc]) (n := 6) (Nat.le_of_ble_eq_true rfl)
  rw [lg_entry_eq]
  generalize (lg_sl ([.ref Xx, .int zxa, .int zxb, .int zxc]) ++ List.replicate (6 - (lg_sl ([.ref Xx, .int zxa, .int zxb, .int zxc])).length) Slot.unset).toArray = ls at hl ⊢
  have hl : lv_has ls 6 [(0, .ref Xx), (1, .int zxa), (2, .int zxb), (3, .int zxc)] := hl
  generalize hQ : MQ below _ _ s _ _ _ = Q
  generalize hH : s.heap = H at hP ⊢
  have hS : va_S A s.heap H [] := by rw [← hH]; exact hS
  clear hH
  refine lv_aload_n hx hb dX6_source_0 rfl (lv_at hl 0 rfl) ?_
  refine lv_iload_n hx hb dX6_source_1 rfl (lv_at hl 1 rfl) ?_
  refine ky_Vi (As := [.int zxa]) (rest := []) ⟨hx, hb, hml, hown, hts⟩ ⟨hK, hN⟩ hZ hP hD hS hA [0] [1] (wc := [(Xx, .inr (6, [.ref Tp, .int (nI tl), .ref Fr, .ref Rd, .ref Nn, .ref oNn, .ref Ts, .ref Ty, .int 0]))]) (wr := [(Fr, .inl (g 0, 4, .inl frf))]) rfl rfl rfl rfl (by decide) (u_X6_isCircuit l D g H.size Xx zxa Tp tl Fr Rd Nn oNn Ts Ty) (cwV 1 hts gX6_source_X6_isCircuit rfl rfl rfl (by decide +kernel) ⟨(Nat.le_of_ble_eq_true rfl), (Nat.le_of_ble_eq_true rfl)⟩) 0 6 rfl rfl rfl rfl hl.1 rfl (Nat.le_of_ble_eq_true rfl) dX6_source_2 ⟨(Nat.le_of_ble_eq_true rfl), (Nat.le_of_ble_eq_true rfl)⟩ (fun r_1 u H locs hw hP2 hD2 hS2 => ?_)
  clear hP hD hS
  obtain ⟨rfl, rfl⟩ := hw
  have hPD : PD D A [(Fr, .inl (g 0, 4, .inl frf)), (Xx, .inr (6, [.ref Tp, .int (nI tl), .ref Fr, .ref Rd, .ref Nn, .ref oNn, .ref Ts, .ref Ty, .int 0]))] H := ⟨hP2, hD2⟩
  have hS := hS2; clear hP2 hD2 hS2; have hP := hPD.1; have hD := hPD.2; clear hPD
  refine W.widen (k := 0) (n := 0) (Nat.le_of_ble_eq_true rfl) (Nat.le_of_ble_eq_true rfl) ?_
  refine lv_if_ne (tgt := 14) hx hb dX6_source_5 (by decide) (fun cb => absurd (by decide) cb) (fun _ => ?_)
  refine lv_aload_n hx hb dX6_source_8 rfl (lv_at hl 0 rfl) ?_
  refine lv_iconst (v := 0) hx hb dX6_source_9 (by decide) ?_
  refine ky_Vi (As := [.int 0]) (rest := []) ⟨hx, hb, hml, hown, hts⟩ ⟨hK, hN⟩ hZ hP hD hS hA [1, 0] [] (wc := [(Xx, .inr (6, [.ref Tp, .int (nI tl), .ref Fr, .ref Rd, .ref Nn, .ref oNn, .ref Ts, .ref Ty, .int 0])), (Fr, .inl (g 0, 4, .inl frf))]) (wr := []) rfl rfl rfl rfl (by decide) (u_X6_refuse l D g H.size Xx 0 Tp tl Fr Rd Nn oNn Ts Ty frf (show 0 < 4 by omega)) (cwV 1 hts gX6_source_X6_refuse rfl rfl rfl (by decide +kernel) ⟨(Nat.le_of_ble_eq_true rfl), (Nat.le_of_ble_eq_true rfl)⟩) 1 6 rfl rfl rfl rfl hl.1 rfl (Nat.le_of_ble_eq_true rfl) dX6_source_10 ⟨(Nat.le_of_ble_eq_true rfl), (Nat.le_of_ble_eq_true rfl)⟩ (fun r_2 u H locs hw hP2 hD2 hS2 => ?_)
  clear hP hD hS
  obtain ⟨frfx_3, rfl, rfl⟩ := hw
  have hPD : PD D A [(Xx, .inr (6, [.ref Tp, .int (nI tl), .ref Fr, .ref Rd, .ref Nn, .ref oNn, .ref Ts, .ref Ty, .int 0])), (Fr, .inl (g 0, 4, .inl frfx_3))] H := ⟨hP2, hD2⟩
  have hS := hS2; clear hP2 hD2 hS2; have hP := hPD.1; have hD := hPD.2; clear hPD
  refine W.widen (k := 0) (n := 0) (Nat.le_of_ble_eq_true rfl) (Nat.le_of_ble_eq_true rfl) ?_
  have hP9 := hP; have hD9 := hD
  subst hQ
  refine W.widen (k := 0) (n := 0) (Nat.le_of_ble_eq_true rfl) (Nat.le_of_ble_eq_true rfl) ?_
  exact W.iret (v := (-1)) hx hb hr (fun tS htS _ => ⟨⟨_, _, rfl, ⟨frfx_3, rfl⟩, by rw [htS]; exact hP9, hD9⟩, hS.F htS⟩) hS.2.2 dX6_source_13

set_option maxHeartbeats 4000000 in
set_option maxRecDepth 100000 in
theorem u_X6_takes (l : Launch) (D : va_G) (g : Nat → ClassId) (sz : Nat) (Xx : Nat) (zxa : Int32) (zxb : Int32) (Tp : Nat) (tl : Nat) (Fr : Nat) (Rd : Nat) (Nn : Nat) (oNn : Nat) (Ts : Nat) (Ty : Nat) (frf : Nat → Int32) : Met l yX6_takes wsX6_takes ({ frames := 1, cells := 0, slots := 0, locals := 21 }) (va_Pc [.ref Xx, .int zxa, .int zxb] (pre D g sz [(Xx, .inr (6, [.ref Tp, .int (nI tl), .ref Fr, .ref Rd, .ref Nn, .ref oNn, .ref Ts, .ref Ty, .int 0])), (Fr, .inl (g 0, 4, .inl frf))])) (va_Qi (fun (r : Int32) (u : va_W) => ∃ (frfx : Nat → Int32), u = [(Xx, .inr (6, [.ref Tp, .int (nI tl), .ref Fr, .ref Rd, .ref Nn, .ref oNn, .ref Ts, .ref Ty, .int 0])), (Fr, .inl (g 0, 4, .inl frfx))]) (wd D (va_A [(Xx, .inr (6, [.ref Tp, .int (nI tl), .ref Fr, .ref Rd, .ref Nn, .ref oNn, .ref Ts, .ref Ty, .int 0])), (Fr, .inl (g 0, 4, .inl frf))] sz)) (va_A [(Xx, .inr (6, [.ref Tp, .int (nI tl), .ref Fr, .ref Rd, .ref Nn, .ref oNn, .ref Ts, .ref Ty, .int 0])), (Fr, .inl (g 0, 4, .inl frf))] sz)) 0 0 (va_A [(Xx, .inr (6, [.ref Tp, .int (nI tl), .ref Fr, .ref Rd, .ref Nn, .ref oNn, .ref Ts, .ref Ty, .int 0])), (Fr, .inl (g 0, 4, .inl frf))] sz) := by
  refine Met.ofW (cc := cX6_takes) (maxL := 5) (ret := (some .int)) (by decide) rfl ?_
  intro p e s m args below meth c s₁ B hml hv
  obtain ⟨rfl, hsz, hP, ⟨hK, hN⟩, hD0, hZ⟩ := hv
  have hx := B.exec
  have hb := B.bytes
  have hr := B.returns
  have hts := atoms_spec (ws := wsX6_takes) B.pre
  have hown : s.vm.findClass RX6 = some m.cls := findClass_of_methodNamed B.named
  have hlocks := B.notSynchronized
  clear B
  subst hsz
  have hD := hD0.self (sz := s.heap.size)
  clear hD0
  generalize hAe : va_A [(Xx, .inr (6, [.ref Tp, .int (nI tl), .ref Fr, .ref Rd, .ref Nn, .ref oNn, .ref Ts, .ref Ty, .int 0])), (Fr, .inl (g 0, 4, .inl frf))] s.heap.size = A at hD hZ ⊢
  have hA : ∀ q : Nat, s.heap.size ≤ q → A q := fun q h => by rw [← hAe]; exact Or.inr h
  have hS : va_S A s.heap s.heap [] := va_S.rf
  have hl := lv_entry ([.ref Xx, .int zxa, .int zxb]) (n := 5) (Nat.le_of_ble_eq_true rfl)
  rw [lg_entry_eq]
  generalize (lg_sl ([.ref Xx, .int zxa, .int zxb]) ++ List.replicate (5 - (lg_sl ([.ref Xx, .int zxa, .int zxb])).length) Slot.unset).toArray = ls at hl ⊢
  have hl : lv_has ls 5 [(0, .ref Xx), (1, .int zxa), (2, .int zxb)] := hl
  generalize hQ : MQ below _ _ s _ _ _ = Q
  generalize hH : s.heap = H at hP ⊢
  have hS : va_S A s.heap H [] := by rw [← hH]; exact hS
  clear hH
  refine lv_aload_n hx hb dX6_takes_0 rfl (lv_at hl 0 rfl) ?_
  refine lv_iload_n hx hb dX6_takes_1 rfl (lv_at hl 1 rfl) ?_
  refine ky_Vi (As := [.int zxa]) (rest := []) ⟨hx, hb, hml, hown, hts⟩ ⟨hK, hN⟩ hZ hP hD hS hA [0] [1] (wc := [(Xx, .inr (6, [.ref Tp, .int (nI tl), .ref Fr, .ref Rd, .ref Nn, .ref oNn, .ref Ts, .ref Ty, .int 0]))]) (wr := [(Fr, .inl (g 0, 4, .inl frf))]) rfl rfl rfl rfl (by decide) (u_X6_isCircuit l D g H.size Xx zxa Tp tl Fr Rd Nn oNn Ts Ty) (cwV 1 hts gX6_takes_X6_isCircuit rfl rfl rfl (by decide +kernel) ⟨(Nat.le_of_ble_eq_true rfl), (Nat.le_of_ble_eq_true rfl)⟩) 0 6 rfl rfl rfl rfl hl.1 rfl (Nat.le_of_ble_eq_true rfl) dX6_takes_2 ⟨(Nat.le_of_ble_eq_true rfl), (Nat.le_of_ble_eq_true rfl)⟩ (fun r_1 u H locs hw hP2 hD2 hS2 => ?_)
  clear hP hD hS
  obtain ⟨rfl, rfl⟩ := hw
  have hPD : PD D A [(Fr, .inl (g 0, 4, .inl frf)), (Xx, .inr (6, [.ref Tp, .int (nI tl), .ref Fr, .ref Rd, .ref Nn, .ref oNn, .ref Ts, .ref Ty, .int 0]))] H := ⟨hP2, hD2⟩
  have hS := hS2; clear hP2 hD2 hS2; have hP := hPD.1; have hD := hPD.2; clear hPD
  refine W.widen (k := 0) (n := 0) (Nat.le_of_ble_eq_true rfl) (Nat.le_of_ble_eq_true rfl) ?_
  refine lv_if_ne (tgt := 14) hx hb dX6_takes_5 (by decide) (fun cb => absurd (by decide) cb) (fun _ => ?_)
  refine lv_aload_n hx hb dX6_takes_8 rfl (lv_at hl 0 rfl) ?_
  refine lv_iconst (v := 0) hx hb dX6_takes_9 (by decide) ?_
  refine ky_Vi (As := [.int 0]) (rest := []) ⟨hx, hb, hml, hown, hts⟩ ⟨hK, hN⟩ hZ hP hD hS hA [1, 0] [] (wc := [(Xx, .inr (6, [.ref Tp, .int (nI tl), .ref Fr, .ref Rd, .ref Nn, .ref oNn, .ref Ts, .ref Ty, .int 0])), (Fr, .inl (g 0, 4, .inl frf))]) (wr := []) rfl rfl rfl rfl (by decide) (u_X6_refuse l D g H.size Xx 0 Tp tl Fr Rd Nn oNn Ts Ty frf (show 0 < 4 by omega)) (cwV 1 hts gX6_takes_X6_refuse rfl rfl rfl (by decide +kernel) ⟨(Nat.le_of_ble_eq_true rfl), (Nat.le_of_ble_eq_true rfl)⟩) 1 6 rfl rfl rfl rfl hl.1 rfl (Nat.le_of_ble_eq_true rfl) dX6_takes_10 ⟨(Nat.le_of_ble_eq_true rfl), (Nat.le_of_ble_eq_true rfl)⟩ (fun r_2 u H locs hw hP2 hD2 hS2 => ?_)
  clear hP hD hS
  obtain ⟨frfx_3, rfl, rfl⟩ := hw
  have hPD : PD D A [(Xx, .inr (6, [.ref Tp, .int (nI tl), .ref Fr, .ref Rd, .ref Nn, .ref oNn, .ref Ts, .ref Ty, .int 0])), (Fr, .inl (g 0, 4, .inl frfx_3))] H := ⟨hP2, hD2⟩
  have hS := hS2; clear hP2 hD2 hS2; have hP := hPD.1; have hD := hPD.2; clear hPD
  refine W.widen (k := 0) (n := 0) (Nat.le_of_ble_eq_true rfl) (Nat.le_of_ble_eq_true rfl) ?_
  have hP9 := hP; have hD9 := hD
  subst hQ
  refine W.widen (k := 0) (n := 0) (Nat.le_of_ble_eq_true rfl) (Nat.le_of_ble_eq_true rfl) ?_
  exact W.iret (v := (-1)) hx hb hr (fun tS htS _ => ⟨⟨_, _, rfl, ⟨frfx_3, rfl⟩, by rw [htS]; exact hP9, hD9⟩, hS.F htS⟩) hS.2.2 dX6_takes_13

set_option maxHeartbeats 4000000 in
set_option maxRecDepth 100000 in
theorem u_X6_zone (l : Launch) (D : va_G) (g : Nat → ClassId) (sz : Nat) (Xx : Nat) (zxa : Int32) (zxb : Int32) (zxc : Int32) (Tp : Nat) (tl : Nat) (Fr : Nat) (Rd : Nat) (Nn : Nat) (oNn : Nat) (Ts : Nat) (Ty : Nat) (frf : Nat → Int32) : Met l yX6_zone wsX6_zone ({ frames := 3, cells := 0, slots := 0, locals := 67 }) (va_Pc [.ref Xx, .int zxa, .int zxb, .int zxc] (pre D g sz [(Xx, .inr (6, [.ref Tp, .int (nI tl), .ref Fr, .ref Rd, .ref Nn, .ref oNn, .ref Ts, .ref Ty, .int 0])), (Fr, .inl (g 0, 4, .inl frf))])) (va_Qi (fun (r : Int32) (u : va_W) => ∃ (frfx : Nat → Int32), u = [(Xx, .inr (6, [.ref Tp, .int (nI tl), .ref Fr, .ref Rd, .ref Nn, .ref oNn, .ref Ts, .ref Ty, .int 0])), (Fr, .inl (g 0, 4, .inl frfx))]) (wd D (va_A [(Xx, .inr (6, [.ref Tp, .int (nI tl), .ref Fr, .ref Rd, .ref Nn, .ref oNn, .ref Ts, .ref Ty, .int 0])), (Fr, .inl (g 0, 4, .inl frf))] sz)) (va_A [(Xx, .inr (6, [.ref Tp, .int (nI tl), .ref Fr, .ref Rd, .ref Nn, .ref oNn, .ref Ts, .ref Ty, .int 0])), (Fr, .inl (g 0, 4, .inl frf))] sz)) 0 0 (va_A [(Xx, .inr (6, [.ref Tp, .int (nI tl), .ref Fr, .ref Rd, .ref Nn, .ref oNn, .ref Ts, .ref Ty, .int 0])), (Fr, .inl (g 0, 4, .inl frf))] sz) := by
  refine Met.ofW (cc := cX6_zone) (maxL := 7) (ret := (some .int)) (by decide) rfl ?_
  intro p e s m args below meth c s₁ B hml hv
  obtain ⟨rfl, hsz, hP, ⟨hK, hN⟩, hD0, hZ⟩ := hv
  have hx := B.exec
  have hb := B.bytes
  have hr := B.returns
  have hts := atoms_spec (ws := wsX6_zone) B.pre
  have hown : s.vm.findClass RX6 = some m.cls := findClass_of_methodNamed B.named
  have hlocks := B.notSynchronized
  clear B
  subst hsz
  have hD := hD0.self (sz := s.heap.size)
  clear hD0
  generalize hAe : va_A [(Xx, .inr (6, [.ref Tp, .int (nI tl), .ref Fr, .ref Rd, .ref Nn, .ref oNn, .ref Ts, .ref Ty, .int 0])), (Fr, .inl (g 0, 4, .inl frf))] s.heap.size = A at hD hZ ⊢
  have hA : ∀ q : Nat, s.heap.size ≤ q → A q := fun q h => by rw [← hAe]; exact Or.inr h
  have hS : va_S A s.heap s.heap [] := va_S.rf
  have hl := lv_entry ([.ref Xx, .int zxa, .int zxb, .int zxc]) (n := 7) (Nat.le_of_ble_eq_true rfl)
  rw [lg_entry_eq]
  generalize (lg_sl ([.ref Xx, .int zxa, .int zxb, .int zxc]) ++ List.replicate (7 - (lg_sl ([.ref Xx, .int zxa, .int zxb, .int zxc])).length) Slot.unset).toArray = ls at hl ⊢
  have hl : lv_has ls 7 [(0, .ref Xx), (1, .int zxa), (2, .int zxb), (3, .int zxc)] := hl
  generalize hQ : MQ below _ _ s _ _ _ = Q
  generalize hH : s.heap = H at hP ⊢
  have hS : va_S A s.heap H [] := by rw [← hH]; exact hS
  clear hH
  refine lv_aload_n hx hb dX6_zone_0 rfl (lv_at hl 0 rfl) ?_
  refine lv_iload_n hx hb dX6_zone_1 rfl (lv_at hl 1 rfl) ?_
  refine lv_iload_n hx hb dX6_zone_2 rfl (lv_at hl 2 rfl) ?_
  refine lv_iload_n hx hb dX6_zone_3 rfl (lv_at hl 3 rfl) ?_
  refine ky_Vi (As := [.int zxa, .int zxb, .int zxc]) (rest := []) ⟨hx, hb, hml, hown, hts⟩ ⟨hK, hN⟩ hZ hP hD hS hA [0] [1] (wc := [(Xx, .inr (6, [.ref Tp, .int (nI tl), .ref Fr, .ref Rd, .ref Nn, .ref oNn, .ref Ts, .ref Ty, .int 0]))]) (wr := [(Fr, .inl (g 0, 4, .inl frf))]) rfl rfl rfl rfl (by decide) (u_X6_zoneRefusal l D g H.size Xx zxa zxb zxc Tp tl Fr Rd Nn oNn Ts Ty) (cwV 3 hts gX6_zone_X6_zoneRefusal rfl rfl rfl (by decide +kernel) ⟨(Nat.le_of_ble_eq_true rfl), (Nat.le_of_ble_eq_true rfl)⟩) 0 6 rfl rfl rfl rfl hl.1 rfl (Nat.le_of_ble_eq_true rfl) dX6_zone_4 ⟨(Nat.le_of_ble_eq_true rfl), (Nat.le_of_ble_eq_true rfl)⟩ (fun r_1 u H locs hw hP2 hD2 hS2 => ?_)
  clear hP hD hS
  obtain ⟨rfl, rfl⟩ := hw
  have hPD : PD D A [(Fr, .inl (g 0, 4, .inl frf)), (Xx, .inr (6, [.ref Tp, .int (nI tl), .ref Fr, .ref Rd, .ref Nn, .ref oNn, .ref Ts, .ref Ty, .int 0]))] H := ⟨hP2, hD2⟩
  have hS := hS2; clear hP2 hD2 hS2; have hP := hPD.1; have hD := hPD.2; clear hPD
  refine W.widen (k := 0) (n := 0) (Nat.le_of_ble_eq_true rfl) (Nat.le_of_ble_eq_true rfl) ?_
  refine lv_istore (lv' := [(4, .int 0), (0, .ref Xx), (1, .int zxa), (2, .int zxb), (3, .int zxc)]) hx hb dX6_zone_7 hl (by decide) rfl (fun ls hl => ?_)
  refine lv_iload hx hb dX6_zone_9 (lv_at hl 0 rfl) ?_
  refine lv_iconst (v := (-1)) hx hb dX6_zone_11 (by decide) ?_
  refine lv_icmp_eq (tgt := 22) hx hb dX6_zone_12 (by decide) (fun cb => absurd cb (by decide)) (fun _ => ?_)
  refine lv_aload_n hx hb dX6_zone_15 rfl (lv_at hl 1 rfl) ?_
  refine lv_iload hx hb dX6_zone_16 (lv_at hl 0 rfl) ?_
  refine ky_Vi (As := [.int 0]) (rest := []) ⟨hx, hb, hml, hown, hts⟩ ⟨hK, hN⟩ hZ hP hD hS hA [1, 0] [] (wc := [(Xx, .inr (6, [.ref Tp, .int (nI tl), .ref Fr, .ref Rd, .ref Nn, .ref oNn, .ref Ts, .ref Ty, .int 0])), (Fr, .inl (g 0, 4, .inl frf))]) (wr := []) rfl rfl rfl rfl (by decide) (u_X6_refuse l D g H.size Xx 0 Tp tl Fr Rd Nn oNn Ts Ty frf (show 0 < 4 by omega)) (cwV 1 hts gX6_zone_X6_refuse rfl rfl rfl (by decide +kernel) ⟨(Nat.le_of_ble_eq_true rfl), (Nat.le_of_ble_eq_true rfl)⟩) 1 6 rfl rfl rfl rfl hl.1 rfl (Nat.le_of_ble_eq_true rfl) dX6_zone_18 ⟨(Nat.le_of_ble_eq_true rfl), (Nat.le_of_ble_eq_true rfl)⟩ (fun r_2 u H locs hw hP2 hD2 hS2 => ?_)
  clear hP hD hS
  obtain ⟨frfx_3, rfl, rfl⟩ := hw
  have hPD : PD D A [(Xx, .inr (6, [.ref Tp, .int (nI tl), .ref Fr, .ref Rd, .ref Nn, .ref oNn, .ref Ts, .ref Ty, .int 0])), (Fr, .inl (g 0, 4, .inl frfx_3))] H := ⟨hP2, hD2⟩
  have hS := hS2; clear hP2 hD2 hS2; have hP := hPD.1; have hD := hPD.2; clear hPD
  refine W.widen (k := 0) (n := 0) (Nat.le_of_ble_eq_true rfl) (Nat.le_of_ble_eq_true rfl) ?_
  have hP9 := hP; have hD9 := hD
  subst hQ
  refine W.widen (k := 0) (n := 0) (Nat.le_of_ble_eq_true rfl) (Nat.le_of_ble_eq_true rfl) ?_
  exact W.iret (v := (-1)) hx hb hr (fun tS htS _ => ⟨⟨_, _, rfl, ⟨frfx_3, rfl⟩, by rw [htS]; exact hP9, hD9⟩, hS.F htS⟩) hS.2.2 dX6_zone_21

set_option maxHeartbeats 4000000 in
set_option maxRecDepth 100000 in
theorem u_X6_probe (l : Launch) (D : va_G) (g : Nat → ClassId) (sz : Nat) (Xx : Nat) (zxa : Int32) (zxb : Int32) (Tp : Nat) (tl : Nat) (Fr : Nat) (Rd : Nat) (Nn : Nat) (oNn : Nat) (Ts : Nat) (Ty : Nat) (frf : Nat → Int32) : Met l yX6_probe wsX6_probe ({ frames := 2, cells := 0, slots := 0, locals := 43 }) (va_Pc [.ref Xx, .int zxa, .int zxb] (pre D g sz [(Xx, .inr (6, [.ref Tp, .int (nI tl), .ref Fr, .ref Rd, .ref Nn, .ref oNn, .ref Ts, .ref Ty, .int 0])), (Fr, .inl (g 0, 4, .inl frf))])) (va_Qi (fun (r : Int32) (u : va_W) => ∃ (frfx : Nat → Int32), u = [(Xx, .inr (6, [.ref Tp, .int (nI tl), .ref Fr, .ref Rd, .ref Nn, .ref oNn, .ref Ts, .ref Ty, .int 0])), (Fr, .inl (g 0, 4, .inl frfx))]) (wd D (va_A [(Xx, .inr (6, [.ref Tp, .int (nI tl), .ref Fr, .ref Rd, .ref Nn, .ref oNn, .ref Ts, .ref Ty, .int 0])), (Fr, .inl (g 0, 4, .inl frf))] sz)) (va_A [(Xx, .inr (6, [.ref Tp, .int (nI tl), .ref Fr, .ref Rd, .ref Nn, .ref oNn, .ref Ts, .ref Ty, .int 0])), (Fr, .inl (g 0, 4, .inl frf))] sz)) 0 0 (va_A [(Xx, .inr (6, [.ref Tp, .int (nI tl), .ref Fr, .ref Rd, .ref Nn, .ref oNn, .ref Ts, .ref Ty, .int 0])), (Fr, .inl (g 0, 4, .inl frf))] sz) := by
  refine Met.ofW (cc := cX6_probe) (maxL := 3) (ret := (some .int)) (by decide) rfl ?_
  intro p e s m args below meth c s₁ B hml hv
  obtain ⟨rfl, hsz, hP, ⟨hK, hN⟩, hD0, hZ⟩ := hv
  have hx := B.exec
  have hb := B.bytes
  have hr := B.returns
  have hts := atoms_spec (ws := wsX6_probe) B.pre
  have hown : s.vm.findClass RX6 = some m.cls := findClass_of_methodNamed B.named
  have hlocks := B.notSynchronized
  clear B
  subst hsz
  have hD := hD0.self (sz := s.heap.size)
  clear hD0
  generalize hAe : va_A [(Xx, .inr (6, [.ref Tp, .int (nI tl), .ref Fr, .ref Rd, .ref Nn, .ref oNn, .ref Ts, .ref Ty, .int 0])), (Fr, .inl (g 0, 4, .inl frf))] s.heap.size = A at hD hZ ⊢
  have hA : ∀ q : Nat, s.heap.size ≤ q → A q := fun q h => by rw [← hAe]; exact Or.inr h
  have hS : va_S A s.heap s.heap [] := va_S.rf
  have hl := lv_entry ([.ref Xx, .int zxa, .int zxb]) (n := 3) (Nat.le_of_ble_eq_true rfl)
  rw [lg_entry_eq]
  generalize (lg_sl ([.ref Xx, .int zxa, .int zxb]) ++ List.replicate (3 - (lg_sl ([.ref Xx, .int zxa, .int zxb])).length) Slot.unset).toArray = ls at hl ⊢
  have hl : lv_has ls 3 [(0, .ref Xx), (1, .int zxa), (2, .int zxb)] := hl
  generalize hQ : MQ below _ _ s _ _ _ = Q
  generalize hH : s.heap = H at hP ⊢
  have hS : va_S A s.heap H [] := by rw [← hH]; exact hS
  clear hH
  refine lv_aload_n hx hb dX6_probe_0 rfl (lv_at hl 0 rfl) ?_
  refine lv_iload_n hx hb dX6_probe_1 rfl (lv_at hl 1 rfl) ?_
  refine lv_iload_n hx hb dX6_probe_2 rfl (lv_at hl 2 rfl) ?_
  refine ky_Vi (As := [.int zxa, .int zxb]) (rest := []) ⟨hx, hb, hml, hown, hts⟩ ⟨hK, hN⟩ hZ hP hD hS hA [0] [1] (wc := [(Xx, .inr (6, [.ref Tp, .int (nI tl), .ref Fr, .ref Rd, .ref Nn, .ref oNn, .ref Ts, .ref Ty, .int 0]))]) (wr := [(Fr, .inl (g 0, 4, .inl frf))]) rfl rfl rfl rfl (by decide) (u_X6_isLane l D g H.size Xx zxa zxb Tp tl Fr Rd Nn oNn Ts Ty) (cwV 2 hts gX6_probe_X6_isLane rfl rfl rfl (by decide +kernel) ⟨(Nat.le_of_ble_eq_true rfl), (Nat.le_of_ble_eq_true rfl)⟩) 0 6 rfl rfl rfl rfl hl.1 rfl (Nat.le_of_ble_eq_true rfl) dX6_probe_3 ⟨(Nat.le_of_ble_eq_true rfl), (Nat.le_of_ble_eq_true rfl)⟩ (fun r_1 u H locs hw hP2 hD2 hS2 => ?_)
  clear hP hD hS
  obtain ⟨rfl, rfl⟩ := hw
  have hPD : PD D A [(Fr, .inl (g 0, 4, .inl frf)), (Xx, .inr (6, [.ref Tp, .int (nI tl), .ref Fr, .ref Rd, .ref Nn, .ref oNn, .ref Ts, .ref Ty, .int 0]))] H := ⟨hP2, hD2⟩
  have hS := hS2; clear hP2 hD2 hS2; have hP := hPD.1; have hD := hPD.2; clear hPD
  refine W.widen (k := 0) (n := 0) (Nat.le_of_ble_eq_true rfl) (Nat.le_of_ble_eq_true rfl) ?_
  refine lv_if_ne (tgt := 15) hx hb dX6_probe_6 (by decide) (fun cb => absurd (by decide) cb) (fun _ => ?_)
  refine lv_aload_n hx hb dX6_probe_9 rfl (lv_at hl 0 rfl) ?_
  refine lv_iconst (v := 0) hx hb dX6_probe_10 (by decide) ?_
  refine ky_Vi (As := [.int 0]) (rest := []) ⟨hx, hb, hml, hown, hts⟩ ⟨hK, hN⟩ hZ hP hD hS hA [1, 0] [] (wc := [(Xx, .inr (6, [.ref Tp, .int (nI tl), .ref Fr, .ref Rd, .ref Nn, .ref oNn, .ref Ts, .ref Ty, .int 0])), (Fr, .inl (g 0, 4, .inl frf))]) (wr := []) rfl rfl rfl rfl (by decide) (u_X6_refuse l D g H.size Xx 0 Tp tl Fr Rd Nn oNn Ts Ty frf (show 0 < 4 by omega)) (cwV 1 hts gX6_probe_X6_refuse rfl rfl rfl (by decide +kernel) ⟨(Nat.le_of_ble_eq_true rfl), (Nat.le_of_ble_eq_true rfl)⟩) 1 6 rfl rfl rfl rfl hl.1 rfl (Nat.le_of_ble_eq_true rfl) dX6_probe_11 ⟨(Nat.le_of_ble_eq_true rfl), (Nat.le_of_ble_eq_true rfl)⟩ (fun r_2 u H locs hw hP2 hD2 hS2 => ?_)
  clear hP hD hS
  obtain ⟨frfx_3, rfl, rfl⟩ := hw
  have hPD : PD D A [(Xx, .inr (6, [.ref Tp, .int (nI tl), .ref Fr, .ref Rd, .ref Nn, .ref oNn, .ref Ts, .ref Ty, .int 0])), (Fr, .inl (g 0, 4, .inl frfx_3))] H := ⟨hP2, hD2⟩
  have hS := hS2; clear hP2 hD2 hS2; have hP := hPD.1; have hD := hPD.2; clear hPD
  refine W.widen (k := 0) (n := 0) (Nat.le_of_ble_eq_true rfl) (Nat.le_of_ble_eq_true rfl) ?_
  have hP9 := hP; have hD9 := hD
  subst hQ
  refine W.widen (k := 0) (n := 0) (Nat.le_of_ble_eq_true rfl) (Nat.le_of_ble_eq_true rfl) ?_
  exact W.iret (v := (-1)) hx hb hr (fun tS htS _ => ⟨⟨_, _, rfl, ⟨frfx_3, rfl⟩, by rw [htS]; exact hP9, hD9⟩, hS.F htS⟩) hS.2.2 dX6_probe_14
