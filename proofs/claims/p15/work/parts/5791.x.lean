set_option maxHeartbeats 4000000 in
set_option maxRecDepth 100000 in
theorem wu_X7_rule (l : Launch) (D : va_G) (g : Nat → ClassId) (sz : Nat) (Mm : Nat) (zxa : Int32) (zth : Int32) (Mt : Nat) (tp : Nat) (zma : Int32) (zwr : Int32) (Mrr : Nat) (Mrh : Nat) (Mrc : Nat) (zrh : Int32) (zrc : Int32) (Mn : Nat) (Mf : Nat) (Mr : Nat) (Mh : Nat) (Ma : Nat) (Mas : Nat) (Msn : Nat) (Mac : Nat) (Mat : Nat) : Met l yX7_rule wsX7_rule ({ frames := 1, cells := 0, slots := 0, locals := 20 }) (va_Pc [.ref Mm, .int zxa] (pre D g sz [(Mm, .inr (7, [.int zth, .ref Mt, .int (nI tp), .int zma, .int zwr, .ref Mrr, .ref Mrh, .ref Mrc, .int zrh, .int zrc, .ref Mn, .ref Mf, .ref Mr, .ref Mh, .int 0, .int 0, .ref Ma, .ref Mas, .ref Msn, .ref Mac, .ref Mat]))])) (va_Qi (fun (r : Int32) (u : va_W) => ∃ (zthx : Int32), u = [(Mm, .inr (7, [.int zthx, .ref Mt, .int (nI tp), .int zma, .int zwr, .ref Mrr, .ref Mrh, .ref Mrc, .int zrh, .int zrc, .ref Mn, .ref Mf, .ref Mr, .ref Mh, .int 0, .int 0, .ref Ma, .ref Mas, .ref Msn, .ref Mac, .ref Mat]))] ∧ r = (-1000000)) (wd D (va_A [(Mm, .inr (7, [.int zth, .ref Mt, .int (nI tp), .int zma, .int zwr, .ref Mrr, .ref Mrh, .ref Mrc, .int zrh, .int zrc, .ref Mn, .ref Mf, .ref Mr, .ref Mh, .int 0, .int 0, .ref Ma, .ref Mas, .ref Msn, .ref Mac, .ref Mat]))] sz)) (va_A [(Mm, .inr (7, [.int zth, .ref Mt, .int (nI tp), .int zma, .int zwr, .ref Mrr, .ref Mrh, .ref Mrc, .int zrh, .int zrc, .ref Mn, .ref Mf, .ref Mr, .ref Mh, .int 0, .int 0, .ref Ma, .ref Mas, .ref Msn, .ref Mac, .ref Mat]))] sz)) 0 0 (va_A [(Mm, .inr (7, [.int zth, .ref Mt, .int (nI tp), .int zma, .int zwr, .ref Mrr, .ref Mrh, .ref Mrc, .int zrh, .int zrc, .ref Mn, .ref Mf, .ref Mr, .ref Mh, .int 0, .int 0, .ref Ma, .ref Mas, .ref Msn, .ref Mac, .ref Mat]))] sz) := by
  refine Met.ofW (cc := cX7_rule) (maxL := 2) (ret := (some .int)) (by decide) rfl ?_
  intro p e s m args below meth c s₁ B hml hv
  obtain ⟨rfl, hsz, hP, ⟨hK, hN⟩, hD0, hZ⟩ := hv
  have hx := B.exec
  have hb := B.bytes
  have hr := B.returns
  have hts := atoms_spec (ws := wsX7_rule) B.pre
  have hown : s.vm.findClass RX7 = some m.cls := findClass_of_methodNamed B.named
  have hlocks := B.notSynchronized
  clear B
  subst hsz
  have hD := hD0.self (sz := s.heap.size)
  clear hD0
  generalize hAe : va_A [(Mm, .inr (7, [.int zth, .ref Mt, .int (nI tp), .int zma, .int zwr, .ref Mrr, .ref Mrh, .ref Mrc, .int zrh, .int zrc, .ref Mn, .ref Mf, .ref Mr, .ref Mh, .int 0, .int 0, .ref Ma, .ref Mas, .ref Msn, .ref Mac, .ref Mat]))] s.heap.size = A at hD hZ ⊢
  have hA : ∀ q : Nat, s.heap.size ≤ q → A q := fun q h => by rw [← hAe]; exact Or.inr h
  have hS : va_S A s.heap s.heap [] := va_S.rf
  have f49 := hts (.fieldLink RX7 49 "HopCreditsModel" "thrown" "I") (List.mem_of_getElem? (i := 1) rfl)
  have k236 := hts (.constant RX7 236 (-1000000)) (List.mem_of_getElem? (i := 2) rfl)
  have iX7 : ∀ w ∈ u_ws RX7 TX7 21, w ∈ wsX7_rule := fun w h => List.mem_cons_of_mem _ (List.mem_append_right _ (h))
  have hl := lv_entry ([.ref Mm, .int zxa]) (n := 2) (Nat.le_of_ble_eq_true rfl)
  rw [lg_entry_eq]
  generalize (lg_sl ([.ref Mm, .int zxa]) ++ List.replicate (2 - (lg_sl ([.ref Mm, .int zxa])).length) Slot.unset).toArray = ls at hl ⊢
  have hl : lv_has ls 2 [(0, .ref Mm), (1, .int zxa)] := hl
  generalize hQ : MQ below _ _ s _ _ _ = Q
  generalize hH : s.heap = H at hP ⊢
  have hS : va_S A s.heap H [] := by rw [← hH]; exact hS
  clear hH
  refine lv_aload_n hx hb dX7_rule_0 rfl (lv_at hl 0 rfl) ?_
  refine lv_iconst (v := 0) hx hb dX7_rule_1 (by decide) ?_
  refine va_put (D := D) (ci := 7) (v := .int 0) (ty := .int) (C := RX7) (T := TX7) (N := 21) hx hb hts iX7 tyX7 tyX7_ok nmX7 hown hK hP hD hS 0 rfl rfl 0 (by decide) f49 (fun _ h9 => h9) rfl (by decide +kernel) (rfl) (rfl) (Nat.le_of_ble_eq_true rfl) dX7_rule_2 (fun H locs hP2 hD2 hS2 => ?_)
  clear hP hD hS
  have hPD : PD D A [(Mm, .inr (7, [.int 0, .ref Mt, .int (nI tp), .int zma, .int zwr, .ref Mrr, .ref Mrh, .ref Mrc, .int zrh, .int zrc, .ref Mn, .ref Mf, .ref Mr, .ref Mh, .int 0, .int 0, .ref Ma, .ref Mas, .ref Msn, .ref Mac, .ref Mat]))] H := ⟨hP2, hD2⟩
  have hS := hS2; clear hP2 hD2 hS2; have hP := hPD.1; have hD := hPD.2; clear hPD
  refine lv_aload_n hx hb dX7_rule_5 rfl (lv_at hl 0 rfl) ?_
  refine ky_Vi (As := []) (rest := []) ⟨hx, hb, hml, hown, hts⟩ ⟨hK, hN⟩ hZ hP hD hS hA [0] [] (wc := [(Mm, .inr (7, [.int 0, .ref Mt, .int (nI tp), .int zma, .int zwr, .ref Mrr, .ref Mrh, .ref Mrc, .int zrh, .int zrc, .ref Mn, .ref Mf, .ref Mr, .ref Mh, .int 0, .int 0, .ref Ma, .ref Mas, .ref Msn, .ref Mac, .ref Mat]))]) (wr := []) rfl rfl rfl rfl (by decide) (u_X7_isNet l D g H.size Mm 0 Mt tp zma zwr Mrr Mrh Mrc zrh zrc Mn Mf Mr Mh Ma Mas Msn Mac Mat) (cwV 0 hts gX7_rule_X7_isNet rfl rfl rfl (by decide +kernel) ⟨(Nat.le_of_ble_eq_true rfl), (Nat.le_of_ble_eq_true rfl)⟩) 0 7 rfl rfl rfl rfl hl.1 rfl (Nat.le_of_ble_eq_true rfl) dX7_rule_6 ⟨(Nat.le_of_ble_eq_true rfl), (Nat.le_of_ble_eq_true rfl)⟩ (fun r_1 u H locs hw hP2 hD2 hS2 => ?_)
  clear hP hD hS
  obtain ⟨rfl, rfl⟩ := hw
  have hPD : PD D A [(Mm, .inr (7, [.int 0, .ref Mt, .int (nI tp), .int zma, .int zwr, .ref Mrr, .ref Mrh, .ref Mrc, .int zrh, .int zrc, .ref Mn, .ref Mf, .ref Mr, .ref Mh, .int 0, .int 0, .ref Ma, .ref Mas, .ref Msn, .ref Mac, .ref Mat]))] H := ⟨hP2, hD2⟩
  have hS := hS2; clear hP2 hD2 hS2; have hP := hPD.1; have hD := hPD.2; clear hPD
  refine W.widen (k := 0) (n := 0) (Nat.le_of_ble_eq_true rfl) (Nat.le_of_ble_eq_true rfl) ?_
  refine lv_if_eq (tgt := 21) hx hb dX7_rule_9 (by decide) (fun _ => ?_) (fun cb => absurd (by decide) cb)
  refine lv_ldc (v := (-1000000)) hx hb hown k236 dX7_rule_21 ?_
  have hP9 := hP; have hD9 := hD
  subst hQ
  refine W.widen (k := 0) (n := 0) (Nat.le_of_ble_eq_true rfl) (Nat.le_of_ble_eq_true rfl) ?_
  exact W.iret (v := (-1000000)) hx hb hr (fun tS htS _ => ⟨⟨_, _, rfl, ⟨0, rfl, rfl⟩, by rw [htS]; exact hP9, hD9⟩, hS.F htS⟩) hS.2.2 dX7_rule_23

set_option maxHeartbeats 4000000 in
set_option maxRecDepth 100000 in
theorem wu_X7_go (l : Launch) (D : va_G) (g : Nat → ClassId) (sz : Nat) (Mm : Nat) (zxa : Int32) (zth : Int32) (Mt : Nat) (tp : Nat) (zma : Int32) (zwr : Int32) (Mrr : Nat) (Mrh : Nat) (Mrc : Nat) (zrh : Int32) (zrc : Int32) (Mn : Nat) (Mf : Nat) (Mr : Nat) (Mh : Nat) (Ma : Nat) (Mas : Nat) (Msn : Nat) (Mac : Nat) (Mat : Nat) (fmf : Nat → Int32) : Met l yX7_go wsX7_go ({ frames := 1, cells := 0, slots := 0, locals := 21 }) (va_Pc [.ref Mm, .int zxa] (pre D g sz [(Mm, .inr (7, [.int zth, .ref Mt, .int (nI tp), .int zma, .int zwr, .ref Mrr, .ref Mrh, .ref Mrc, .int zrh, .int zrc, .ref Mn, .ref Mf, .ref Mr, .ref Mh, .int 0, .int 0, .ref Ma, .ref Mas, .ref Msn, .ref Mac, .ref Mat])), (Mf, .inl (g 0, 4, .inl fmf))])) (va_Qi (fun (r : Int32) (u : va_W) => ∃ (zthx : Int32) (fmfx : Nat → Int32), u = [(Mm, .inr (7, [.int zthx, .ref Mt, .int (nI tp), .int zma, .int zwr, .ref Mrr, .ref Mrh, .ref Mrc, .int zrh, .int zrc, .ref Mn, .ref Mf, .ref Mr, .ref Mh, .int 0, .int 0, .ref Ma, .ref Mas, .ref Msn, .ref Mac, .ref Mat])), (Mf, .inl (g 0, 4, .inl fmfx))] ∧ r = (-1)) (wd D (va_A [(Mm, .inr (7, [.int zth, .ref Mt, .int (nI tp), .int zma, .int zwr, .ref Mrr, .ref Mrh, .ref Mrc, .int zrh, .int zrc, .ref Mn, .ref Mf, .ref Mr, .ref Mh, .int 0, .int 0, .ref Ma, .ref Mas, .ref Msn, .ref Mac, .ref Mat])), (Mf, .inl (g 0, 4, .inl fmf))] sz)) (va_A [(Mm, .inr (7, [.int zth, .ref Mt, .int (nI tp), .int zma, .int zwr, .ref Mrr, .ref Mrh, .ref Mrc, .int zrh, .int zrc, .ref Mn, .ref Mf, .ref Mr, .ref Mh, .int 0, .int 0, .ref Ma, .ref Mas, .ref Msn, .ref Mac, .ref Mat])), (Mf, .inl (g 0, 4, .inl fmf))] sz)) 0 0 (va_A [(Mm, .inr (7, [.int zth, .ref Mt, .int (nI tp), .int zma, .int zwr, .ref Mrr, .ref Mrh, .ref Mrc, .int zrh, .int zrc, .ref Mn, .ref Mf, .ref Mr, .ref Mh, .int 0, .int 0, .ref Ma, .ref Mas, .ref Msn, .ref Mac, .ref Mat])), (Mf, .inl (g 0, 4, .inl fmf))] sz) := by
  refine Met.ofW (cc := cX7_go) (maxL := 3) (ret := (some .int)) (by decide) rfl ?_
  intro p e s m args below meth c s₁ B hml hv
  obtain ⟨rfl, hsz, hP, ⟨hK, hN⟩, hD0, hZ⟩ := hv
  have hx := B.exec
  have hb := B.bytes
  have hr := B.returns
  have hts := atoms_spec (ws := wsX7_go) B.pre
  have hown : s.vm.findClass RX7 = some m.cls := findClass_of_methodNamed B.named
  have hlocks := B.notSynchronized
  clear B
  subst hsz
  have hD := hD0.self (sz := s.heap.size)
  clear hD0
  generalize hAe : va_A [(Mm, .inr (7, [.int zth, .ref Mt, .int (nI tp), .int zma, .int zwr, .ref Mrr, .ref Mrh, .ref Mrc, .int zrh, .int zrc, .ref Mn, .ref Mf, .ref Mr, .ref Mh, .int 0, .int 0, .ref Ma, .ref Mas, .ref Msn, .ref Mac, .ref Mat])), (Mf, .inl (g 0, 4, .inl fmf))] s.heap.size = A at hD hZ ⊢
  have hA : ∀ q : Nat, s.heap.size ≤ q → A q := fun q h => by rw [← hAe]; exact Or.inr h
  have hS : va_S A s.heap s.heap [] := va_S.rf
  have f49 := hts (.fieldLink RX7 49 "HopCreditsModel" "thrown" "I") (List.mem_of_getElem? (i := 1) rfl)
  have iX7 : ∀ w ∈ u_ws RX7 TX7 21, w ∈ wsX7_go := fun w h => List.mem_cons_of_mem _ (List.mem_append_right _ (h))
  have hl := lv_entry ([.ref Mm, .int zxa]) (n := 3) (Nat.le_of_ble_eq_true rfl)
  rw [lg_entry_eq]
  generalize (lg_sl ([.ref Mm, .int zxa]) ++ List.replicate (3 - (lg_sl ([.ref Mm, .int zxa])).length) Slot.unset).toArray = ls at hl ⊢
  have hl : lv_has ls 3 [(0, .ref Mm), (1, .int zxa)] := hl
  generalize hQ : MQ below _ _ s _ _ _ = Q
  generalize hH : s.heap = H at hP ⊢
  have hS : va_S A s.heap H [] := by rw [← hH]; exact hS
  clear hH
  refine lv_aload_n hx hb dX7_go_0 rfl (lv_at hl 0 rfl) ?_
  refine lv_iconst (v := 0) hx hb dX7_go_1 (by decide) ?_
  refine va_put (D := D) (ci := 7) (v := .int 0) (ty := .int) (C := RX7) (T := TX7) (N := 21) hx hb hts iX7 tyX7 tyX7_ok nmX7 hown hK hP hD hS 0 rfl rfl 0 (by decide) f49 (fun _ h9 => h9) rfl (by decide +kernel) (rfl) (rfl) (Nat.le_of_ble_eq_true rfl) dX7_go_2 (fun H locs hP2 hD2 hS2 => ?_)
  clear hP hD hS
  have hPD : PD D A [(Mm, .inr (7, [.int 0, .ref Mt, .int (nI tp), .int zma, .int zwr, .ref Mrr, .ref Mrh, .ref Mrc, .int zrh, .int zrc, .ref Mn, .ref Mf, .ref Mr, .ref Mh, .int 0, .int 0, .ref Ma, .ref Mas, .ref Msn, .ref Mac, .ref Mat])), (Mf, .inl (g 0, 4, .inl fmf))] H := ⟨hP2, hD2⟩
  have hS := hS2; clear hP2 hD2 hS2; have hP := hPD.1; have hD := hPD.2; clear hPD
  refine lv_aload_n hx hb dX7_go_5 rfl (lv_at hl 0 rfl) ?_
  refine ky_Vi (As := []) (rest := []) ⟨hx, hb, hml, hown, hts⟩ ⟨hK, hN⟩ hZ hP hD hS hA [0] [1] (wc := [(Mm, .inr (7, [.int 0, .ref Mt, .int (nI tp), .int zma, .int zwr, .ref Mrr, .ref Mrh, .ref Mrc, .int zrh, .int zrc, .ref Mn, .ref Mf, .ref Mr, .ref Mh, .int 0, .int 0, .ref Ma, .ref Mas, .ref Msn, .ref Mac, .ref Mat]))]) (wr := [(Mf, .inl (g 0, 4, .inl fmf))]) rfl rfl rfl rfl (by decide) (u_X7_isNet l D g H.size Mm 0 Mt tp zma zwr Mrr Mrh Mrc zrh zrc Mn Mf Mr Mh Ma Mas Msn Mac Mat) (cwV 0 hts gX7_go_X7_isNet rfl rfl rfl (by decide +kernel) ⟨(Nat.le_of_ble_eq_true rfl), (Nat.le_of_ble_eq_true rfl)⟩) 0 7 rfl rfl rfl rfl hl.1 rfl (Nat.le_of_ble_eq_true rfl) dX7_go_6 ⟨(Nat.le_of_ble_eq_true rfl), (Nat.le_of_ble_eq_true rfl)⟩ (fun r_1 u H locs hw hP2 hD2 hS2 => ?_)
  clear hP hD hS
  obtain ⟨rfl, rfl⟩ := hw
  have hPD : PD D A [(Mf, .inl (g 0, 4, .inl fmf)), (Mm, .inr (7, [.int 0, .ref Mt, .int (nI tp), .int zma, .int zwr, .ref Mrr, .ref Mrh, .ref Mrc, .int zrh, .int zrc, .ref Mn, .ref Mf, .ref Mr, .ref Mh, .int 0, .int 0, .ref Ma, .ref Mas, .ref Msn, .ref Mac, .ref Mat]))] H := ⟨hP2, hD2⟩
  have hS := hS2; clear hP2 hD2 hS2; have hP := hPD.1; have hD := hPD.2; clear hPD
  refine W.widen (k := 0) (n := 0) (Nat.le_of_ble_eq_true rfl) (Nat.le_of_ble_eq_true rfl) ?_
  refine lv_if_ne (tgt := 18) hx hb dX7_go_9 (by decide) (fun cb => absurd (by decide) cb) (fun _ => ?_)
  refine lv_aload_n hx hb dX7_go_12 rfl (lv_at hl 0 rfl) ?_
  refine lv_iconst (v := 0) hx hb dX7_go_13 (by decide) ?_
  refine ky_Vi (As := [.int 0]) (rest := []) ⟨hx, hb, hml, hown, hts⟩ ⟨hK, hN⟩ hZ hP hD hS hA [1, 0] [] (wc := [(Mm, .inr (7, [.int 0, .ref Mt, .int (nI tp), .int zma, .int zwr, .ref Mrr, .ref Mrh, .ref Mrc, .int zrh, .int zrc, .ref Mn, .ref Mf, .ref Mr, .ref Mh, .int 0, .int 0, .ref Ma, .ref Mas, .ref Msn, .ref Mac, .ref Mat])), (Mf, .inl (g 0, 4, .inl fmf))]) (wr := []) rfl rfl rfl rfl (by decide) (k_X7_refuses l D g H.size Mm 0 0 Mt tp zma zwr Mrr Mrh Mrc zrh zrc Mn Mf Mr Mh 0 0 Ma Mas Msn Mac Mat fmf (show 0 < 4 by omega)) (cwV 1 hts gX7_go_X7_refuses rfl rfl rfl (by decide +kernel) ⟨(Nat.le_of_ble_eq_true rfl), (Nat.le_of_ble_eq_true rfl)⟩) 1 7 rfl rfl rfl rfl hl.1 rfl (Nat.le_of_ble_eq_true rfl) dX7_go_14 ⟨(Nat.le_of_ble_eq_true rfl), (Nat.le_of_ble_eq_true rfl)⟩ (fun r_2 u H locs hw hP2 hD2 hS2 => ?_)
  clear hP hD hS
  obtain ⟨fmfx_3, rfl, rfl⟩ := hw
  have hPD : PD D A [(Mm, .inr (7, [.int 0, .ref Mt, .int (nI tp), .int zma, .int zwr, .ref Mrr, .ref Mrh, .ref Mrc, .int zrh, .int zrc, .ref Mn, .ref Mf, .ref Mr, .ref Mh, .int (nI 0), .int (nI 0), .ref Ma, .ref Mas, .ref Msn, .ref Mac, .ref Mat])), (Mf, .inl (g 0, 4, .inl fmfx_3))] H := ⟨hP2, hD2⟩
  have hS := hS2; clear hP2 hD2 hS2; have hP := hPD.1; have hD := hPD.2; clear hPD
  refine W.widen (k := 0) (n := 0) (Nat.le_of_ble_eq_true rfl) (Nat.le_of_ble_eq_true rfl) ?_
  have hP9 := hP; have hD9 := hD
  subst hQ
  refine W.widen (k := 0) (n := 0) (Nat.le_of_ble_eq_true rfl) (Nat.le_of_ble_eq_true rfl) ?_
  exact W.iret (v := (-1)) hx hb hr (fun tS htS _ => ⟨⟨_, _, rfl, ⟨0, fmfx_3, rfl, rfl⟩, by rw [htS]; exact hP9, hD9⟩, hS.F htS⟩) hS.2.2 dX7_go_17

set_option maxHeartbeats 4000000 in
set_option maxRecDepth 100000 in
theorem wu_X7_source (l : Launch) (D : va_G) (g : Nat → ClassId) (sz : Nat) (Mm : Nat) (zxa : Int32) (zxb : Int32) (zxc : Int32) (zth : Int32) (Mt : Nat) (tp : Nat) (zma : Int32) (zwr : Int32) (Mrr : Nat) (Mrh : Nat) (Mrc : Nat) (zrh : Int32) (zrc : Int32) (Mn : Nat) (Mf : Nat) (Mr : Nat) (Mh : Nat) (Ma : Nat) (Mas : Nat) (Msn : Nat) (Mac : Nat) (Mat : Nat) (fmf : Nat → Int32) : Met l yX7_source wsX7_source ({ frames := 2, cells := 0, slots := 0, locals := 43 }) (va_Pc [.ref Mm, .int zxa, .int zxb, .int zxc] (pre D g sz [(Mm, .inr (7, [.int zth, .ref Mt, .int (nI tp), .int zma, .int zwr, .ref Mrr, .ref Mrh, .ref Mrc, .int zrh, .int zrc, .ref Mn, .ref Mf, .ref Mr, .ref Mh, .int 0, .int 0, .ref Ma, .ref Mas, .ref Msn, .ref Mac, .ref Mat])), (Mf, .inl (g 0, 4, .inl fmf))])) (va_Qi (fun (r : Int32) (u : va_W) => ∃ (zthx : Int32) (fmfx : Nat → Int32), u = [(Mm, .inr (7, [.int zthx, .ref Mt, .int (nI tp), .int zma, .int zwr, .ref Mrr, .ref Mrh, .ref Mrc, .int zrh, .int zrc, .ref Mn, .ref Mf, .ref Mr, .ref Mh, .int 0, .int 0, .ref Ma, .ref Mas, .ref Msn, .ref Mac, .ref Mat])), (Mf, .inl (g 0, 4, .inl fmfx))] ∧ r = (-1)) (wd D (va_A [(Mm, .inr (7, [.int zth, .ref Mt, .int (nI tp), .int zma, .int zwr, .ref Mrr, .ref Mrh, .ref Mrc, .int zrh, .int zrc, .ref Mn, .ref Mf, .ref Mr, .ref Mh, .int 0, .int 0, .ref Ma, .ref Mas, .ref Msn, .ref Mac, .ref Mat])), (Mf, .inl (g 0, 4, .inl fmf))] sz)) (va_A [(Mm, .inr (7, [.int zth, .ref Mt, .int (nI tp), .int zma, .int zwr, .ref Mrr, .ref Mrh, .ref Mrc, .int zrh, .int zrc, .ref Mn, .ref Mf, .ref Mr, .ref Mh, .int 0, .int 0, .ref Ma, .ref Mas, .ref Msn, .ref Mac, .ref Mat])), (Mf, .inl (g 0, 4, .inl fmf))] sz)) 0 0 (va_A [(Mm, .inr (7, [.int zth, .ref Mt, .int (nI tp), .int zma, .int zwr, .ref Mrr, .ref Mrh, .ref Mrc, .int zrh, .int zrc, .ref Mn, .ref Mf, .ref Mr, .ref Mh, .int 0, .int 0, .ref Ma, .ref Mas, .ref Msn, .ref Mac, .ref Mat])), (Mf, .inl (g 0, 4, .inl fmf))] sz) := by
  refine Met.ofW (cc := cX7_source) (maxL := 6) (ret := (some .int)) (by decide) rfl ?_
  intro p e s m args below meth c s₁ B hml hv
  obtain ⟨rfl, hsz, hP, ⟨hK, hN⟩, hD0, hZ⟩ := hv
  have hx := B.exec
  have hb := B.bytes
  have hr := B.returns
  have hts := atoms_spec (ws := wsX7_source) B.pre
  have hown : s.vm.findClass RX7 = some m.cls := findClass_of_methodNamed B.named
  have hlocks := B.notSynchronized
  clear B
  subst hsz
  have hD := hD0.self (sz := s.heap.size)
  clear hD0
  generalize hAe : va_A [(Mm, .inr (7, [.int zth, .ref Mt, .int (nI tp), .int zma, .int zwr, .ref Mrr, .ref Mrh, .ref Mrc, .int zrh, .int zrc, .ref Mn, .ref Mf, .ref Mr, .ref Mh, .int 0, .int 0, .ref Ma, .ref Mas, .ref Msn, .ref Mac, .ref Mat])), (Mf, .inl (g 0, 4, .inl fmf))] s.heap.size = A at hD hZ ⊢
  have hA : ∀ q : Nat, s.heap.size ≤ q → A q := fun q h => by rw [← hAe]; exact Or.inr h
  have hS : va_S A s.heap s.heap [] := va_S.rf
  have f49 := hts (.fieldLink RX7 49 "HopCreditsModel" "thrown" "I") (List.mem_of_getElem? (i := 1) rfl)
  have iX7 : ∀ w ∈ u_ws RX7 TX7 21, w ∈ wsX7_source := fun w h => List.mem_cons_of_mem _ (List.mem_append_right _ (h))
  have hl := lv_entry ([.ref Mm, .int zxa, .int zxb, .int zxc]) (n := 6) (Nat.le_of_ble_eq_true rfl)
  rw [lg_entry_eq]
  generalize (lg_sl ([.ref Mm, .int zxa, .int zxb, .int zxc]) ++ List.replicate (6 - (lg_sl ([.ref Mm, .int zxa, .int zxb, .int zxc])).length) Slot.unset).toArray = ls at hl ⊢
  have hl : lv_has ls 6 [(0, .ref Mm), (1, .int zxa), (2, .int zxb), (3, .int zxc)] := hl
  generalize hQ : MQ below _ _ s _ _ _ = Q
  generalize hH : s.heap = H at hP ⊢
  have hS : va_S A s.heap H [] := by rw [← hH]; exact hS
  clear hH
  refine lv_aload_n hx hb dX7_source_0 rfl (lv_at hl 0 rfl) ?_
  refine lv_iconst (v := 0) hx hb dX7_source_1 (by decide) ?_
  refine va_put (D := D) (ci := 7) (v := .int 0) (ty := .int) (C := RX7) (T := TX7) (N := 21) hx hb hts iX7 tyX7 tyX7_ok nmX7 hown hK hP hD hS 0 rfl rfl 0 (by decide) f49 (fun _ h9 => h9) rfl (by decide +kernel) (rfl) (rfl) (Nat.le_of_ble_eq_true rfl) dX7_source_2 (fun H locs hP2 hD2 hS2 => ?_)
  clear hP hD hS
  have hPD : PD D A [(Mm, .inr (7, [.int 0, .ref Mt, .int (nI tp), .int zma, .int zwr, .ref Mrr, .ref Mrh, .ref Mrc, .int zrh, .int zrc, .ref Mn, .ref Mf, .ref Mr, .ref Mh, .int 0, .int 0, .ref Ma, .ref Mas, .ref Msn, .ref Mac, .ref Mat])), (Mf, .inl (g 0, 4, .inl fmf))] H := ⟨hP2, hD2⟩
  have hS := hS2; clear hP2 hD2 hS2; have hP := hPD.1; have hD := hPD.2; clear hPD
  refine lv_aload_n hx hb dX7_source_5 rfl (lv_at hl 0 rfl) ?_
  refine lv_iload_n hx hb dX7_source_6 rfl (lv_at hl 1 rfl) ?_
  refine ky_Vi (As := [.int zxa]) (rest := []) ⟨hx, hb, hml, hown, hts⟩ ⟨hK, hN⟩ hZ hP hD hS hA [0] [1] (wc := [(Mm, .inr (7, [.int 0, .ref Mt, .int (nI tp), .int zma, .int zwr, .ref Mrr, .ref Mrh, .ref Mrc, .int zrh, .int zrc, .ref Mn, .ref Mf, .ref Mr, .ref Mh, .int 0, .int 0, .ref Ma, .ref Mas, .ref Msn, .ref Mac, .ref Mat]))]) (wr := [(Mf, .inl (g 0, 4, .inl fmf))]) rfl rfl rfl rfl (by decide) (u_X7_isCircuit l D g H.size Mm zxa 0 Mt tp zma zwr Mrr Mrh Mrc zrh zrc Mn Mf Mr Mh Ma Mas Msn Mac Mat) (cwV 1 hts gX7_source_X7_isCircuit rfl rfl rfl (by decide +kernel) ⟨(Nat.le_of_ble_eq_true rfl), (Nat.le_of_ble_eq_true rfl)⟩) 0 7 rfl rfl rfl rfl hl.1 rfl (Nat.le_of_ble_eq_true rfl) dX7_source_7 ⟨(Nat.le_of_ble_eq_true rfl), (Nat.le_of_ble_eq_true rfl)⟩ (fun r_1 u H locs hw hP2 hD2 hS2 => ?_)
  clear hP hD hS
  obtain ⟨rfl, rfl⟩ := hw
  have hPD : PD D A [(Mf, .inl (g 0, 4, .inl fmf)), (Mm, .inr (7, [.int 0, .ref Mt, .int (nI tp), .int zma, .int zwr, .ref Mrr, .ref Mrh, .ref Mrc, .int zrh, .int zrc, .ref Mn, .ref Mf, .ref Mr, .ref Mh, .int 0, .int 0, .ref Ma, .ref Mas, .ref Msn, .ref Mac, .ref Mat]))] H := ⟨hP2, hD2⟩
  have hS := hS2; clear hP2 hD2 hS2; have hP := hPD.1; have hD := hPD.2; clear hPD
  refine W.widen (k := 0) (n := 0) (Nat.le_of_ble_eq_true rfl) (Nat.le_of_ble_eq_true rfl) ?_
  refine lv_if_ne (tgt := 19) hx hb dX7_source_10 (by decide) (fun cb => absurd (by decide) cb) (fun _ => ?_)
  refine lv_aload_n hx hb dX7_source_13 rfl (lv_at hl 0 rfl) ?_
  refine lv_iconst (v := 0) hx hb dX7_source_14 (by decide) ?_
  refine ky_Vi (As := [.int 0]) (rest := []) ⟨hx, hb, hml, hown, hts⟩ ⟨hK, hN⟩ hZ hP hD hS hA [1, 0] [] (wc := [(Mm, .inr (7, [.int 0, .ref Mt, .int (nI tp), .int zma, .int zwr, .ref Mrr, .ref Mrh, .ref Mrc, .int zrh, .int zrc, .ref Mn, .ref Mf, .ref Mr, .ref Mh, .int 0, .int 0, .ref Ma, .ref Mas, .ref Msn, .ref Mac, .ref Mat])), (Mf, .inl (g 0, 4, .inl fmf))]) (wr := []) rfl rfl rfl rfl (by decide) (k_X7_refuses l D g H.size Mm 0 0 Mt tp zma zwr Mrr Mrh Mrc zrh zrc Mn Mf Mr Mh 0 0 Ma Mas Msn Mac Mat fmf (show 0 < 4 by omega)) (cwV 1 hts gX7_source_X7_refuses rfl rfl rfl (by decide +kernel) ⟨(Nat.le_of_ble_eq_true rfl), (Nat.le_of_ble_eq_true rfl)⟩) 1 7 rfl rfl rfl rfl hl.1 rfl (Nat.le_of_ble_eq_true rfl) dX7_source_15 ⟨(Nat.le_of_ble_eq_true rfl), (Nat.le_of_ble_eq_true rfl)⟩ (fun r_2 u H locs hw hP2 hD2 hS2 => ?_)
  clear hP hD hS
  obtain ⟨fmfx_3, rfl, rfl⟩ := hw
  have hPD : PD D A [(Mm, .inr (7, [.int 0, .ref Mt, .int (nI tp), .int zma, .int zwr, .ref Mrr, .ref Mrh, .ref Mrc, .int zrh, .int zrc, .ref Mn, .ref Mf, .ref Mr, .ref Mh, .int (nI 0), .int (nI 0), .ref Ma, .ref Mas, .ref Msn, .ref Mac, .ref Mat])), (Mf, .inl (g 0, 4, .inl fmfx_3))] H := ⟨hP2, hD2⟩
  have hS := hS2; clear hP2 hD2 hS2; have hP := hPD.1; have hD := hPD.2; clear hPD
  refine W.widen (k := 0) (n := 0) (Nat.le_of_ble_eq_true rfl) (Nat.le_of_ble_eq_true rfl) ?_
  have hP9 := hP; have hD9 := hD
  subst hQ
  refine W.widen (k := 0) (n := 0) (Nat.le_of_ble_eq_true rfl) (Nat.le_of_ble_eq_true rfl) ?_
  exact W.iret (v := (-1)) hx hb hr (fun tS htS _ => ⟨⟨_, _, rfl, ⟨0, fmfx_3, rfl, rfl⟩, by rw [htS]; exact hP9, hD9⟩, hS.F htS⟩) hS.2.2 dX7_source_18

set_option maxHeartbeats 4000000 in
set_option maxRecDepth 100000 in
theorem wu_X7_takes (l : Launch) (D : va_G) (g : Nat → ClassId) (sz : Nat) (Mm : Nat) (zxa : Int32) (zxb : Int32) (zth : Int32) (Mt : Nat) (tp : Nat) (zma : Int32) (zwr : Int32) (Mrr : Nat) (Mrh : Nat) (Mrc : Nat) (zrh : Int32) (zrc : Int32) (Mn : Nat) (Mf : Nat) (Mr : Nat) (Mh : Nat) (Ma : Nat) (Mas : Nat) (Msn : Nat) (Mac : Nat) (Mat : Nat) (fmf : Nat → Int32) : Met l yX7_takes wsX7_takes ({ frames := 2, cells := 0, slots := 0, locals := 43 }) (va_Pc [.ref Mm, .int zxa, .int zxb] (pre D g sz [(Mm, .inr (7, [.int zth, .ref Mt, .int (nI tp), .int zma, .int zwr, .ref Mrr, .ref Mrh, .ref Mrc, .int zrh, .int zrc, .ref Mn, .ref Mf, .ref Mr, .ref Mh, .int 0, .int 0, .ref Ma, .ref Mas, .ref Msn, .ref Mac, .ref Mat])), (Mf, .inl (g 0, 4, .inl fmf))])) (va_Qi (fun (r : Int32) (u : va_W) => ∃ (zthx : Int32) (fmfx : Nat → Int32), u = [(Mm, .inr (7, [.int zthx, .ref Mt, .int (nI tp), .int zma, .int zwr, .ref Mrr, .ref Mrh, .ref Mrc, .int zrh, .int zrc, .ref Mn, .ref Mf, .ref Mr, .ref Mh, .int 0, .int 0, .ref Ma, .ref Mas, .ref Msn, .ref Mac, .ref Mat])), (Mf, .inl (g 0, 4, .inl fmfx))] ∧ r = (-1)) (wd D (va_A [(Mm, .inr (7, [.int zth, .ref Mt, .int (nI tp), .int zma, .int zwr, .ref Mrr, .ref Mrh, .ref Mrc, .int zrh, .int zrc, .ref Mn, .ref Mf, .ref Mr, .ref Mh, .int 0, .int 0, .ref Ma, .ref Mas, .ref Msn, .ref Mac, .ref Mat])), (Mf, .inl (g 0, 4, .inl fmf))] sz)) (va_A [(Mm, .inr (7, [.int zth, .ref Mt, .int (nI tp), .int zma, .int zwr, .ref Mrr, .ref Mrh, .ref Mrc, .int zrh, .int zrc, .ref Mn, .ref Mf, .ref Mr, .ref Mh, .int 0, .int 0, .ref Ma, .ref Mas, .ref Msn, .ref Mac, .ref Mat])), (Mf, .inl (g 0, 4, .inl fmf))] sz)) 0 0 (va_A [(Mm, .inr (7, [.int zth, .ref Mt, .int (nI tp), .int zma, .int zwr, .ref Mrr, .ref Mrh, .ref Mrc, .int zrh, .int zrc, .ref Mn, .ref Mf, .ref Mr, .ref Mh, .int 0, .int 0, .ref Ma, .ref Mas, .ref Msn, .ref Mac, .ref Mat])), (Mf, .inl (g 0, 4, .inl fmf))] sz) := by
  refine Met.ofW (cc := cX7_takes) (maxL := 4) (ret := (some .int)) (by decide) rfl ?_
  intro p e s m args below meth c s₁ B hml hv
  obtain ⟨rfl, hsz, hP, ⟨hK, hN⟩, hD0, hZ⟩ := hv
  have hx := B.exec
  have hb := B.bytes
  have hr := B.returns
  have hts := atoms_spec (ws := wsX7_takes) B.pre
  have hown : s.vm.findClass RX7 = some m.cls := findClass_of_methodNamed B.named
  have hlocks := B.notSynchronized
  clear B
  subst hsz
  have hD := hD0.self (sz := s.heap.size)
  clear hD0
  generalize hAe : va_A [(Mm, .inr (7, [.int zth, .ref Mt, .int (nI tp), .int zma, .int zwr, .ref Mrr, .ref Mrh, .ref Mrc, .int zrh, .int zrc, .ref Mn, .ref Mf, .ref Mr, .ref Mh, .int 0, .int 0, .ref Ma, .ref Mas, .ref Msn, .ref Mac, .ref Mat])), (Mf, .inl (g 0, 4, .inl fmf))] s.heap.size = A at hD hZ ⊢
  have hA : ∀ q : Nat, s.heap.size ≤ q → A q := fun q h => by rw [← hAe]; exact Or.inr h
  have hS : va_S A s.heap s.heap [] := va_S.rf
  have f49 := hts (.fieldLink RX7 49 "HopCreditsModel" "thrown" "I") (List.mem_of_getElem? (i := 1) rfl)
  have iX7 : ∀ w ∈ u_ws RX7 TX7 21, w ∈ wsX7_takes := fun w h => List.mem_cons_of_mem _ (List.mem_append_right _ (h))
  have hl := lv_entry ([.ref Mm, .int zxa, .int zxb]) (n := 4) (Nat.le_of_ble_eq_true rfl)
  rw [lg_entry_eq]
  generalize (lg_sl ([.ref Mm, .int zxa, .int zxb]) ++ List.replicate (4 - (lg_sl ([.ref Mm, .int zxa, .int zxb])).length) Slot.unset).toArray = ls at hl ⊢
  have hl : lv_has ls 4 [(0, .ref Mm), (1, .int zxa), (2, .int zxb)] := hl
  generalize hQ : MQ below _ _ s _ _ _ = Q
  generalize hH : s.heap = H at hP ⊢
  have hS : va_S A s.heap H [] := by rw [← hH]; exact hS
  clear hH
  refine lv_aload_n hx hb dX7_takes_0 rfl (lv_at hl 0 rfl) ?_
  refine lv_iconst (v := 0) hx hb dX7_takes_1 (by decide) ?_
  refine va_put (D := D) (ci := 7) (v := .int 0) (ty := .int) (C := RX7) (T := TX7) (N := 21) hx hb hts iX7 tyX7 tyX7_ok nmX7 hown hK hP hD hS 0 rfl rfl 0 (by decide) f49 (fun _ h9 => h9) rfl (by decide +kernel) (rfl) (rfl) (Nat.le_of_ble_eq_true rfl) dX7_takes_2 (fun H locs hP2 hD2 hS2 => ?_)
  clear hP hD hS
  have hPD : PD D A [(Mm, .inr (7, [.int 0, .ref Mt, .int (nI tp), .int zma, .int zwr, .ref Mrr, .ref Mrh, .ref Mrc, .int zrh, .int zrc, .ref Mn, .ref Mf, .ref Mr, .ref Mh, .int 0, .int 0, .ref Ma, .ref Mas, .ref Msn, .ref Mac, .ref Mat])), (Mf, .inl (g 0, 4, .inl fmf))] H := ⟨hP2, hD2⟩
  have hS := hS2; clear hP2 hD2 hS2; have hP := hPD.1; have hD := hPD.2; clear hPD
  refine lv_aload_n hx hb dX7_takes_5 rfl (lv_at hl 0 rfl) ?_
  refine lv_iload_n hx hb dX7_takes_6 rfl (lv_at hl 1 rfl) ?_
  refine ky_Vi (As := [.int zxa]) (rest := []) ⟨hx, hb, hml, hown, hts⟩ ⟨hK, hN⟩ hZ hP hD hS hA [0] [1] (wc := [(Mm, .inr (7, [.int 0, .ref Mt, .int (nI tp), .int zma, .int zwr, .ref Mrr, .ref Mrh, .ref Mrc, .int zrh, .int zrc, .ref Mn, .ref Mf, .ref Mr, .ref Mh, .int 0, .int 0, .ref Ma, .ref Mas, .ref Msn, .ref Mac, .ref Mat]))]) (wr := [(Mf, .inl (g 0, 4, .inl fmf))]) rfl rfl rfl rfl (by decide) (u_X7_isCircuit l D g H.size Mm zxa 0 Mt tp zma zwr Mrr Mrh Mrc zrh zrc Mn Mf Mr Mh Ma Mas Msn Mac Mat) (cwV 1 hts gX7_takes_X7_isCircuit rfl rfl rfl (by decide +kernel) ⟨(Nat.le_of_ble_eq_true rfl), (Nat.le_of_ble_eq_true rfl)⟩) 0 7 rfl rfl rfl rfl hl.1 rfl (Nat.le_of_ble_eq_true rfl) dX7_takes_7 ⟨(Nat.le_of_ble_eq_true rfl), (Nat.le_of_ble_eq_true rfl)⟩ (fun r_1 u H locs hw hP2 hD2 hS2 => ?_)
  clear hP hD hS
  obtain ⟨rfl, rfl⟩ := hw
  have hPD : PD D A [(Mf, .inl (g 0, 4, .inl fmf)), (Mm, .inr (7, [.int 0, .ref Mt, .int (nI tp), .int zma, .int zwr, .ref Mrr, .ref Mrh, .ref Mrc, .int zrh, .int zrc, .ref Mn, .ref Mf, .ref Mr, .ref Mh, .int 0, .int 0, .ref Ma, .ref Mas, .ref Msn, .ref Mac, .ref Mat]))] H := ⟨hP2, hD2⟩
  have hS := hS2; clear hP2 hD2 hS2; have hP := hPD.1; have hD := hPD.2; clear hPD
  refine W.widen (k := 0) (n := 0) (Nat.le_of_ble_eq_true rfl) (Nat.le_of_ble_eq_true rfl) ?_
  refine lv_if_ne (tgt := 19) hx hb dX7_takes_10 (by decide) (fun cb => absurd (by decide) cb) (fun _ => ?_)
  refine lv_aload_n hx hb dX7_takes_13 rfl (lv_at hl 0 rfl) ?_
  refine lv_iconst (v := 0) hx hb dX7_takes_14 (by decide) ?_
  refine ky_Vi (As := [.int 0]) (rest := []) ⟨hx, hb, hml, hown, hts⟩ ⟨hK, hN⟩ hZ hP hD hS hA [1, 0] [] (wc := [(Mm, .inr (7, [.int 0, .ref Mt, .int (nI tp), .int zma, .int zwr, .ref Mrr, .ref Mrh, .ref Mrc, .int zrh, .int zrc, .ref Mn, .ref Mf, .ref Mr, .ref Mh, .int 0, .int 0, .ref Ma, .ref Mas, .ref Msn, .ref Mac, .ref Mat])), (Mf, .inl (g 0, 4, .inl fmf))]) (wr := []) rfl rfl rfl rfl (by decide) (k_X7_refuses l D g H.size Mm 0 0 Mt tp zma zwr Mrr Mrh Mrc zrh zrc Mn Mf Mr Mh 0 0 Ma Mas Msn Mac Mat fmf (show 0 < 4 by omega)) (cwV 1 hts gX7_takes_X7_refuses rfl rfl rfl (by decide +kernel) ⟨(Nat.le_of_ble_eq_true rfl), (Nat.le_of_ble_eq_true rfl)⟩) 1 7 rfl rfl rfl rfl hl.1 rfl (Nat.le_of_ble_eq_true rfl) dX7_takes_15 ⟨(Nat.le_of_ble_eq_true rfl), (Nat.le_of_ble_eq_true rfl)⟩ (fun r_2 u H locs hw hP2 hD2 hS2 => ?_)
  clear hP hD hS
  obtain ⟨fmfx_3, rfl, rfl⟩ := hw
  have hPD : PD D A [(Mm, .inr (7, [.int 0, .ref Mt, .int (nI tp), .int zma, .int zwr, .ref Mrr, .ref Mrh, .ref Mrc, .int zrh, .int zrc, .ref Mn, .ref Mf, .ref Mr, .ref Mh, .int (nI 0), .int (nI 0), .ref Ma, .ref Mas, .ref Msn, .ref Mac, .ref Mat])), (Mf, .inl (g 0, 4, .inl fmfx_3))] H := ⟨hP2, hD2⟩
  have hS := hS2; clear hP2 hD2 hS2; have hP := hPD.1; have hD := hPD.2; clear hPD
  refine W.widen (k := 0) (n := 0) (Nat.le_of_ble_eq_true rfl) (Nat.le_of_ble_eq_true rfl) ?_
  have hP9 := hP; have hD9 := hD
  subst hQ
  refine W.widen (k := 0) (n := 0) (Nat.le_of_ble_eq_true rfl) (Nat.le_of_ble_eq_true rfl) ?_
  exact W.iret (v := (-1)) hx hb hr (fun tS htS _ => ⟨⟨_, _, rfl, ⟨0, fmfx_3, rfl, rfl⟩, by rw [htS]; exact hP9, hD9⟩, hS.F htS⟩) hS.2.2 dX7_takes_18

set_option maxHeartbeats 4000000 in
set_option maxRecDepth 100000 in
theorem w_X7_rule (l : Launch) (D : va_G) (g : Nat → ClassId) (sz : Nat) {gs : Nat → Int32} (Mm : Nat) (zw : Int32) (zth : Int32) (Mt : Nat) (tp : Nat) (zma : Int32) (zwr : Int32) (Mrr : Nat) (Mrh : Nat) (Mrc : Nat) (zrh : Int32) (zrc : Int32) (Mn : Nat) (Mf : Nat) (Mr : Nat) (Mh : Nat) (hp : Nat) (cc : Nat) (Ma : Nat) (Mas : Nat) (Msn : Nat) (Mac : Nat) (Mat : Nat) (fno : Nat → Int32) (fmr : Nat → Int32) (tb : Nat) (ub : Nat) (h0 : 1 ≤ hp) (h1 : hp ≤ 3) (h2 : tb < 2 ^ 29) (h3 : ub < 2 ^ 29) (h4 : mOK gs tb ub fno) : Met l yX7_rule wsX7_rule ({ frames := 1, cells := 0, slots := 0, locals := 22 }) (va_Pc [.ref Mm, .int zw] (pre D g sz [(Mm, .inr (7, [.int zth, .ref Mt, .int (nI tp), .int zma, .int zwr, .ref Mrr, .ref Mrh, .ref Mrc, .int zrh, .int zrc, .ref Mn, .ref Mf, .ref Mr, .ref Mh, .int (nI hp), .int (nI cc), .ref Ma, .ref Mas, .ref Msn, .ref Mac, .ref Mat])), (Mn, .inl (g 0, 1767, .inl fno)), (Mr, .inl (g 0, 3, .inl fmr))])) (va_Qi (fun (r : Int32) (u : va_W) => ∃ (zthx : Int32) (zr : Int32), u = [(Mm, .inr (7, [.int zthx, .ref Mt, .int (nI tp), .int zma, .int zwr, .ref Mrr, .ref Mrh, .ref Mrc, .int zrh, .int zrc, .ref Mn, .ref Mf, .ref Mr, .ref Mh, .int (nI hp), .int (nI cc), .ref Ma, .ref Mas, .ref Msn, .ref Mac, .ref Mat])), (Mn, .inl (g 0, 1767, .inl fno)), (Mr, .inl (g 0, 3, .inl fmr))] ∧ r = zr ∧ (zr = ruC (nI hp) (nI cc) (fmr 0) (fmr 1) (fmr 2) (nI tb) zw)) (wd D (va_A [(Mm, .inr (7, [.int zth, .ref Mt, .int (nI tp), .int zma, .int zwr, .ref Mrr, .ref Mrh, .ref Mrc, .int zrh, .int zrc, .ref Mn, .ref Mf, .ref Mr, .ref Mh, .int (nI hp), .int (nI cc), .ref Ma, .ref Mas, .ref Msn, .ref Mac, .ref Mat])), (Mn, .inl (g 0, 1767, .inl fno)), (Mr, .inl (g 0, 3, .inl fmr))] sz)) (va_A [(Mm, .inr (7, [.int zth, .ref Mt, .int (nI tp), .int zma, .int zwr, .ref Mrr, .ref Mrh, .ref Mrc, .int zrh, .int zrc, .ref Mn, .ref Mf, .ref Mr, .ref Mh, .int (nI hp), .int (nI cc), .ref Ma, .ref Mas, .ref Msn, .ref Mac, .ref Mat])), (Mn, .inl (g 0, 1767, .inl fno)), (Mr, .inl (g 0, 3, .inl fmr))] sz)) 0 0 (va_A [(Mm, .inr (7, [.int zth, .ref Mt, .int (nI tp), .int zma, .int zwr, .ref Mrr, .ref Mrh, .ref Mrc, .int zrh, .int zrc, .ref Mn, .ref Mf, .ref Mr, .ref Mh, .int (nI hp), .int (nI cc), .ref Ma, .ref Mas, .ref Msn, .ref Mac, .ref Mat])), (Mn, .inl (g 0, 1767, .inl fno)), (Mr, .inl (g 0, 3, .inl fmr))] sz) := by
  refine Met.ofW (cc := cX7_rule) (maxL := 2) (ret := (some .int)) (by decide) rfl ?_
  intro p e s m args below meth c s₁ B hml hv
  obtain ⟨rfl, hsz, hP, ⟨hK, hN⟩, hD0, hZ⟩ := hv
  have hx := B.exec
  have hb := B.bytes
  have hr := B.returns
  have hts := atoms_spec (ws := wsX7_rule) B.pre
  have hown : s.vm.findClass RX7 = some m.cls := findClass_of_methodNamed B.named
  have hlocks := B.notSynchronized
  clear B
  subst hsz
  have hD := hD0.self (sz := s.heap.size)
  clear hD0
  generalize hAe : va_A [(Mm, .inr (7, [.int zth, .ref Mt, .int (nI tp), .int zma, .int zwr, .ref Mrr, .ref Mrh, .ref Mrc, .int zrh, .int zrc, .ref Mn, .ref Mf, .ref Mr, .ref Mh, .int (nI hp), .int (nI cc), .ref Ma, .ref Mas, .ref Msn, .ref Mac, .ref Mat])), (Mn, .inl (g 0, 1767, .inl fno)), (Mr, .inl (g 0, 3, .inl fmr))] s.heap.size = A at hD hZ ⊢
  have hA : ∀ q : Nat, s.heap.size ≤ q → A q := fun q h => by rw [← hAe]; exact Or.inr h
  have hS : va_S A s.heap s.heap [] := va_S.rf
  have f124 := hts (.fieldLink RX7 124 "HopCreditsModel" "hops" "I") (List.mem_of_getElem? (i := 3) rfl)
  have f127 := hts (.fieldLink RX7 127 "HopCreditsModel" "circuits" "I") (List.mem_of_getElem? (i := 4) rfl)
  have f22 := hts (.fieldLink RX7 22 "HopCreditsModel" "now" "[I") (List.mem_of_getElem? (i := 5) rfl)
  have f28 := hts (.fieldLink RX7 28 "HopCreditsModel" "rule" "[I") (List.mem_of_getElem? (i := 6) rfl)
  have f49 := hts (.fieldLink RX7 49 "HopCreditsModel" "thrown" "I") (List.mem_of_getElem? (i := 1) rfl)
  have k236 := hts (.constant RX7 236 (-1000000)) (List.mem_of_getElem? (i := 2) rfl)
  have iX7 : ∀ w ∈ u_ws RX7 TX7 21, w ∈ wsX7_rule := fun w h => List.mem_cons_of_mem _ (List.mem_append_right _ (h))
  have hl := lv_entry ([.ref Mm, .int zw]) (n := 2) (Nat.le_of_ble_eq_true rfl)
  rw [lg_entry_eq]
  generalize (lg_sl ([.ref Mm, .int zw]) ++ List.replicate (2 - (lg_sl ([.ref Mm, .int zw])).length) Slot.unset).toArray = ls at hl ⊢
  have hl : lv_has ls 2 [(0, .ref Mm), (1, .int zw)] := hl
  generalize hQ : MQ below _ _ s _ _ _ = Q
  generalize hH : s.heap = H at hP ⊢
  have hS : va_S A s.heap H [] := by rw [← hH]; exact hS
  clear hH
  refine lv_aload_n hx hb dX7_rule_0 rfl (lv_at hl 0 rfl) ?_
  refine lv_iconst (v := 0) hx hb dX7_rule_1 (by decide) ?_
  refine va_put (D := D) (ci := 7) (v := .int 0) (ty := .int) (C := RX7) (T := TX7) (N := 21) hx hb hts iX7 tyX7 tyX7_ok nmX7 hown hK hP hD hS 0 rfl rfl 0 (by decide) f49 (fun _ h9 => h9) rfl (by decide +kernel) (rfl) (rfl) (Nat.le_of_ble_eq_true rfl) dX7_rule_2 (fun H locs hP2 hD2 hS2 => ?_)
  clear hP hD hS
  have hPD : PD D A [(Mm, .inr (7, [.int 0, .ref Mt, .int (nI tp), .int zma, .int zwr, .ref Mrr, .ref Mrh, .ref Mrc, .int zrh, .int zrc, .ref Mn, .ref Mf, .ref Mr, .ref Mh, .int (nI hp), .int (nI cc), .ref Ma, .ref Mas, .ref Msn, .ref Mac, .ref Mat])), (Mn, .inl (g 0, 1767, .inl fno)), (Mr, .inl (g 0, 3, .inl fmr))] H := ⟨hP2, hD2⟩
  have hS := hS2; clear hP2 hD2 hS2; have hP := hPD.1; have hD := hPD.2; clear hPD
  refine lv_aload_n hx hb dX7_rule_5 rfl (lv_at hl 0 rfl) ?_
  refine ky_Vi (As := []) (rest := []) ⟨hx, hb, hml, hown, hts⟩ ⟨hK, hN⟩ hZ hP hD hS hA [0] [1, 2] (wc := [(Mm, .inr (7, [.int 0, .ref Mt, .int (nI tp), .int zma, .int zwr, .ref Mrr, .ref Mrh, .ref Mrc, .int zrh, .int zrc, .ref Mn, .ref Mf, .ref Mr, .ref Mh, .int (nI hp), .int (nI cc), .ref Ma, .ref Mas, .ref Msn, .ref Mac, .ref Mat]))]) (wr := [(Mn, .inl (g 0, 1767, .inl fno)), (Mr, .inl (g 0, 3, .inl fmr))]) rfl rfl rfl rfl (by decide) (k_X7_isNet l D g H.size Mm 0 Mt tp zma zwr Mrr Mrh Mrc zrh zrc Mn Mf Mr Mh hp cc Ma Mas Msn Mac Mat (show 1 ≤ hp by omega) (show hp ≤ 3 by omega)) (cwV 0 hts gX7_rule_X7_isNet rfl rfl rfl (by decide +kernel) ⟨(Nat.le_of_ble_eq_true rfl), (Nat.le_of_ble_eq_true rfl)⟩) 0 7 rfl rfl rfl rfl hl.1 rfl (Nat.le_of_ble_eq_true rfl) dX7_rule_6 ⟨(Nat.le_of_ble_eq_true rfl), (Nat.le_of_ble_eq_true rfl)⟩ (fun r_1 u H locs hw hP2 hD2 hS2 => ?_)
  clear hP hD hS
  obtain ⟨rfl, rfl⟩ := hw
  have hPD : PD D A [(Mn, .inl (g 0, 1767, .inl fno)), (Mr, .inl (g 0, 3, .inl fmr)), (Mm, .inr (7, [.int 0, .ref Mt, .int (nI tp), .int zma, .int zwr, .ref Mrr, .ref Mrh, .ref Mrc, .int zrh, .int zrc, .ref Mn, .ref Mf, .ref Mr, .ref Mh, .int (nI hp), .int (nI cc), .ref Ma, .ref Mas, .ref Msn, .ref Mac, .ref Mat]))] H := ⟨hP2, hD2⟩
  have hS := hS2; clear hP2 hD2 hS2; have hP := hPD.1; have hD := hPD.2; clear hPD
  refine W.widen (k := 0) (n := 0) (Nat.le_of_ble_eq_true rfl) (Nat.le_of_ble_eq_true rfl) ?_
  refine lv_if_eq (tgt := 21) hx hb dX7_rule_9 (by decide) (fun cb => absurd cb (by decide)) (fun _ => ?_)
  refine lv_iload_n hx hb dX7_rule_12 rfl (lv_at hl 1 rfl) ?_
  refine lv_iconst (v := 0) hx hb dX7_rule_13 (by decide) ?_
  refine lv_iconst (v := 5) hx hb dX7_rule_14 (by decide) ?_
  refine ky_Si (As := [.int zw, .int 0, .int 5]) (rest := []) ⟨hx, hb, hml, hown, hts⟩ ⟨hK, hN⟩ hZ hP hD hS hA [] [0, 1, 2] (wc := []) (wr := [(Mn, .inl (g 0, 1767, .inl fno)), (Mr, .inl (g 0, 3, .inl fmr)), (Mm, .inr (7, [.int 0, .ref Mt, .int (nI tp), .int zma, .int zwr, .ref Mrr, .ref Mrh, .ref Mrc, .int zrh, .int zrc, .ref Mn, .ref Mf, .ref Mr, .ref Mh, .int (nI hp), .int (nI cc), .ref Ma, .ref Mas, .ref Msn, .ref Mac, .ref Mat]))]) rfl rfl rfl rfl (by decide) (k_X7_in l D g H.size zw 0 5) (va_cwS 3 hts gX7_rule_X7_in rfl rfl rfl (by decide +kernel) ⟨(Nat.le_of_ble_eq_true rfl), (Nat.le_of_ble_eq_true rfl)⟩) rfl hl.1 rfl (Nat.le_of_ble_eq_true rfl) dX7_rule_15 ⟨(Nat.le_of_ble_eq_true rfl), (Nat.le_of_ble_eq_true rfl)⟩ (fun r_2 u H locs hw hP2 hD2 hS2 => ?_)
  clear hP hD hS
  obtain ⟨rfl, rfl⟩ := hw
  have hPD : PD D A [(Mn, .inl (g 0, 1767, .inl fno)), (Mr, .inl (g 0, 3, .inl fmr)), (Mm, .inr (7, [.int 0, .ref Mt, .int (nI tp), .int zma, .int zwr, .ref Mrr, .ref Mrh, .ref Mrc, .int zrh, .int zrc, .ref Mn, .ref Mf, .ref Mr, .ref Mh, .int (nI hp), .int (nI cc), .ref Ma, .ref Mas, .ref Msn, .ref Mac, .ref Mat]))] H := ⟨hP2, hD2⟩
  have hS := hS2; clear hP2 hD2 hS2; have hP := hPD.1; have hD := hPD.2; clear hPD
  refine W.widen (k := 0) (n := 0) (Nat.le_of_ble_eq_true rfl) (Nat.le_of_ble_eq_true rfl) ?_
  refine lv_if_ne (tgt := 24) hx hb dX7_rule_18 (by decide) (fun cb_3 => ?_) (fun cb_3 => ?_)
  · skip
    have hq_4 : 0 ≤ zw ∧ zw ≤ 5 := b01_1.mp cb_3
    have hPq_8 := hP; have hDq_8 := hD; have hSq_8 := hS; have hlq_8 := hl; clear hP hD hS hl
    obtain ⟨j_5, hl_6, hu_7, rfl⟩ := rg (L := 0) (U := 5) rfl rfl (show 0 < 2 ^ 31 by omega) (show 5 < 2 ^ 31 by omega) hq_4
    have hP := hPq_8; have hD := hDq_8; have hS := hSq_8; have hl := hlq_8; clear hPq_8 hDq_8 hSq_8 hlq_8
    have hPq_9 := hP; have hDq_9 := hD; have hSq_9 := hS; have hlq_9 := hl; clear hP hD hS hl
    rcases (show j_5 = 0 ∨ j_5 = 1 ∨ j_5 = 2 ∨ j_5 = 3 ∨ j_5 = 4 ∨ j_5 = 5 by omega) with rfl | rfl | rfl | rfl | rfl | rfl
    · skip
      have hP := hPq_9; have hD := hDq_9; have hS := hSq_9; have hl := hlq_9; clear hPq_9 hDq_9 hSq_9 hlq_9
      refine lv_iload_n hx hb dX7_rule_24 rfl (lv_at hl 1 rfl) ?_
      refine lv_if_ne (tgt := 35) hx hb dX7_rule_25 (by decide) (fun cb => absurd (by decide) cb) (fun _ => ?_)
      refine lv_aload_n hx hb dX7_rule_28 rfl (lv_at hl 0 rfl) ?_
      refine va_get (D := D) (ci := 7) (v := .int (nI hp)) (C := RX7) (T := TX7) (N := 21) hx hb hts iX7 hown hK hP 2 rfl rfl 14 (by decide) f124 (fun _ h9 => h9) rfl dX7_rule_29 ?_
      refine lv_goto (tgt := 71) hx hb dX7_rule_32 (by decide) ?_
      have hPD9 : PD D A [(Mm, .inr (7, [.int 0, .ref Mt, .int (nI tp), .int zma, .int zwr, .ref Mrr, .ref Mrh, .ref Mrc, .int zrh, .int zrc, .ref Mn, .ref Mf, .ref Mr, .ref Mh, .int (nI hp), .int (nI cc), .ref Ma, .ref Mas, .ref Msn, .ref Mac, .ref Mat])), (Mn, .inl (g 0, 1767, .inl fno)), (Mr, .inl (g 0, 3, .inl fmr))] H := ⟨hP.sub [2, 0, 1] rfl, hD.sub [2, 0, 1] (by decide) rfl⟩
      have hP9 := hPD9.1; have hD9 := hPD9.2
      subst hQ
      refine W.widen (k := 0) (n := 0) (Nat.le_of_ble_eq_true rfl) (Nat.le_of_ble_eq_true rfl) ?_
      exact W.iret (v := (nI hp)) hx hb hr (fun tS htS _ => ⟨⟨_, _, rfl, ⟨0, (nI hp), rfl, rfl, ruC_0⟩, by rw [htS]; exact hP9, hD9⟩, hS.F htS⟩) hS.2.2 dX7_rule_71
    · skip
      have hP := hPq_9; have hD := hDq_9; have hS := hSq_9; have hl := hlq_9; clear hPq_9 hDq_9 hSq_9 hlq_9
      refine lv_iload_n hx hb dX7_rule_24 rfl (lv_at hl 1 rfl) ?_
      refine lv_if_ne (tgt := 35) hx hb dX7_rule_25 (by decide) (fun _ => ?_) (fun cb => absurd cb (by decide))
      refine lv_iload_n hx hb dX7_rule_35 rfl (lv_at hl 1 rfl) ?_
      refine lv_iconst (v := 1) hx hb dX7_rule_36 (by decide) ?_
      refine lv_icmp_ne (tgt := 47) hx hb dX7_rule_37 (by decide) (fun cb => absurd (by decide) cb) (fun _ => ?_)
      refine lv_aload_n hx hb dX7_rule_40 rfl (lv_at hl 0 rfl) ?_
      refine va_get (D := D) (ci := 7) (v := .int (nI cc)) (C := RX7) (T := TX7) (N := 21) hx hb hts iX7 hown hK hP 2 rfl rfl 15 (by decide) f127 (fun _ h9 => h9) rfl dX7_rule_41 ?_
      refine lv_goto (tgt := 71) hx hb dX7_rule_44 (by decide) ?_
      have hPD9 : PD D A [(Mm, .inr (7, [.int 0, .ref Mt, .int (nI tp), .int zma, .int zwr, .ref Mrr, .ref Mrh, .ref Mrc, .int zrh, .int zrc, .ref Mn, .ref Mf, .ref Mr, .ref Mh, .int (nI hp), .int (nI cc), .ref Ma, .ref Mas, .ref Msn, .ref Mac, .ref Mat])), (Mn, .inl (g 0, 1767, .inl fno)), (Mr, .inl (g 0, 3, .inl fmr))] H := ⟨hP.sub [2, 0, 1] rfl, hD.sub [2, 0, 1] (by decide) rfl⟩
      have hP9 := hPD9.1; have hD9 := hPD9.2
      subst hQ
      refine W.widen (k := 0) (n := 0) (Nat.le_of_ble_eq_true rfl) (Nat.le_of_ble_eq_true rfl) ?_
      exact W.iret (v := (nI cc)) hx hb hr (fun tS htS _ => ⟨⟨_, _, rfl, ⟨0, (nI cc), rfl, rfl, ruC_1⟩, by rw [htS]; exact hP9, hD9⟩, hS.F htS⟩) hS.2.2 dX7_rule_71
    · skip
      have hP := hPq_9; have hD := hDq_9; have hS := hSq_9; have hl := hlq_9; clear hPq_9 hDq_9 hSq_9 hlq_9
      refine lv_iload_n hx hb dX7_rule_24 rfl (lv_at hl 1 rfl) ?_
      refine lv_if_ne (tgt := 35) hx hb dX7_rule_25 (by decide) (fun _ => ?_) (fun cb => absurd cb (by decide))
      refine lv_iload_n hx hb dX7_rule_35 rfl (lv_at hl 1 rfl) ?_
      refine lv_iconst (v := 1) hx hb dX7_rule_36 (by decide) ?_
      refine lv_icmp_ne (tgt := 47) hx hb dX7_rule_37 (by decide) (fun _ => ?_) (fun cb => absurd cb (by decide))
      refine lv_iload_n hx hb dX7_rule_47 rfl (lv_at hl 1 rfl) ?_
      refine lv_iconst (v := 5) hx hb dX7_rule_48 (by decide) ?_
      refine lv_icmp_ne (tgt := 63) hx hb dX7_rule_49 (by decide) (fun _ => ?_) (fun cb => absurd cb (by decide))
      refine lv_aload_n hx hb dX7_rule_63 rfl (lv_at hl 0 rfl) ?_
      refine va_get (D := D) (ci := 7) (v := .ref Mr) (C := RX7) (T := TX7) (N := 21) hx hb hts iX7 hown hK hP 2 rfl rfl 12 (by decide) f28 (fun _ h9 => h9) rfl dX7_rule_64 ?_
      refine lv_iload_n hx hb dX7_rule_67 rfl (lv_at hl 1 rfl) ?_
      refine lv_iconst (v := 2) hx hb dX7_rule_68 (by decide) ?_
      refine lv_isub hx hb dX7_rule_69 ?_
      refine lv_eqi (y := 0) (by decide) ?_
      refine va_iald hx hb hK hP 1 0 rfl rfl (by unfold vp_in; decide) dX7_rule_70 ?_
      refine lv_eqi (y := (fmr 0)) (rfl) ?_
      have hPD9 : PD D A [(Mm, .inr (7, [.int 0, .ref Mt, .int (nI tp), .int zma, .int zwr, .ref Mrr, .ref Mrh, .ref Mrc, .int zrh, .int zrc, .ref Mn, .ref Mf, .ref Mr, .ref Mh, .int (nI hp), .int (nI cc), .ref Ma, .ref Mas, .ref Msn, .ref Mac, .ref Mat])), (Mn, .inl (g 0, 1767, .inl fno)), (Mr, .inl (g 0, 3, .inl fmr))] H := ⟨hP.sub [2, 0, 1] rfl, hD.sub [2, 0, 1] (by decide) rfl⟩
      have hP9 := hPD9.1; have hD9 := hPD9.2
      subst hQ
      refine W.widen (k := 0) (n := 0) (Nat.le_of_ble_eq_true rfl) (Nat.le_of_ble_eq_true rfl) ?_
      exact W.iret (v := (fmr 0)) hx hb hr (fun tS htS _ => ⟨⟨_, _, rfl, ⟨0, (fmr 0), rfl, rfl, ruC_2⟩, by rw [htS]; exact hP9, hD9⟩, hS.F htS⟩) hS.2.2 dX7_rule_71
    · skip
      have hP := hPq_9; have hD := hDq_9; have hS := hSq_9; have hl := hlq_9; clear hPq_9 hDq_9 hSq_9 hlq_9
      refine lv_iload_n hx hb dX7_rule_24 rfl (lv_at hl 1 rfl) ?_
      refine lv_if_ne (tgt := 35) hx hb dX7_rule_25 (by decide) (fun _ => ?_) (fun cb => absurd cb (by decide))
      refine lv_iload_n hx hb dX7_rule_35 rfl (lv_at hl 1 rfl) ?_
      refine lv_iconst (v := 1) hx hb dX7_rule_36 (by decide) ?_
      refine lv_icmp_ne (tgt := 47) hx hb dX7_rule_37 (by decide) (fun _ => ?_) (fun cb => absurd cb (by decide))
      refine lv_iload_n hx hb dX7_rule_47 rfl (lv_at hl 1 rfl) ?_
      refine lv_iconst (v := 5) hx hb dX7_rule_48 (by decide) ?_
      refine lv_icmp_ne (tgt := 63) hx hb dX7_rule_49 (by decide) (fun _ => ?_) (fun cb => absurd cb (by decide))
      refine lv_aload_n hx hb dX7_rule_63 rfl (lv_at hl 0 rfl) ?_
      refine va_get (D := D) (ci := 7) (v := .ref Mr) (C := RX7) (T := TX7) (N := 21) hx hb hts iX7 hown hK hP 2 rfl rfl 12 (by decide) f28 (fun _ h9 => h9) rfl dX7_rule_64 ?_
      refine lv_iload_n hx hb dX7_rule_67 rfl (lv_at hl 1 rfl) ?_
      refine lv_iconst (v := 2) hx hb dX7_rule_68 (by decide) ?_
      refine lv_isub hx hb dX7_rule_69 ?_
      refine lv_eqi (y := 1) (by decide) ?_
      refine va_iald hx hb hK hP 1 0 rfl rfl (by unfold vp_in; decide) dX7_rule_70 ?_
      refine lv_eqi (y := (fmr 1)) (rfl) ?_
      have hPD9 : PD D A [(Mm, .inr (7, [.int 0, .ref Mt, .int (nI tp), .int zma, .int zwr, .ref Mrr, .ref Mrh, .ref Mrc, .int zrh, .int zrc, .ref Mn, .ref Mf, .ref Mr, .ref Mh, .int (nI hp), .int (nI cc), .ref Ma, .ref Mas, .ref Msn, .ref Mac, .ref Mat])), (Mn, .inl (g 0, 1767, .inl fno)), (Mr, .inl (g 0, 3, .inl fmr))] H := ⟨hP.sub [2, 0, 1] rfl, hD.sub [2, 0, 1] (by decide) rfl⟩
      have hP9 := hPD9.1; have hD9 := hPD9.2
      subst hQ
      refine W.widen (k := 0) (n := 0) (Nat.le_of_ble_eq_true rfl) (Nat.le_of_ble_eq_true rfl) ?_
      exact W.iret (v := (fmr 1)) hx hb hr (fun tS htS _ => ⟨⟨_, _, rfl, ⟨0, (fmr 1), rfl, rfl, ruC_3⟩, by rw [htS]; exact hP9, hD9⟩, hS.F htS⟩) hS.2.2 dX7_rule_71
    · skip
      have hP := hPq_9; have hD := hDq_9; have hS := hSq_9; have hl := hlq_9; clear hPq_9 hDq_9 hSq_9 hlq_9
      refine lv_iload_n hx hb dX7_rule_24 rfl (lv_at hl 1 rfl) ?_
      refine lv_if_ne (tgt := 35) hx hb dX7_rule_25 (by decide) (fun _ => ?_) (fun cb => absurd cb (by decide))
      refine lv_iload_n hx hb dX7_rule_35 rfl (lv_at hl 1 rfl) ?_
      refine lv_iconst (v := 1) hx hb dX7_rule_36 (by decide) ?_
      refine lv_icmp_ne (tgt := 47) hx hb dX7_rule_37 (by decide) (fun _ => ?_) (fun cb => absurd cb (by decide))
      refine lv_iload_n hx hb dX7_rule_47 rfl (lv_at hl 1 rfl) ?_
      refine lv_iconst (v := 5) hx hb dX7_rule_48 (by decide) ?_
      refine lv_icmp_ne (tgt := 63) hx hb dX7_rule_49 (by decide) (fun _ => ?_) (fun cb => absurd cb (by decide))
      refine lv_aload_n hx hb dX7_rule_63 rfl (lv_at hl 0 rfl) ?_
      refine va_get (D := D) (ci := 7) (v := .ref Mr) (C := RX7) (T := TX7) (N := 21) hx hb hts iX7 hown hK hP 2 rfl rfl 12 (by decide) f28 (fun _ h9 => h9) rfl dX7_rule_64 ?_
      refine lv_iload_n hx hb dX7_rule_67 rfl (lv_at hl 1 rfl) ?_
      refine lv_iconst (v := 2) hx hb dX7_rule_68 (by decide) ?_
      refine lv_isub hx hb dX7_rule_69 ?_
      refine lv_eqi (y := 2) (by decide) ?_
      refine va_iald hx hb hK hP 1 0 rfl rfl (by unfold vp_in; decide) dX7_rule_70 ?_
      refine lv_eqi (y := (fmr 2)) (rfl) ?_
      have hPD9 : PD D A [(Mm, .inr (7, [.int 0, .ref Mt, .int (nI tp), .int zma, .int zwr, .ref Mrr, .ref Mrh, .ref Mrc, .int zrh, .int zrc, .ref Mn, .ref Mf, .ref Mr, .ref Mh, .int (nI hp), .int (nI cc), .ref Ma, .ref Mas, .ref Msn, .ref Mac, .ref Mat])), (Mn, .inl (g 0, 1767, .inl fno)), (Mr, .inl (g 0, 3, .inl fmr))] H := ⟨hP.sub [2, 0, 1] rfl, hD.sub [2, 0, 1] (by decide) rfl⟩
      have hP9 := hPD9.1; have hD9 := hPD9.2
      subst hQ
      refine W.widen (k := 0) (n := 0) (Nat.le_of_ble_eq_true rfl) (Nat.le_of_ble_eq_true rfl) ?_
      exact W.iret (v := (fmr 2)) hx hb hr (fun tS htS _ => ⟨⟨_, _, rfl, ⟨0, (fmr 2), rfl, rfl, ruC_4⟩, by rw [htS]; exact hP9, hD9⟩, hS.F htS⟩) hS.2.2 dX7_rule_71
    · skip
      have hP := hPq_9; have hD := hDq_9; have hS := hSq_9; have hl := hlq_9; clear hPq_9 hDq_9 hSq_9 hlq_9
      refine lv_iload_n hx hb dX7_rule_24 rfl (lv_at hl 1 rfl) ?_
      refine lv_if_ne (tgt := 35) hx hb dX7_rule_25 (by decide) (fun _ => ?_) (fun cb => absurd cb (by decide))
      refine lv_iload_n hx hb dX7_rule_35 rfl (lv_at hl 1 rfl) ?_
      refine lv_iconst (v := 1) hx hb dX7_rule_36 (by decide) ?_
      refine lv_icmp_ne (tgt := 47) hx hb dX7_rule_37 (by decide) (fun _ => ?_) (fun cb => absurd cb (by decide))
      refine lv_iload_n hx hb dX7_rule_47 rfl (lv_at hl 1 rfl) ?_
      refine lv_iconst (v := 5) hx hb dX7_rule_48 (by decide) ?_
      refine lv_icmp_ne (tgt := 63) hx hb dX7_rule_49 (by decide) (fun cb => absurd (by decide) cb) (fun _ => ?_)
      refine lv_aload_n hx hb dX7_rule_52 rfl (lv_at hl 0 rfl) ?_
      refine va_get (D := D) (ci := 7) (v := .ref Mn) (C := RX7) (T := TX7) (N := 21) hx hb hts iX7 hown hK hP 2 rfl rfl 10 (by decide) f22 (fun _ h9 => h9) rfl dX7_rule_53 ?_
      refine lv_sipush (v := 1764) hx hb dX7_rule_56 (by decide) ?_
      refine va_iald hx hb hK hP 0 0 rfl rfl (by unfold vp_in; decide) dX7_rule_59 ?_
      refine lv_eqi (y := (fno 1764)) (rfl) ?_
      obtain ⟨t_10, ht_10, q9⟩ := mOK_t h4
      refine lv_eqi (y := nI t_10) q9 ?_
      refine lv_goto (tgt := 71) hx hb dX7_rule_60 (by decide) ?_
      have hPD9 : PD D A [(Mm, .inr (7, [.int 0, .ref Mt, .int (nI tp), .int zma, .int zwr, .ref Mrr, .ref Mrh, .ref Mrc, .int zrh, .int zrc, .ref Mn, .ref Mf, .ref Mr, .ref Mh, .int (nI hp), .int (nI cc), .ref Ma, .ref Mas, .ref Msn, .ref Mac, .ref Mat])), (Mn, .inl (g 0, 1767, .inl fno)), (Mr, .inl (g 0, 3, .inl fmr))] H := ⟨hP.sub [2, 0, 1] rfl, hD.sub [2, 0, 1] (by decide) rfl⟩
      have hP9 := hPD9.1; have hD9 := hPD9.2
      subst hQ
      refine W.widen (k := 0) (n := 0) (Nat.le_of_ble_eq_true rfl) (Nat.le_of_ble_eq_true rfl) ?_
      exact W.iret (v := (nI t_10)) hx hb hr (fun tS htS _ => ⟨⟨_, _, rfl, ⟨0, (nI t_10), rfl, rfl, (by rw [ht_10]; exact ruC_5)⟩, by rw [htS]; exact hP9, hD9⟩, hS.F htS⟩) hS.2.2 dX7_rule_71
  · skip
    have hq_11 : ¬ (0 ≤ zw ∧ zw ≤ 5) := b01_0.mp cb_3
    refine lv_ldc (v := (-1000000)) hx hb hown k236 dX7_rule_21 ?_
    have hPD9 : PD D A [(Mm, .inr (7, [.int 0, .ref Mt, .int (nI tp), .int zma, .int zwr, .ref Mrr, .ref Mrh, .ref Mrc, .int zrh, .int zrc, .ref Mn, .ref Mf, .ref Mr, .ref Mh, .int (nI hp), .int (nI cc), .ref Ma, .ref Mas, .ref Msn, .ref Mac, .ref Mat])), (Mn, .inl (g 0, 1767, .inl fno)), (Mr, .inl (g 0, 3, .inl fmr))] H := ⟨hP.sub [2, 0, 1] rfl, hD.sub [2, 0, 1] (by decide) rfl⟩
    have hP9 := hPD9.1; have hD9 := hPD9.2
    subst hQ
    refine W.widen (k := 0) (n := 0) (Nat.le_of_ble_eq_true rfl) (Nat.le_of_ble_eq_true rfl) ?_
    exact W.iret (v := (-1000000)) hx hb hr (fun tS htS _ => ⟨⟨_, _, rfl, ⟨0, (-1000000), rfl, rfl, (ruC_n hq_11)⟩, by rw [htS]; exact hP9, hD9⟩, hS.F htS⟩) hS.2.2 dX7_rule_23

set_option maxHeartbeats 4000000 in
set_option maxRecDepth 100000 in
theorem w_X7_source (l : Launch) (D : va_G) (g : Nat → ClassId) (sz : Nat) {gs : Nat → Int32} (Mm : Nat) (zc : Int32) (zg : Int32) (zs : Int32) (zth : Int32) (Mt : Nat) (tp : Nat) (zma : Int32) (zwr : Int32) (Mrr : Nat) (Mrh : Nat) (Mrc : Nat) (zrh : Int32) (zrc : Int32) (Mn : Nat) (Mf : Nat) (Mr : Nat) (Mh : Nat) (hp : Nat) (cc : Nat) (Ma : Nat) (Mas : Nat) (Msn : Nat) (Mac : Nat) (Mat : Nat) (fmf : Nat → Int32) (fno : Nat → Int32) (tb : Nat) (ub : Nat) (h0 : tb < 2 ^ 29) (h1 : ub < 2 ^ 29) (h2 : mOK gs tb ub fno) (h3 : 1 ≤ cc) (h4 : cc ≤ 3) : Met l yX7_source wsX7_source ({ frames := 2, cells := 0, slots := 0, locals := 43 }) (va_Pc [.ref Mm, .int zc, .int zg, .int zs] (pre D g sz [(Mm, .inr (7, [.int zth, .ref Mt, .int (nI tp), .int zma, .int zwr, .ref Mrr, .ref Mrh, .ref Mrc, .int zrh, .int zrc, .ref Mn, .ref Mf, .ref Mr, .ref Mh, .int (nI hp), .int (nI cc), .ref Ma, .ref Mas, .ref Msn, .ref Mac, .ref Mat])), (Mf, .inl (g 0, 4, .inl fmf)), (Mn, .inl (g 0, 1767, .inl fno))])) (va_Qi (fun (r : Int32) (u : va_W) => ∃ (zthx : Int32) (fmfx : Nat → Int32) (fnox : Nat → Int32) (zr : Int32), u = [(Mm, .inr (7, [.int zthx, .ref Mt, .int (nI tp), .int zma, .int zwr, .ref Mrr, .ref Mrh, .ref Mrc, .int zrh, .int zrc, .ref Mn, .ref Mf, .ref Mr, .ref Mh, .int (nI hp), .int (nI cc), .ref Ma, .ref Mas, .ref Msn, .ref Mac, .ref Mat])), (Mf, .inl (g 0, 4, .inl fmfx)), (Mn, .inl (g 0, 1767, .inl fnox))] ∧ r = zr ∧ (mOK fnox tb ub fnox) ∧ (soM cc zc zg zs fno zr fnox)) (wd D (va_A [(Mm, .inr (7, [.int zth, .ref Mt, .int (nI tp), .int zma, .int zwr, .ref Mrr, .ref Mrh, .ref Mrc, .int zrh, .int zrc, .ref Mn, .ref Mf, .ref Mr, .ref Mh, .int (nI hp), .int (nI cc), .ref Ma, .ref Mas, .ref Msn, .ref Mac, .ref Mat])), (Mf, .inl (g 0, 4, .inl fmf)), (Mn, .inl (g 0, 1767, .inl fno))] sz)) (va_A [(Mm, .inr (7, [.int zth, .ref Mt, .int (nI tp), .int zma, .int zwr, .ref Mrr, .ref Mrh, .ref Mrc, .int zrh, .int zrc, .ref Mn, .ref Mf, .ref Mr, .ref Mh, .int (nI hp), .int (nI cc), .ref Ma, .ref Mas, .ref Msn, .ref Mac, .ref Mat])), (Mf, .inl (g 0, 4, .inl fmf)), (Mn, .inl (g 0, 1767, .inl fno))] sz)) 0 0 (va_A [(Mm, .inr (7, [.int zth, .ref Mt, .int (nI tp), .int zma, .int zwr, .ref Mrr, .ref Mrh, .ref Mrc, .int zrh, .int zrc, .ref Mn, .ref Mf, .ref Mr, .ref Mh, .int (nI hp), .int (nI cc), .ref Ma, .ref Mas, .ref Msn, .ref Mac, .ref Mat])), (Mf, .inl (g 0, 4, .inl fmf)), (Mn, .inl (g 0, 1767, .inl fno))] sz) := by
  refine Met.ofW (cc := cX7_source) (maxL := 6) (ret := (some .int)) (by decide) rfl ?_
  intro p e s m args below meth c s₁ B hml hv
  obtain ⟨rfl, hsz, hP, ⟨hK, hN⟩, hD0, hZ⟩ := hv
  have hx := B.exec
  have hb := B.bytes
  have hr := B.returns
  have hts := atoms_spec (ws := wsX7_source) B.pre
  have hown : s.vm.findClass RX7 = some m.cls := findClass_of_methodNamed B.named
  have hlocks := B.notSynchronized
  clear B
  subst hsz
  have hD := hD0.self (sz := s.heap.size)
  clear hD0
  generalize hAe : va_A [(Mm, .inr (7, [.int zth, .ref Mt, .int (nI tp), .int zma, .int zwr, .ref Mrr, .ref Mrh, .ref Mrc, .int zrh, .int zrc, .ref Mn, .ref Mf, .ref Mr, .ref Mh, .int (nI hp), .int (nI cc), .ref Ma, .ref Mas, .ref Msn, .ref Mac, .ref Mat])), (Mf, .inl (g 0, 4, .inl fmf)), (Mn, .inl (g 0, 1767, .inl fno))] s.heap.size = A at hD hZ ⊢
  have hA : ∀ q : Nat, s.heap.size ≤ q → A q := fun q h => by rw [← hAe]; exact Or.inr h
  have hS : va_S A s.heap s.heap [] := va_S.rf
  have f22 := hts (.fieldLink RX7 22 "HopCreditsModel" "now" "[I") (List.mem_of_getElem? (i := 2) rfl)
  have f49 := hts (.fieldLink RX7 49 "HopCreditsModel" "thrown" "I") (List.mem_of_getElem? (i := 1) rfl)
  have iX7 : ∀ w ∈ u_ws RX7 TX7 21, w ∈ wsX7_source := fun w h => List.mem_cons_of_mem _ (List.mem_append_right _ (h))
  have hl := lv_entry ([.ref Mm, .int zc, .int zg, .int zs]) (n := 6) (Nat.le_of_ble_eq_true rfl)
  rw [lg_entry_eq]
  generalize (lg_sl ([.ref Mm, .int zc, .int zg, .int zs]) ++ List.replicate (6 - (lg_sl ([.ref Mm, .int zc, .int zg, .int zs])).length) Slot.unset).toArray = ls at hl ⊢
  have hl : lv_has ls 6 [(0, .ref Mm), (1, .int zc), (2, .int zg), (3, .int zs)] := hl
  generalize hQ : MQ below _ _ s _ _ _ = Q
  generalize hH : s.heap = H at hP ⊢
  have hS : va_S A s.heap H [] := by rw [← hH]; exact hS
  clear hH
  refine lv_aload_n hx hb dX7_source_0 rfl (lv_at hl 0 rfl) ?_
  refine lv_iconst (v := 0) hx hb dX7_source_1 (by decide) ?_
  refine va_put (D := D) (ci := 7) (v := .int 0) (ty := .int) (C := RX7) (T := TX7) (N := 21) hx hb hts iX7 tyX7 tyX7_ok nmX7 hown hK hP hD hS 0 rfl rfl 0 (by decide) f49 (fun _ h9 => h9) rfl (by decide +kernel) (rfl) (rfl) (Nat.le_of_ble_eq_true rfl) dX7_source_2 (fun H locs hP2 hD2 hS2 => ?_)
  clear hP hD hS
  have hPD : PD D A [(Mm, .inr (7, [.int 0, .ref Mt, .int (nI tp), .int zma, .int zwr, .ref Mrr, .ref Mrh, .ref Mrc, .int zrh, .int zrc, .ref Mn, .ref Mf, .ref Mr, .ref Mh, .int (nI hp), .int (nI cc), .ref Ma, .ref Mas, .ref Msn, .ref Mac, .ref Mat])), (Mf, .inl (g 0, 4, .inl fmf)), (Mn, .inl (g 0, 1767, .inl fno))] H := ⟨hP2, hD2⟩
  have hS := hS2; clear hP2 hD2 hS2; have hP := hPD.1; have hD := hPD.2; clear hPD
  refine lv_aload_n hx hb dX7_source_5 rfl (lv_at hl 0 rfl) ?_
  refine lv_iload_n hx hb dX7_source_6 rfl (lv_at hl 1 rfl) ?_
  refine ky_Vi (As := [.int zc]) (rest := []) ⟨hx, hb, hml, hown, hts⟩ ⟨hK, hN⟩ hZ hP hD hS hA [0] [1, 2] (wc := [(Mm, .inr (7, [.int 0, .ref Mt, .int (nI tp), .int zma, .int zwr, .ref Mrr, .ref Mrh, .ref Mrc, .int zrh, .int zrc, .ref Mn, .ref Mf, .ref Mr, .ref Mh, .int (nI hp), .int (nI cc), .ref Ma, .ref Mas, .ref Msn, .ref Mac, .ref Mat]))]) (wr := [(Mf, .inl (g 0, 4, .inl fmf)), (Mn, .inl (g 0, 1767, .inl fno))]) rfl rfl rfl rfl (by decide) (k_X7_isCircuit l D g H.size Mm zc 0 Mt tp zma zwr Mrr Mrh Mrc zrh zrc Mn Mf Mr Mh hp cc Ma Mas Msn Mac Mat (show 1 ≤ cc by omega) (show cc ≤ 3 by omega)) (cwV 1 hts gX7_source_X7_isCircuit rfl rfl rfl (by decide +kernel) ⟨(Nat.le_of_ble_eq_true rfl), (Nat.le_of_ble_eq_true rfl)⟩) 0 7 rfl rfl rfl rfl hl.1 rfl (Nat.le_of_ble_eq_true rfl) dX7_source_7 ⟨(Nat.le_of_ble_eq_true rfl), (Nat.le_of_ble_eq_true rfl)⟩ (fun r_1 u H locs hw hP2 hD2 hS2 => ?_)
  clear hP hD hS
  obtain ⟨rfl, rfl⟩ := hw
  have hPD : PD D A [(Mf, .inl (g 0, 4, .inl fmf)), (Mn, .inl (g 0, 1767, .inl fno)), (Mm, .inr (7, [.int 0, .ref Mt, .int (nI tp), .int zma, .int zwr, .ref Mrr, .ref Mrh, .ref Mrc, .int zrh, .int zrc, .ref Mn, .ref Mf, .ref Mr, .ref Mh, .int (nI hp), .int (nI cc), .ref Ma, .ref Mas, .ref Msn, .ref Mac, .ref Mat]))] H := ⟨hP2, hD2⟩
  have hS := hS2; clear hP2 hD2 hS2; have hP := hPD.1; have hD := hPD.2; clear hPD
  refine W.widen (k := 0) (n := 0) (Nat.le_of_ble_eq_true rfl) (Nat.le_of_ble_eq_true rfl) ?_
  refine lv_if_ne (tgt := 19) hx hb dX7_source_10 (by decide) (fun cb_2 => ?_) (fun cb_2 => ?_)
  · skip
    have hq_3 : 0 ≤ zc ∧ zc ≤ (nI (cc - 1)) := b01_1.mp cb_2
    have hPq_7 := hP; have hDq_7 := hD; have hSq_7 := hS; have hlq_7 := hl; clear hP hD hS hl
    obtain ⟨j_4, hl_5, hu_6, rfl⟩ := rg (L := 0) (U := cc - 1) rfl rfl (show 0 < 2 ^ 31 by omega) (show cc - 1 < 2 ^ 31 by omega) hq_3
    have hP := hPq_7; have hD := hDq_7; have hS := hSq_7; have hl := hlq_7; clear hPq_7 hDq_7 hSq_7 hlq_7
    refine lv_iload_n hx hb dX7_source_19 rfl (lv_at hl 2 rfl) ?_
    refine lv_iconst (v := 0) hx hb dX7_source_20 (by decide) ?_
    refine lv_bipush (v := 9) hx hb dX7_source_21 (by decide) ?_
    refine ky_Si (As := [.int zg, .int 0, .int 9]) (rest := []) ⟨hx, hb, hml, hown, hts⟩ ⟨hK, hN⟩ hZ hP hD hS hA [] [0, 1, 2] (wc := []) (wr := [(Mf, .inl (g 0, 4, .inl fmf)), (Mn, .inl (g 0, 1767, .inl fno)), (Mm, .inr (7, [.int 0, .ref Mt, .int (nI tp), .int zma, .int zwr, .ref Mrr, .ref Mrh, .ref Mrc, .int zrh, .int zrc, .ref Mn, .ref Mf, .ref Mr, .ref Mh, .int (nI hp), .int (nI cc), .ref Ma, .ref Mas, .ref Msn, .ref Mac, .ref Mat]))]) rfl rfl rfl rfl (by decide) (k_X7_in l D g H.size zg 0 9) (va_cwS 3 hts gX7_source_X7_in rfl rfl rfl (by decide +kernel) ⟨(Nat.le_of_ble_eq_true rfl), (Nat.le_of_ble_eq_true rfl)⟩) rfl hl.1 rfl (Nat.le_of_ble_eq_true rfl) dX7_source_23 ⟨(Nat.le_of_ble_eq_true rfl), (Nat.le_of_ble_eq_true rfl)⟩ (fun r_8 u H locs hw hP2 hD2 hS2 => ?_)
    clear hP hD hS
    obtain ⟨rfl, rfl⟩ := hw
    have hPD : PD D A [(Mf, .inl (g 0, 4, .inl fmf)), (Mn, .inl (g 0, 1767, .inl fno)), (Mm, .inr (7, [.int 0, .ref Mt, .int (nI tp), .int zma, .int zwr, .ref Mrr, .ref Mrh, .ref Mrc, .int zrh, .int zrc, .ref Mn, .ref Mf, .ref Mr, .ref Mh, .int (nI hp), .int (nI cc), .ref Ma, .ref Mas, .ref Msn, .ref Mac, .ref Mat]))] H := ⟨hP2, hD2⟩
    have hS := hS2; clear hP2 hD2 hS2; have hP := hPD.1; have hD := hPD.2; clear hPD
    refine W.widen (k := 0) (n := 0) (Nat.le_of_ble_eq_true rfl) (Nat.le_of_ble_eq_true rfl) ?_
    refine lv_if_eq (tgt := 40) hx hb dX7_source_26 (by decide) (fun cb_9 => ?_) (fun cb_9 => ?_)
    · skip
      have hq_10 : ¬ (0 ≤ zg ∧ zg ≤ 9) := b01_0.mp cb_9
      refine lv_aload_n hx hb dX7_source_40 rfl (lv_at hl 0 rfl) ?_
      refine lv_iconst (v := 1) hx hb dX7_source_41 (by decide) ?_
      refine ky_Vi (As := [.int 1]) (rest := []) ⟨hx, hb, hml, hown, hts⟩ ⟨hK, hN⟩ hZ hP hD hS hA [2, 0] [1] (wc := [(Mm, .inr (7, [.int 0, .ref Mt, .int (nI tp), .int zma, .int zwr, .ref Mrr, .ref Mrh, .ref Mrc, .int zrh, .int zrc, .ref Mn, .ref Mf, .ref Mr, .ref Mh, .int (nI hp), .int (nI cc), .ref Ma, .ref Mas, .ref Msn, .ref Mac, .ref Mat])), (Mf, .inl (g 0, 4, .inl fmf))]) (wr := [(Mn, .inl (g 0, 1767, .inl fno))]) rfl rfl rfl rfl (by decide) (k_X7_refuses l D g H.size Mm 1 0 Mt tp zma zwr Mrr Mrh Mrc zrh zrc Mn Mf Mr Mh hp cc Ma Mas Msn Mac Mat fmf (show 1 < 4 by omega)) (cwV 1 hts gX7_source_X7_refuses rfl rfl rfl (by decide +kernel) ⟨(Nat.le_of_ble_eq_true rfl), (Nat.le_of_ble_eq_true rfl)⟩) 2 7 rfl rfl rfl rfl hl.1 rfl (Nat.le_of_ble_eq_true rfl) dX7_source_42 ⟨(Nat.le_of_ble_eq_true rfl), (Nat.le_of_ble_eq_true rfl)⟩ (fun r_11 u H locs hw hP2 hD2 hS2 => ?_)
      clear hP hD hS
      obtain ⟨fmfx_12, rfl, rfl⟩ := hw
      have hPD : PD D A [(Mn, .inl (g 0, 1767, .inl fno)), (Mm, .inr (7, [.int 0, .ref Mt, .int (nI tp), .int zma, .int zwr, .ref Mrr, .ref Mrh, .ref Mrc, .int zrh, .int zrc, .ref Mn, .ref Mf, .ref Mr, .ref Mh, .int (nI hp), .int (nI cc), .ref Ma, .ref Mas, .ref Msn, .ref Mac, .ref Mat])), (Mf, .inl (g 0, 4, .inl fmfx_12))] H := ⟨hP2, hD2⟩
      have hS := hS2; clear hP2 hD2 hS2; have hP := hPD.1; have hD := hPD.2; clear hPD
      refine W.widen (k := 0) (n := 0) (Nat.le_of_ble_eq_true rfl) (Nat.le_of_ble_eq_true rfl) ?_
      have hPD9 : PD D A [(Mm, .inr (7, [.int 0, .ref Mt, .int (nI tp), .int zma, .int zwr, .ref Mrr, .ref Mrh, .ref Mrc, .int zrh, .int zrc, .ref Mn, .ref Mf, .ref Mr, .ref Mh, .int (nI hp), .int (nI cc), .ref Ma, .ref Mas, .ref Msn, .ref Mac, .ref Mat])), (Mf, .inl (g 0, 4, .inl fmfx_12)), (Mn, .inl (g 0, 1767, .inl fno))] H := ⟨hP.sub [1, 2, 0] rfl, hD.sub [1, 2, 0] (by decide) rfl⟩
      have hP9 := hPD9.1; have hD9 := hPD9.2
      subst hQ
      refine W.widen (k := 0) (n := 0) (Nat.le_of_ble_eq_true rfl) (Nat.le_of_ble_eq_true rfl) ?_
      exact W.iret (v := (-1)) hx hb hr (fun tS htS _ => ⟨⟨_, _, rfl, ⟨0, fmfx_12, fno, (-1), rfl, rfl, (mOK_self h2), (Or.inl ⟨Or.inr (Or.inl hq_10), rfl, rfl⟩)⟩, by rw [htS]; exact hP9, hD9⟩, hS.F htS⟩) hS.2.2 dX7_source_45
    · skip
      have hq_13 : 0 ≤ zg ∧ zg ≤ 9 := b01_1.mp cb_9
      have hPq_17 := hP; have hDq_17 := hD; have hSq_17 := hS; have hlq_17 := hl; clear hP hD hS hl
      obtain ⟨j_14, hl_15, hu_16, rfl⟩ := rg (L := 0) (U := 9) rfl rfl (show 0 < 2 ^ 31 by omega) (show 9 < 2 ^ 31 by omega) hq_13
      have hP := hPq_17; have hD := hDq_17; have hS := hSq_17; have hl := hlq_17; clear hPq_17 hDq_17 hSq_17 hlq_17
      refine lv_iload_n hx hb dX7_source_29 rfl (lv_at hl 3 rfl) ?_
      refine lv_iconst (v := 0) hx hb dX7_source_30 (by decide) ?_
      refine lv_sipush (v := 999) hx hb dX7_source_31 (by decide) ?_
      refine ky_Si (As := [.int zs, .int 0, .int 999]) (rest := []) ⟨hx, hb, hml, hown, hts⟩ ⟨hK, hN⟩ hZ hP hD hS hA [] [0, 1, 2] (wc := []) (wr := [(Mf, .inl (g 0, 4, .inl fmf)), (Mn, .inl (g 0, 1767, .inl fno)), (Mm, .inr (7, [.int 0, .ref Mt, .int (nI tp), .int zma, .int zwr, .ref Mrr, .ref Mrh, .ref Mrc, .int zrh, .int zrc, .ref Mn, .ref Mf, .ref Mr, .ref Mh, .int (nI hp), .int (nI cc), .ref Ma, .ref Mas, .ref Msn, .ref Mac, .ref Mat]))]) rfl rfl rfl rfl (by decide) (k_X7_in l D g H.size zs 0 999) (va_cwS 3 hts gX7_source_X7_in rfl rfl rfl (by decide +kernel) ⟨(Nat.le_of_ble_eq_true rfl), (Nat.le_of_ble_eq_true rfl)⟩) rfl hl.1 rfl (Nat.le_of_ble_eq_true rfl) dX7_source_34 ⟨(Nat.le_of_ble_eq_true rfl), (Nat.le_of_ble_eq_true rfl)⟩ (fun r_18 u H locs hw hP2 hD2 hS2 => ?_)
      clear hP hD hS
      obtain ⟨rfl, rfl⟩ := hw
      have hPD : PD D A [(Mf, .inl (g 0, 4, .inl fmf)), (Mn, .inl (g 0, 1767, .inl fno)), (Mm, .inr (7, [.int 0, .ref Mt, .int (nI tp), .int zma, .int zwr, .ref Mrr, .ref Mrh, .ref Mrc, .int zrh, .int zrc, .ref Mn, .ref Mf, .ref Mr, .ref Mh, .int (nI hp), .int (nI cc), .ref Ma, .ref Mas, .ref Msn, .ref Mac, .ref Mat]))] H := ⟨hP2, hD2⟩
      have hS := hS2; clear hP2 hD2 hS2; have hP := hPD.1; have hD := hPD.2; clear hPD
      refine W.widen (k := 0) (n := 0) (Nat.le_of_ble_eq_true rfl) (Nat.le_of_ble_eq_true rfl) ?_
      refine lv_if_ne (tgt := 46) hx hb dX7_source_37 (by decide) (fun cb_19 => ?_) (fun cb_19 => ?_)
      · skip
        have hq_20 : 0 ≤ zs ∧ zs ≤ 999 := b01_1.mp cb_19
        have hPq_24 := hP; have hDq_24 := hD; have hSq_24 := hS; have hlq_24 := hl; clear hP hD hS hl
        obtain ⟨j_21, hl_22, hu_23, rfl⟩ := rg (L := 0) (U := 999) rfl rfl (show 0 < 2 ^ 31 by omega) (show 999 < 2 ^ 31 by omega) hq_20
        have hP := hPq_24; have hD := hDq_24; have hS := hSq_24; have hl := hlq_24; clear hPq_24 hDq_24 hSq_24 hlq_24
        refine lv_iload_n hx hb dX7_source_46 rfl (lv_at hl 1 rfl) ?_
        refine ky_Si (As := [.int (nI j_4)]) (rest := []) ⟨hx, hb, hml, hown, hts⟩ ⟨hK, hN⟩ hZ hP hD hS hA [] [0, 1, 2] (wc := []) (wr := [(Mf, .inl (g 0, 4, .inl fmf)), (Mn, .inl (g 0, 1767, .inl fno)), (Mm, .inr (7, [.int 0, .ref Mt, .int (nI tp), .int zma, .int zwr, .ref Mrr, .ref Mrh, .ref Mrc, .int zrh, .int zrc, .ref Mn, .ref Mf, .ref Mr, .ref Mh, .int (nI hp), .int (nI cc), .ref Ma, .ref Mas, .ref Msn, .ref Mac, .ref Mat]))]) rfl rfl rfl rfl (by decide) (k_X7_circuitAt l D g H.size j_4 (show j_4 < 3 by omega)) (va_cwS 1 hts gX7_source_X7_circuitAt rfl rfl rfl (by decide +kernel) ⟨(Nat.le_of_ble_eq_true rfl), (Nat.le_of_ble_eq_true rfl)⟩) rfl hl.1 rfl (Nat.le_of_ble_eq_true rfl) dX7_source_47 ⟨(Nat.le_of_ble_eq_true rfl), (Nat.le_of_ble_eq_true rfl)⟩ (fun r_25 u H locs hw hP2 hD2 hS2 => ?_)
        clear hP hD hS
        obtain ⟨rfl, rfl⟩ := hw
        have hPD : PD D A [(Mf, .inl (g 0, 4, .inl fmf)), (Mn, .inl (g 0, 1767, .inl fno)), (Mm, .inr (7, [.int 0, .ref Mt, .int (nI tp), .int zma, .int zwr, .ref Mrr, .ref Mrh, .ref Mrc, .int zrh, .int zrc, .ref Mn, .ref Mf, .ref Mr, .ref Mh, .int (nI hp), .int (nI cc), .ref Ma, .ref Mas, .ref Msn, .ref Mac, .ref Mat]))] H := ⟨hP2, hD2⟩
        have hS := hS2; clear hP2 hD2 hS2; have hP := hPD.1; have hD := hPD.2; clear hPD
        refine W.widen (k := 0) (n := 0) (Nat.le_of_ble_eq_true rfl) (Nat.le_of_ble_eq_true rfl) ?_
        refine lv_istore (lv' := [(4, .int (nI (201 + 9 * j_4))), (0, .ref Mm), (1, .int (nI j_4)), (2, .int (nI j_14)), (3, .int (nI j_21))]) hx hb dX7_source_50 hl (by decide) rfl (fun ls hl => ?_)
        refine lv_aload_n hx hb dX7_source_52 rfl (lv_at hl 1 rfl) ?_
        refine va_get (D := D) (ci := 7) (v := .ref Mn) (C := RX7) (T := TX7) (N := 21) hx hb hts iX7 hown hK hP 2 rfl rfl 10 (by decide) f22 (fun _ h9 => h9) rfl dX7_source_53 ?_
        refine lv_iload hx hb dX7_source_56 (lv_at hl 0 rfl) ?_
        refine lv_iconst (v := 0) hx hb dX7_source_58 (by decide) ?_
        refine lv_iadd hx hb dX7_source_59 ?_
        refine lv_eqi (y := (nI (201 + 9 * j_4 + 0))) (nI_add (201 + 9 * j_4) (0)) ?_
        refine va_iald hx hb hK hP 1 0 rfl rfl (vp_in_nI (show 201 + 9 * j_4 + 0 < 1767 by omega) (by decide)) dX7_source_60 ?_
        refine lv_eqi (y := (fno (201 + 9 * j_4 + 0))) (congrArg fno (nI_clamp (show 201 + 9 * j_4 + 0 < 2 ^ 31 by omega))) ?_
        refine lv_istore (lv' := [(5, .int (fno (201 + 9 * j_4 + 0))), (4, .int (nI (201 + 9 * j_4))), (0, .ref Mm), (1, .int (nI j_4)), (2, .int (nI j_14)), (3, .int (nI j_21))]) hx hb dX7_source_61 hl (by decide) rfl (fun ls hl => ?_)
        refine lv_iload hx hb dX7_source_63 (lv_at hl 0 rfl) ?_
        refine lv_iload_n hx hb dX7_source_65 rfl (lv_at hl 4 rfl) ?_
        refine lv_icmp_ne (tgt := 88) hx hb dX7_source_66 (by decide) (fun cb_26 => ?_) (fun cb_26 => ?_)
        · skip
          refine lv_aload_n hx hb dX7_source_88 rfl (lv_at hl 2 rfl) ?_
          refine va_get (D := D) (ci := 7) (v := .ref Mn) (C := RX7) (T := TX7) (N := 21) hx hb hts iX7 hown hK hP 2 rfl rfl 10 (by decide) f22 (fun _ h9 => h9) rfl dX7_source_89 ?_
          refine lv_iload hx hb dX7_source_92 (lv_at hl 1 rfl) ?_
          refine lv_iconst (v := 0) hx hb dX7_source_94 (by decide) ?_
          refine lv_iadd hx hb dX7_source_95 ?_
          refine lv_eqi (y := (nI (201 + 9 * j_4 + 0))) (nI_add (201 + 9 * j_4) (0)) ?_
          refine lv_iload_n hx hb dX7_source_96 rfl (lv_at hl 4 rfl) ?_
          refine va_iast hx hb hK hP hD hS 1 0 rfl rfl (vp_in_nI (show 201 + 9 * j_4 + 0 < 1767 by omega) (by decide)) dX7_source_97 (fun H locs hP2 hD2 hS2 => ?_)
          clear hP hD hS
          have hPD : PD D A [(Mf, .inl (g 0, 4, .inl fmf)), (Mn, .inl (g 0, 1767, .inl (upd fno (nI (201 + 9 * j_4 + 0)).toNatClampNeg (nI j_14)))), (Mm, .inr (7, [.int 0, .ref Mt, .int (nI tp), .int zma, .int zwr, .ref Mrr, .ref Mrh, .ref Mrc, .int zrh, .int zrc, .ref Mn, .ref Mf, .ref Mr, .ref Mh, .int (nI hp), .int (nI cc), .ref Ma, .ref Mas, .ref Msn, .ref Mac, .ref Mat]))] H := ⟨hP2, hD2⟩
          have hS := hS2; clear hP2 hD2 hS2; have hP := hPD.1; have hD := hPD.2; clear hPD
          rw [nI_clamp (show 201 + 9 * j_4 + 0 < 2 ^ 31 by omega)] at hP hD
          have hPD : PD D A [(Mf, .inl (g 0, 4, .inl fmf)), (Mn, .inl (g 0, 1767, .inl (upd fno (201 + 9 * j_4 + 0) (nI j_14)))), (Mm, .inr (7, [.int 0, .ref Mt, .int (nI tp), .int zma, .int zwr, .ref Mrr, .ref Mrh, .ref Mrc, .int zrh, .int zrc, .ref Mn, .ref Mf, .ref Mr, .ref Mh, .int (nI hp), .int (nI cc), .ref Ma, .ref Mas, .ref Msn, .ref Mac, .ref Mat]))] H := ⟨hP, hD⟩
          clear hP hD; have hP := hPD.1; have hD := hPD.2; clear hPD
          have hF_27 : mOK (upd fno (201 + 9 * j_4 + 0) (nI j_14)) tb ub (upd fno (201 + 9 * j_4 + 0) (nI j_14)) := mOK_g h2 (show gidx (201 + 9 * j_4 + 0) by unfold gidx; omega)
          generalize heF_27 : upd fno (201 + 9 * j_4 + 0) (nI j_14) = F_27 at hP hD hF_27
          refine lv_aload_n hx hb dX7_source_98 rfl (lv_at hl 2 rfl) ?_
          refine va_get (D := D) (ci := 7) (v := .ref Mn) (C := RX7) (T := TX7) (N := 21) hx hb hts iX7 hown hK hP 2 rfl rfl 10 (by decide) f22 (fun _ h9 => h9) rfl dX7_source_99 ?_
          refine lv_iload hx hb dX7_source_102 (lv_at hl 1 rfl) ?_
          refine lv_iconst (v := 1) hx hb dX7_source_104 (by decide) ?_
          refine lv_iadd hx hb dX7_source_105 ?_
          refine lv_eqi (y := (nI (201 + 9 * j_4 + 1))) (nI_add (201 + 9 * j_4) (1)) ?_
          refine lv_iload_n hx hb dX7_source_106 rfl (lv_at hl 5 rfl) ?_
          refine va_iast hx hb hK hP hD hS 1 0 rfl rfl (vp_in_nI (show 201 + 9 * j_4 + 1 < 1767 by omega) (by decide)) dX7_source_107 (fun H locs hP2 hD2 hS2 => ?_)
          clear hP hD hS
          have hPD : PD D A [(Mf, .inl (g 0, 4, .inl fmf)), (Mn, .inl (g 0, 1767, .inl (upd F_27 (nI (201 + 9 * j_4 + 1)).toNatClampNeg (nI j_21)))), (Mm, .inr (7, [.int 0, .ref Mt, .int (nI tp), .int zma, .int zwr, .ref Mrr, .ref Mrh, .ref Mrc, .int zrh, .int zrc, .ref Mn, .ref Mf, .ref Mr, .ref Mh, .int (nI hp), .int (nI cc), .ref Ma, .ref Mas, .ref Msn, .ref Mac, .ref Mat]))] H := ⟨hP2, hD2⟩
          have hS := hS2; clear hP2 hD2 hS2; have hP := hPD.1; have hD := hPD.2; clear hPD
          rw [nI_clamp (show 201 + 9 * j_4 + 1 < 2 ^ 31 by omega)] at hP hD
          have hPD : PD D A [(Mf, .inl (g 0, 4, .inl fmf)), (Mn, .inl (g 0, 1767, .inl (upd F_27 (201 + 9 * j_4 + 1) (nI j_21)))), (Mm, .inr (7, [.int 0, .ref Mt, .int (nI tp), .int zma, .int zwr, .ref Mrr, .ref Mrh, .ref Mrc, .int zrh, .int zrc, .ref Mn, .ref Mf, .ref Mr, .ref Mh, .int (nI hp), .int (nI cc), .ref Ma, .ref Mas, .ref Msn, .ref Mac, .ref Mat]))] H := ⟨hP, hD⟩
          clear hP hD; have hP := hPD.1; have hD := hPD.2; clear hPD
          have hF_28 : mOK (upd F_27 (201 + 9 * j_4 + 1) (nI j_21)) tb ub (upd F_27 (201 + 9 * j_4 + 1) (nI j_21)) := mOK_g hF_27 (show gidx (201 + 9 * j_4 + 1) by unfold gidx; omega)
          generalize heF_28 : upd F_27 (201 + 9 * j_4 + 1) (nI j_21) = F_28 at hP hD hF_28
          refine lv_iload hx hb dX7_source_108 (lv_at hl 0 rfl) ?_
          have hPD9 : PD D A [(Mm, .inr (7, [.int 0, .ref Mt, .int (nI tp), .int zma, .int zwr, .ref Mrr, .ref Mrh, .ref Mrc, .int zrh, .int zrc, .ref Mn, .ref Mf, .ref Mr, .ref Mh, .int (nI hp), .int (nI cc), .ref Ma, .ref Mas, .ref Msn, .ref Mac, .ref Mat])), (Mf, .inl (g 0, 4, .inl fmf)), (Mn, .inl (g 0, 1767, .inl F_28))] H := ⟨hP.sub [2, 0, 1] rfl, hD.sub [2, 0, 1] (by decide) rfl⟩
          have hP9 := hPD9.1; have hD9 := hPD9.2
          subst hQ
          refine W.widen (k := 0) (n := 0) (Nat.le_of_ble_eq_true rfl) (Nat.le_of_ble_eq_true rfl) ?_
          exact W.iret (v := (fno (201 + 9 * j_4 + 0))) hx hb hr (fun tS htS _ => ⟨⟨_, _, rfl, ⟨0, fmf, F_28, (fno (201 + 9 * j_4 + 0)), rfl, rfl, (hF_28), (Or.inr ⟨nI_le (a := 0) (Nat.zero_le _) (by omega), nI_le (show j_14 ≤ 9 by omega) (by decide), nI_le (a := 0) (Nat.zero_le _) (by omega), nI_le (show j_21 ≤ 999 by omega) (by decide), j_4, (show j_4 < cc by omega), rfl, Or.inr ⟨(fun q => cb_26 q.1.symm), rfl, by rw [heF_27, heF_28]⟩⟩)⟩, by rw [htS]; exact hP9, hD9⟩, hS.F htS⟩) hS.2.2 dX7_source_110
        · skip
          refine lv_aload_n hx hb dX7_source_69 rfl (lv_at hl 2 rfl) ?_
          refine va_get (D := D) (ci := 7) (v := .ref Mn) (C := RX7) (T := TX7) (N := 21) hx hb hts iX7 hown hK hP 2 rfl rfl 10 (by decide) f22 (fun _ h9 => h9) rfl dX7_source_70 ?_
          refine lv_iload hx hb dX7_source_73 (lv_at hl 1 rfl) ?_
          refine lv_iconst (v := 1) hx hb dX7_source_75 (by decide) ?_
          refine lv_iadd hx hb dX7_source_76 ?_
          refine lv_eqi (y := (nI (201 + 9 * j_4 + 1))) (nI_add (201 + 9 * j_4) (1)) ?_
          refine va_iald hx hb hK hP 1 0 rfl rfl (vp_in_nI (show 201 + 9 * j_4 + 1 < 1767 by omega) (by decide)) dX7_source_77 ?_
          refine lv_eqi (y := (fno (201 + 9 * j_4 + 1))) (congrArg fno (nI_clamp (show 201 + 9 * j_4 + 1 < 2 ^ 31 by omega))) ?_
          refine lv_iload_n hx hb dX7_source_78 rfl (lv_at hl 5 rfl) ?_
          refine lv_icmp_ne (tgt := 88) hx hb dX7_source_79 (by decide) (fun cb_29 => ?_) (fun cb_29 => ?_)
          · skip
            refine lv_aload_n hx hb dX7_source_88 rfl (lv_at hl 2 rfl) ?_
            refine va_get (D := D) (ci := 7) (v := .ref Mn) (C := RX7) (T := TX7) (N := 21) hx hb hts iX7 hown hK hP 2 rfl rfl 10 (by decide) f22 (fun _ h9 => h9) rfl dX7_source_89 ?_
            refine lv_iload hx hb dX7_source_92 (lv_at hl 1 rfl) ?_
            refine lv_iconst (v := 0) hx hb dX7_source_94 (by decide) ?_
            refine lv_iadd hx hb dX7_source_95 ?_
            refine lv_eqi (y := (nI (201 + 9 * j_4 + 0))) (nI_add (201 + 9 * j_4) (0)) ?_
            refine lv_iload_n hx hb dX7_source_96 rfl (lv_at hl 4 rfl) ?_
            refine va_iast hx hb hK hP hD hS 1 0 rfl rfl (vp_in_nI (show 201 + 9 * j_4 + 0 < 1767 by omega) (by decide)) dX7_source_97 (fun H locs hP2 hD2 hS2 => ?_)
            clear hP hD hS
            have hPD : PD D A [(Mf, .inl (g 0, 4, .inl fmf)), (Mn, .inl (g 0, 1767, .inl (upd fno (nI (201 + 9 * j_4 + 0)).toNatClampNeg (nI j_14)))), (Mm, .inr (7, [.int 0, .ref Mt, .int (nI tp), .int zma, .int zwr, .ref Mrr, .ref Mrh, .ref Mrc, .int zrh, .int zrc, .ref Mn, .ref Mf, .ref Mr, .ref Mh, .int (nI hp), .int (nI cc), .ref Ma, .ref Mas, .ref Msn, .ref Mac, .ref Mat]))] H := ⟨hP2, hD2⟩
            have hS := hS2; clear hP2 hD2 hS2; have hP := hPD.1; have hD := hPD.2; clear hPD
            rw [nI_clamp (show 201 + 9 * j_4 + 0 < 2 ^ 31 by omega)] at hP hD
            have hPD : PD D A [(Mf, .inl (g 0, 4, .inl fmf)), (Mn, .inl (g 0, 1767, .inl (upd fno (201 + 9 * j_4 + 0) (nI j_14)))), (Mm, .inr (7, [.int 0, .ref Mt, .int (nI tp), .int zma, .int zwr, .ref Mrr, .ref Mrh, .ref Mrc, .int zrh, .int zrc, .ref Mn, .ref Mf, .ref Mr, .ref Mh, .int (nI hp), .int (nI cc), .ref Ma, .ref Mas, .ref Msn, .ref Mac, .ref Mat]))] H := ⟨hP, hD⟩
            clear hP hD; have hP := hPD.1; have hD := hPD.2; clear hPD
            have hF_30 : mOK (upd fno (201 + 9 * j_4 + 0) (nI j_14)) tb ub (upd fno (201 + 9 * j_4 + 0) (nI j_14)) := mOK_g h2 (show gidx (201 + 9 * j_4 + 0) by unfold gidx; omega)
            generalize heF_30 : upd fno (201 + 9 * j_4 + 0) (nI j_14) = F_30 at hP hD hF_30
            refine lv_aload_n hx hb dX7_source_98 rfl (lv_at hl 2 rfl) ?_
            refine va_get (D := D) (ci := 7) (v := .ref Mn) (C := RX7) (T := TX7) (N := 21) hx hb hts iX7 hown hK hP 2 rfl rfl 10 (by decide) f22 (fun _ h9 => h9) rfl dX7_source_99 ?_
            refine lv_iload hx hb dX7_source_102 (lv_at hl 1 rfl) ?_
            refine lv_iconst (v := 1) hx hb dX7_source_104 (by decide) ?_
            refine lv_iadd hx hb dX7_source_105 ?_
            refine lv_eqi (y := (nI (201 + 9 * j_4 + 1))) (nI_add (201 + 9 * j_4) (1)) ?_
            refine lv_iload_n hx hb dX7_source_106 rfl (lv_at hl 5 rfl) ?_
            refine va_iast hx hb hK hP hD hS 1 0 rfl rfl (vp_in_nI (show 201 + 9 * j_4 + 1 < 1767 by omega) (by decide)) dX7_source_107 (fun H locs hP2 hD2 hS2 => ?_)
            clear hP hD hS
            have hPD : PD D A [(Mf, .inl (g 0, 4, .inl fmf)), (Mn, .inl (g 0, 1767, .inl (upd F_30 (nI (201 + 9 * j_4 + 1)).toNatClampNeg (nI j_21)))), (Mm, .inr (7, [.int 0, .ref Mt, .int (nI tp), .int zma, .int zwr, .ref Mrr, .ref Mrh, .ref Mrc, .int zrh, .int zrc, .ref Mn, .ref Mf, .ref Mr, .ref Mh, .int (nI hp), .int (nI cc), .ref Ma, .ref Mas, .ref Msn, .ref Mac, .ref Mat]))] H := ⟨hP2, hD2⟩
            have hS := hS2; clear hP2 hD2 hS2; have hP := hPD.1; have hD := hPD.2; clear hPD
            rw [nI_clamp (show 201 + 9 * j_4 + 1 < 2 ^ 31 by omega)] at hP hD
            have hPD : PD D A [(Mf, .inl (g 0, 4, .inl fmf)), (Mn, .inl (g 0, 1767, .inl (upd F_30 (201 + 9 * j_4 + 1) (nI j_21)))), (Mm, .inr (7, [.int 0, .ref Mt, .int (nI tp), .int zma, .int zwr, .ref Mrr, .ref Mrh, .ref Mrc, .int zrh, .int zrc, .ref Mn, .ref Mf, .ref Mr, .ref Mh, .int (nI hp), .int (nI cc), .ref Ma, .ref Mas, .ref Msn, .ref Mac, .ref Mat]))] H := ⟨hP, hD⟩
            clear hP hD; have hP := hPD.1; have hD := hPD.2; clear hPD
            have hF_31 : mOK (upd F_30 (201 + 9 * j_4 + 1) (nI j_21)) tb ub (upd F_30 (201 + 9 * j_4 + 1) (nI j_21)) := mOK_g hF_30 (show gidx (201 + 9 * j_4 + 1) by unfold gidx; omega)
            generalize heF_31 : upd F_30 (201 + 9 * j_4 + 1) (nI j_21) = F_31 at hP hD hF_31
            refine lv_iload hx hb dX7_source_108 (lv_at hl 0 rfl) ?_
            have hPD9 : PD D A [(Mm, .inr (7, [.int 0, .ref Mt, .int (nI tp), .int zma, .int zwr, .ref Mrr, .ref Mrh, .ref Mrc, .int zrh, .int zrc, .ref Mn, .ref Mf, .ref Mr, .ref Mh, .int (nI hp), .int (nI cc), .ref Ma, .ref Mas, .ref Msn, .ref Mac, .ref Mat])), (Mf, .inl (g 0, 4, .inl fmf)), (Mn, .inl (g 0, 1767, .inl F_31))] H := ⟨hP.sub [2, 0, 1] rfl, hD.sub [2, 0, 1] (by decide) rfl⟩
            have hP9 := hPD9.1; have hD9 := hPD9.2
            subst hQ
            refine W.widen (k := 0) (n := 0) (Nat.le_of_ble_eq_true rfl) (Nat.le_of_ble_eq_true rfl) ?_
            exact W.iret (v := (fno (201 + 9 * j_4 + 0))) hx hb hr (fun tS htS _ => ⟨⟨_, _, rfl, ⟨0, fmf, F_31, (fno (201 + 9 * j_4 + 0)), rfl, rfl, (hF_31), (Or.inr ⟨nI_le (a := 0) (Nat.zero_le _) (by omega), nI_le (show j_14 ≤ 9 by omega) (by decide), nI_le (a := 0) (Nat.zero_le _) (by omega), nI_le (show j_21 ≤ 999 by omega) (by decide), j_4, (show j_4 < cc by omega), rfl, Or.inr ⟨(fun q => cb_29 q.2.symm), rfl, by rw [heF_30, heF_31]⟩⟩)⟩, by rw [htS]; exact hP9, hD9⟩, hS.F htS⟩) hS.2.2 dX7_source_110
          · skip
            refine lv_aload_n hx hb dX7_source_82 rfl (lv_at hl 2 rfl) ?_
            refine lv_iconst (v := 2) hx hb dX7_source_83 (by decide) ?_
            refine ky_Vi (As := [.int 2]) (rest := []) ⟨hx, hb, hml, hown, hts⟩ ⟨hK, hN⟩ hZ hP hD hS hA [2, 0] [1] (wc := [(Mm, .inr (7, [.int 0, .ref Mt, .int (nI tp), .int zma, .int zwr, .ref Mrr, .ref Mrh, .ref Mrc, .int zrh, .int zrc, .ref Mn, .ref Mf, .ref Mr, .ref Mh, .int (nI hp), .int (nI cc), .ref Ma, .ref Mas, .ref Msn, .ref Mac, .ref Mat])), (Mf, .inl (g 0, 4, .inl fmf))]) (wr := [(Mn, .inl (g 0, 1767, .inl fno))]) rfl rfl rfl rfl (by decide) (k_X7_refuses l D g H.size Mm 2 0 Mt tp zma zwr Mrr Mrh Mrc zrh zrc Mn Mf Mr Mh hp cc Ma Mas Msn Mac Mat fmf (show 2 < 4 by omega)) (cwV 1 hts gX7_source_X7_refuses rfl rfl rfl (by decide +kernel) ⟨(Nat.le_of_ble_eq_true rfl), (Nat.le_of_ble_eq_true rfl)⟩) 2 7 rfl rfl rfl rfl hl.1 rfl (Nat.le_of_ble_eq_true rfl) dX7_source_84 ⟨(Nat.le_of_ble_eq_true rfl), (Nat.le_of_ble_eq_true rfl)⟩ (fun r_32 u H locs hw hP2 hD2 hS2 => ?_)
            clear hP hD hS
            obtain ⟨fmfx_33, rfl, rfl⟩ := hw
            have hPD : PD D A [(Mn, .inl (g 0, 1767, .inl fno)), (Mm, .inr (7, [.int 0, .ref Mt, .int (nI tp), .int zma, .int zwr, .ref Mrr, .ref Mrh, .ref Mrc, .int zrh, .int zrc, .ref Mn, .ref Mf, .ref Mr, .ref Mh, .int (nI hp), .int (nI cc), .ref Ma, .ref Mas, .ref Msn, .ref Mac, .ref Mat])), (Mf, .inl (g 0, 4, .inl fmfx_33))] H := ⟨hP2, hD2⟩
            have hS := hS2; clear hP2 hD2 hS2; have hP := hPD.1; have hD := hPD.2; clear hPD
            refine W.widen (k := 0) (n := 0) (Nat.le_of_ble_eq_true rfl) (Nat.le_of_ble_eq_true rfl) ?_
            have hPD9 : PD D A [(Mm, .inr (7, [.int 0, .ref Mt, .int (nI tp), .int zma, .int zwr, .ref Mrr, .ref Mrh, .ref Mrc, .int zrh, .int zrc, .ref Mn, .ref Mf, .ref Mr, .ref Mh, .int (nI hp), .int (nI cc), .ref Ma, .ref Mas, .ref Msn, .ref Mac, .ref Mat])), (Mf, .inl (g 0, 4, .inl fmfx_33)), (Mn, .inl (g 0, 1767, .inl fno))] H := ⟨hP.sub [1, 2, 0] rfl, hD.sub [1, 2, 0] (by decide) rfl⟩
            have hP9 := hPD9.1; have hD9 := hPD9.2
            subst hQ
            refine W.widen (k := 0) (n := 0) (Nat.le_of_ble_eq_true rfl) (Nat.le_of_ble_eq_true rfl) ?_
            exact W.iret (v := (-1)) hx hb hr (fun tS htS _ => ⟨⟨_, _, rfl, ⟨0, fmfx_33, fno, (-1), rfl, rfl, (mOK_self h2), (Or.inr ⟨nI_le (a := 0) (Nat.zero_le _) (by omega), nI_le (show j_14 ≤ 9 by omega) (by decide), nI_le (a := 0) (Nat.zero_le _) (by omega), nI_le (show j_21 ≤ 999 by omega) (by decide), j_4, (show j_4 < cc by omega), rfl, Or.inl ⟨cb_26.symm, cb_29.symm, rfl, rfl⟩⟩)⟩, by rw [htS]; exact hP9, hD9⟩, hS.F htS⟩) hS.2.2 dX7_source_87
      · skip
        have hq_34 : ¬ (0 ≤ zs ∧ zs ≤ 999) := b01_0.mp cb_19
        refine lv_aload_n hx hb dX7_source_40 rfl (lv_at hl 0 rfl) ?_
        refine lv_iconst (v := 1) hx hb dX7_source_41 (by decide) ?_
        refine ky_Vi (As := [.int 1]) (rest := []) ⟨hx, hb, hml, hown, hts⟩ ⟨hK, hN⟩ hZ hP hD hS hA [2, 0] [1] (wc := [(Mm, .inr (7, [.int 0, .ref Mt, .int (nI tp), .int zma, .int zwr, .ref Mrr, .ref Mrh, .ref Mrc, .int zrh, .int zrc, .ref Mn, .ref Mf, .ref Mr, .ref Mh, .int (nI hp), .int (nI cc), .ref Ma, .ref Mas, .ref Msn, .ref Mac, .ref Mat])), (Mf, .inl (g 0, 4, .inl fmf))]) (wr := [(Mn, .inl (g 0, 1767, .inl fno))]) rfl rfl rfl rfl (by decide) (k_X7_refuses l D g H.size Mm 1 0 Mt tp zma zwr Mrr Mrh Mrc zrh zrc Mn Mf Mr Mh hp cc Ma Mas Msn Mac Mat fmf (show 1 < 4 by omega)) (cwV 1 hts gX7_source_X7_refuses rfl rfl rfl (by decide +kernel) ⟨(Nat.le_of_ble_eq_true rfl), (Nat.le_of_ble_eq_true rfl)⟩) 2 7 rfl rfl rfl rfl hl.1 rfl (Nat.le_of_ble_eq_true rfl) dX7_source_42 ⟨(Nat.le_of_ble_eq_true rfl), (Nat.le_of_ble_eq_true rfl)⟩ (fun r_35 u H locs hw hP2 hD2 hS2 => ?_)
        clear hP hD hS
        obtain ⟨fmfx_36, rfl, rfl⟩ := hw
        have hPD : PD D A [(Mn, .inl (g 0, 1767, .inl fno)), (Mm, .inr (7, [.int 0, .ref Mt, .int (nI tp), .int zma, .int zwr, .ref Mrr, .ref Mrh, .ref Mrc, .int zrh, .int zrc, .ref Mn, .ref Mf, .ref Mr, .ref Mh, .int (nI hp), .int (nI cc), .ref Ma, .ref Mas, .ref Msn, .ref Mac, .ref Mat])), (Mf, .inl (g 0, 4, .inl fmfx_36))] H := ⟨hP2, hD2⟩
        have hS := hS2; clear hP2 hD2 hS2; have hP := hPD.1; have hD := hPD.2; clear hPD
        refine W.widen (k := 0) (n := 0) (Nat.le_of_ble_eq_true rfl) (Nat.le_of_ble_eq_true rfl) ?_
        have hPD9 : PD D A [(Mm, .inr (7, [.int 0, .ref Mt, .int (nI tp), .int zma, .int zwr, .ref Mrr, .ref Mrh, .ref Mrc, .int zrh, .int zrc, .ref Mn, .ref Mf, .ref Mr, .ref Mh, .int (nI hp), .int (nI cc), .ref Ma, .ref Mas, .ref Msn, .ref Mac, .ref Mat])), (Mf, .inl (g 0, 4, .inl fmfx_36)), (Mn, .inl (g 0, 1767, .inl fno))] H := ⟨hP.sub [1, 2, 0] rfl, hD.sub [1, 2, 0] (by decide) rfl⟩
        have hP9 := hPD9.1; have hD9 := hPD9.2
        subst hQ
        refine W.widen (k := 0) (n := 0) (Nat.le_of_ble_eq_true rfl) (Nat.le_of_ble_eq_true rfl) ?_
        exact W.iret (v := (-1)) hx hb hr (fun tS htS _ => ⟨⟨_, _, rfl, ⟨0, fmfx_36, fno, (-1), rfl, rfl, (mOK_self h2), (Or.inl ⟨Or.inr (Or.inr hq_34), rfl, rfl⟩)⟩, by rw [htS]; exact hP9, hD9⟩, hS.F htS⟩) hS.2.2 dX7_source_45
  · skip
    have hq_37 : ¬ (0 ≤ zc ∧ zc ≤ (nI (cc - 1))) := b01_0.mp cb_2
    refine lv_aload_n hx hb dX7_source_13 rfl (lv_at hl 0 rfl) ?_
    refine lv_iconst (v := 0) hx hb dX7_source_14 (by decide) ?_
    refine ky_Vi (As := [.int 0]) (rest := []) ⟨hx, hb, hml, hown, hts⟩ ⟨hK, hN⟩ hZ hP hD hS hA [2, 0] [1] (wc := [(Mm, .inr (7, [.int 0, .ref Mt, .int (nI tp), .int zma, .int zwr, .ref Mrr, .ref Mrh, .ref Mrc, .int zrh, .int zrc, .ref Mn, .ref Mf, .ref Mr, .ref Mh, .int (nI hp), .int (nI cc), .ref Ma, .ref Mas, .ref Msn, .ref Mac, .ref Mat])), (Mf, .inl (g 0, 4, .inl fmf))]) (wr := [(Mn, .inl (g 0, 1767, .inl fno))]) rfl rfl rfl rfl (by decide) (k_X7_refuses l D g H.size Mm 0 0 Mt tp zma zwr Mrr Mrh Mrc zrh zrc Mn Mf Mr Mh hp cc Ma Mas Msn Mac Mat fmf (show 0 < 4 by omega)) (cwV 1 hts gX7_source_X7_refuses rfl rfl rfl (by decide +kernel) ⟨(Nat.le_of_ble_eq_true rfl), (Nat.le_of_ble_eq_true rfl)⟩) 2 7 rfl rfl rfl rfl hl.1 rfl (Nat.le_of_ble_eq_true rfl) dX7_source_15 ⟨(Nat.le_of_ble_eq_true rfl), (Nat.le_of_ble_eq_true rfl)⟩ (fun r_38 u H locs hw hP2 hD2 hS2 => ?_)
    clear hP hD hS
    obtain ⟨fmfx_39, rfl, rfl⟩ := hw
    have hPD : PD D A [(Mn, .inl (g 0, 1767, .inl fno)), (Mm, .inr (7, [.int 0, .ref Mt, .int (nI tp), .int zma, .int zwr, .ref Mrr, .ref Mrh, .ref Mrc, .int zrh, .int zrc, .ref Mn, .ref Mf, .ref Mr, .ref Mh, .int (nI hp), .int (nI cc), .ref Ma, .ref Mas, .ref Msn, .ref Mac, .ref Mat])), (Mf, .inl (g 0, 4, .inl fmfx_39))] H := ⟨hP2, hD2⟩
    have hS := hS2; clear hP2 hD2 hS2; have hP := hPD.1; have hD := hPD.2; clear hPD
    refine W.widen (k := 0) (n := 0) (Nat.le_of_ble_eq_true rfl) (Nat.le_of_ble_eq_true rfl) ?_
    have hPD9 : PD D A [(Mm, .inr (7, [.int 0, .ref Mt, .int (nI tp), .int zma, .int zwr, .ref Mrr, .ref Mrh, .ref Mrc, .int zrh, .int zrc, .ref Mn, .ref Mf, .ref Mr, .ref Mh, .int (nI hp), .int (nI cc), .ref Ma, .ref Mas, .ref Msn, .ref Mac, .ref Mat])), (Mf, .inl (g 0, 4, .inl fmfx_39)), (Mn, .inl (g 0, 1767, .inl fno))] H := ⟨hP.sub [1, 2, 0] rfl, hD.sub [1, 2, 0] (by decide) rfl⟩
    have hP9 := hPD9.1; have hD9 := hPD9.2
    subst hQ
    refine W.widen (k := 0) (n := 0) (Nat.le_of_ble_eq_true rfl) (Nat.le_of_ble_eq_true rfl) ?_
    exact W.iret (v := (-1)) hx hb hr (fun tS htS _ => ⟨⟨_, _, rfl, ⟨0, fmfx_39, fno, (-1), rfl, rfl, (mOK_self h2), (Or.inl ⟨Or.inl (nC_m hq_37 (by omega) (by omega)), rfl, rfl⟩)⟩, by rw [htS]; exact hP9, hD9⟩, hS.F htS⟩) hS.2.2 dX7_source_18

set_option maxHeartbeats 4000000 in
set_option maxRecDepth 100000 in
theorem w_X7_takes (l : Launch) (D : va_G) (g : Nat → ClassId) (sz : Nat) {gs : Nat → Int32} (Mm : Nat) (zc : Int32) (zg : Int32) (zth : Int32) (Mt : Nat) (tp : Nat) (zma : Int32) (zwr : Int32) (Mrr : Nat) (Mrh : Nat) (Mrc : Nat) (zrh : Int32) (zrc : Int32) (Mn : Nat) (Mf : Nat) (Mr : Nat) (Mh : Nat) (hp : Nat) (cc : Nat) (Ma : Nat) (Mas : Nat) (Msn : Nat) (Mac : Nat) (Mat : Nat) (fmf : Nat → Int32) (fno : Nat → Int32) (tb : Nat) (ub : Nat) (h0 : tb < 2 ^ 29) (h1 : ub < 2 ^ 29) (h2 : mOK gs tb ub fno) (h3 : 1 ≤ cc) (h4 : cc ≤ 3) : Met l yX7_takes wsX7_takes ({ frames := 2, cells := 0, slots := 0, locals := 43 }) (va_Pc [.ref Mm, .int zc, .int zg] (pre D g sz [(Mm, .inr (7, [.int zth, .ref Mt, .int (nI tp), .int zma, .int zwr, .ref Mrr, .ref Mrh, .ref Mrc, .int zrh, .int zrc, .ref Mn, .ref Mf, .ref Mr, .ref Mh, .int (nI hp), .int (nI cc), .ref Ma, .ref Mas, .ref Msn, .ref Mac, .ref Mat])), (Mf, .inl (g 0, 4, .inl fmf)), (Mn, .inl (g 0, 1767, .inl fno))])) (va_Qi (fun (r : Int32) (u : va_W) => ∃ (zthx : Int32) (fmfx : Nat → Int32) (fnox : Nat → Int32) (zr : Int32), u = [(Mm, .inr (7, [.int zthx, .ref Mt, .int (nI tp), .int zma, .int zwr, .ref Mrr, .ref Mrh, .ref Mrc, .int zrh, .int zrc, .ref Mn, .ref Mf, .ref Mr, .ref Mh, .int (nI hp), .int (nI cc), .ref Ma, .ref Mas, .ref Msn, .ref Mac, .ref Mat])), (Mf, .inl (g 0, 4, .inl fmfx)), (Mn, .inl (g 0, 1767, .inl fnox))] ∧ r = zr ∧ (mOK fnox tb ub fnox) ∧ (tkM cc zc zg fno zr fnox)) (wd D (va_A [(Mm, .inr (7, [.int zth, .ref Mt, .int (nI tp), .int zma, .int zwr, .ref Mrr, .ref Mrh, .ref Mrc, .int zrh, .int zrc, .ref Mn, .ref Mf, .ref Mr, .ref Mh, .int (nI hp), .int (nI cc), .ref Ma, .ref Mas, .ref Msn, .ref Mac, .ref Mat])), (Mf, .inl (g 0, 4, .inl fmf)), (Mn, .inl (g 0, 1767, .inl fno))] sz)) (va_A [(Mm, .inr (7, [.int zth, .ref Mt, .int (nI tp), .int zma, .int zwr, .ref Mrr, .ref Mrh, .ref Mrc, .int zrh, .int zrc, .ref Mn, .ref Mf, .ref Mr, .ref Mh, .int (nI hp), .int (nI cc), .ref Ma, .ref Mas, .ref Msn, .ref Mac, .ref Mat])), (Mf, .inl (g 0, 4, .inl fmf)), (Mn, .inl (g 0, 1767, .inl fno))] sz)) 0 0 (va_A [(Mm, .inr (7, [.int zth, .ref Mt, .int (nI tp), .int zma, .int zwr, .ref Mrr, .ref Mrh, .ref Mrc, .int zrh, .int zrc, .ref Mn, .ref Mf, .ref Mr, .ref Mh, .int (nI hp), .int (nI cc), .ref Ma, .ref Mas, .ref Msn, .ref Mac, .ref Mat])), (Mf, .inl (g 0, 4, .inl fmf)), (Mn, .inl (g 0, 1767, .inl fno))] sz) := by
  refine Met.ofW (cc := cX7_takes) (maxL := 4) (ret := (some .int)) (by decide) rfl ?_
  intro p e s m args below meth c s₁ B hml hv
  obtain ⟨rfl, hsz, hP, ⟨hK, hN⟩, hD0, hZ⟩ := hv
  have hx := B.exec
  have hb := B.bytes
  have hr := B.returns
  have hts := atoms_spec (ws := wsX7_takes) B.pre
  have hown : s.vm.findClass RX7 = some m.cls := findClass_of_methodNamed B.named
  have hlocks := B.notSynchronized
  clear B
  subst hsz
  have hD := hD0.self (sz := s.heap.size)
  clear hD0
  generalize hAe : va_A [(Mm, .inr (7, [.int zth, .ref Mt, .int (nI tp), .int zma, .int zwr, .ref Mrr, .ref Mrh, .ref Mrc, .int zrh, .int zrc, .ref Mn, .ref Mf, .ref Mr, .ref Mh, .int (nI hp), .int (nI cc), .ref Ma, .ref Mas, .ref Msn, .ref Mac, .ref Mat])), (Mf, .inl (g 0, 4, .inl fmf)), (Mn, .inl (g 0, 1767, .inl fno))] s.heap.size = A at hD hZ ⊢
  have hA : ∀ q : Nat, s.heap.size ≤ q → A q := fun q h => by rw [← hAe]; exact Or.inr h
  have hS : va_S A s.heap s.heap [] := va_S.rf
  have f22 := hts (.fieldLink RX7 22 "HopCreditsModel" "now" "[I") (List.mem_of_getElem? (i := 2) rfl)
  have f49 := hts (.fieldLink RX7 49 "HopCreditsModel" "thrown" "I") (List.mem_of_getElem? (i := 1) rfl)
  have iX7 : ∀ w ∈ u_ws RX7 TX7 21, w ∈ wsX7_takes := fun w h => List.mem_cons_of_mem _ (List.mem_append_right _ (h))
  have hl := lv_entry ([.ref Mm, .int zc, .int zg]) (n := 4) (Nat.le_of_ble_eq_true rfl)
  rw [lg_entry_eq]
  generalize (lg_sl ([.ref Mm, .int zc, .int zg]) ++ List.replicate (4 - (lg_sl ([.ref Mm, .int zc, .int zg])).length) Slot.unset).toArray = ls at hl ⊢
  have hl : lv_has ls 4 [(0, .ref Mm), (1, .int zc), (2, .int zg)] := hl
  generalize hQ : MQ below _ _ s _ _ _ = Q
  generalize hH : s.heap = H at hP ⊢
  have hS : va_S A s.heap H [] := by rw [← hH]; exact hS
  clear hH
  refine lv_aload_n hx hb dX7_takes_0 rfl (lv_at hl 0 rfl) ?_
  refine lv_iconst (v := 0) hx hb dX7_takes_1 (by decide) ?_
  refine va_put (D := D) (ci := 7) (v := .int 0) (ty := .int) (C := RX7) (T := TX7) (N := 21) hx hb hts iX7 tyX7 tyX7_ok nmX7 hown hK hP hD hS 0 rfl rfl 0 (by decide) f49 (fun _ h9 => h9) rfl (by decide +kernel) (rfl) (rfl) (Nat.le_of_ble_eq_true rfl) dX7_takes_2 (fun H locs hP2 hD2 hS2 => ?_)
  clear hP hD hS
  have hPD : PD D A [(Mm, .inr (7, [.int 0, .ref Mt, .int (nI tp), .int zma, .int zwr, .ref Mrr, .ref Mrh, .ref Mrc, .int zrh, .int zrc, .ref Mn, .ref Mf, .ref Mr, .ref Mh, .int (nI hp), .int (nI cc), .ref Ma, .ref Mas, .ref Msn, .ref Mac, .ref Mat])), (Mf, .inl (g 0, 4, .inl fmf)), (Mn, .inl (g 0, 1767, .inl fno))] H := ⟨hP2, hD2⟩
  have hS := hS2; clear hP2 hD2 hS2; have hP := hPD.1; have hD := hPD.2; clear hPD
  refine lv_aload_n hx hb dX7_takes_5 rfl (lv_at hl 0 rfl) ?_
  refine lv_iload_n hx hb dX7_takes_6 rfl (lv_at hl 1 rfl) ?_
  refine ky_Vi (As := [.int zc]) (rest := []) ⟨hx, hb, hml, hown, hts⟩ ⟨hK, hN⟩ hZ hP hD hS hA [0] [1, 2] (wc := [(Mm, .inr (7, [.int 0, .ref Mt, .int (nI tp), .int zma, .int zwr, .ref Mrr, .ref Mrh, .ref Mrc, .int zrh, .int zrc, .ref Mn, .ref Mf, .ref Mr, .ref Mh, .int (nI hp), .int (nI cc), .ref Ma, .ref Mas, .ref Msn, .ref Mac, .ref Mat]))]) (wr := [(Mf, .inl (g 0, 4, .inl fmf)), (Mn, .inl (g 0, 1767, .inl fno))]) rfl rfl rfl rfl (by decide) (k_X7_isCircuit l D g H.size Mm zc 0 Mt tp zma zwr Mrr Mrh Mrc zrh zrc Mn Mf Mr Mh hp cc Ma Mas Msn Mac Mat (show 1 ≤ cc by omega) (show cc ≤ 3 by omega)) (cwV 1 hts gX7_takes_X7_isCircuit rfl rfl rfl (by decide +kernel) ⟨(Nat.le_of_ble_eq_true rfl), (Nat.le_of_ble_eq_true rfl)⟩) 0 7 rfl rfl rfl rfl hl.1 rfl (Nat.le_of_ble_eq_true rfl) dX7_takes_7 ⟨(Nat.le_of_ble_eq_true rfl), (Nat.le_of_ble_eq_true rfl)⟩ (fun r_1 u H locs hw hP2 hD2 hS2 => ?_)
  clear hP hD hS
  obtain ⟨rfl, rfl⟩ := hw
  have hPD : PD D A [(Mf, .inl (g 0, 4, .inl fmf)), (Mn, .inl (g 0, 1767, .inl fno)), (Mm, .inr (7, [.int 0, .ref Mt, .int (nI tp), .int zma, .int zwr, .ref Mrr, .ref Mrh, .ref Mrc, .int zrh, .int zrc, .ref Mn, .ref Mf, .ref Mr, .ref Mh, .int (nI hp), .int (nI cc), .ref Ma, .ref Mas, .ref Msn, .ref Mac, .ref Mat]))] H := ⟨hP2, hD2⟩
  have hS := hS2; clear hP2 hD2 hS2; have hP := hPD.1; have hD := hPD.2; clear hPD
  refine W.widen (k := 0) (n := 0) (Nat.le_of_ble_eq_true rfl) (Nat.le_of_ble_eq_true rfl) ?_
  refine lv_if_ne (tgt := 19) hx hb dX7_takes_10 (by decide) (fun cb_2 => ?_) (fun cb_2 => ?_)
  · skip
    have hq_3 : 0 ≤ zc ∧ zc ≤ (nI (cc - 1)) := b01_1.mp cb_2
    have hPq_7 := hP; have hDq_7 := hD; have hSq_7 := hS; have hlq_7 := hl; clear hP hD hS hl
    obtain ⟨j_4, hl_5, hu_6, rfl⟩ := rg (L := 0) (U := cc - 1) rfl rfl (show 0 < 2 ^ 31 by omega) (show cc - 1 < 2 ^ 31 by omega) hq_3
    have hP := hPq_7; have hD := hDq_7; have hS := hSq_7; have hl := hlq_7; clear hPq_7 hDq_7 hSq_7 hlq_7
    refine lv_iload_n hx hb dX7_takes_19 rfl (lv_at hl 2 rfl) ?_
    refine lv_iconst (v := 0) hx hb dX7_takes_20 (by decide) ?_
    refine lv_bipush (v := 9) hx hb dX7_takes_21 (by decide) ?_
    refine ky_Si (As := [.int zg, .int 0, .int 9]) (rest := []) ⟨hx, hb, hml, hown, hts⟩ ⟨hK, hN⟩ hZ hP hD hS hA [] [0, 1, 2] (wc := []) (wr := [(Mf, .inl (g 0, 4, .inl fmf)), (Mn, .inl (g 0, 1767, .inl fno)), (Mm, .inr (7, [.int 0, .ref Mt, .int (nI tp), .int zma, .int zwr, .ref Mrr, .ref Mrh, .ref Mrc, .int zrh, .int zrc, .ref Mn, .ref Mf, .ref Mr, .ref Mh, .int (nI hp), .int (nI cc), .ref Ma, .ref Mas, .ref Msn, .ref Mac, .ref Mat]))]) rfl rfl rfl rfl (by decide) (k_X7_in l D g H.size zg 0 9) (va_cwS 3 hts gX7_takes_X7_in rfl rfl rfl (by decide +kernel) ⟨(Nat.le_of_ble_eq_true rfl), (Nat.le_of_ble_eq_true rfl)⟩) rfl hl.1 rfl (Nat.le_of_ble_eq_true rfl) dX7_takes_23 ⟨(Nat.le_of_ble_eq_true rfl), (Nat.le_of_ble_eq_true rfl)⟩ (fun r_8 u H locs hw hP2 hD2 hS2 => ?_)
    clear hP hD hS
    obtain ⟨rfl, rfl⟩ := hw
    have hPD : PD D A [(Mf, .inl (g 0, 4, .inl fmf)), (Mn, .inl (g 0, 1767, .inl fno)), (Mm, .inr (7, [.int 0, .ref Mt, .int (nI tp), .int zma, .int zwr, .ref Mrr, .ref Mrh, .ref Mrc, .int zrh, .int zrc, .ref Mn, .ref Mf, .ref Mr, .ref Mh, .int (nI hp), .int (nI cc), .ref Ma, .ref Mas, .ref Msn, .ref Mac, .ref Mat]))] H := ⟨hP2, hD2⟩
    have hS := hS2; clear hP2 hD2 hS2; have hP := hPD.1; have hD := hPD.2; clear hPD
    refine W.widen (k := 0) (n := 0) (Nat.le_of_ble_eq_true rfl) (Nat.le_of_ble_eq_true rfl) ?_
    refine lv_if_ne (tgt := 35) hx hb dX7_takes_26 (by decide) (fun cb_9 => ?_) (fun cb_9 => ?_)
    · skip
      have hq_10 : 0 ≤ zg ∧ zg ≤ 9 := b01_1.mp cb_9
      have hPq_14 := hP; have hDq_14 := hD; have hSq_14 := hS; have hlq_14 := hl; clear hP hD hS hl
      obtain ⟨j_11, hl_12, hu_13, rfl⟩ := rg (L := 0) (U := 9) rfl rfl (show 0 < 2 ^ 31 by omega) (show 9 < 2 ^ 31 by omega) hq_10
      have hP := hPq_14; have hD := hDq_14; have hS := hSq_14; have hl := hlq_14; clear hPq_14 hDq_14 hSq_14 hlq_14
      refine lv_aload_n hx hb dX7_takes_35 rfl (lv_at hl 0 rfl) ?_
      refine va_get (D := D) (ci := 7) (v := .ref Mn) (C := RX7) (T := TX7) (N := 21) hx hb hts iX7 hown hK hP 2 rfl rfl 10 (by decide) f22 (fun _ h9 => h9) rfl dX7_takes_36 ?_
      refine lv_iload_n hx hb dX7_takes_39 rfl (lv_at hl 1 rfl) ?_
      refine ky_Si (As := [.int (nI j_4)]) (rest := [.ref Mn]) ⟨hx, hb, hml, hown, hts⟩ ⟨hK, hN⟩ hZ hP hD hS hA [] [0, 1, 2] (wc := []) (wr := [(Mf, .inl (g 0, 4, .inl fmf)), (Mn, .inl (g 0, 1767, .inl fno)), (Mm, .inr (7, [.int 0, .ref Mt, .int (nI tp), .int zma, .int zwr, .ref Mrr, .ref Mrh, .ref Mrc, .int zrh, .int zrc, .ref Mn, .ref Mf, .ref Mr, .ref Mh, .int (nI hp), .int (nI cc), .ref Ma, .ref Mas, .ref Msn, .ref Mac, .ref Mat]))]) rfl rfl rfl rfl (by decide) (k_X7_circuitAt l D g H.size j_4 (show j_4 < 3 by omega)) (va_cwS 1 hts gX7_takes_X7_circuitAt rfl rfl rfl (by decide +kernel) ⟨(Nat.le_of_ble_eq_true rfl), (Nat.le_of_ble_eq_true rfl)⟩) rfl hl.1 rfl (Nat.le_of_ble_eq_true rfl) dX7_takes_40 ⟨(Nat.le_of_ble_eq_true rfl), (Nat.le_of_ble_eq_true rfl)⟩ (fun r_15 u H locs hw hP2 hD2 hS2 => ?_)
      clear hP hD hS
      obtain ⟨rfl, rfl⟩ := hw
      have hPD : PD D A [(Mf, .inl (g 0, 4, .inl fmf)), (Mn, .inl (g 0, 1767, .inl fno)), (Mm, .inr (7, [.int 0, .ref Mt, .int (nI tp), .int zma, .int zwr, .ref Mrr, .ref Mrh, .ref Mrc, .int zrh, .int zrc, .ref Mn, .ref Mf, .ref Mr, .ref Mh, .int (nI hp), .int (nI cc), .ref Ma, .ref Mas, .ref Msn, .ref Mac, .ref Mat]))] H := ⟨hP2, hD2⟩
      have hS := hS2; clear hP2 hD2 hS2; have hP := hPD.1; have hD := hPD.2; clear hPD
      refine W.widen (k := 0) (n := 0) (Nat.le_of_ble_eq_true rfl) (Nat.le_of_ble_eq_true rfl) ?_
      refine lv_iconst (v := 2) hx hb dX7_takes_43 (by decide) ?_
      refine lv_iadd hx hb dX7_takes_44 ?_
      refine lv_eqi (y := (nI (201 + 9 * j_4 + 2))) (nI_add (201 + 9 * j_4) (2)) ?_
      refine va_iald hx hb hK hP 1 0 rfl rfl (vp_in_nI (show 201 + 9 * j_4 + 2 < 1767 by omega) (by decide)) dX7_takes_45 ?_
      refine lv_eqi (y := (fno (201 + 9 * j_4 + 2))) (congrArg fno (nI_clamp (show 201 + 9 * j_4 + 2 < 2 ^ 31 by omega))) ?_
      refine lv_istore_n (lv' := [(3, .int (fno (201 + 9 * j_4 + 2))), (0, .ref Mm), (1, .int (nI j_4)), (2, .int (nI j_11))]) hx hb dX7_takes_46 rfl hl (by decide) rfl (fun ls hl => ?_)
      refine lv_iload_n hx hb dX7_takes_47 rfl (lv_at hl 0 rfl) ?_
      refine lv_iload_n hx hb dX7_takes_48 rfl (lv_at hl 3 rfl) ?_
      refine lv_icmp_ne (tgt := 58) hx hb dX7_takes_49 (by decide) (fun cb_16 => ?_) (fun cb_16 => ?_)
      · skip
        refine lv_aload_n hx hb dX7_takes_58 rfl (lv_at hl 1 rfl) ?_
        refine va_get (D := D) (ci := 7) (v := .ref Mn) (C := RX7) (T := TX7) (N := 21) hx hb hts iX7 hown hK hP 2 rfl rfl 10 (by decide) f22 (fun _ h9 => h9) rfl dX7_takes_59 ?_
        refine lv_iload_n hx hb dX7_takes_62 rfl (lv_at hl 2 rfl) ?_
        refine ky_Si (As := [.int (nI j_4)]) (rest := [.ref Mn]) ⟨hx, hb, hml, hown, hts⟩ ⟨hK, hN⟩ hZ hP hD hS hA [] [0, 1, 2] (wc := []) (wr := [(Mf, .inl (g 0, 4, .inl fmf)), (Mn, .inl (g 0, 1767, .inl fno)), (Mm, .inr (7, [.int 0, .ref Mt, .int (nI tp), .int zma, .int zwr, .ref Mrr, .ref Mrh, .ref Mrc, .int zrh, .int zrc, .ref Mn, .ref Mf, .ref Mr, .ref Mh, .int (nI hp), .int (nI cc), .ref Ma, .ref Mas, .ref Msn, .ref Mac, .ref Mat]))]) rfl rfl rfl rfl (by decide) (k_X7_circuitAt l D g H.size j_4 (show j_4 < 3 by omega)) (va_cwS 1 hts gX7_takes_X7_circuitAt rfl rfl rfl (by decide +kernel) ⟨(Nat.le_of_ble_eq_true rfl), (Nat.le_of_ble_eq_true rfl)⟩) rfl hl.1 rfl (Nat.le_of_ble_eq_true rfl) dX7_takes_63 ⟨(Nat.le_of_ble_eq_true rfl), (Nat.le_of_ble_eq_true rfl)⟩ (fun r_17 u H locs hw hP2 hD2 hS2 => ?_)
        clear hP hD hS
        obtain ⟨rfl, rfl⟩ := hw
        have hPD : PD D A [(Mf, .inl (g 0, 4, .inl fmf)), (Mn, .inl (g 0, 1767, .inl fno)), (Mm, .inr (7, [.int 0, .ref Mt, .int (nI tp), .int zma, .int zwr, .ref Mrr, .ref Mrh, .ref Mrc, .int zrh, .int zrc, .ref Mn, .ref Mf, .ref Mr, .ref Mh, .int (nI hp), .int (nI cc), .ref Ma, .ref Mas, .ref Msn, .ref Mac, .ref Mat]))] H := ⟨hP2, hD2⟩
        have hS := hS2; clear hP2 hD2 hS2; have hP := hPD.1; have hD := hPD.2; clear hPD
        refine W.widen (k := 0) (n := 0) (Nat.le_of_ble_eq_true rfl) (Nat.le_of_ble_eq_true rfl) ?_
        refine lv_iconst (v := 2) hx hb dX7_takes_66 (by decide) ?_
        refine lv_iadd hx hb dX7_takes_67 ?_
        refine lv_eqi (y := (nI (201 + 9 * j_4 + 2))) (nI_add (201 + 9 * j_4) (2)) ?_
        refine lv_iload_n hx hb dX7_takes_68 rfl (lv_at hl 3 rfl) ?_
        refine va_iast hx hb hK hP hD hS 1 0 rfl rfl (vp_in_nI (show 201 + 9 * j_4 + 2 < 1767 by omega) (by decide)) dX7_takes_69 (fun H locs hP2 hD2 hS2 => ?_)
        clear hP hD hS
        have hPD : PD D A [(Mf, .inl (g 0, 4, .inl fmf)), (Mn, .inl (g 0, 1767, .inl (upd fno (nI (201 + 9 * j_4 + 2)).toNatClampNeg (nI j_11)))), (Mm, .inr (7, [.int 0, .ref Mt, .int (nI tp), .int zma, .int zwr, .ref Mrr, .ref Mrh, .ref Mrc, .int zrh, .int zrc, .ref Mn, .ref Mf, .ref Mr, .ref Mh, .int (nI hp), .int (nI cc), .ref Ma, .ref Mas, .ref Msn, .ref Mac, .ref Mat]))] H := ⟨hP2, hD2⟩
        have hS := hS2; clear hP2 hD2 hS2; have hP := hPD.1; have hD := hPD.2; clear hPD
        rw [nI_clamp (show 201 + 9 * j_4 + 2 < 2 ^ 31 by omega)] at hP hD
        have hPD : PD D A [(Mf, .inl (g 0, 4, .inl fmf)), (Mn, .inl (g 0, 1767, .inl (upd fno (201 + 9 * j_4 + 2) (nI j_11)))), (Mm, .inr (7, [.int 0, .ref Mt, .int (nI tp), .int zma, .int zwr, .ref Mrr, .ref Mrh, .ref Mrc, .int zrh, .int zrc, .ref Mn, .ref Mf, .ref Mr, .ref Mh, .int (nI hp), .int (nI cc), .ref Ma, .ref Mas, .ref Msn, .ref Mac, .ref Mat]))] H := ⟨hP, hD⟩
        clear hP hD; have hP := hPD.1; have hD := hPD.2; clear hPD
        have hF_18 : mOK (upd fno (201 + 9 * j_4 + 2) (nI j_11)) tb ub (upd fno (201 + 9 * j_4 + 2) (nI j_11)) := mOK_g h2 (show gidx (201 + 9 * j_4 + 2) by unfold gidx; omega)
        generalize heF_18 : upd fno (201 + 9 * j_4 + 2) (nI j_11) = F_18 at hP hD hF_18
        refine lv_iload_n hx hb dX7_takes_70 rfl (lv_at hl 0 rfl) ?_
        have hPD9 : PD D A [(Mm, .inr (7, [.int 0, .ref Mt, .int (nI tp), .int zma, .int zwr, .ref Mrr, .ref Mrh, .ref Mrc, .int zrh, .int zrc, .ref Mn, .ref Mf, .ref Mr, .ref Mh, .int (nI hp), .int (nI cc), .ref Ma, .ref Mas, .ref Msn, .ref Mac, .ref Mat])), (Mf, .inl (g 0, 4, .inl fmf)), (Mn, .inl (g 0, 1767, .inl F_18))] H := ⟨hP.sub [2, 0, 1] rfl, hD.sub [2, 0, 1] (by decide) rfl⟩
        have hP9 := hPD9.1; have hD9 := hPD9.2
        subst hQ
        refine W.widen (k := 0) (n := 0) (Nat.le_of_ble_eq_true rfl) (Nat.le_of_ble_eq_true rfl) ?_
        exact W.iret (v := (fno (201 + 9 * j_4 + 2))) hx hb hr (fun tS htS _ => ⟨⟨_, _, rfl, ⟨0, fmf, F_18, (fno (201 + 9 * j_4 + 2)), rfl, rfl, (hF_18), (Or.inr ⟨nI_le (a := 0) (Nat.zero_le _) (by omega), nI_le (show j_11 ≤ 9 by omega) (by decide), j_4, (show j_4 < cc by omega), rfl, Or.inr ⟨(fun q => cb_16 q.symm), rfl, heF_18.symm⟩⟩)⟩, by rw [htS]; exact hP9, hD9⟩, hS.F htS⟩) hS.2.2 dX7_takes_71
      · skip
        refine lv_aload_n hx hb dX7_takes_52 rfl (lv_at hl 1 rfl) ?_
        refine lv_iconst (v := 2) hx hb dX7_takes_53 (by decide) ?_
        refine ky_Vi (As := [.int 2]) (rest := []) ⟨hx, hb, hml, hown, hts⟩ ⟨hK, hN⟩ hZ hP hD hS hA [2, 0] [1] (wc := [(Mm, .inr (7, [.int 0, .ref Mt, .int (nI tp), .int zma, .int zwr, .ref Mrr, .ref Mrh, .ref Mrc, .int zrh, .int zrc, .ref Mn, .ref Mf, .ref Mr, .ref Mh, .int (nI hp), .int (nI cc), .ref Ma, .ref Mas, .ref Msn, .ref Mac, .ref Mat])), (Mf, .inl (g 0, 4, .inl fmf))]) (wr := [(Mn, .inl (g 0, 1767, .inl fno))]) rfl rfl rfl rfl (by decide) (k_X7_refuses l D g H.size Mm 2 0 Mt tp zma zwr Mrr Mrh Mrc zrh zrc Mn Mf Mr Mh hp cc Ma Mas Msn Mac Mat fmf (show 2 < 4 by omega)) (cwV 1 hts gX7_takes_X7_refuses rfl rfl rfl (by decide +kernel) ⟨(Nat.le_of_ble_eq_true rfl), (Nat.le_of_ble_eq_true rfl)⟩) 2 7 rfl rfl rfl rfl hl.1 rfl (Nat.le_of_ble_eq_true rfl) dX7_takes_54 ⟨(Nat.le_of_ble_eq_true rfl), (Nat.le_of_ble_eq_true rfl)⟩ (fun r_19 u H locs hw hP2 hD2 hS2 => ?_)
        clear hP hD hS
        obtain ⟨fmfx_20, rfl, rfl⟩ := hw
        have hPD : PD D A [(Mn, .inl (g 0, 1767, .inl fno)), (Mm, .inr (7, [.int 0, .ref Mt, .int (nI tp), .int zma, .int zwr, .ref Mrr, .ref Mrh, .ref Mrc, .int zrh, .int zrc, .ref Mn, .ref Mf, .ref Mr, .ref Mh, .int (nI hp), .int (nI cc), .ref Ma, .ref Mas, .ref Msn, .ref Mac, .ref Mat])), (Mf, .inl (g 0, 4, .inl fmfx_20))] H := ⟨hP2, hD2⟩
        have hS := hS2; clear hP2 hD2 hS2; have hP := hPD.1; have hD := hPD.2; clear hPD
        refine W.widen (k := 0) (n := 0) (Nat.le_of_ble_eq_true rfl) (Nat.le_of_ble_eq_true rfl) ?_
        have hPD9 : PD D A [(Mm, .inr (7, [.int 0, .ref Mt, .int (nI tp), .int zma, .int zwr, .ref Mrr, .ref Mrh, .ref Mrc, .int zrh, .int zrc, .ref Mn, .ref Mf, .ref Mr, .ref Mh, .int (nI hp), .int (nI cc), .ref Ma, .ref Mas, .ref Msn, .ref Mac, .ref Mat])), (Mf, .inl (g 0, 4, .inl fmfx_20)), (Mn, .inl (g 0, 1767, .inl fno))] H := ⟨hP.sub [1, 2, 0] rfl, hD.sub [1, 2, 0] (by decide) rfl⟩
        have hP9 := hPD9.1; have hD9 := hPD9.2
        subst hQ
        refine W.widen (k := 0) (n := 0) (Nat.le_of_ble_eq_true rfl) (Nat.le_of_ble_eq_true rfl) ?_
        exact W.iret (v := (-1)) hx hb hr (fun tS htS _ => ⟨⟨_, _, rfl, ⟨0, fmfx_20, fno, (-1), rfl, rfl, (mOK_self h2), (Or.inr ⟨nI_le (a := 0) (Nat.zero_le _) (by omega), nI_le (show j_11 ≤ 9 by omega) (by decide), j_4, (show j_4 < cc by omega), rfl, Or.inl ⟨cb_16.symm, rfl, rfl⟩⟩)⟩, by rw [htS]; exact hP9, hD9⟩, hS.F htS⟩) hS.2.2 dX7_takes_57
    · skip
      have hq_21 : ¬ (0 ≤ zg ∧ zg ≤ 9) := b01_0.mp cb_9
      refine lv_aload_n hx hb dX7_takes_29 rfl (lv_at hl 0 rfl) ?_
      refine lv_iconst (v := 1) hx hb dX7_takes_30 (by decide) ?_
      refine ky_Vi (As := [.int 1]) (rest := []) ⟨hx, hb, hml, hown, hts⟩ ⟨hK, hN⟩ hZ hP hD hS hA [2, 0] [1] (wc := [(Mm, .inr (7, [.int 0, .ref Mt, .int (nI tp), .int zma, .int zwr, .ref Mrr, .ref Mrh, .ref Mrc, .int zrh, .int zrc, .ref Mn, .ref Mf, .ref Mr, .ref Mh, .int (nI hp), .int (nI cc), .ref Ma, .ref Mas, .ref Msn, .ref Mac, .ref Mat])), (Mf, .inl (g 0, 4, .inl fmf))]) (wr := [(Mn, .inl (g 0, 1767, .inl fno))]) rfl rfl rfl rfl (by decide) (k_X7_refuses l D g H.size Mm 1 0 Mt tp zma zwr Mrr Mrh Mrc zrh zrc Mn Mf Mr Mh hp cc Ma Mas Msn Mac Mat fmf (show 1 < 4 by omega)) (cwV 1 hts gX7_takes_X7_refuses rfl rfl rfl (by decide +kernel) ⟨(Nat.le_of_ble_eq_true rfl), (Nat.le_of_ble_eq_true rfl)⟩) 2 7 rfl rfl rfl rfl hl.1 rfl (Nat.le_of_ble_eq_true rfl) dX7_takes_31 ⟨(Nat.le_of_ble_eq_true rfl), (Nat.le_of_ble_eq_true rfl)⟩ (fun r_22 u H locs hw hP2 hD2 hS2 => ?_)
      clear hP hD hS
      obtain ⟨fmfx_23, rfl, rfl⟩ := hw
      have hPD : PD D A [(Mn, .inl (g 0, 1767, .inl fno)), (Mm, .inr (7, [.int 0, .ref Mt, .int (nI tp), .int zma, .int zwr, .ref Mrr, .ref Mrh, .ref Mrc, .int zrh, .int zrc, .ref Mn, .ref Mf, .ref Mr, .ref Mh, .int (nI hp), .int (nI cc), .ref Ma, .ref Mas, .ref Msn, .ref Mac, .ref Mat])), (Mf, .inl (g 0, 4, .inl fmfx_23))] H := ⟨hP2, hD2⟩
      have hS := hS2; clear hP2 hD2 hS2; have hP := hPD.1; have hD := hPD.2; clear hPD
      refine W.widen (k := 0) (n := 0) (Nat.le_of_ble_eq_true rfl) (Nat.le_of_ble_eq_true rfl) ?_
      have hPD9 : PD D A [(Mm, .inr (7, [.int 0, .ref Mt, .int (nI tp), .int zma, .int zwr, .ref Mrr, .ref Mrh, .ref Mrc, .int zrh, .int zrc, .ref Mn, .ref Mf, .ref Mr, .ref Mh, .int (nI hp), .int (nI cc), .ref Ma, .ref Mas, .ref Msn, .ref Mac, .ref Mat])), (Mf, .inl (g 0, 4, .inl fmfx_23)), (Mn, .inl (g 0, 1767, .inl fno))] H := ⟨hP.sub [1, 2, 0] rfl, hD.sub [1, 2, 0] (by decide) rfl⟩
      have hP9 := hPD9.1; have hD9 := hPD9.2
      subst hQ
      refine W.widen (k := 0) (n := 0) (Nat.le_of_ble_eq_true rfl) (Nat.le_of_ble_eq_true rfl) ?_
      exact W.iret (v := (-1)) hx hb hr (fun tS htS _ => ⟨⟨_, _, rfl, ⟨0, fmfx_23, fno, (-1), rfl, rfl, (mOK_self h2), (Or.inl ⟨Or.inr hq_21, rfl, rfl⟩)⟩, by rw [htS]; exact hP9, hD9⟩, hS.F htS⟩) hS.2.2 dX7_takes_34
  · skip
    have hq_24 : ¬ (0 ≤ zc ∧ zc ≤ (nI (cc - 1))) := b01_0.mp cb_2
    refine lv_aload_n hx hb dX7_takes_13 rfl (lv_at hl 0 rfl) ?_
    refine lv_iconst (v := 0) hx hb dX7_takes_14 (by decide) ?_
    refine ky_Vi (As := [.int 0]) (rest := []) ⟨hx, hb, hml, hown, hts⟩ ⟨hK, hN⟩ hZ hP hD hS hA [2, 0] [1] (wc := [(Mm, .inr (7, [.int 0, .ref Mt, .int (nI tp), .int zma, .int zwr, .ref Mrr, .ref Mrh, .ref Mrc, .int zrh, .int zrc, .ref Mn, .ref Mf, .ref Mr, .ref Mh, .int (nI hp), .int (nI cc), .ref Ma, .ref Mas, .ref Msn, .ref Mac, .ref Mat])), (Mf, .inl (g 0, 4, .inl fmf))]) (wr := [(Mn, .inl (g 0, 1767, .inl fno))]) rfl rfl rfl rfl (by decide) (k_X7_refuses l D g H.size Mm 0 0 Mt tp zma zwr Mrr Mrh Mrc zrh zrc Mn Mf Mr Mh hp cc Ma Mas Msn Mac Mat fmf (show 0 < 4 by omega)) (cwV 1 hts gX7_takes_X7_refuses rfl rfl rfl (by decide +kernel) ⟨(Nat.le_of_ble_eq_true rfl), (Nat.le_of_ble_eq_true rfl)⟩) 2 7 rfl rfl rfl rfl hl.1 rfl (Nat.le_of_ble_eq_true rfl) dX7_takes_15 ⟨(Nat.le_of_ble_eq_true rfl), (Nat.le_of_ble_eq_true rfl)⟩ (fun r_25 u H locs hw hP2 hD2 hS2 => ?_)
    clear hP hD hS
    obtain ⟨fmfx_26, rfl, rfl⟩ := hw
    have hPD : PD D A [(Mn, .inl (g 0, 1767, .inl fno)), (Mm, .inr (7, [.int 0, .ref Mt, .int (nI tp), .int zma, .int zwr, .ref Mrr, .ref Mrh, .ref Mrc, .int zrh, .int zrc, .ref Mn, .ref Mf, .ref Mr, .ref Mh, .int (nI hp), .int (nI cc), .ref Ma, .ref Mas, .ref Msn, .ref Mac, .ref Mat])), (Mf, .inl (g 0, 4, .inl fmfx_26))] H := ⟨hP2, hD2⟩
    have hS := hS2; clear hP2 hD2 hS2; have hP := hPD.1; have hD := hPD.2; clear hPD
    refine W.widen (k := 0) (n := 0) (Nat.le_of_ble_eq_true rfl) (Nat.le_of_ble_eq_true rfl) ?_
    have hPD9 : PD D A [(Mm, .inr (7, [.int 0, .ref Mt, .int (nI tp), .int zma, .int zwr, .ref Mrr, .ref Mrh, .ref Mrc, .int zrh, .int zrc, .ref Mn, .ref Mf, .ref Mr, .ref Mh, .int (nI hp), .int (nI cc), .ref Ma, .ref Mas, .ref Msn, .ref Mac, .ref Mat])), (Mf, .inl (g 0, 4, .inl fmfx_26)), (Mn, .inl (g 0, 1767, .inl fno))] H := ⟨hP.sub [1, 2, 0] rfl, hD.sub [1, 2, 0] (by decide) rfl⟩
    have hP9 := hPD9.1; have hD9 := hPD9.2
    subst hQ
    refine W.widen (k := 0) (n := 0) (Nat.le_of_ble_eq_true rfl) (Nat.le_of_ble_eq_true rfl) ?_
    exact W.iret (v := (-1)) hx hb hr (fun tS htS _ => ⟨⟨_, _, rfl, ⟨0, fmfx_26, fno, (-1), rfl, rfl, (mOK_self h2), (Or.inl ⟨Or.inl (nC_m hq_24 (by omega) (by omega)), rfl, rfl⟩)⟩, by rw [htS]; exact hP9, hD9⟩, hS.F htS⟩) hS.2.2 dX7_takes_18

