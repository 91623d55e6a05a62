set_option maxHeartbeats 4000000 in
set_option maxRecDepth 100000 in
theorem w_X7_fault (l : Launch) (D : va_G) (g : Nat → ClassId) (sz : Nat) (Mm : Nat) (zth : Int32) (Mt : Nat) (tp : Nat) (zma : Int32) (zwr : Int32) (Mrr : Nat) (Mrh : Nat) (Mrc : Nat) (zrh : Int32) (zrc : Int32) (Mn : Nat) (Mf : Nat) (Mr : Nat) (Mh : Nat) (zhp : Int32) (zcc : Int32) (Ma : Nat) (Mas : Nat) (Msn : Nat) (Mac : Nat) (Mat : Nat) (fmt : Nat → Int32) (frr : Nat → Int32) (frh : Nat → Int32) (frc : Nat → Int32) (h0 : tp ≤ 160) (h1 : n1 frr) (h2 : n1 frh) (h3 : n1 frc) (h4 : tOK fmt) : Met l yX7_fault wsX7_fault ({ frames := 6, cells := 0, slots := 0, locals := 133 }) (va_Pc [.ref Mm] (pre D g sz [(Mm, .inr (7, [.int zth, .ref Mt, .int (nI tp), .int zma, .int zwr, .ref Mrr, .ref Mrh, .ref Mrc, .int zrh, .int zrc, .ref Mn, .ref Mf, .ref Mr, .ref Mh, .int zhp, .int zcc, .ref Ma, .ref Mas, .ref Msn, .ref Mac, .ref Mat])), (Mt, .inl (g 0, 160, .inl fmt)), (Mrr, .inl (g 0, 3, .inl frr)), (Mrh, .inl (g 0, 9, .inl frh)), (Mrc, .inl (g 0, 9, .inl frc))])) (va_Qi (fun (r : Int32) (u : va_W) => ∃ (zthx : Int32) (zmax : Int32) (zwrx : Int32) (zrhx : Int32) (zrcx : Int32) (frrx : Nat → Int32) (frhx : Nat → Int32) (frcx : Nat → Int32), u = [(Mm, .inr (7, [.int zthx, .ref Mt, .int (nI tp), .int zmax, .int zwrx, .ref Mrr, .ref Mrh, .ref Mrc, .int zrhx, .int zrcx, .ref Mn, .ref Mf, .ref Mr, .ref Mh, .int zhp, .int zcc, .ref Ma, .ref Mas, .ref Msn, .ref Mac, .ref Mat])), (Mt, .inl (g 0, 160, .inl fmt)), (Mrr, .inl (g 0, 3, .inl frrx)), (Mrh, .inl (g 0, 9, .inl frhx)), (Mrc, .inl (g 0, 9, .inl frcx))] ∧ r = zwrx ∧ (n1 frrx) ∧ (n1 frhx) ∧ (n1 frcx) ∧ (zwrx = (rdV fmt tp).1)) (wd D (va_A [(Mm, .inr (7, [.int zth, .ref Mt, .int (nI tp), .int zma, .int zwr, .ref Mrr, .ref Mrh, .ref Mrc, .int zrh, .int zrc, .ref Mn, .ref Mf, .ref Mr, .ref Mh, .int zhp, .int zcc, .ref Ma, .ref Mas, .ref Msn, .ref Mac, .ref Mat])), (Mt, .inl (g 0, 160, .inl fmt)), (Mrr, .inl (g 0, 3, .inl frr)), (Mrh, .inl (g 0, 9, .inl frh)), (Mrc, .inl (g 0, 9, .inl frc))] sz)) (va_A [(Mm, .inr (7, [.int zth, .ref Mt, .int (nI tp), .int zma, .int zwr, .ref Mrr, .ref Mrh, .ref Mrc, .int zrh, .int zrc, .ref Mn, .ref Mf, .ref Mr, .ref Mh, .int zhp, .int zcc, .ref Ma, .ref Mas, .ref Msn, .ref Mac, .ref Mat])), (Mt, .inl (g 0, 160, .inl fmt)), (Mrr, .inl (g 0, 3, .inl frr)), (Mrh, .inl (g 0, 9, .inl frh)), (Mrc, .inl (g 0, 9, .inl frc))] sz)) 0 0 (va_A [(Mm, .inr (7, [.int zth, .ref Mt, .int (nI tp), .int zma, .int zwr, .ref Mrr, .ref Mrh, .ref Mrc, .int zrh, .int zrc, .ref Mn, .ref Mf, .ref Mr, .ref Mh, .int zhp, .int zcc, .ref Ma, .ref Mas, .ref Msn, .ref Mac, .ref Mat])), (Mt, .inl (g 0, 160, .inl fmt)), (Mrr, .inl (g 0, 3, .inl frr)), (Mrh, .inl (g 0, 9, .inl frh)), (Mrc, .inl (g 0, 9, .inl frc))] sz) := by
  refine Met.ofW (cc := cX7_fault) (maxL := 1) (ret := (some .int)) (by decide) rfl ?_
  intro p e s m args below meth c s₁ B hml hv
  obtain ⟨rfl, hsz, hP, ⟨hK, hN⟩, hD0, hZ⟩ := hv
  have hx := B.exec
  have hb := B.bytes
  have hr := B.returns
  have hts := atoms_spec (ws := wsX7_fault) B.pre
  have hown : s.vm.findClass RX7 = some m.cls := findClass_of_methodNamed B.named
  have hlocks := B.notSynchronized
  clear B
  subst hsz
  have hD := hD0.self (sz := s.heap.size)
  clear hD0
  generalize hAe : va_A [(Mm, .inr (7, [.int zth, .ref Mt, .int (nI tp), .int zma, .int zwr, .ref Mrr, .ref Mrh, .ref Mrc, .int zrh, .int zrc, .ref Mn, .ref Mf, .ref Mr, .ref Mh, .int zhp, .int zcc, .ref Ma, .ref Mas, .ref Msn, .ref Mac, .ref Mat])), (Mt, .inl (g 0, 160, .inl fmt)), (Mrr, .inl (g 0, 3, .inl frr)), (Mrh, .inl (g 0, 9, .inl frh)), (Mrc, .inl (g 0, 9, .inl frc))] s.heap.size = A at hD hZ ⊢
  have hA : ∀ q : Nat, s.heap.size ≤ q → A q := fun q h => by rw [← hAe]; exact Or.inr h
  have hS : va_S A s.heap s.heap [] := va_S.rf
  have f49 := hts (.fieldLink RX7 49 "HopCreditsModel" "thrown" "I") (List.mem_of_getElem? (i := 1) rfl)
  have iX7 : ∀ w ∈ u_ws RX7 TX7 21, w ∈ wsX7_fault := fun w h => List.mem_cons_of_mem _ (List.mem_append_right _ (h))
  have hl := lv_entry ([.ref Mm]) (n := 1) (Nat.le_of_ble_eq_true rfl)
  rw [lg_entry_eq]
  generalize (lg_sl ([.ref Mm]) ++ List.replicate (1 - (lg_sl ([.ref Mm])).length) Slot.unset).toArray = ls at hl ⊢
  have hl : lv_has ls 1 [(0, .ref Mm)] := hl
  generalize hQ : MQ below _ _ s _ _ _ = Q
  generalize hH : s.heap = H at hP ⊢
  have hS : va_S A s.heap H [] := by rw [← hH]; exact hS
  clear hH
  refine lv_aload_n hx hb dX7_fault_0 rfl (lv_at hl 0 rfl) ?_
  refine lv_iconst (v := 0) hx hb dX7_fault_1 (by decide) ?_
  refine va_put (D := D) (ci := 7) (v := .int 0) (ty := .int) (C := RX7) (T := TX7) (N := 21) hx hb hts iX7 tyX7 tyX7_ok nmX7 hown hK hP hD hS 0 rfl rfl 0 (by decide) f49 (fun _ h9 => h9) rfl (by decide +kernel) (rfl) (rfl) (Nat.le_of_ble_eq_true rfl) dX7_fault_2 (fun H locs hP2 hD2 hS2 => ?_)
  clear hP hD hS
  have hPD : PD D A [(Mm, .inr (7, [.int 0, .ref Mt, .int (nI tp), .int zma, .int zwr, .ref Mrr, .ref Mrh, .ref Mrc, .int zrh, .int zrc, .ref Mn, .ref Mf, .ref Mr, .ref Mh, .int zhp, .int zcc, .ref Ma, .ref Mas, .ref Msn, .ref Mac, .ref Mat])), (Mt, .inl (g 0, 160, .inl fmt)), (Mrr, .inl (g 0, 3, .inl frr)), (Mrh, .inl (g 0, 9, .inl frh)), (Mrc, .inl (g 0, 9, .inl frc))] H := ⟨hP2, hD2⟩
  have hS := hS2; clear hP2 hD2 hS2; have hP := hPD.1; have hD := hPD.2; clear hPD
  refine lv_aload_n hx hb dX7_fault_5 rfl (lv_at hl 0 rfl) ?_
  refine ky_Vi (As := []) (rest := []) ⟨hx, hb, hml, hown, hts⟩ ⟨hK, hN⟩ hZ hP hD hS hA [0, 1, 2, 3, 4] [] (wc := [(Mm, .inr (7, [.int 0, .ref Mt, .int (nI tp), .int zma, .int zwr, .ref Mrr, .ref Mrh, .ref Mrc, .int zrh, .int zrc, .ref Mn, .ref Mf, .ref Mr, .ref Mh, .int zhp, .int zcc, .ref Ma, .ref Mas, .ref Msn, .ref Mac, .ref Mat])), (Mt, .inl (g 0, 160, .inl fmt)), (Mrr, .inl (g 0, 3, .inl frr)), (Mrh, .inl (g 0, 9, .inl frh)), (Mrc, .inl (g 0, 9, .inl frc))]) (wr := []) rfl rfl rfl rfl (by decide) (w_X7_readNet l D g H.size Mm 0 Mt tp zma zwr Mrr Mrh Mrc zrh zrc Mn Mf Mr Mh zhp zcc Ma Mas Msn Mac Mat fmt frr frh frc (show tp ≤ 160 by omega) (h1) (h2) (h3) (h4)) (cwV 0 hts gX7_fault_X7_readNet rfl rfl rfl (by decide +kernel) ⟨(Nat.le_of_ble_eq_true rfl), (Nat.le_of_ble_eq_true rfl)⟩) 0 7 rfl rfl rfl rfl hl.1 rfl (Nat.le_of_ble_eq_true rfl) dX7_fault_6 ⟨(Nat.le_of_ble_eq_true rfl), (Nat.le_of_ble_eq_true rfl)⟩ (fun r_1 u H locs hw hP2 hD2 hS2 => ?_)
  clear hP hD hS
  obtain ⟨zmax_2, zwrx_3, rhx_4, rcx_5, frrx_6, frhx_7, frcx_8, rfl, rfl, hf_9⟩ := hw
  have hg_10 := hf_9.2.2.2.1
  have hg_11 := hf_9.2.2.2.2.1
  have hPD : PD D A [(Mm, .inr (7, [.int 0, .ref Mt, .int (nI tp), .int zmax_2, .int r_1, .ref Mrr, .ref Mrh, .ref Mrc, .int (nI rhx_4), .int (nI rcx_5), .ref Mn, .ref Mf, .ref Mr, .ref Mh, .int zhp, .int zcc, .ref Ma, .ref Mas, .ref Msn, .ref Mac, .ref Mat])), (Mt, .inl (g 0, 160, .inl fmt)), (Mrr, .inl (g 0, 3, .inl frrx_6)), (Mrh, .inl (g 0, 9, .inl frhx_7)), (Mrc, .inl (g 0, 9, .inl frcx_8))] H := ⟨hP2, hD2⟩
  have hS := hS2; clear hP2 hD2 hS2; have hP := hPD.1; have hD := hPD.2; clear hPD
  refine W.widen (k := 0) (n := 0) (Nat.le_of_ble_eq_true rfl) (Nat.le_of_ble_eq_true rfl) ?_
  have hP9 := hP; have hD9 := hD
  subst hQ
  refine W.widen (k := 0) (n := 0) (Nat.le_of_ble_eq_true rfl) (Nat.le_of_ble_eq_true rfl) ?_
  exact W.iret (v := r_1) hx hb hr (fun tS htS _ => ⟨⟨_, _, rfl, ⟨0, zmax_2, r_1, (nI rhx_4), (nI rcx_5), frrx_6, frhx_7, frcx_8, rfl, rfl, (hf_9.1), (hf_9.2.1), (hf_9.2.2.1), (congrArg Prod.fst hf_9.2.2.2.2.2.1)⟩, by rw [htS]; exact hP9, hD9⟩, hS.F htS⟩) hS.2.2 dX7_fault_9
