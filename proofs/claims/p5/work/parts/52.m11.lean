set_option maxHeartbeats 4000000 in
set_option maxRecDepth 100000 in
theorem k_X7_net (l : Launch) (D : va_G) (g : Nat → ClassId) (sz : Nat) (Mm : Nat) (zth : Int32) (Mt : Nat) (tp : Nat) (zma : Int32) (zwr : Int32) (Mrr : Nat) (Mrh : Nat) (Mrc : Nat) (zrh : Int32) (zrc : Int32) (Mn : Nat) (Mf : Nat) (Mr : Nat) (Mh : Nat) (hp : Nat) (cc : Nat) (Ma : Nat) (Mas : Nat) (Msn : Nat) (Mac : Nat) (Mat : Nat) (fmt : Nat → Int32) (frr : Nat → Int32) (frh : Nat → Int32) (frc : Nat → Int32) (fno : Nat → Int32) (fmr : Nat → Int32) (fmh : Nat → Int32) (tb : Nat) (ub : Nat) (h0 : tp ≤ 160) (h1 : n1 frr) (h2 : n1 frh) (h3 : n1 frc) (h4 : tb < 2 ^ 29) (h5 : ub < 2 ^ 29) (h6 : mOK tb ub fno) (h7 : n1 fmr) (h8 : n3 fmh) (h9 : hp ≤ 3) (h10 : cc ≤ 3) (h11 : (hp = 0 ∧ cc = 0) ∨ (1 ≤ hp ∧ 1 ≤ cc)) : Met l yX7_net wsX7_net ({ frames := 6, cells := 0, slots := 0, locals := 133 }) (va_Pc [.ref Mm] (pre D g sz [(Mm, .inr (7, [.int zth, .ref Mt, .int (nI tp), .int zma, .int zwr, .ref Mrr, .ref Mrh, .ref Mrc, .int zrh, .int zrc, .ref Mn, .ref Mf, .ref Mr, .ref Mh, .int (nI hp), .int (nI cc), .ref Ma, .ref Mas, .ref Msn, .ref Mac, .ref Mat])), (Mt, .inl (g 0, 160, .inl fmt)), (Mrr, .inl (g 0, 3, .inl frr)), (Mrh, .inl (g 0, 9, .inl frh)), (Mrc, .inl (g 0, 9, .inl frc)), (Mn, .inl (g 0, 1767, .inl fno)), (Mr, .inl (g 0, 3, .inl fmr)), (Mh, .inl (g 0, 9, .inl fmh))])) (va_Qi (fun (r : Int32) (u : va_W) => ∃ (PF : Nat → Nat → Int32) (zthx : Int32) (tpx : Nat) (zmax : Int32) (zwrx : Int32) (zrhx : Int32) (zrcx : Int32) (hpx : Nat) (ccx : Nat), u = [(Mm, .inr (7, [.int zthx, .ref Mt, .int (nI tpx), .int zmax, .int zwrx, .ref Mrr, .ref Mrh, .ref Mrc, .int zrhx, .int zrcx, .ref Mn, .ref Mf, .ref Mr, .ref Mh, .int (nI hpx), .int (nI ccx), .ref Ma, .ref Mas, .ref Msn, .ref Mac, .ref Mat])), (Mt, .inl (g 0, 160, .inl fmt)), (Mrr, .inl (g 0, 3, .inl (PF 0))), (Mrh, .inl (g 0, 9, .inl (PF 1))), (Mrc, .inl (g 0, 9, .inl (PF 2))), (Mn, .inl (g 0, 1767, .inl (PF 3))), (Mr, .inl (g 0, 3, .inl (PF 4))), (Mh, .inl (g 0, 9, .inl (PF 5)))] ∧ ((n1 (PF 0)) ∧ (n1 (PF 1)) ∧ (n1 (PF 2)) ∧ (mOK tb ub (PF 3)) ∧ (n1 (PF 4)) ∧ (n3 (PF 5)) ∧ (hpx ≤ 3) ∧ (ccx ≤ 3) ∧ ((hpx = 0 ∧ ccx = 0) ∨ (1 ≤ hpx ∧ 1 ≤ ccx)) ∧ (tpx ≤ 160))) (wd D (va_A [(Mm, .inr (7, [.int zth, .ref Mt, .int (nI tp), .int zma, .int zwr, .ref Mrr, .ref Mrh, .ref Mrc, .int zrh, .int zrc, .ref Mn, .ref Mf, .ref Mr, .ref Mh, .int (nI hp), .int (nI cc), .ref Ma, .ref Mas, .ref Msn, .ref Mac, .ref Mat])), (Mt, .inl (g 0, 160, .inl fmt)), (Mrr, .inl (g 0, 3, .inl frr)), (Mrh, .inl (g 0, 9, .inl frh)), (Mrc, .inl (g 0, 9, .inl frc)), (Mn, .inl (g 0, 1767, .inl fno)), (Mr, .inl (g 0, 3, .inl fmr)), (Mh, .inl (g 0, 9, .inl fmh))] sz)) (va_A [(Mm, .inr (7, [.int zth, .ref Mt, .int (nI tp), .int zma, .int zwr, .ref Mrr, .ref Mrh, .ref Mrc, .int zrh, .int zrc, .ref Mn, .ref Mf, .ref Mr, .ref Mh, .int (nI hp), .int (nI cc), .ref Ma, .ref Mas, .ref Msn, .ref Mac, .ref Mat])), (Mt, .inl (g 0, 160, .inl fmt)), (Mrr, .inl (g 0, 3, .inl frr)), (Mrh, .inl (g 0, 9, .inl frh)), (Mrc, .inl (g 0, 9, .inl frc)), (Mn, .inl (g 0, 1767, .inl fno)), (Mr, .inl (g 0, 3, .inl fmr)), (Mh, .inl (g 0, 9, .inl fmh))] sz)) 0 0 (va_A [(Mm, .inr (7, [.int zth, .ref Mt, .int (nI tp), .int zma, .int zwr, .ref Mrr, .ref Mrh, .ref Mrc, .int zrh, .int zrc, .ref Mn, .ref Mf, .ref Mr, .ref Mh, .int (nI hp), .int (nI cc), .ref Ma, .ref Mas, .ref Msn, .ref Mac, .ref Mat])), (Mt, .inl (g 0, 160, .inl fmt)), (Mrr, .inl (g 0, 3, .inl frr)), (Mrh, .inl (g 0, 9, .inl frh)), (Mrc, .inl (g 0, 9, .inl frc)), (Mn, .inl (g 0, 1767, .inl fno)), (Mr, .inl (g 0, 3, .inl fmr)), (Mh, .inl (g 0, 9, .inl fmh))] sz) := by
  refine Met.ofW (cc := cX7_net) (maxL := 3) (ret := (some .int)) (by decide) rfl ?_
  intro p e s m args below meth c s₁ B hml hv
  obtain ⟨rfl, hsz, hP, ⟨hK, hN⟩, hD0, hZ⟩ := hv
  have hx := B.exec
  have hb := B.bytes
  have hr := B.returns
  have hts := atoms_spec (ws := wsX7_net) B.pre
  have hown : s.vm.findClass RX7 = some m.cls := findClass_of_methodNamed B.named
  have hlocks := B.notSynchronized
  clear B
  subst hsz
  have hD := hD0.self (sz := s.heap.size)
  clear hD0
  generalize hAe : va_A [(Mm, .inr (7, [.int zth, .ref Mt, .int (nI tp), .int zma, .int zwr, .ref Mrr, .ref Mrh, .ref Mrc, .int zrh, .int zrc, .ref Mn, .ref Mf, .ref Mr, .ref Mh, .int (nI hp), .int (nI cc), .ref Ma, .ref Mas, .ref Msn, .ref Mac, .ref Mat])), (Mt, .inl (g 0, 160, .inl fmt)), (Mrr, .inl (g 0, 3, .inl frr)), (Mrh, .inl (g 0, 9, .inl frh)), (Mrc, .inl (g 0, 9, .inl frc)), (Mn, .inl (g 0, 1767, .inl fno)), (Mr, .inl (g 0, 3, .inl fmr)), (Mh, .inl (g 0, 9, .inl fmh))] s.heap.size = A at hD hZ ⊢
  have hA : ∀ q : Nat, s.heap.size ≤ q → A q := fun q h => by rw [← hAe]; exact Or.inr h
  have hS : va_S A s.heap s.heap [] := va_S.rf
  have f111 := hts (.fieldLink RX7 111 "HopCreditsModel" "readHops" "I") (List.mem_of_getElem? (i := 3) rfl)
  have f114 := hts (.fieldLink RX7 114 "HopCreditsModel" "readCircuits" "I") (List.mem_of_getElem? (i := 5) rfl)
  have f124 := hts (.fieldLink RX7 124 "HopCreditsModel" "hops" "I") (List.mem_of_getElem? (i := 7) rfl)
  have f127 := hts (.fieldLink RX7 127 "HopCreditsModel" "circuits" "I") (List.mem_of_getElem? (i := 8) rfl)
  have f13 := hts (.fieldLink RX7 13 "HopCreditsModel" "readRule" "[I") (List.mem_of_getElem? (i := 11) rfl)
  have f16 := hts (.fieldLink RX7 16 "HopCreditsModel" "readHop" "[I") (List.mem_of_getElem? (i := 4) rfl)
  have f19 := hts (.fieldLink RX7 19 "HopCreditsModel" "readCircuit" "[I") (List.mem_of_getElem? (i := 6) rfl)
  have f22 := hts (.fieldLink RX7 22 "HopCreditsModel" "now" "[I") (List.mem_of_getElem? (i := 9) rfl)
  have f28 := hts (.fieldLink RX7 28 "HopCreditsModel" "rule" "[I") (List.mem_of_getElem? (i := 10) rfl)
  have f49 := hts (.fieldLink RX7 49 "HopCreditsModel" "thrown" "I") (List.mem_of_getElem? (i := 1) rfl)
  have f57 := hts (.fieldLink RX7 57 "HopCreditsModel" "taped" "I") (List.mem_of_getElem? (i := 2) rfl)
  have iX7 : ∀ w ∈ u_ws RX7 TX7 21, w ∈ wsX7_net := fun w h => List.mem_cons_of_mem _ (List.mem_append_right _ (h))
  have hl := lv_entry ([.ref Mm]) (n := 3) (Nat.le_of_ble_eq_true rfl)
  rw [lg_entry_eq]
  generalize (lg_sl ([.ref Mm]) ++ List.replicate (3 - (lg_sl ([.ref Mm])).length) Slot.unset).toArray = ls at hl ⊢
  have hl : lv_has ls 3 [(0, .ref Mm)] := hl
  generalize hQ : MQ below _ _ s _ _ _ = Q
  generalize hH : s.heap = H at hP ⊢
  have hS : va_S A s.heap H [] := by rw [← hH]; exact hS
  clear hH
  refine lv_aload_n hx hb dX7_net_0 rfl (lv_at hl 0 rfl) ?_
  refine lv_iconst (v := 0) hx hb dX7_net_1 (by decide) ?_
  refine va_put (D := D) (ci := 7) (v := .int 0) (ty := .int) (C := RX7) (T := TX7) (N := 21) hx hb hts iX7 tyX7 tyX7_ok nmX7 hown hK hP hD hS 0 rfl rfl 0 (by decide) f49 (fun _ h9 => h9) rfl (by decide +kernel) (rfl) (rfl) (Nat.le_of_ble_eq_true rfl) dX7_net_2 (fun H locs hP2 hD2 hS2 => ?_)
  clear hP hD hS
  have hPD : PD D A [(Mm, .inr (7, [.int 0, .ref Mt, .int (nI tp), .int zma, .int zwr, .ref Mrr, .ref Mrh, .ref Mrc, .int zrh, .int zrc, .ref Mn, .ref Mf, .ref Mr, .ref Mh, .int (nI hp), .int (nI cc), .ref Ma, .ref Mas, .ref Msn, .ref Mac, .ref Mat])), (Mt, .inl (g 0, 160, .inl fmt)), (Mrr, .inl (g 0, 3, .inl frr)), (Mrh, .inl (g 0, 9, .inl frh)), (Mrc, .inl (g 0, 9, .inl frc)), (Mn, .inl (g 0, 1767, .inl fno)), (Mr, .inl (g 0, 3, .inl fmr)), (Mh, .inl (g 0, 9, .inl fmh))] H := ⟨hP2, hD2⟩
  have hS := hS2; clear hP2 hD2 hS2; have hP := hPD.1; have hD := hPD.2; clear hPD
  refine lv_aload_n hx hb dX7_net_5 rfl (lv_at hl 0 rfl) ?_
  refine ky_Vi (As := []) (rest := []) ⟨hx, hb, hml, hown, hts⟩ ⟨hK, hN⟩ hZ hP hD hS hA [0, 1, 2, 3, 4] [5, 6, 7] (wc := [(Mm, .inr (7, [.int 0, .ref Mt, .int (nI tp), .int zma, .int zwr, .ref Mrr, .ref Mrh, .ref Mrc, .int zrh, .int zrc, .ref Mn, .ref Mf, .ref Mr, .ref Mh, .int (nI hp), .int (nI cc), .ref Ma, .ref Mas, .ref Msn, .ref Mac, .ref Mat])), (Mt, .inl (g 0, 160, .inl fmt)), (Mrr, .inl (g 0, 3, .inl frr)), (Mrh, .inl (g 0, 9, .inl frh)), (Mrc, .inl (g 0, 9, .inl frc))]) (wr := [(Mn, .inl (g 0, 1767, .inl fno)), (Mr, .inl (g 0, 3, .inl fmr)), (Mh, .inl (g 0, 9, .inl fmh))]) rfl rfl rfl rfl (by decide) (k_X7_readNet l D g H.size Mm 0 Mt tp zma zwr Mrr Mrh Mrc zrh zrc Mn Mf Mr Mh (nI hp) (nI cc) Ma Mas Msn Mac Mat fmt frr frh frc (show tp ≤ 160 by omega) (h1) (h2) (h3)) (cwV 0 hts gX7_net_X7_readNet rfl rfl rfl (by decide +kernel) ⟨(Nat.le_of_ble_eq_true rfl), (Nat.le_of_ble_eq_true rfl)⟩) 0 7 rfl rfl rfl rfl hl.1 rfl (Nat.le_of_ble_eq_true rfl) dX7_net_6 ⟨(Nat.le_of_ble_eq_true rfl), (Nat.le_of_ble_eq_true rfl)⟩ (fun r_1 u H locs hw hP2 hD2 hS2 => ?_)
  clear hP hD hS
  obtain ⟨zmax_2, zwrx_3, rhx_4, rcx_5, frrx_6, frhx_7, frcx_8, rfl, hf_9⟩ := hw
  have hg_10 := hf_9.2.2.2.1
  have hg_11 := hf_9.2.2.2.2
  have hPD : PD D A [(Mn, .inl (g 0, 1767, .inl fno)), (Mr, .inl (g 0, 3, .inl fmr)), (Mh, .inl (g 0, 9, .inl fmh)), (Mm, .inr (7, [.int 0, .ref Mt, .int (nI tp), .int zmax_2, .int zwrx_3, .ref Mrr, .ref Mrh, .ref Mrc, .int (nI rhx_4), .int (nI rcx_5), .ref Mn, .ref Mf, .ref Mr, .ref Mh, .int (nI hp), .int (nI cc), .ref Ma, .ref Mas, .ref Msn, .ref Mac, .ref Mat])), (Mt, .inl (g 0, 160, .inl fmt)), (Mrr, .inl (g 0, 3, .inl frrx_6)), (Mrh, .inl (g 0, 9, .inl frhx_7)), (Mrc, .inl (g 0, 9, .inl frcx_8))] H := ⟨hP2, hD2⟩
  have hS := hS2; clear hP2 hD2 hS2; have hP := hPD.1; have hD := hPD.2; clear hPD
  refine W.widen (k := 0) (n := 0) (Nat.le_of_ble_eq_true rfl) (Nat.le_of_ble_eq_true rfl) ?_
  refine lv_iconst (v := (-1)) hx hb dX7_net_9 (by decide) ?_
  refine lv_icmp_eq (tgt := 15) hx hb dX7_net_10 (by decide) (fun cb_12 => ?_) (fun cb_12 => ?_)
  · skip
    have hPq_13 := hP; have hDq_13 := hD; have hSq_13 := hS; have hlq_13 := hl; clear hP hD hS hl
    subst cb_12
    have hP := hPq_13; have hD := hDq_13; have hS := hSq_13; have hl := hlq_13; clear hPq_13 hDq_13 hSq_13 hlq_13
    refine lv_aload_n hx hb dX7_net_15 rfl (lv_at hl 0 rfl) ?_
    refine lv_iconst (v := 0) hx hb dX7_net_16 (by decide) ?_
    refine va_put (D := D) (ci := 7) (v := .int 0) (ty := .int) (C := RX7) (T := TX7) (N := 21) hx hb hts iX7 tyX7 tyX7_ok nmX7 hown hK hP hD hS 3 rfl rfl 2 (by decide) f57 (fun _ h9 => h9) rfl (by decide +kernel) (rfl) (rfl) (Nat.le_of_ble_eq_true rfl) dX7_net_17 (fun H locs hP2 hD2 hS2 => ?_)
    clear hP hD hS
    have hPD : PD D A [(Mn, .inl (g 0, 1767, .inl fno)), (Mr, .inl (g 0, 3, .inl fmr)), (Mh, .inl (g 0, 9, .inl fmh)), (Mm, .inr (7, [.int 0, .ref Mt, .int 0, .int zmax_2, .int zwrx_3, .ref Mrr, .ref Mrh, .ref Mrc, .int (nI rhx_4), .int (nI rcx_5), .ref Mn, .ref Mf, .ref Mr, .ref Mh, .int (nI hp), .int (nI cc), .ref Ma, .ref Mas, .ref Msn, .ref Mac, .ref Mat])), (Mt, .inl (g 0, 160, .inl fmt)), (Mrr, .inl (g 0, 3, .inl frrx_6)), (Mrh, .inl (g 0, 9, .inl frhx_7)), (Mrc, .inl (g 0, 9, .inl frcx_8))] H := ⟨hP2, hD2⟩
    have hS := hS2; clear hP2 hD2 hS2; have hP := hPD.1; have hD := hPD.2; clear hPD
    refine lv_aload_n hx hb dX7_net_20 rfl (lv_at hl 0 rfl) ?_
    refine va_get (D := D) (ci := 7) (v := .int (nI rhx_4)) (C := RX7) (T := TX7) (N := 21) hx hb hts iX7 hown hK hP 3 rfl rfl 8 (by decide) f111 (fun _ h9 => h9) rfl dX7_net_21 ?_
    refine lv_if_ne (tgt := 42) hx hb dX7_net_24 (by decide) (fun cb_14 => ?_) (fun cb_14 => ?_)
    · skip
      have cn_15 : ¬ rhx_4 = 0 := fun q9 => cb_14 (congrArg nI q9)
      refine lv_aload_n hx hb dX7_net_42 rfl (lv_at hl 0 rfl) ?_
      refine va_get (D := D) (ci := 7) (v := .int (nI rcx_5)) (C := RX7) (T := TX7) (N := 21) hx hb hts iX7 hown hK hP 3 rfl rfl 9 (by decide) f114 (fun _ h9 => h9) rfl dX7_net_43 ?_
      refine lv_if_ne (tgt := 64) hx hb dX7_net_46 (by decide) (fun cb_16 => ?_) (fun cb_16 => ?_)
      · skip
        have cn_17 : ¬ rcx_5 = 0 := fun q9 => cb_16 (congrArg nI q9)
        refine lv_aload_n hx hb dX7_net_64 rfl (lv_at hl 0 rfl) ?_
        refine lv_aload_n hx hb dX7_net_65 rfl (lv_at hl 0 rfl) ?_
        refine va_get (D := D) (ci := 7) (v := .int (nI rhx_4)) (C := RX7) (T := TX7) (N := 21) hx hb hts iX7 hown hK hP 3 rfl rfl 8 (by decide) f111 (fun _ h9 => h9) rfl dX7_net_66 ?_
        refine va_put (D := D) (ci := 7) (v := .int (nI rhx_4)) (ty := .int) (C := RX7) (T := TX7) (N := 21) hx hb hts iX7 tyX7 tyX7_ok nmX7 hown hK hP hD hS 3 rfl rfl 14 (by decide) f124 (fun _ h9 => h9) rfl (by decide +kernel) (rfl) (rfl) (Nat.le_of_ble_eq_true rfl) dX7_net_69 (fun H locs hP2 hD2 hS2 => ?_)
        clear hP hD hS
        have hPD : PD D A [(Mn, .inl (g 0, 1767, .inl fno)), (Mr, .inl (g 0, 3, .inl fmr)), (Mh, .inl (g 0, 9, .inl fmh)), (Mm, .inr (7, [.int 0, .ref Mt, .int 0, .int zmax_2, .int zwrx_3, .ref Mrr, .ref Mrh, .ref Mrc, .int (nI rhx_4), .int (nI rcx_5), .ref Mn, .ref Mf, .ref Mr, .ref Mh, .int (nI rhx_4), .int (nI cc), .ref Ma, .ref Mas, .ref Msn, .ref Mac, .ref Mat])), (Mt, .inl (g 0, 160, .inl fmt)), (Mrr, .inl (g 0, 3, .inl frrx_6)), (Mrh, .inl (g 0, 9, .inl frhx_7)), (Mrc, .inl (g 0, 9, .inl frcx_8))] H := ⟨hP2, hD2⟩
        have hS := hS2; clear hP2 hD2 hS2; have hP := hPD.1; have hD := hPD.2; clear hPD
        refine lv_aload_n hx hb dX7_net_72 rfl (lv_at hl 0 rfl) ?_
        refine lv_aload_n hx hb dX7_net_73 rfl (lv_at hl 0 rfl) ?_
        refine va_get (D := D) (ci := 7) (v := .int (nI rcx_5)) (C := RX7) (T := TX7) (N := 21) hx hb hts iX7 hown hK hP 3 rfl rfl 9 (by decide) f114 (fun _ h9 => h9) rfl dX7_net_74 ?_
        refine va_put (D := D) (ci := 7) (v := .int (nI rcx_5)) (ty := .int) (C := RX7) (T := TX7) (N := 21) hx hb hts iX7 tyX7 tyX7_ok nmX7 hown hK hP hD hS 3 rfl rfl 15 (by decide) f127 (fun _ h9 => h9) rfl (by decide +kernel) (rfl) (rfl) (Nat.le_of_ble_eq_true rfl) dX7_net_77 (fun H locs hP2 hD2 hS2 => ?_)
        clear hP hD hS
        have hPD : PD D A [(Mn, .inl (g 0, 1767, .inl fno)), (Mr, .inl (g 0, 3, .inl fmr)), (Mh, .inl (g 0, 9, .inl fmh)), (Mm, .inr (7, [.int 0, .ref Mt, .int 0, .int zmax_2, .int zwrx_3, .ref Mrr, .ref Mrh, .ref Mrc, .int (nI rhx_4), .int (nI rcx_5), .ref Mn, .ref Mf, .ref Mr, .ref Mh, .int (nI rhx_4), .int (nI rcx_5), .ref Ma, .ref Mas, .ref Msn, .ref Mac, .ref Mat])), (Mt, .inl (g 0, 160, .inl fmt)), (Mrr, .inl (g 0, 3, .inl frrx_6)), (Mrh, .inl (g 0, 9, .inl frhx_7)), (Mrc, .inl (g 0, 9, .inl frcx_8))] H := ⟨hP2, hD2⟩
        have hS := hS2; clear hP2 hD2 hS2; have hP := hPD.1; have hD := hPD.2; clear hPD
        refine lv_iconst (v := 0) hx hb dX7_net_80 (by decide) ?_
        refine lv_istore_n (lv' := [(1, .int 0), (0, .ref Mm)]) hx hb dX7_net_81 rfl hl (by decide) rfl (fun ls hl => ?_)
        have loop_25 : ∀ (Nloop_25 : Nat) (i_19 : Nat) (F_20 : Nat → Int32) (hF_20 : mOK tb ub F_20) (hbi_19 : i_19 ≤ 1767) (hmloop_25 : 1767 - i_19 < Nloop_25) (H : Heap) (locs : List Loc) (ls : Array Slot), va_P D vwCl [(Mn, .inl (g 0, 1767, .inl F_20)), (Mr, .inl (g 0, 3, .inl fmr)), (Mh, .inl (g 0, 9, .inl fmh)), (Mm, .inr (7, [.int 0, .ref Mt, .int 0, .int zmax_2, .int zwrx_3, .ref Mrr, .ref Mrh, .ref Mrc, .int (nI rhx_4), .int (nI rcx_5), .ref Mn, .ref Mf, .ref Mr, .ref Mh, .int (nI rhx_4), .int (nI rcx_5), .ref Ma, .ref Mas, .ref Msn, .ref Mac, .ref Mat])), (Mt, .inl (g 0, 160, .inl fmt)), (Mrr, .inl (g 0, 3, .inl frrx_6)), (Mrh, .inl (g 0, 9, .inl frhx_7)), (Mrc, .inl (g 0, 9, .inl frcx_8))] H → va_D A [(Mn, .inl (g 0, 1767, .inl F_20)), (Mr, .inl (g 0, 3, .inl fmr)), (Mh, .inl (g 0, 9, .inl fmh)), (Mm, .inr (7, [.int 0, .ref Mt, .int 0, .int zmax_2, .int zwrx_3, .ref Mrr, .ref Mrh, .ref Mrc, .int (nI rhx_4), .int (nI rcx_5), .ref Mn, .ref Mf, .ref Mr, .ref Mh, .int (nI rhx_4), .int (nI rcx_5), .ref Ma, .ref Mas, .ref Msn, .ref Mac, .ref Mat])), (Mt, .inl (g 0, 160, .inl fmt)), (Mrr, .inl (g 0, 3, .inl frrx_6)), (Mrh, .inl (g 0, 9, .inl frhx_7)), (Mrc, .inl (g 0, 9, .inl frcx_8))] → va_S A s.heap H locs → lv_has ls 3 [(1, .int (nI i_19)), (0, .ref Mm)] → W p l e (headSpec wsX7_net ({ frames := 6, cells := 0, slots := 0, locals := 133 })).room s m ([.ref Mm] : List Value).toArray below meth c H locs 0 0 Q (F0 m 82 ls []) := by
          clear hP hD hS hl
          intro Nloop_25
          induction Nloop_25 with
          | zero => intro i_19 F_20 hF_20 hbi_19 hm9; exact absurd hm9 (Nat.not_lt_zero _)
          | succ Nloop_25 loop_25_ih =>
            intro i_19 F_20 hF_20 hbi_19 hmloop_25 H locs ls hP hD hS hl
            refine lv_iload_n hx hb dX7_net_82 rfl (lv_at hl 0 rfl) ?_
            refine lv_sipush (v := 1767) hx hb dX7_net_83 (by decide) ?_
            refine lv_icmp_ge (tgt := 102) hx hb dX7_net_86 (by decide) (fun cb_26 => ?_) (fun cb_26 => ?_)
            · skip
              have cn_27 : 1767 ≤ i_19 := (nI_leI (show 1767 < 2 ^ 31 by omega) (show i_19 < 2 ^ 31 by omega)).mp cb_26
              refine lv_iconst (v := 0) hx hb dX7_net_102 (by decide) ?_
              refine lv_istore_n (lv' := [(1, .int 0), (0, .ref Mm)]) hx hb dX7_net_103 rfl hl (by decide) rfl (fun ls hl => ?_)
              have loop_37 : ∀ (Nloop_37 : Nat) (i_30 : Nat) (F_31 : Nat → Int32) (hF_31 : n1 F_31) (hbi_30 : i_30 ≤ 3) (hmloop_37 : 3 - i_30 < Nloop_37) (H : Heap) (locs : List Loc) (ls : Array Slot), va_P D vwCl [(Mn, .inl (g 0, 1767, .inl F_20)), (Mr, .inl (g 0, 3, .inl F_31)), (Mh, .inl (g 0, 9, .inl fmh)), (Mm, .inr (7, [.int 0, .ref Mt, .int 0, .int zmax_2, .int zwrx_3, .ref Mrr, .ref Mrh, .ref Mrc, .int (nI rhx_4), .int (nI rcx_5), .ref Mn, .ref Mf, .ref Mr, .ref Mh, .int (nI rhx_4), .int (nI rcx_5), .ref Ma, .ref Mas, .ref Msn, .ref Mac, .ref Mat])), (Mt, .inl (g 0, 160, .inl fmt)), (Mrr, .inl (g 0, 3, .inl frrx_6)), (Mrh, .inl (g 0, 9, .inl frhx_7)), (Mrc, .inl (g 0, 9, .inl frcx_8))] H → va_D A [(Mn, .inl (g 0, 1767, .inl F_20)), (Mr, .inl (g 0, 3, .inl F_31)), (Mh, .inl (g 0, 9, .inl fmh)), (Mm, .inr (7, [.int 0, .ref Mt, .int 0, .int zmax_2, .int zwrx_3, .ref Mrr, .ref Mrh, .ref Mrc, .int (nI rhx_4), .int (nI rcx_5), .ref Mn, .ref Mf, .ref Mr, .ref Mh, .int (nI rhx_4), .int (nI rcx_5), .ref Ma, .ref Mas, .ref Msn, .ref Mac, .ref Mat])), (Mt, .inl (g 0, 160, .inl fmt)), (Mrr, .inl (g 0, 3, .inl frrx_6)), (Mrh, .inl (g 0, 9, .inl frhx_7)), (Mrc, .inl (g 0, 9, .inl frcx_8))] → va_S A s.heap H locs → lv_has ls 3 [(1, .int (nI i_30)), (0, .ref Mm)] → W p l e (headSpec wsX7_net ({ frames := 6, cells := 0, slots := 0, locals := 133 })).room s m ([.ref Mm] : List Value).toArray below meth c H locs 0 0 Q (F0 m 104 ls []) := by
                clear hP hD hS hl
                intro Nloop_37
                induction Nloop_37 with
                | zero => intro i_30 F_31 hF_31 hbi_30 hm9; exact absurd hm9 (Nat.not_lt_zero _)
                | succ Nloop_37 loop_37_ih =>
                  intro i_30 F_31 hF_31 hbi_30 hmloop_37 H locs ls hP hD hS hl
                  refine lv_iload_n hx hb dX7_net_104 rfl (lv_at hl 0 rfl) ?_
                  refine lv_iconst (v := 3) hx hb dX7_net_105 (by decide) ?_
                  refine lv_icmp_ge (tgt := 127) hx hb dX7_net_106 (by decide) (fun cb_38 => ?_) (fun cb_38 => ?_)
                  · skip
                    have cn_39 : 3 ≤ i_30 := (nI_leI (show 3 < 2 ^ 31 by omega) (show i_30 < 2 ^ 31 by omega)).mp cb_38
                    refine lv_iconst (v := 0) hx hb dX7_net_127 (by decide) ?_
                    refine lv_istore_n (lv' := [(1, .int 0), (0, .ref Mm)]) hx hb dX7_net_128 rfl hl (by decide) rfl (fun ls hl => ?_)
                    have loop_56 : ∀ (Nloop_56 : Nat) (i_45 : Nat) (F_46 : Nat → Int32) (F_47 : Nat → Int32) (hF_46 : mOK tb ub F_46) (hF_47 : n3 F_47) (hbi_45 : i_45 ≤ rhx_4) (hmloop_56 : rhx_4 - i_45 < Nloop_56) (H : Heap) (locs : List Loc) (ls : Array Slot), va_P D vwCl [(Mn, .inl (g 0, 1767, .inl F_46)), (Mr, .inl (g 0, 3, .inl F_31)), (Mh, .inl (g 0, 9, .inl F_47)), (Mm, .inr (7, [.int 0, .ref Mt, .int 0, .int zmax_2, .int zwrx_3, .ref Mrr, .ref Mrh, .ref Mrc, .int (nI rhx_4), .int (nI rcx_5), .ref Mn, .ref Mf, .ref Mr, .ref Mh, .int (nI rhx_4), .int (nI rcx_5), .ref Ma, .ref Mas, .ref Msn, .ref Mac, .ref Mat])), (Mt, .inl (g 0, 160, .inl fmt)), (Mrr, .inl (g 0, 3, .inl frrx_6)), (Mrh, .inl (g 0, 9, .inl frhx_7)), (Mrc, .inl (g 0, 9, .inl frcx_8))] H → va_D A [(Mn, .inl (g 0, 1767, .inl F_46)), (Mr, .inl (g 0, 3, .inl F_31)), (Mh, .inl (g 0, 9, .inl F_47)), (Mm, .inr (7, [.int 0, .ref Mt, .int 0, .int zmax_2, .int zwrx_3, .ref Mrr, .ref Mrh, .ref Mrc, .int (nI rhx_4), .int (nI rcx_5), .ref Mn, .ref Mf, .ref Mr, .ref Mh, .int (nI rhx_4), .int (nI rcx_5), .ref Ma, .ref Mas, .ref Msn, .ref Mac, .ref Mat])), (Mt, .inl (g 0, 160, .inl fmt)), (Mrr, .inl (g 0, 3, .inl frrx_6)), (Mrh, .inl (g 0, 9, .inl frhx_7)), (Mrc, .inl (g 0, 9, .inl frcx_8))] → va_S A s.heap H locs → lv_has ls 3 [(1, .int (nI i_45)), (0, .ref Mm)] → W p l e (headSpec wsX7_net ({ frames := 6, cells := 0, slots := 0, locals := 133 })).room s m ([.ref Mm] : List Value).toArray below meth c H locs 0 0 Q (F0 m 129 ls []) := by
                      clear hP hD hS hl
                      intro Nloop_56
                      induction Nloop_56 with
                      | zero => intro i_45 F_46 F_47 hF_46 hF_47 hbi_45 hm9; exact absurd hm9 (Nat.not_lt_zero _)
                      | succ Nloop_56 loop_56_ih =>
                        intro i_45 F_46 F_47 hF_46 hF_47 hbi_45 hmloop_56 H locs ls hP hD hS hl
                        refine lv_iload_n hx hb dX7_net_129 rfl (lv_at hl 0 rfl) ?_
                        refine lv_aload_n hx hb dX7_net_130 rfl (lv_at hl 1 rfl) ?_
                        refine va_get (D := D) (ci := 7) (v := .int (nI rhx_4)) (C := RX7) (T := TX7) (N := 21) hx hb hts iX7 hown hK hP 3 rfl rfl 14 (by decide) f124 (fun _ h9 => h9) rfl dX7_net_131 ?_
                        refine lv_icmp_ge (tgt := 148) hx hb dX7_net_134 (by decide) (fun cb_57 => ?_) (fun cb_57 => ?_)
                        · skip
                          have cn_58 : rhx_4 ≤ i_45 := (nI_leI (show rhx_4 < 2 ^ 31 by omega) (show i_45 < 2 ^ 31 by omega)).mp cb_57
                          refine lv_iconst (v := 0) hx hb dX7_net_148 (by decide) ?_
                          refine lv_istore_n (lv' := [(1, .int 0), (0, .ref Mm)]) hx hb dX7_net_149 rfl hl (by decide) rfl (fun ls hl => ?_)
                          have loop_108 : ∀ (Nloop_108 : Nat) (i_81 : Nat) (F_82 : Nat → Int32) (hF_82 : mOK tb ub F_82) (hbi_81 : i_81 ≤ rcx_5) (hmloop_108 : rcx_5 - i_81 < Nloop_108) (H : Heap) (locs : List Loc) (ls : Array Slot), va_P D vwCl [(Mn, .inl (g 0, 1767, .inl F_82)), (Mr, .inl (g 0, 3, .inl F_31)), (Mh, .inl (g 0, 9, .inl F_47)), (Mm, .inr (7, [.int 0, .ref Mt, .int 0, .int zmax_2, .int zwrx_3, .ref Mrr, .ref Mrh, .ref Mrc, .int (nI rhx_4), .int (nI rcx_5), .ref Mn, .ref Mf, .ref Mr, .ref Mh, .int (nI rhx_4), .int (nI rcx_5), .ref Ma, .ref Mas, .ref Msn, .ref Mac, .ref Mat])), (Mt, .inl (g 0, 160, .inl fmt)), (Mrr, .inl (g 0, 3, .inl frrx_6)), (Mrh, .inl (g 0, 9, .inl frhx_7)), (Mrc, .inl (g 0, 9, .inl frcx_8))] H → va_D A [(Mn, .inl (g 0, 1767, .inl F_82)), (Mr, .inl (g 0, 3, .inl F_31)), (Mh, .inl (g 0, 9, .inl F_47)), (Mm, .inr (7, [.int 0, .ref Mt, .int 0, .int zmax_2, .int zwrx_3, .ref Mrr, .ref Mrh, .ref Mrc, .int (nI rhx_4), .int (nI rcx_5), .ref Mn, .ref Mf, .ref Mr, .ref Mh, .int (nI rhx_4), .int (nI rcx_5), .ref Ma, .ref Mas, .ref Msn, .ref Mac, .ref Mat])), (Mt, .inl (g 0, 160, .inl fmt)), (Mrr, .inl (g 0, 3, .inl frrx_6)), (Mrh, .inl (g 0, 9, .inl frhx_7)), (Mrc, .inl (g 0, 9, .inl frcx_8))] → va_S A s.heap H locs → lv_has ls 3 [(1, .int (nI i_81)), (0, .ref Mm)] → W p l e (headSpec wsX7_net ({ frames := 6, cells := 0, slots := 0, locals := 133 })).room s m ([.ref Mm] : List Value).toArray below meth c H locs 0 0 Q (F0 m 150 ls []) := by
                            clear hP hD hS hl
                            intro Nloop_108
                            induction Nloop_108 with
                            | zero => intro i_81 F_82 hF_82 hbi_81 hm9; exact absurd hm9 (Nat.not_lt_zero _)
                            | succ Nloop_108 loop_108_ih =>
                              intro i_81 F_82 hF_82 hbi_81 hmloop_108 H locs ls hP hD hS hl
                              refine lv_iload_n hx hb dX7_net_150 rfl (lv_at hl 0 rfl) ?_
                              refine lv_aload_n hx hb dX7_net_151 rfl (lv_at hl 1 rfl) ?_
                              refine va_get (D := D) (ci := 7) (v := .int (nI rcx_5)) (C := RX7) (T := TX7) (N := 21) hx hb hts iX7 hown hK hP 3 rfl rfl 15 (by decide) f127 (fun _ h9 => h9) rfl dX7_net_152 ?_
                              refine lv_icmp_ge (tgt := 211) hx hb dX7_net_155 (by decide) (fun cb_109 => ?_) (fun cb_109 => ?_)
                              · skip
                                have cn_110 : rcx_5 ≤ i_81 := (nI_leI (show rcx_5 < 2 ^ 31 by omega) (show i_81 < 2 ^ 31 by omega)).mp cb_109
                                refine lv_aload_n hx hb dX7_net_211 rfl (lv_at hl 1 rfl) ?_
                                refine va_get (D := D) (ci := 7) (v := .int (nI rcx_5)) (C := RX7) (T := TX7) (N := 21) hx hb hts iX7 hown hK hP 3 rfl rfl 15 (by decide) f127 (fun _ h9 => h9) rfl dX7_net_212 ?_
                                have hPD9 : PD D A [(Mm, .inr (7, [.int 0, .ref Mt, .int 0, .int zmax_2, .int zwrx_3, .ref Mrr, .ref Mrh, .ref Mrc, .int (nI rhx_4), .int (nI rcx_5), .ref Mn, .ref Mf, .ref Mr, .ref Mh, .int (nI rhx_4), .int (nI rcx_5), .ref Ma, .ref Mas, .ref Msn, .ref Mac, .ref Mat])), (Mt, .inl (g 0, 160, .inl fmt)), (Mrr, .inl (g 0, 3, .inl frrx_6)), (Mrh, .inl (g 0, 9, .inl frhx_7)), (Mrc, .inl (g 0, 9, .inl frcx_8)), (Mn, .inl (g 0, 1767, .inl F_82)), (Mr, .inl (g 0, 3, .inl F_31)), (Mh, .inl (g 0, 9, .inl F_47))] H := ⟨hP.sub [3, 4, 5, 6, 7, 0, 1, 2] rfl, hD.sub [3, 4, 5, 6, 7, 0, 1, 2] (by decide) rfl⟩
                                have hP9 := hPD9.1; have hD9 := hPD9.2
                                subst hQ
                                refine W.widen (k := 0) (n := 0) (Nat.le_of_ble_eq_true rfl) (Nat.le_of_ble_eq_true rfl) ?_
                                exact W.iret (v := (nI rcx_5)) hx hb hr (fun tS htS _ => ⟨⟨_, _, rfl, ⟨(lf2 [frrx_6, frhx_7, frcx_8, F_82, F_31, F_47]), 0, 0, zmax_2, zwrx_3, (nI rhx_4), (nI rcx_5), rhx_4, rcx_5, rfl, ⟨(hf_9.1), (hf_9.2.1), (hf_9.2.2.1), (hF_82), (hF_31), (hF_47), (show rhx_4 ≤ 3 by omega), (show rcx_5 ≤ 3 by omega), (show (rhx_4 = 0 ∧ rcx_5 = 0) ∨ (1 ≤ rhx_4 ∧ 1 ≤ rcx_5) by omega), (show 0 ≤ 160 by omega)⟩⟩, by rw [htS]; exact hP9, hD9⟩, hS.F htS⟩) hS.2.2 dX7_net_215
                              · skip
                                have cn_111 : i_81 < rcx_5 := Nat.lt_of_not_le (fun q9 => cb_109 ((nI_leI (show rcx_5 < 2 ^ 31 by omega) (show i_81 < 2 ^ 31 by omega)).mpr q9))
                                refine lv_iconst (v := 0) hx hb dX7_net_158 (by decide) ?_
                                refine lv_istore_n (lv' := [(2, .int 0), (1, .int (nI i_81)), (0, .ref Mm)]) hx hb dX7_net_159 rfl hl (by decide) rfl (fun ls hl => ?_)
                                have loop_125 : ∀ (Nloop_125 : Nat) (i_115 : Nat) (F_116 : Nat → Int32) (hF_116 : mOK tb ub F_116) (hbi_115 : i_115 ≤ 3) (hmloop_125 : 3 - i_115 < Nloop_125) (H : Heap) (locs : List Loc) (ls : Array Slot), va_P D vwCl [(Mn, .inl (g 0, 1767, .inl F_116)), (Mr, .inl (g 0, 3, .inl F_31)), (Mh, .inl (g 0, 9, .inl F_47)), (Mm, .inr (7, [.int 0, .ref Mt, .int 0, .int zmax_2, .int zwrx_3, .ref Mrr, .ref Mrh, .ref Mrc, .int (nI rhx_4), .int (nI rcx_5), .ref Mn, .ref Mf, .ref Mr, .ref Mh, .int (nI rhx_4), .int (nI rcx_5), .ref Ma, .ref Mas, .ref Msn, .ref Mac, .ref Mat])), (Mt, .inl (g 0, 160, .inl fmt)), (Mrr, .inl (g 0, 3, .inl frrx_6)), (Mrh, .inl (g 0, 9, .inl frhx_7)), (Mrc, .inl (g 0, 9, .inl frcx_8))] H → va_D A [(Mn, .inl (g 0, 1767, .inl F_116)), (Mr, .inl (g 0, 3, .inl F_31)), (Mh, .inl (g 0, 9, .inl F_47)), (Mm, .inr (7, [.int 0, .ref Mt, .int 0, .int zmax_2, .int zwrx_3, .ref Mrr, .ref Mrh, .ref Mrc, .int (nI rhx_4), .int (nI rcx_5), .ref Mn, .ref Mf, .ref Mr, .ref Mh, .int (nI rhx_4), .int (nI rcx_5), .ref Ma, .ref Mas, .ref Msn, .ref Mac, .ref Mat])), (Mt, .inl (g 0, 160, .inl fmt)), (Mrr, .inl (g 0, 3, .inl frrx_6)), (Mrh, .inl (g 0, 9, .inl frhx_7)), (Mrc, .inl (g 0, 9, .inl frcx_8))] → va_S A s.heap H locs → lv_has ls 3 [(2, .int (nI i_115)), (1, .int (nI i_81)), (0, .ref Mm)] → W p l e (headSpec wsX7_net ({ frames := 6, cells := 0, slots := 0, locals := 133 })).room s m ([.ref Mm] : List Value).toArray below meth c H locs 0 0 Q (F0 m 160 ls []) := by
                                  clear hP hD hS hl
                                  intro Nloop_125
                                  induction Nloop_125 with
                                  | zero => intro i_115 F_116 hF_116 hbi_115 hm9; exact absurd hm9 (Nat.not_lt_zero _)
                                  | succ Nloop_125 loop_125_ih =>
                                    intro i_115 F_116 hF_116 hbi_115 hmloop_125 H locs ls hP hD hS hl
                                    refine lv_iload_n hx hb dX7_net_160 rfl (lv_at hl 0 rfl) ?_
                                    refine lv_iconst (v := 3) hx hb dX7_net_161 (by decide) ?_
                                    refine lv_icmp_ge (tgt := 192) hx hb dX7_net_162 (by decide) (fun cb_126 => ?_) (fun cb_126 => ?_)
                                    · skip
                                      have cn_127 : 3 ≤ i_115 := (nI_leI (show 3 < 2 ^ 31 by omega) (show i_115 < 2 ^ 31 by omega)).mp cb_126
                                      refine lv_aload_n hx hb dX7_net_192 rfl (lv_at hl 2 rfl) ?_
                                      refine va_get (D := D) (ci := 7) (v := .ref Mn) (C := RX7) (T := TX7) (N := 21) hx hb hts iX7 hown hK hP 3 rfl rfl 10 (by decide) f22 (fun _ h9 => h9) rfl dX7_net_193 ?_
                                      refine lv_iload_n hx hb dX7_net_196 rfl (lv_at hl 1 rfl) ?_
                                      refine ky_Si (As := [.int (nI i_81)]) (rest := [.ref Mn]) ⟨hx, hb, hml, hown, hts⟩ ⟨hK, hN⟩ hZ hP hD hS hA [] [0, 1, 2, 3, 4, 5, 6, 7] (wc := []) (wr := [(Mn, .inl (g 0, 1767, .inl F_116)), (Mr, .inl (g 0, 3, .inl F_31)), (Mh, .inl (g 0, 9, .inl F_47)), (Mm, .inr (7, [.int 0, .ref Mt, .int 0, .int zmax_2, .int zwrx_3, .ref Mrr, .ref Mrh, .ref Mrc, .int (nI rhx_4), .int (nI rcx_5), .ref Mn, .ref Mf, .ref Mr, .ref Mh, .int (nI rhx_4), .int (nI rcx_5), .ref Ma, .ref Mas, .ref Msn, .ref Mac, .ref Mat])), (Mt, .inl (g 0, 160, .inl fmt)), (Mrr, .inl (g 0, 3, .inl frrx_6)), (Mrh, .inl (g 0, 9, .inl frhx_7)), (Mrc, .inl (g 0, 9, .inl frcx_8))]) rfl rfl rfl rfl (by decide) (k_X7_circuitAt l D g H.size i_81 (show i_81 < 3 by omega)) (va_cwS 1 hts gX7_net_X7_circuitAt rfl rfl rfl (by decide +kernel) ⟨(Nat.le_of_ble_eq_true rfl), (Nat.le_of_ble_eq_true rfl)⟩) rfl hl.1 rfl (Nat.le_of_ble_eq_true rfl) dX7_net_197 ⟨(Nat.le_of_ble_eq_true rfl), (Nat.le_of_ble_eq_true rfl)⟩ (fun r_128 u H locs hw hP2 hD2 hS2 => ?_)
                                      clear hP hD hS
                                      obtain ⟨rfl, rfl⟩ := hw
                                      have hPD : PD D A [(Mn, .inl (g 0, 1767, .inl F_116)), (Mr, .inl (g 0, 3, .inl F_31)), (Mh, .inl (g 0, 9, .inl F_47)), (Mm, .inr (7, [.int 0, .ref Mt, .int 0, .int zmax_2, .int zwrx_3, .ref Mrr, .ref Mrh, .ref Mrc, .int (nI rhx_4), .int (nI rcx_5), .ref Mn, .ref Mf, .ref Mr, .ref Mh, .int (nI rhx_4), .int (nI rcx_5), .ref Ma, .ref Mas, .ref Msn, .ref Mac, .ref Mat])), (Mt, .inl (g 0, 160, .inl fmt)), (Mrr, .inl (g 0, 3, .inl frrx_6)), (Mrh, .inl (g 0, 9, .inl frhx_7)), (Mrc, .inl (g 0, 9, .inl frcx_8))] H := ⟨hP2, hD2⟩
                                      have hS := hS2; clear hP2 hD2 hS2; have hP := hPD.1; have hD := hPD.2; clear hPD
                                      refine W.widen (k := 0) (n := 0) (Nat.le_of_ble_eq_true rfl) (Nat.le_of_ble_eq_true rfl) ?_
                                      refine lv_bipush (v := 6) hx hb dX7_net_200 (by decide) ?_
                                      refine lv_iadd hx hb dX7_net_202 ?_
                                      refine lv_eqi (y := (nI (201 + 9 * i_81 + 6))) (nI_add (201 + 9 * i_81) (6)) ?_
                                      refine lv_iconst (v := (-1)) hx hb dX7_net_203 (by decide) ?_
                                      refine va_iast hx hb hK hP hD hS 0 0 rfl rfl (vp_in_nI (show 201 + 9 * i_81 + 6 < 1767 by omega) (by decide)) dX7_net_204 (fun H locs hP2 hD2 hS2 => ?_)
                                      clear hP hD hS
                                      have hPD : PD D A [(Mn, .inl (g 0, 1767, .inl (upd F_116 (nI (201 + 9 * i_81 + 6)).toNatClampNeg (-1)))), (Mr, .inl (g 0, 3, .inl F_31)), (Mh, .inl (g 0, 9, .inl F_47)), (Mm, .inr (7, [.int 0, .ref Mt, .int 0, .int zmax_2, .int zwrx_3, .ref Mrr, .ref Mrh, .ref Mrc, .int (nI rhx_4), .int (nI rcx_5), .ref Mn, .ref Mf, .ref Mr, .ref Mh, .int (nI rhx_4), .int (nI rcx_5), .ref Ma, .ref Mas, .ref Msn, .ref Mac, .ref Mat])), (Mt, .inl (g 0, 160, .inl fmt)), (Mrr, .inl (g 0, 3, .inl frrx_6)), (Mrh, .inl (g 0, 9, .inl frhx_7)), (Mrc, .inl (g 0, 9, .inl frcx_8))] H := ⟨hP2, hD2⟩
                                      have hS := hS2; clear hP2 hD2 hS2; have hP := hPD.1; have hD := hPD.2; clear hPD
                                      rw [nI_clamp (show 201 + 9 * i_81 + 6 < 2 ^ 31 by omega)] at hP hD
                                      have hPD : PD D A [(Mn, .inl (g 0, 1767, .inl (upd F_116 (201 + 9 * i_81 + 6) (-1)))), (Mr, .inl (g 0, 3, .inl F_31)), (Mh, .inl (g 0, 9, .inl F_47)), (Mm, .inr (7, [.int 0, .ref Mt, .int 0, .int zmax_2, .int zwrx_3, .ref Mrr, .ref Mrh, .ref Mrc, .int (nI rhx_4), .int (nI rcx_5), .ref Mn, .ref Mf, .ref Mr, .ref Mh, .int (nI rhx_4), .int (nI rcx_5), .ref Ma, .ref Mas, .ref Msn, .ref Mac, .ref Mat])), (Mt, .inl (g 0, 160, .inl fmt)), (Mrr, .inl (g 0, 3, .inl frrx_6)), (Mrh, .inl (g 0, 9, .inl frhx_7)), (Mrc, .inl (g 0, 9, .inl frcx_8))] H := ⟨hP, hD⟩
                                      clear hP hD; have hP := hPD.1; have hD := hPD.2; clear hPD
                                      have hF_129 : mOK tb ub (upd F_116 (201 + 9 * i_81 + 6) (-1)) := mOK_free hF_116 (show mfree (201 + 9 * i_81 + 6) by unfold mfree; omega)
                                      generalize upd F_116 (201 + 9 * i_81 + 6) (-1) = F_129 at hP hD hF_129
                                      refine lv_iinc (v := (nI (i_81 + 1))) (lv' := [(1, .int (nI (i_81 + 1))), (2, .int (nI i_115)), (0, .ref Mm)]) hx hb dX7_net_205 hl (k := 1) rfl (nI_1 (i_81)) (by decide) rfl (fun ls hl => ?_)
                                      refine lv_goto (tgt := 150) hx hb dX7_net_208 (by decide) ?_
                                      exact loop_108_ih (i_81 + 1) F_129 (hF_129) (show (i_81 + 1) ≤ rcx_5 by omega) (show rcx_5 - (i_81 + 1) < Nloop_108 by omega) _ _ _ hP hD hS (lv_sub hl [0, 2] rfl)
                                    · skip
                                      have cn_130 : i_115 < 3 := Nat.lt_of_not_le (fun q9 => cb_126 ((nI_leI (show 3 < 2 ^ 31 by omega) (show i_115 < 2 ^ 31 by omega)).mpr q9))
                                      refine lv_aload_n hx hb dX7_net_165 rfl (lv_at hl 2 rfl) ?_
                                      refine va_get (D := D) (ci := 7) (v := .ref Mn) (C := RX7) (T := TX7) (N := 21) hx hb hts iX7 hown hK hP 3 rfl rfl 10 (by decide) f22 (fun _ h9 => h9) rfl dX7_net_166 ?_
                                      refine lv_iload_n hx hb dX7_net_169 rfl (lv_at hl 1 rfl) ?_
                                      refine ky_Si (As := [.int (nI i_81)]) (rest := [.ref Mn]) ⟨hx, hb, hml, hown, hts⟩ ⟨hK, hN⟩ hZ hP hD hS hA [] [0, 1, 2, 3, 4, 5, 6, 7] (wc := []) (wr := [(Mn, .inl (g 0, 1767, .inl F_116)), (Mr, .inl (g 0, 3, .inl F_31)), (Mh, .inl (g 0, 9, .inl F_47)), (Mm, .inr (7, [.int 0, .ref Mt, .int 0, .int zmax_2, .int zwrx_3, .ref Mrr, .ref Mrh, .ref Mrc, .int (nI rhx_4), .int (nI rcx_5), .ref Mn, .ref Mf, .ref Mr, .ref Mh, .int (nI rhx_4), .int (nI rcx_5), .ref Ma, .ref Mas, .ref Msn, .ref Mac, .ref Mat])), (Mt, .inl (g 0, 160, .inl fmt)), (Mrr, .inl (g 0, 3, .inl frrx_6)), (Mrh, .inl (g 0, 9, .inl frhx_7)), (Mrc, .inl (g 0, 9, .inl frcx_8))]) rfl rfl rfl rfl (by decide) (k_X7_circuitAt l D g H.size i_81 (show i_81 < 3 by omega)) (va_cwS 1 hts gX7_net_X7_circuitAt rfl rfl rfl (by decide +kernel) ⟨(Nat.le_of_ble_eq_true rfl), (Nat.le_of_ble_eq_true rfl)⟩) rfl hl.1 rfl (Nat.le_of_ble_eq_true rfl) dX7_net_170 ⟨(Nat.le_of_ble_eq_true rfl), (Nat.le_of_ble_eq_true rfl)⟩ (fun r_131 u H locs hw hP2 hD2 hS2 => ?_)
                                      clear hP hD hS
                                      obtain ⟨rfl, rfl⟩ := hw
                                      have hPD : PD D A [(Mn, .inl (g 0, 1767, .inl F_116)), (Mr, .inl (g 0, 3, .inl F_31)), (Mh, .inl (g 0, 9, .inl F_47)), (Mm, .inr (7, [.int 0, .ref Mt, .int 0, .int zmax_2, .int zwrx_3, .ref Mrr, .ref Mrh, .ref Mrc, .int (nI rhx_4), .int (nI rcx_5), .ref Mn, .ref Mf, .ref Mr, .ref Mh, .int (nI rhx_4), .int (nI rcx_5), .ref Ma, .ref Mas, .ref Msn, .ref Mac, .ref Mat])), (Mt, .inl (g 0, 160, .inl fmt)), (Mrr, .inl (g 0, 3, .inl frrx_6)), (Mrh, .inl (g 0, 9, .inl frhx_7)), (Mrc, .inl (g 0, 9, .inl frcx_8))] H := ⟨hP2, hD2⟩
                                      have hS := hS2; clear hP2 hD2 hS2; have hP := hPD.1; have hD := hPD.2; clear hPD
                                      refine W.widen (k := 0) (n := 0) (Nat.le_of_ble_eq_true rfl) (Nat.le_of_ble_eq_true rfl) ?_
                                      refine lv_iload_n hx hb dX7_net_173 rfl (lv_at hl 0 rfl) ?_
                                      refine lv_iadd hx hb dX7_net_174 ?_
                                      refine lv_eqi (y := (nI (201 + 9 * i_81 + i_115))) (nI_add (201 + 9 * i_81) (i_115)) ?_
                                      refine lv_aload_n hx hb dX7_net_175 rfl (lv_at hl 2 rfl) ?_
                                      refine va_get (D := D) (ci := 7) (v := .ref Mrc) (C := RX7) (T := TX7) (N := 21) hx hb hts iX7 hown hK hP 3 rfl rfl 7 (by decide) f19 (fun _ h9 => h9) rfl dX7_net_176 ?_
                                      refine lv_iconst (v := 3) hx hb dX7_net_179 (by decide) ?_
                                      refine lv_iload_n hx hb dX7_net_180 rfl (lv_at hl 1 rfl) ?_
                                      refine lv_imul hx hb dX7_net_181 ?_
                                      refine lv_eqi (y := (nI (3 * i_81))) (pk_mul (3) (i_81)) ?_
                                      refine lv_iload_n hx hb dX7_net_182 rfl (lv_at hl 0 rfl) ?_
                                      refine lv_iadd hx hb dX7_net_183 ?_
                                      refine lv_eqi (y := (nI (3 * i_81 + i_115))) (nI_add (3 * i_81) (i_115)) ?_
                                      refine va_iald hx hb hK hP 7 0 rfl rfl (vp_in_nI (show 3 * i_81 + i_115 < 9 by omega) (by decide)) dX7_net_184 ?_
                                      refine lv_eqi (y := (frcx_8 (3 * i_81 + i_115))) (congrArg frcx_8 (nI_clamp (show 3 * i_81 + i_115 < 2 ^ 31 by omega))) ?_
                                      obtain ⟨n_132, hn_132, q9⟩ := hf_9.2.2.1 (3 * i_81 + i_115)
                                      refine lv_eqi (y := nI n_132) q9 ?_
                                      refine va_iast hx hb hK hP hD hS 0 0 rfl rfl (vp_in_nI (show 201 + 9 * i_81 + i_115 < 1767 by omega) (by decide)) dX7_net_185 (fun H locs hP2 hD2 hS2 => ?_)
                                      clear hP hD hS
                                      have hPD : PD D A [(Mn, .inl (g 0, 1767, .inl (upd F_116 (nI (201 + 9 * i_81 + i_115)).toNatClampNeg (nI n_132)))), (Mr, .inl (g 0, 3, .inl F_31)), (Mh, .inl (g 0, 9, .inl F_47)), (Mm, .inr (7, [.int 0, .ref Mt, .int 0, .int zmax_2, .int zwrx_3, .ref Mrr, .ref Mrh, .ref Mrc, .int (nI rhx_4), .int (nI rcx_5), .ref Mn, .ref Mf, .ref Mr, .ref Mh, .int (nI rhx_4), .int (nI rcx_5), .ref Ma, .ref Mas, .ref Msn, .ref Mac, .ref Mat])), (Mt, .inl (g 0, 160, .inl fmt)), (Mrr, .inl (g 0, 3, .inl frrx_6)), (Mrh, .inl (g 0, 9, .inl frhx_7)), (Mrc, .inl (g 0, 9, .inl frcx_8))] H := ⟨hP2, hD2⟩
                                      have hS := hS2; clear hP2 hD2 hS2; have hP := hPD.1; have hD := hPD.2; clear hPD
                                      rw [nI_clamp (show 201 + 9 * i_81 + i_115 < 2 ^ 31 by omega)] at hP hD
                                      have hPD : PD D A [(Mn, .inl (g 0, 1767, .inl (upd F_116 (201 + 9 * i_81 + i_115) (nI n_132)))), (Mr, .inl (g 0, 3, .inl F_31)), (Mh, .inl (g 0, 9, .inl F_47)), (Mm, .inr (7, [.int 0, .ref Mt, .int 0, .int zmax_2, .int zwrx_3, .ref Mrr, .ref Mrh, .ref Mrc, .int (nI rhx_4), .int (nI rcx_5), .ref Mn, .ref Mf, .ref Mr, .ref Mh, .int (nI rhx_4), .int (nI rcx_5), .ref Ma, .ref Mas, .ref Msn, .ref Mac, .ref Mat])), (Mt, .inl (g 0, 160, .inl fmt)), (Mrr, .inl (g 0, 3, .inl frrx_6)), (Mrh, .inl (g 0, 9, .inl frhx_7)), (Mrc, .inl (g 0, 9, .inl frcx_8))] H := ⟨hP, hD⟩
                                      clear hP hD; have hP := hPD.1; have hD := hPD.2; clear hPD
                                      have hF_133 : mOK tb ub (upd F_116 (201 + 9 * i_81 + i_115) (nI n_132)) := mOK_free hF_116 (show mfree (201 + 9 * i_81 + i_115) by unfold mfree; omega)
                                      generalize upd F_116 (201 + 9 * i_81 + i_115) (nI n_132) = F_133 at hP hD hF_133
                                      refine lv_iinc (v := (nI (i_115 + 1))) (lv' := [(2, .int (nI (i_115 + 1))), (1, .int (nI i_81)), (0, .ref Mm)]) hx hb dX7_net_186 hl (k := 0) rfl (nI_1 (i_115)) (by decide) rfl (fun ls hl => ?_)
                                      refine lv_goto (tgt := 160) hx hb dX7_net_189 (by decide) ?_
                                      exact loop_125_ih (i_115 + 1) F_133 (hF_133) (show (i_115 + 1) ≤ 3 by omega) (show 3 - (i_115 + 1) < Nloop_125 by omega) _ _ _ hP hD hS hl
                                exact loop_125 _ 0 F_82 (hF_82) (show 0 ≤ 3 by omega) (Nat.lt_succ_self _) _ _ _ hP hD hS hl
                          exact loop_108 _ 0 F_46 (hF_46) (show 0 ≤ rcx_5 by omega) (Nat.lt_succ_self _) _ _ _ hP hD hS hl
                        · skip
                          have cn_134 : i_45 < rhx_4 := Nat.lt_of_not_le (fun q9 => cb_57 ((nI_leI (show rhx_4 < 2 ^ 31 by omega) (show i_45 < 2 ^ 31 by omega)).mpr q9))
                          refine lv_aload_n hx hb dX7_net_137 rfl (lv_at hl 1 rfl) ?_
                          refine lv_iload_n hx hb dX7_net_138 rfl (lv_at hl 0 rfl) ?_
                          refine ky_Vv (As := [.int (nI i_45)]) (rest := []) ⟨hx, hb, hml, hown, hts⟩ ⟨hK, hN⟩ hZ hP hD hS hA [3, 0, 2, 1, 6] [4, 5, 7] (wc := [(Mm, .inr (7, [.int 0, .ref Mt, .int 0, .int zmax_2, .int zwrx_3, .ref Mrr, .ref Mrh, .ref Mrc, .int (nI rhx_4), .int (nI rcx_5), .ref Mn, .ref Mf, .ref Mr, .ref Mh, .int (nI rhx_4), .int (nI rcx_5), .ref Ma, .ref Mas, .ref Msn, .ref Mac, .ref Mat])), (Mn, .inl (g 0, 1767, .inl F_46)), (Mh, .inl (g 0, 9, .inl F_47)), (Mr, .inl (g 0, 3, .inl F_31)), (Mrh, .inl (g 0, 9, .inl frhx_7))]) (wr := [(Mt, .inl (g 0, 160, .inl fmt)), (Mrr, .inl (g 0, 3, .inl frrx_6)), (Mrc, .inl (g 0, 9, .inl frcx_8))]) rfl rfl rfl rfl (by decide) (k_X7_laysHop l D g H.size Mm i_45 0 Mt 0 zmax_2 zwrx_3 Mrr Mrh Mrc (nI rhx_4) (nI rcx_5) Mn Mf Mr Mh rhx_4 rcx_5 Ma Mas Msn Mac Mat F_46 F_47 F_31 frhx_7 tb ub (show tb < 2 ^ 29 by omega) (show ub < 2 ^ 29 by omega) (hF_46) (show 1 ≤ rhx_4 by omega) (show rhx_4 ≤ 3 by omega) (show 1 ≤ rcx_5 by omega) (show rcx_5 ≤ 3 by omega) (show i_45 < 3 by omega) (hF_47) (hf_9.2.1) (hF_31)) (cwV 1 hts gX7_net_X7_laysHop rfl rfl rfl (by decide +kernel) ⟨(Nat.le_of_ble_eq_true rfl), (Nat.le_of_ble_eq_true rfl)⟩) 3 7 rfl rfl rfl rfl hl.1 rfl (Nat.le_of_ble_eq_true rfl) dX7_net_139 ⟨(Nat.le_of_ble_eq_true rfl), (Nat.le_of_ble_eq_true rfl)⟩ (fun u H locs hw hP2 hD2 hS2 => ?_)
                          clear hP hD hS
                          obtain ⟨fnox_136, fmhx_137, rfl, hf_138, hf_139⟩ := hw
                          have hPD : PD D A [(Mt, .inl (g 0, 160, .inl fmt)), (Mrr, .inl (g 0, 3, .inl frrx_6)), (Mrc, .inl (g 0, 9, .inl frcx_8)), (Mm, .inr (7, [.int 0, .ref Mt, .int (nI 0), .int zmax_2, .int zwrx_3, .ref Mrr, .ref Mrh, .ref Mrc, .int (nI rhx_4), .int (nI rcx_5), .ref Mn, .ref Mf, .ref Mr, .ref Mh, .int (nI rhx_4), .int (nI rcx_5), .ref Ma, .ref Mas, .ref Msn, .ref Mac, .ref Mat])), (Mn, .inl (g 0, 1767, .inl fnox_136)), (Mh, .inl (g 0, 9, .inl fmhx_137)), (Mr, .inl (g 0, 3, .inl F_31)), (Mrh, .inl (g 0, 9, .inl frhx_7))] H := ⟨hP2, hD2⟩
                          have hS := hS2; clear hP2 hD2 hS2; have hP := hPD.1; have hD := hPD.2; clear hPD
                          refine W.widen (k := 0) (n := 0) (Nat.le_of_ble_eq_true rfl) (Nat.le_of_ble_eq_true rfl) ?_
                          refine lv_iinc (v := (nI (i_45 + 1))) (lv' := [(1, .int (nI (i_45 + 1))), (0, .ref Mm)]) hx hb dX7_net_142 hl (k := 0) rfl (nI_1 (i_45)) (by decide) rfl (fun ls hl => ?_)
                          refine lv_goto (tgt := 129) hx hb dX7_net_145 (by decide) ?_
                          exact loop_56_ih (i_45 + 1) fnox_136 fmhx_137 (hf_138) (hf_139) (show (i_45 + 1) ≤ rhx_4 by omega) (show rhx_4 - (i_45 + 1) < Nloop_56 by omega) _ _ _ (hP.sub [4, 6, 5, 3, 0, 1, 7, 2] rfl) (hD.sub [4, 6, 5, 3, 0, 1, 7, 2] (by decide) rfl) hS hl
                    exact loop_56 _ 0 F_20 fmh (hF_20) (h8) (show 0 ≤ rhx_4 by omega) (Nat.lt_succ_self _) _ _ _ hP hD hS hl
                  · skip
                    have cn_140 : i_30 < 3 := Nat.lt_of_not_le (fun q9 => cb_38 ((nI_leI (show 3 < 2 ^ 31 by omega) (show i_30 < 2 ^ 31 by omega)).mpr q9))
                    refine lv_aload_n hx hb dX7_net_109 rfl (lv_at hl 1 rfl) ?_
                    refine va_get (D := D) (ci := 7) (v := .ref Mr) (C := RX7) (T := TX7) (N := 21) hx hb hts iX7 hown hK hP 3 rfl rfl 12 (by decide) f28 (fun _ h9 => h9) rfl dX7_net_110 ?_
                    refine lv_iload_n hx hb dX7_net_113 rfl (lv_at hl 0 rfl) ?_
                    refine lv_aload_n hx hb dX7_net_114 rfl (lv_at hl 1 rfl) ?_
                    refine va_get (D := D) (ci := 7) (v := .ref Mrr) (C := RX7) (T := TX7) (N := 21) hx hb hts iX7 hown hK hP 3 rfl rfl 5 (by decide) f13 (fun _ h9 => h9) rfl dX7_net_115 ?_
                    refine lv_iload_n hx hb dX7_net_118 rfl (lv_at hl 0 rfl) ?_
                    refine va_iald hx hb hK hP 5 0 rfl rfl (vp_in_nI (show i_30 < 3 by omega) (by decide)) dX7_net_119 ?_
                    refine lv_eqi (y := (frrx_6 (i_30))) (congrArg frrx_6 (nI_clamp (show i_30 < 2 ^ 31 by omega))) ?_
                    obtain ⟨n_141, hn_141, q9⟩ := hf_9.1 (i_30)
                    refine lv_eqi (y := nI n_141) q9 ?_
                    refine va_iast hx hb hK hP hD hS 1 0 rfl rfl (vp_in_nI (show i_30 < 3 by omega) (by decide)) dX7_net_120 (fun H locs hP2 hD2 hS2 => ?_)
                    clear hP hD hS
                    have hPD : PD D A [(Mn, .inl (g 0, 1767, .inl F_20)), (Mr, .inl (g 0, 3, .inl (upd F_31 (nI i_30).toNatClampNeg (nI n_141)))), (Mh, .inl (g 0, 9, .inl fmh)), (Mm, .inr (7, [.int 0, .ref Mt, .int 0, .int zmax_2, .int zwrx_3, .ref Mrr, .ref Mrh, .ref Mrc, .int (nI rhx_4), .int (nI rcx_5), .ref Mn, .ref Mf, .ref Mr, .ref Mh, .int (nI rhx_4), .int (nI rcx_5), .ref Ma, .ref Mas, .ref Msn, .ref Mac, .ref Mat])), (Mt, .inl (g 0, 160, .inl fmt)), (Mrr, .inl (g 0, 3, .inl frrx_6)), (Mrh, .inl (g 0, 9, .inl frhx_7)), (Mrc, .inl (g 0, 9, .inl frcx_8))] H := ⟨hP2, hD2⟩
                    have hS := hS2; clear hP2 hD2 hS2; have hP := hPD.1; have hD := hPD.2; clear hPD
                    rw [nI_clamp (show i_30 < 2 ^ 31 by omega)] at hP hD
                    have hPD : PD D A [(Mn, .inl (g 0, 1767, .inl F_20)), (Mr, .inl (g 0, 3, .inl (upd F_31 (i_30) (nI n_141)))), (Mh, .inl (g 0, 9, .inl fmh)), (Mm, .inr (7, [.int 0, .ref Mt, .int 0, .int zmax_2, .int zwrx_3, .ref Mrr, .ref Mrh, .ref Mrc, .int (nI rhx_4), .int (nI rcx_5), .ref Mn, .ref Mf, .ref Mr, .ref Mh, .int (nI rhx_4), .int (nI rcx_5), .ref Ma, .ref Mas, .ref Msn, .ref Mac, .ref Mat])), (Mt, .inl (g 0, 160, .inl fmt)), (Mrr, .inl (g 0, 3, .inl frrx_6)), (Mrh, .inl (g 0, 9, .inl frhx_7)), (Mrc, .inl (g 0, 9, .inl frcx_8))] H := ⟨hP, hD⟩
                    clear hP hD; have hP := hPD.1; have hD := hPD.2; clear hPD
                    have hF_142 : n1 (upd F_31 (i_30) (nI n_141)) := n1_upd (hF_31) (n := n_141) (show n_141 ≤ 99 by omega)
                    generalize upd F_31 (i_30) (nI n_141) = F_142 at hP hD hF_142
                    refine lv_iinc (v := (nI (i_30 + 1))) (lv' := [(1, .int (nI (i_30 + 1))), (0, .ref Mm)]) hx hb dX7_net_121 hl (k := 0) rfl (nI_1 (i_30)) (by decide) rfl (fun ls hl => ?_)
                    refine lv_goto (tgt := 104) hx hb dX7_net_124 (by decide) ?_
                    exact loop_37_ih (i_30 + 1) F_142 (hF_142) (show (i_30 + 1) ≤ 3 by omega) (show 3 - (i_30 + 1) < Nloop_37 by omega) _ _ _ hP hD hS hl
              exact loop_37 _ 0 fmr (h7) (show 0 ≤ 3 by omega) (Nat.lt_succ_self _) _ _ _ hP hD hS hl
            · skip
              have cn_143 : i_19 < 1767 := Nat.lt_of_not_le (fun q9 => cb_26 ((nI_leI (show 1767 < 2 ^ 31 by omega) (show i_19 < 2 ^ 31 by omega)).mpr q9))
              refine lv_aload_n hx hb dX7_net_89 rfl (lv_at hl 1 rfl) ?_
              refine va_get (D := D) (ci := 7) (v := .ref Mn) (C := RX7) (T := TX7) (N := 21) hx hb hts iX7 hown hK hP 3 rfl rfl 10 (by decide) f22 (fun _ h9 => h9) rfl dX7_net_90 ?_
              refine lv_iload_n hx hb dX7_net_93 rfl (lv_at hl 0 rfl) ?_
              refine lv_iconst (v := 0) hx hb dX7_net_94 (by decide) ?_
              refine va_iast hx hb hK hP hD hS 0 0 rfl rfl (vp_in_nI (show i_19 < 1767 by omega) (by decide)) dX7_net_95 (fun H locs hP2 hD2 hS2 => ?_)
              clear hP hD hS
              have hPD : PD D A [(Mn, .inl (g 0, 1767, .inl (upd F_20 (nI i_19).toNatClampNeg 0))), (Mr, .inl (g 0, 3, .inl fmr)), (Mh, .inl (g 0, 9, .inl fmh)), (Mm, .inr (7, [.int 0, .ref Mt, .int 0, .int zmax_2, .int zwrx_3, .ref Mrr, .ref Mrh, .ref Mrc, .int (nI rhx_4), .int (nI rcx_5), .ref Mn, .ref Mf, .ref Mr, .ref Mh, .int (nI rhx_4), .int (nI rcx_5), .ref Ma, .ref Mas, .ref Msn, .ref Mac, .ref Mat])), (Mt, .inl (g 0, 160, .inl fmt)), (Mrr, .inl (g 0, 3, .inl frrx_6)), (Mrh, .inl (g 0, 9, .inl frhx_7)), (Mrc, .inl (g 0, 9, .inl frcx_8))] H := ⟨hP2, hD2⟩
              have hS := hS2; clear hP2 hD2 hS2; have hP := hPD.1; have hD := hPD.2; clear hPD
              rw [nI_clamp (show i_19 < 2 ^ 31 by omega)] at hP hD
              have hPD : PD D A [(Mn, .inl (g 0, 1767, .inl (upd F_20 (i_19) 0))), (Mr, .inl (g 0, 3, .inl fmr)), (Mh, .inl (g 0, 9, .inl fmh)), (Mm, .inr (7, [.int 0, .ref Mt, .int 0, .int zmax_2, .int zwrx_3, .ref Mrr, .ref Mrh, .ref Mrc, .int (nI rhx_4), .int (nI rcx_5), .ref Mn, .ref Mf, .ref Mr, .ref Mh, .int (nI rhx_4), .int (nI rcx_5), .ref Ma, .ref Mas, .ref Msn, .ref Mac, .ref Mat])), (Mt, .inl (g 0, 160, .inl fmt)), (Mrr, .inl (g 0, 3, .inl frrx_6)), (Mrh, .inl (g 0, 9, .inl frhx_7)), (Mrc, .inl (g 0, 9, .inl frcx_8))] H := ⟨hP, hD⟩
              clear hP hD; have hP := hPD.1; have hD := hPD.2; clear hPD
              have hF_144 : mOK tb ub (upd F_20 (i_19) 0) := mOK_zero hF_20
              generalize upd F_20 (i_19) 0 = F_144 at hP hD hF_144
              refine lv_iinc (v := (nI (i_19 + 1))) (lv' := [(1, .int (nI (i_19 + 1))), (0, .ref Mm)]) hx hb dX7_net_96 hl (k := 0) rfl (nI_1 (i_19)) (by decide) rfl (fun ls hl => ?_)
              refine lv_goto (tgt := 82) hx hb dX7_net_99 (by decide) ?_
              exact loop_25_ih (i_19 + 1) F_144 (hF_144) (show (i_19 + 1) ≤ 1767 by omega) (show 1767 - (i_19 + 1) < Nloop_25 by omega) _ _ _ hP hD hS hl
        exact loop_25 _ 0 fno (h6) (show 0 ≤ 1767 by omega) (Nat.lt_succ_self _) _ _ _ hP hD hS hl
      · skip
        have cn_145 : rcx_5 = 0 := (nI_eq (show rcx_5 < 2 ^ 31 by omega) (show 0 < 2 ^ 31 by omega)).mp cb_16
        refine lv_aload_n hx hb dX7_net_49 rfl (lv_at hl 0 rfl) ?_
        refine lv_iconst (v := 2) hx hb dX7_net_50 (by decide) ?_
        refine lv_aload_n hx hb dX7_net_51 rfl (lv_at hl 0 rfl) ?_
        refine va_get (D := D) (ci := 7) (v := .ref Mrc) (C := RX7) (T := TX7) (N := 21) hx hb hts iX7 hown hK hP 3 rfl rfl 7 (by decide) f19 (fun _ h9 => h9) rfl dX7_net_52 ?_
        refine lv_iconst (v := 0) hx hb dX7_net_55 (by decide) ?_
        refine ky_Vv (As := [.int 2, .ref Mrc, .int 0]) (rest := []) ⟨hx, hb, hml, hown, hts⟩ ⟨hK, hN⟩ hZ hP hD hS hA [3, 7] [0, 1, 2, 4, 5, 6] (wc := [(Mm, .inr (7, [.int 0, .ref Mt, .int 0, .int zmax_2, .int zwrx_3, .ref Mrr, .ref Mrh, .ref Mrc, .int (nI rhx_4), .int (nI rcx_5), .ref Mn, .ref Mf, .ref Mr, .ref Mh, .int (nI hp), .int (nI cc), .ref Ma, .ref Mas, .ref Msn, .ref Mac, .ref Mat])), (Mrc, .inl (g 0, 9, .inl frcx_8))]) (wr := [(Mn, .inl (g 0, 1767, .inl fno)), (Mr, .inl (g 0, 3, .inl fmr)), (Mh, .inl (g 0, 9, .inl fmh)), (Mt, .inl (g 0, 160, .inl fmt)), (Mrr, .inl (g 0, 3, .inl frrx_6)), (Mrh, .inl (g 0, 9, .inl frhx_7))]) rfl rfl rfl rfl (by decide) (k_X7_laysUsual_2 l D g H.size Mm Mrc 0 0 Mt 0 zmax_2 zwrx_3 Mrr Mrh (nI rhx_4) (nI rcx_5) Mn Mf Mr Mh (nI hp) (nI cc) Ma Mas Msn Mac Mat frcx_8 (show 0 ≤ 6 by omega) (hf_9.2.2.1)) (cwV 3 hts gX7_net_X7_laysUsual rfl rfl rfl (by decide +kernel) ⟨(Nat.le_of_ble_eq_true rfl), (Nat.le_of_ble_eq_true rfl)⟩) 3 7 rfl rfl rfl rfl hl.1 rfl (Nat.le_of_ble_eq_true rfl) dX7_net_56 ⟨(Nat.le_of_ble_eq_true rfl), (Nat.le_of_ble_eq_true rfl)⟩ (fun u H locs hw hP2 hD2 hS2 => ?_)
        clear hP hD hS
        obtain ⟨frcx_147, rfl, hf_148⟩ := hw
        have hPD : PD D A [(Mn, .inl (g 0, 1767, .inl fno)), (Mr, .inl (g 0, 3, .inl fmr)), (Mh, .inl (g 0, 9, .inl fmh)), (Mt, .inl (g 0, 160, .inl fmt)), (Mrr, .inl (g 0, 3, .inl frrx_6)), (Mrh, .inl (g 0, 9, .inl frhx_7)), (Mm, .inr (7, [.int 0, .ref Mt, .int 0, .int zmax_2, .int zwrx_3, .ref Mrr, .ref Mrh, .ref Mrc, .int (nI rhx_4), .int (nI rcx_5), .ref Mn, .ref Mf, .ref Mr, .ref Mh, .int (nI hp), .int (nI cc), .ref Ma, .ref Mas, .ref Msn, .ref Mac, .ref Mat])), (Mrc, .inl (g 0, 9, .inl frcx_147))] H := ⟨hP2, hD2⟩
        have hS := hS2; clear hP2 hD2 hS2; have hP := hPD.1; have hD := hPD.2; clear hPD
        refine W.widen (k := 0) (n := 0) (Nat.le_of_ble_eq_true rfl) (Nat.le_of_ble_eq_true rfl) ?_
        refine lv_aload_n hx hb dX7_net_59 rfl (lv_at hl 0 rfl) ?_
        refine lv_iconst (v := 1) hx hb dX7_net_60 (by decide) ?_
        refine va_put (D := D) (ci := 7) (v := .int 1) (ty := .int) (C := RX7) (T := TX7) (N := 21) hx hb hts iX7 tyX7 tyX7_ok nmX7 hown hK hP hD hS 6 rfl rfl 9 (by decide) f114 (fun _ h9 => h9) rfl (by decide +kernel) (rfl) (rfl) (Nat.le_of_ble_eq_true rfl) dX7_net_61 (fun H locs hP2 hD2 hS2 => ?_)
        clear hP hD hS
        have hPD : PD D A [(Mn, .inl (g 0, 1767, .inl fno)), (Mr, .inl (g 0, 3, .inl fmr)), (Mh, .inl (g 0, 9, .inl fmh)), (Mt, .inl (g 0, 160, .inl fmt)), (Mrr, .inl (g 0, 3, .inl frrx_6)), (Mrh, .inl (g 0, 9, .inl frhx_7)), (Mm, .inr (7, [.int 0, .ref Mt, .int 0, .int zmax_2, .int zwrx_3, .ref Mrr, .ref Mrh, .ref Mrc, .int (nI rhx_4), .int 1, .ref Mn, .ref Mf, .ref Mr, .ref Mh, .int (nI hp), .int (nI cc), .ref Ma, .ref Mas, .ref Msn, .ref Mac, .ref Mat])), (Mrc, .inl (g 0, 9, .inl frcx_147))] H := ⟨hP2, hD2⟩
        have hS := hS2; clear hP2 hD2 hS2; have hP := hPD.1; have hD := hPD.2; clear hPD
        refine lv_aload_n hx hb dX7_net_64 rfl (lv_at hl 0 rfl) ?_
        refine lv_aload_n hx hb dX7_net_65 rfl (lv_at hl 0 rfl) ?_
        refine va_get (D := D) (ci := 7) (v := .int (nI rhx_4)) (C := RX7) (T := TX7) (N := 21) hx hb hts iX7 hown hK hP 6 rfl rfl 8 (by decide) f111 (fun _ h9 => h9) rfl dX7_net_66 ?_
        refine va_put (D := D) (ci := 7) (v := .int (nI rhx_4)) (ty := .int) (C := RX7) (T := TX7) (N := 21) hx hb hts iX7 tyX7 tyX7_ok nmX7 hown hK hP hD hS 6 rfl rfl 14 (by decide) f124 (fun _ h9 => h9) rfl (by decide +kernel) (rfl) (rfl) (Nat.le_of_ble_eq_true rfl) dX7_net_69 (fun H locs hP2 hD2 hS2 => ?_)
        clear hP hD hS
        have hPD : PD D A [(Mn, .inl (g 0, 1767, .inl fno)), (Mr, .inl (g 0, 3, .inl fmr)), (Mh, .inl (g 0, 9, .inl fmh)), (Mt, .inl (g 0, 160, .inl fmt)), (Mrr, .inl (g 0, 3, .inl frrx_6)), (Mrh, .inl (g 0, 9, .inl frhx_7)), (Mm, .inr (7, [.int 0, .ref Mt, .int 0, .int zmax_2, .int zwrx_3, .ref Mrr, .ref Mrh, .ref Mrc, .int (nI rhx_4), .int 1, .ref Mn, .ref Mf, .ref Mr, .ref Mh, .int (nI rhx_4), .int (nI cc), .ref Ma, .ref Mas, .ref Msn, .ref Mac, .ref Mat])), (Mrc, .inl (g 0, 9, .inl frcx_147))] H := ⟨hP2, hD2⟩
        have hS := hS2; clear hP2 hD2 hS2; have hP := hPD.1; have hD := hPD.2; clear hPD
        refine lv_aload_n hx hb dX7_net_72 rfl (lv_at hl 0 rfl) ?_
        refine lv_aload_n hx hb dX7_net_73 rfl (lv_at hl 0 rfl) ?_
        refine va_get (D := D) (ci := 7) (v := .int 1) (C := RX7) (T := TX7) (N := 21) hx hb hts iX7 hown hK hP 6 rfl rfl 9 (by decide) f114 (fun _ h9 => h9) rfl dX7_net_74 ?_
        refine va_put (D := D) (ci := 7) (v := .int 1) (ty := .int) (C := RX7) (T := TX7) (N := 21) hx hb hts iX7 tyX7 tyX7_ok nmX7 hown hK hP hD hS 6 rfl rfl 15 (by decide) f127 (fun _ h9 => h9) rfl (by decide +kernel) (rfl) (rfl) (Nat.le_of_ble_eq_true rfl) dX7_net_77 (fun H locs hP2 hD2 hS2 => ?_)
        clear hP hD hS
        have hPD : PD D A [(Mn, .inl (g 0, 1767, .inl fno)), (Mr, .inl (g 0, 3, .inl fmr)), (Mh, .inl (g 0, 9, .inl fmh)), (Mt, .inl (g 0, 160, .inl fmt)), (Mrr, .inl (g 0, 3, .inl frrx_6)), (Mrh, .inl (g 0, 9, .inl frhx_7)), (Mm, .inr (7, [.int 0, .ref Mt, .int 0, .int zmax_2, .int zwrx_3, .ref Mrr, .ref Mrh, .ref Mrc, .int (nI rhx_4), .int 1, .ref Mn, .ref Mf, .ref Mr, .ref Mh, .int (nI rhx_4), .int 1, .ref Ma, .ref Mas, .ref Msn, .ref Mac, .ref Mat])), (Mrc, .inl (g 0, 9, .inl frcx_147))] H := ⟨hP2, hD2⟩
        have hS := hS2; clear hP2 hD2 hS2; have hP := hPD.1; have hD := hPD.2; clear hPD
        refine lv_iconst (v := 0) hx hb dX7_net_80 (by decide) ?_
        refine lv_istore_n (lv' := [(1, .int 0), (0, .ref Mm)]) hx hb dX7_net_81 rfl hl (by decide) rfl (fun ls hl => ?_)
        have loop_156 : ∀ (Nloop_156 : Nat) (i_150 : Nat) (F_151 : Nat → Int32) (hF_151 : mOK tb ub F_151) (hbi_150 : i_150 ≤ 1767) (hmloop_156 : 1767 - i_150 < Nloop_156) (H : Heap) (locs : List Loc) (ls : Array Slot), va_P D vwCl [(Mn, .inl (g 0, 1767, .inl F_151)), (Mr, .inl (g 0, 3, .inl fmr)), (Mh, .inl (g 0, 9, .inl fmh)), (Mt, .inl (g 0, 160, .inl fmt)), (Mrr, .inl (g 0, 3, .inl frrx_6)), (Mrh, .inl (g 0, 9, .inl frhx_7)), (Mm, .inr (7, [.int 0, .ref Mt, .int 0, .int zmax_2, .int zwrx_3, .ref Mrr, .ref Mrh, .ref Mrc, .int (nI rhx_4), .int 1, .ref Mn, .ref Mf, .ref Mr, .ref Mh, .int (nI rhx_4), .int 1, .ref Ma, .ref Mas, .ref Msn, .ref Mac, .ref Mat])), (Mrc, .inl (g 0, 9, .inl frcx_147))] H → va_D A [(Mn, .inl (g 0, 1767, .inl F_151)), (Mr, .inl (g 0, 3, .inl fmr)), (Mh, .inl (g 0, 9, .inl fmh)), (Mt, .inl (g 0, 160, .inl fmt)), (Mrr, .inl (g 0, 3, .inl frrx_6)), (Mrh, .inl (g 0, 9, .inl frhx_7)), (Mm, .inr (7, [.int 0, .ref Mt, .int 0, .int zmax_2, .int zwrx_3, .ref Mrr, .ref Mrh, .ref Mrc, .int (nI rhx_4), .int 1, .ref Mn, .ref Mf, .ref Mr, .ref Mh, .int (nI rhx_4), .int 1, .ref Ma, .ref Mas, .ref Msn, .ref Mac, .ref Mat])), (Mrc, .inl (g 0, 9, .inl frcx_147))] → va_S A s.heap H locs → lv_has ls 3 [(1, .int (nI i_150)), (0, .ref Mm)] → W p l e (headSpec wsX7_net ({ frames := 6, cells := 0, slots := 0, locals := 133 })).room s m ([.ref Mm] : List Value).toArray below meth c H locs 0 0 Q (F0 m 82 ls []) := by
          clear hP hD hS hl
          intro Nloop_156
          induction Nloop_156 with
          | zero => intro i_150 F_151 hF_151 hbi_150 hm9; exact absurd hm9 (Nat.not_lt_zero _)
          | succ Nloop_156 loop_156_ih =>
            intro i_150 F_151 hF_151 hbi_150 hmloop_156 H locs ls hP hD hS hl
            refine lv_iload_n hx hb dX7_net_82 rfl (lv_at hl 0 rfl) ?_
            refine lv_sipush (v := 1767) hx hb dX7_net_83 (by decide) ?_
            refine lv_icmp_ge (tgt := 102) hx hb dX7_net_86 (by decide) (fun cb_157 => ?_) (fun cb_157 => ?_)
            · skip
              have cn_158 : 1767 ≤ i_150 := (nI_leI (show 1767 < 2 ^ 31 by omega) (show i_150 < 2 ^ 31 by omega)).mp cb_157
              refine lv_iconst (v := 0) hx hb dX7_net_102 (by decide) ?_
              refine lv_istore_n (lv' := [(1, .int 0), (0, .ref Mm)]) hx hb dX7_net_103 rfl hl (by decide) rfl (fun ls hl => ?_)
              have loop_168 : ∀ (Nloop_168 : Nat) (i_161 : Nat) (F_162 : Nat → Int32) (hF_162 : n1 F_162) (hbi_161 : i_161 ≤ 3) (hmloop_168 : 3 - i_161 < Nloop_168) (H : Heap) (locs : List Loc) (ls : Array Slot), va_P D vwCl [(Mn, .inl (g 0, 1767, .inl F_151)), (Mr, .inl (g 0, 3, .inl F_162)), (Mh, .inl (g 0, 9, .inl fmh)), (Mt, .inl (g 0, 160, .inl fmt)), (Mrr, .inl (g 0, 3, .inl frrx_6)), (Mrh, .inl (g 0, 9, .inl frhx_7)), (Mm, .inr (7, [.int 0, .ref Mt, .int 0, .int zmax_2, .int zwrx_3, .ref Mrr, .ref Mrh, .ref Mrc, .int (nI rhx_4), .int 1, .ref Mn, .ref Mf, .ref Mr, .ref Mh, .int (nI rhx_4), .int 1, .ref Ma, .ref Mas, .ref Msn, .ref Mac, .ref Mat])), (Mrc, .inl (g 0, 9, .inl frcx_147))] H → va_D A [(Mn, .inl (g 0, 1767, .inl F_151)), (Mr, .inl (g 0, 3, .inl F_162)), (Mh, .inl (g 0, 9, .inl fmh)), (Mt, .inl (g 0, 160, .inl fmt)), (Mrr, .inl (g 0, 3, .inl frrx_6)), (Mrh, .inl (g 0, 9, .inl frhx_7)), (Mm, .inr (7, [.int 0, .ref Mt, .int 0, .int zmax_2, .int zwrx_3, .ref Mrr, .ref Mrh, .ref Mrc, .int (nI rhx_4), .int 1, .ref Mn, .ref Mf, .ref Mr, .ref Mh, .int (nI rhx_4), .int 1, .ref Ma, .ref Mas, .ref Msn, .ref Mac, .ref Mat])), (Mrc, .inl (g 0, 9, .inl frcx_147))] → va_S A s.heap H locs → lv_has ls 3 [(1, .int (nI i_161)), (0, .ref Mm)] → W p l e (headSpec wsX7_net ({ frames := 6, cells := 0, slots := 0, locals := 133 })).room s m ([.ref Mm] : List Value).toArray below meth c H locs 0 0 Q (F0 m 104 ls []) := by
                clear hP hD hS hl
                intro Nloop_168
                induction Nloop_168 with
                | zero => intro i_161 F_162 hF_162 hbi_161 hm9; exact absurd hm9 (Nat.not_lt_zero _)
                | succ Nloop_168 loop_168_ih =>
                  intro i_161 F_162 hF_162 hbi_161 hmloop_168 H locs ls hP hD hS hl
                  refine lv_iload_n hx hb dX7_net_104 rfl (lv_at hl 0 rfl) ?_
                  refine lv_iconst (v := 3) hx hb dX7_net_105 (by decide) ?_
                  refine lv_icmp_ge (tgt := 127) hx hb dX7_net_106 (by decide) (fun cb_169 => ?_) (fun cb_169 => ?_)
                  · skip
                    have cn_170 : 3 ≤ i_161 := (nI_leI (show 3 < 2 ^ 31 by omega) (show i_161 < 2 ^ 31 by omega)).mp cb_169
                    refine lv_iconst (v := 0) hx hb dX7_net_127 (by decide) ?_
                    refine lv_istore_n (lv' := [(1, .int 0), (0, .ref Mm)]) hx hb dX7_net_128 rfl hl (by decide) rfl (fun ls hl => ?_)
                    have loop_187 : ∀ (Nloop_187 : Nat) (i_176 : Nat) (F_177 : Nat → Int32) (F_178 : Nat → Int32) (hF_177 : mOK tb ub F_177) (hF_178 : n3 F_178) (hbi_176 : i_176 ≤ rhx_4) (hmloop_187 : rhx_4 - i_176 < Nloop_187) (H : Heap) (locs : List Loc) (ls : Array Slot), va_P D vwCl [(Mn, .inl (g 0, 1767, .inl F_177)), (Mr, .inl (g 0, 3, .inl F_162)), (Mh, .inl (g 0, 9, .inl F_178)), (Mt, .inl (g 0, 160, .inl fmt)), (Mrr, .inl (g 0, 3, .inl frrx_6)), (Mrh, .inl (g 0, 9, .inl frhx_7)), (Mm, .inr (7, [.int 0, .ref Mt, .int 0, .int zmax_2, .int zwrx_3, .ref Mrr, .ref Mrh, .ref Mrc, .int (nI rhx_4), .int 1, .ref Mn, .ref Mf, .ref Mr, .ref Mh, .int (nI rhx_4), .int 1, .ref Ma, .ref Mas, .ref Msn, .ref Mac, .ref Mat])), (Mrc, .inl (g 0, 9, .inl frcx_147))] H → va_D A [(Mn, .inl (g 0, 1767, .inl F_177)), (Mr, .inl (g 0, 3, .inl F_162)), (Mh, .inl (g 0, 9, .inl F_178)), (Mt, .inl (g 0, 160, .inl fmt)), (Mrr, .inl (g 0, 3, .inl frrx_6)), (Mrh, .inl (g 0, 9, .inl frhx_7)), (Mm, .inr (7, [.int 0, .ref Mt, .int 0, .int zmax_2, .int zwrx_3, .ref Mrr, .ref Mrh, .ref Mrc, .int (nI rhx_4), .int 1, .ref Mn, .ref Mf, .ref Mr, .ref Mh, .int (nI rhx_4), .int 1, .ref Ma, .ref Mas, .ref Msn, .ref Mac, .ref Mat])), (Mrc, .inl (g 0, 9, .inl frcx_147))] → va_S A s.heap H locs → lv_has ls 3 [(1, .int (nI i_176)), (0, .ref Mm)] → W p l e (headSpec wsX7_net ({ frames := 6, cells := 0, slots := 0, locals := 133 })).room s m ([.ref Mm] : List Value).toArray below meth c H locs 0 0 Q (F0 m 129 ls []) := by
                      clear hP hD hS hl
                      intro Nloop_187
                      induction Nloop_187 with
                      | zero => intro i_176 F_177 F_178 hF_177 hF_178 hbi_176 hm9; exact absurd hm9 (Nat.not_lt_zero _)
                      | succ Nloop_187 loop_187_ih =>
                        intro i_176 F_177 F_178 hF_177 hF_178 hbi_176 hmloop_187 H locs ls hP hD hS hl
                        refine lv_iload_n hx hb dX7_net_129 rfl (lv_at hl 0 rfl) ?_
                        refine lv_aload_n hx hb dX7_net_130 rfl (lv_at hl 1 rfl) ?_
                        refine va_get (D := D) (ci := 7) (v := .int (nI rhx_4)) (C := RX7) (T := TX7) (N := 21) hx hb hts iX7 hown hK hP 6 rfl rfl 14 (by decide) f124 (fun _ h9 => h9) rfl dX7_net_131 ?_
                        refine lv_icmp_ge (tgt := 148) hx hb dX7_net_134 (by decide) (fun cb_188 => ?_) (fun cb_188 => ?_)
                        · skip
                          have cn_189 : rhx_4 ≤ i_176 := (nI_leI (show rhx_4 < 2 ^ 31 by omega) (show i_176 < 2 ^ 31 by omega)).mp cb_188
                          refine lv_iconst (v := 0) hx hb dX7_net_148 (by decide) ?_
                          refine lv_istore_n (lv' := [(1, .int 0), (0, .ref Mm)]) hx hb dX7_net_149 rfl hl (by decide) rfl (fun ls hl => ?_)
                          have loop_239 : ∀ (Nloop_239 : Nat) (i_212 : Nat) (F_213 : Nat → Int32) (hF_213 : mOK tb ub F_213) (hbi_212 : i_212 ≤ 1) (hmloop_239 : 1 - i_212 < Nloop_239) (H : Heap) (locs : List Loc) (ls : Array Slot), va_P D vwCl [(Mn, .inl (g 0, 1767, .inl F_213)), (Mr, .inl (g 0, 3, .inl F_162)), (Mh, .inl (g 0, 9, .inl F_178)), (Mt, .inl (g 0, 160, .inl fmt)), (Mrr, .inl (g 0, 3, .inl frrx_6)), (Mrh, .inl (g 0, 9, .inl frhx_7)), (Mm, .inr (7, [.int 0, .ref Mt, .int 0, .int zmax_2, .int zwrx_3, .ref Mrr, .ref Mrh, .ref Mrc, .int (nI rhx_4), .int 1, .ref Mn, .ref Mf, .ref Mr, .ref Mh, .int (nI rhx_4), .int 1, .ref Ma, .ref Mas, .ref Msn, .ref Mac, .ref Mat])), (Mrc, .inl (g 0, 9, .inl frcx_147))] H → va_D A [(Mn, .inl (g 0, 1767, .inl F_213)), (Mr, .inl (g 0, 3, .inl F_162)), (Mh, .inl (g 0, 9, .inl F_178)), (Mt, .inl (g 0, 160, .inl fmt)), (Mrr, .inl (g 0, 3, .inl frrx_6)), (Mrh, .inl (g 0, 9, .inl frhx_7)), (Mm, .inr (7, [.int 0, .ref Mt, .int 0, .int zmax_2, .int zwrx_3, .ref Mrr, .ref Mrh, .ref Mrc, .int (nI rhx_4), .int 1, .ref Mn, .ref Mf, .ref Mr, .ref Mh, .int (nI rhx_4), .int 1, .ref Ma, .ref Mas, .ref Msn, .ref Mac, .ref Mat])), (Mrc, .inl (g 0, 9, .inl frcx_147))] → va_S A s.heap H locs → lv_has ls 3 [(1, .int (nI i_212)), (0, .ref Mm)] → W p l e (headSpec wsX7_net ({ frames := 6, cells := 0, slots := 0, locals := 133 })).room s m ([.ref Mm] : List Value).toArray below meth c H locs 0 0 Q (F0 m 150 ls []) := by
                            clear hP hD hS hl
                            intro Nloop_239
                            induction Nloop_239 with
                            | zero => intro i_212 F_213 hF_213 hbi_212 hm9; exact absurd hm9 (Nat.not_lt_zero _)
                            | succ Nloop_239 loop_239_ih =>
                              intro i_212 F_213 hF_213 hbi_212 hmloop_239 H locs ls hP hD hS hl
                              refine lv_iload_n hx hb dX7_net_150 rfl (lv_at hl 0 rfl) ?_
                              refine lv_aload_n hx hb dX7_net_151 rfl (lv_at hl 1 rfl) ?_
                              refine va_get (D := D) (ci := 7) (v := .int 1) (C := RX7) (T := TX7) (N := 21) hx hb hts iX7 hown hK hP 6 rfl rfl 15 (by decide) f127 (fun _ h9 => h9) rfl dX7_net_152 ?_
                              refine lv_icmp_ge (tgt := 211) hx hb dX7_net_155 (by decide) (fun cb_240 => ?_) (fun cb_240 => ?_)
                              · skip
                                have cn_241 : 1 ≤ i_212 := (nI_leI (show 1 < 2 ^ 31 by omega) (show i_212 < 2 ^ 31 by omega)).mp cb_240
                                refine lv_aload_n hx hb dX7_net_211 rfl (lv_at hl 1 rfl) ?_
                                refine va_get (D := D) (ci := 7) (v := .int 1) (C := RX7) (T := TX7) (N := 21) hx hb hts iX7 hown hK hP 6 rfl rfl 15 (by decide) f127 (fun _ h9 => h9) rfl dX7_net_212 ?_
                                have hPD9 : PD D A [(Mm, .inr (7, [.int 0, .ref Mt, .int 0, .int zmax_2, .int zwrx_3, .ref Mrr, .ref Mrh, .ref Mrc, .int (nI rhx_4), .int 1, .ref Mn, .ref Mf, .ref Mr, .ref Mh, .int (nI rhx_4), .int 1, .ref Ma, .ref Mas, .ref Msn, .ref Mac, .ref Mat])), (Mt, .inl (g 0, 160, .inl fmt)), (Mrr, .inl (g 0, 3, .inl frrx_6)), (Mrh, .inl (g 0, 9, .inl frhx_7)), (Mrc, .inl (g 0, 9, .inl frcx_147)), (Mn, .inl (g 0, 1767, .inl F_213)), (Mr, .inl (g 0, 3, .inl F_162)), (Mh, .inl (g 0, 9, .inl F_178))] H := ⟨hP.sub [6, 3, 4, 5, 7, 0, 1, 2] rfl, hD.sub [6, 3, 4, 5, 7, 0, 1, 2] (by decide) rfl⟩
                                have hP9 := hPD9.1; have hD9 := hPD9.2
                                subst hQ
                                refine W.widen (k := 0) (n := 0) (Nat.le_of_ble_eq_true rfl) (Nat.le_of_ble_eq_true rfl) ?_
                                exact W.iret (v := 1) hx hb hr (fun tS htS _ => ⟨⟨_, _, rfl, ⟨(lf2 [frrx_6, frhx_7, frcx_147, F_213, F_162, F_178]), 0, 0, zmax_2, zwrx_3, (nI rhx_4), 1, rhx_4, 1, rfl, ⟨(hf_9.1), (hf_9.2.1), (hf_148), (hF_213), (hF_162), (hF_178), (show rhx_4 ≤ 3 by omega), (show 1 ≤ 3 by omega), (show (rhx_4 = 0 ∧ 1 = 0) ∨ (1 ≤ rhx_4 ∧ 1 ≤ 1) by omega), (show 0 ≤ 160 by omega)⟩⟩, by rw [htS]; exact hP9, hD9⟩, hS.F htS⟩) hS.2.2 dX7_net_215
                              · skip
                                have cn_242 : i_212 < 1 := Nat.lt_of_not_le (fun q9 => cb_240 ((nI_leI (show 1 < 2 ^ 31 by omega) (show i_212 < 2 ^ 31 by omega)).mpr q9))
                                refine lv_iconst (v := 0) hx hb dX7_net_158 (by decide) ?_
                                refine lv_istore_n (lv' := [(2, .int 0), (1, .int (nI i_212)), (0, .ref Mm)]) hx hb dX7_net_159 rfl hl (by decide) rfl (fun ls hl => ?_)
                                have loop_256 : ∀ (Nloop_256 : Nat) (i_246 : Nat) (F_247 : Nat → Int32) (hF_247 : mOK tb ub F_247) (hbi_246 : i_246 ≤ 3) (hmloop_256 : 3 - i_246 < Nloop_256) (H : Heap) (locs : List Loc) (ls : Array Slot), va_P D vwCl [(Mn, .inl (g 0, 1767, .inl F_247)), (Mr, .inl (g 0, 3, .inl F_162)), (Mh, .inl (g 0, 9, .inl F_178)), (Mt, .inl (g 0, 160, .inl fmt)), (Mrr, .inl (g 0, 3, .inl frrx_6)), (Mrh, .inl (g 0, 9, .inl frhx_7)), (Mm, .inr (7, [.int 0, .ref Mt, .int 0, .int zmax_2, .int zwrx_3, .ref Mrr, .ref Mrh, .ref Mrc, .int (nI rhx_4), .int 1, .ref Mn, .ref Mf, .ref Mr, .ref Mh, .int (nI rhx_4), .int 1, .ref Ma, .ref Mas, .ref Msn, .ref Mac, .ref Mat])), (Mrc, .inl (g 0, 9, .inl frcx_147))] H → va_D A [(Mn, .inl (g 0, 1767, .inl F_247)), (Mr, .inl (g 0, 3, .inl F_162)), (Mh, .inl (g 0, 9, .inl F_178)), (Mt, .inl (g 0, 160, .inl fmt)), (Mrr, .inl (g 0, 3, .inl frrx_6)), (Mrh, .inl (g 0, 9, .inl frhx_7)), (Mm, .inr (7, [.int 0, .ref Mt, .int 0, .int zmax_2, .int zwrx_3, .ref Mrr, .ref Mrh, .ref Mrc, .int (nI rhx_4), .int 1, .ref Mn, .ref Mf, .ref Mr, .ref Mh, .int (nI rhx_4), .int 1, .ref Ma, .ref Mas, .ref Msn, .ref Mac, .ref Mat])), (Mrc, .inl (g 0, 9, .inl frcx_147))] → va_S A s.heap H locs → lv_has ls 3 [(2, .int (nI i_246)), (1, .int (nI i_212)), (0, .ref Mm)] → W p l e (headSpec wsX7_net ({ frames := 6, cells := 0, slots := 0, locals := 133 })).room s m ([.ref Mm] : List Value).toArray below meth c H locs 0 0 Q (F0 m 160 ls []) := by
                                  clear hP hD hS hl
                                  intro Nloop_256
                                  induction Nloop_256 with
                                  | zero => intro i_246 F_247 hF_247 hbi_246 hm9; exact absurd hm9 (Nat.not_lt_zero _)
                                  | succ Nloop_256 loop_256_ih =>
                                    intro i_246 F_247 hF_247 hbi_246 hmloop_256 H locs ls hP hD hS hl
                                    refine lv_iload_n hx hb dX7_net_160 rfl (lv_at hl 0 rfl) ?_
                                    refine lv_iconst (v := 3) hx hb dX7_net_161 (by decide) ?_
                                    refine lv_icmp_ge (tgt := 192) hx hb dX7_net_162 (by decide) (fun cb_257 => ?_) (fun cb_257 => ?_)
                                    · skip
                                      have cn_258 : 3 ≤ i_246 := (nI_leI (show 3 < 2 ^ 31 by omega) (show i_246 < 2 ^ 31 by omega)).mp cb_257
                                      refine lv_aload_n hx hb dX7_net_192 rfl (lv_at hl 2 rfl) ?_
                                      refine va_get (D := D) (ci := 7) (v := .ref Mn) (C := RX7) (T := TX7) (N := 21) hx hb hts iX7 hown hK hP 6 rfl rfl 10 (by decide) f22 (fun _ h9 => h9) rfl dX7_net_193 ?_
                                      refine lv_iload_n hx hb dX7_net_196 rfl (lv_at hl 1 rfl) ?_
                                      refine ky_Si (As := [.int (nI i_212)]) (rest := [.ref Mn]) ⟨hx, hb, hml, hown, hts⟩ ⟨hK, hN⟩ hZ hP hD hS hA [] [0, 1, 2, 3, 4, 5, 6, 7] (wc := []) (wr := [(Mn, .inl (g 0, 1767, .inl F_247)), (Mr, .inl (g 0, 3, .inl F_162)), (Mh, .inl (g 0, 9, .inl F_178)), (Mt, .inl (g 0, 160, .inl fmt)), (Mrr, .inl (g 0, 3, .inl frrx_6)), (Mrh, .inl (g 0, 9, .inl frhx_7)), (Mm, .inr (7, [.int 0, .ref Mt, .int 0, .int zmax_2, .int zwrx_3, .ref Mrr, .ref Mrh, .ref Mrc, .int (nI rhx_4), .int 1, .ref Mn, .ref Mf, .ref Mr, .ref Mh, .int (nI rhx_4), .int 1, .ref Ma, .ref Mas, .ref Msn, .ref Mac, .ref Mat])), (Mrc, .inl (g 0, 9, .inl frcx_147))]) rfl rfl rfl rfl (by decide) (k_X7_circuitAt l D g H.size i_212 (show i_212 < 3 by omega)) (va_cwS 1 hts gX7_net_X7_circuitAt rfl rfl rfl (by decide +kernel) ⟨(Nat.le_of_ble_eq_true rfl), (Nat.le_of_ble_eq_true rfl)⟩) rfl hl.1 rfl (Nat.le_of_ble_eq_true rfl) dX7_net_197 ⟨(Nat.le_of_ble_eq_true rfl), (Nat.le_of_ble_eq_true rfl)⟩ (fun r_259 u H locs hw hP2 hD2 hS2 => ?_)
                                      clear hP hD hS
                                      obtain ⟨rfl, rfl⟩ := hw
                                      have hPD : PD D A [(Mn, .inl (g 0, 1767, .inl F_247)), (Mr, .inl (g 0, 3, .inl F_162)), (Mh, .inl (g 0, 9, .inl F_178)), (Mt, .inl (g 0, 160, .inl fmt)), (Mrr, .inl (g 0, 3, .inl frrx_6)), (Mrh, .inl (g 0, 9, .inl frhx_7)), (Mm, .inr (7, [.int 0, .ref Mt, .int 0, .int zmax_2, .int zwrx_3, .ref Mrr, .ref Mrh, .ref Mrc, .int (nI rhx_4), .int 1, .ref Mn, .ref Mf, .ref Mr, .ref Mh, .int (nI rhx_4), .int 1, .ref Ma, .ref Mas, .ref Msn, .ref Mac, .ref Mat])), (Mrc, .inl (g 0, 9, .inl frcx_147))] H := ⟨hP2, hD2⟩
                                      have hS := hS2; clear hP2 hD2 hS2; have hP := hPD.1; have hD := hPD.2; clear hPD
                                      refine W.widen (k := 0) (n := 0) (Nat.le_of_ble_eq_true rfl) (Nat.le_of_ble_eq_true rfl) ?_
                                      refine lv_bipush (v := 6) hx hb dX7_net_200 (by decide) ?_
                                      refine lv_iadd hx hb dX7_net_202 ?_
                                      refine lv_eqi (y := (nI (201 + 9 * i_212 + 6))) (nI_add (201 + 9 * i_212) (6)) ?_
                                      refine lv_iconst (v := (-1)) hx hb dX7_net_203 (by decide) ?_
                                      refine va_iast hx hb hK hP hD hS 0 0 rfl rfl (vp_in_nI (show 201 + 9 * i_212 + 6 < 1767 by omega) (by decide)) dX7_net_204 (fun H locs hP2 hD2 hS2 => ?_)
                                      clear hP hD hS
                                      have hPD : PD D A [(Mn, .inl (g 0, 1767, .inl (upd F_247 (nI (201 + 9 * i_212 + 6)).toNatClampNeg (-1)))), (Mr, .inl (g 0, 3, .inl F_162)), (Mh, .inl (g 0, 9, .inl F_178)), (Mt, .inl (g 0, 160, .inl fmt)), (Mrr, .inl (g 0, 3, .inl frrx_6)), (Mrh, .inl (g 0, 9, .inl frhx_7)), (Mm, .inr (7, [.int 0, .ref Mt, .int 0, .int zmax_2, .int zwrx_3, .ref Mrr, .ref Mrh, .ref Mrc, .int (nI rhx_4), .int 1, .ref Mn, .ref Mf, .ref Mr, .ref Mh, .int (nI rhx_4), .int 1, .ref Ma, .ref Mas, .ref Msn, .ref Mac, .ref Mat])), (Mrc, .inl (g 0, 9, .inl frcx_147))] H := ⟨hP2, hD2⟩
                                      have hS := hS2; clear hP2 hD2 hS2; have hP := hPD.1; have hD := hPD.2; clear hPD
                                      rw [nI_clamp (show 201 + 9 * i_212 + 6 < 2 ^ 31 by omega)] at hP hD
                                      have hPD : PD D A [(Mn, .inl (g 0, 1767, .inl (upd F_247 (201 + 9 * i_212 + 6) (-1)))), (Mr, .inl (g 0, 3, .inl F_162)), (Mh, .inl (g 0, 9, .inl F_178)), (Mt, .inl (g 0, 160, .inl fmt)), (Mrr, .inl (g 0, 3, .inl frrx_6)), (Mrh, .inl (g 0, 9, .inl frhx_7)), (Mm, .inr (7, [.int 0, .ref Mt, .int 0, .int zmax_2, .int zwrx_3, .ref Mrr, .ref Mrh, .ref Mrc, .int (nI rhx_4), .int 1, .ref Mn, .ref Mf, .ref Mr, .ref Mh, .int (nI rhx_4), .int 1, .ref Ma, .ref Mas, .ref Msn, .ref Mac, .ref Mat])), (Mrc, .inl (g 0, 9, .inl frcx_147))] H := ⟨hP, hD⟩
                                      clear hP hD; have hP := hPD.1; have hD := hPD.2; clear hPD
                                      have hF_260 : mOK tb ub (upd F_247 (201 + 9 * i_212 + 6) (-1)) := mOK_free hF_247 (show mfree (201 + 9 * i_212 + 6) by unfold mfree; omega)
                                      generalize upd F_247 (201 + 9 * i_212 + 6) (-1) = F_260 at hP hD hF_260
                                      refine lv_iinc (v := (nI (i_212 + 1))) (lv' := [(1, .int (nI (i_212 + 1))), (2, .int (nI i_246)), (0, .ref Mm)]) hx hb dX7_net_205 hl (k := 1) rfl (nI_1 (i_212)) (by decide) rfl (fun ls hl => ?_)
                                      refine lv_goto (tgt := 150) hx hb dX7_net_208 (by decide) ?_
                                      exact loop_239_ih (i_212 + 1) F_260 (hF_260) (show (i_212 + 1) ≤ 1 by omega) (show 1 - (i_212 + 1) < Nloop_239 by omega) _ _ _ hP hD hS (lv_sub hl [0, 2] rfl)
                                    · skip
                                      have cn_261 : i_246 < 3 := Nat.lt_of_not_le (fun q9 => cb_257 ((nI_leI (show 3 < 2 ^ 31 by omega) (show i_246 < 2 ^ 31 by omega)).mpr q9))
                                      refine lv_aload_n hx hb dX7_net_165 rfl (lv_at hl 2 rfl) ?_
                                      refine va_get (D := D) (ci := 7) (v := .ref Mn) (C := RX7) (T := TX7) (N := 21) hx hb hts iX7 hown hK hP 6 rfl rfl 10 (by decide) f22 (fun _ h9 => h9) rfl dX7_net_166 ?_
                                      refine lv_iload_n hx hb dX7_net_169 rfl (lv_at hl 1 rfl) ?_
                                      refine ky_Si (As := [.int (nI i_212)]) (rest := [.ref Mn]) ⟨hx, hb, hml, hown, hts⟩ ⟨hK, hN⟩ hZ hP hD hS hA [] [0, 1, 2, 3, 4, 5, 6, 7] (wc := []) (wr := [(Mn, .inl (g 0, 1767, .inl F_247)), (Mr, .inl (g 0, 3, .inl F_162)), (Mh, .inl (g 0, 9, .inl F_178)), (Mt, .inl (g 0, 160, .inl fmt)), (Mrr, .inl (g 0, 3, .inl frrx_6)), (Mrh, .inl (g 0, 9, .inl frhx_7)), (Mm, .inr (7, [.int 0, .ref Mt, .int 0, .int zmax_2, .int zwrx_3, .ref Mrr, .ref Mrh, .ref Mrc, .int (nI rhx_4), .int 1, .ref Mn, .ref Mf, .ref Mr, .ref Mh, .int (nI rhx_4), .int 1, .ref Ma, .ref Mas, .ref Msn, .ref Mac, .ref Mat])), (Mrc, .inl (g 0, 9, .inl frcx_147))]) rfl rfl rfl rfl (by decide) (k_X7_circuitAt l D g H.size i_212 (show i_212 < 3 by omega)) (va_cwS 1 hts gX7_net_X7_circuitAt rfl rfl rfl (by decide +kernel) ⟨(Nat.le_of_ble_eq_true rfl), (Nat.le_of_ble_eq_true rfl)⟩) rfl hl.1 rfl (Nat.le_of_ble_eq_true rfl) dX7_net_170 ⟨(Nat.le_of_ble_eq_true rfl), (Nat.le_of_ble_eq_true rfl)⟩ (fun r_262 u H locs hw hP2 hD2 hS2 => ?_)
                                      clear hP hD hS
                                      obtain ⟨rfl, rfl⟩ := hw
                                      have hPD : PD D A [(Mn, .inl (g 0, 1767, .inl F_247)), (Mr, .inl (g 0, 3, .inl F_162)), (Mh, .inl (g 0, 9, .inl F_178)), (Mt, .inl (g 0, 160, .inl fmt)), (Mrr, .inl (g 0, 3, .inl frrx_6)), (Mrh, .inl (g 0, 9, .inl frhx_7)), (Mm, .inr (7, [.int 0, .ref Mt, .int 0, .int zmax_2, .int zwrx_3, .ref Mrr, .ref Mrh, .ref Mrc, .int (nI rhx_4), .int 1, .ref Mn, .ref Mf, .ref Mr, .ref Mh, .int (nI rhx_4), .int 1, .ref Ma, .ref Mas, .ref Msn, .ref Mac, .ref Mat])), (Mrc, .inl (g 0, 9, .inl frcx_147))] H := ⟨hP2, hD2⟩
                                      have hS := hS2; clear hP2 hD2 hS2; have hP := hPD.1; have hD := hPD.2; clear hPD
                                      refine W.widen (k := 0) (n := 0) (Nat.le_of_ble_eq_true rfl) (Nat.le_of_ble_eq_true rfl) ?_
                                      refine lv_iload_n hx hb dX7_net_173 rfl (lv_at hl 0 rfl) ?_
                                      refine lv_iadd hx hb dX7_net_174 ?_
                                      refine lv_eqi (y := (nI (201 + 9 * i_212 + i_246))) (nI_add (201 + 9 * i_212) (i_246)) ?_
                                      refine lv_aload_n hx hb dX7_net_175 rfl (lv_at hl 2 rfl) ?_
                                      refine va_get (D := D) (ci := 7) (v := .ref Mrc) (C := RX7) (T := TX7) (N := 21) hx hb hts iX7 hown hK hP 6 rfl rfl 7 (by decide) f19 (fun _ h9 => h9) rfl dX7_net_176 ?_
                                      refine lv_iconst (v := 3) hx hb dX7_net_179 (by decide) ?_
                                      refine lv_iload_n hx hb dX7_net_180 rfl (lv_at hl 1 rfl) ?_
                                      refine lv_imul hx hb dX7_net_181 ?_
                                      refine lv_eqi (y := (nI (3 * i_212))) (pk_mul (3) (i_212)) ?_
                                      refine lv_iload_n hx hb dX7_net_182 rfl (lv_at hl 0 rfl) ?_
                                      refine lv_iadd hx hb dX7_net_183 ?_
                                      refine lv_eqi (y := (nI (3 * i_212 + i_246))) (nI_add (3 * i_212) (i_246)) ?_
                                      refine va_iald hx hb hK hP 7 0 rfl rfl (vp_in_nI (show 3 * i_212 + i_246 < 9 by omega) (by decide)) dX7_net_184 ?_
                                      refine lv_eqi (y := (frcx_147 (3 * i_212 + i_246))) (congrArg frcx_147 (nI_clamp (show 3 * i_212 + i_246 < 2 ^ 31 by omega))) ?_
                                      obtain ⟨n_263, hn_263, q9⟩ := hf_148 (3 * i_212 + i_246)
                                      refine lv_eqi (y := nI n_263) q9 ?_
                                      refine va_iast hx hb hK hP hD hS 0 0 rfl rfl (vp_in_nI (show 201 + 9 * i_212 + i_246 < 1767 by omega) (by decide)) dX7_net_185 (fun H locs hP2 hD2 hS2 => ?_)
                                      clear hP hD hS
                                      have hPD : PD D A [(Mn, .inl (g 0, 1767, .inl (upd F_247 (nI (201 + 9 * i_212 + i_246)).toNatClampNeg (nI n_263)))), (Mr, .inl (g 0, 3, .inl F_162)), (Mh, .inl (g 0, 9, .inl F_178)), (Mt, .inl (g 0, 160, .inl fmt)), (Mrr, .inl (g 0, 3, .inl frrx_6)), (Mrh, .inl (g 0, 9, .inl frhx_7)), (Mm, .inr (7, [.int 0, .ref Mt, .int 0, .int zmax_2, .int zwrx_3, .ref Mrr, .ref Mrh, .ref Mrc, .int (nI rhx_4), .int 1, .ref Mn, .ref Mf, .ref Mr, .ref Mh, .int (nI rhx_4), .int 1, .ref Ma, .ref Mas, .ref Msn, .ref Mac, .ref Mat])), (Mrc, .inl (g 0, 9, .inl frcx_147))] H := ⟨hP2, hD2⟩
                                      have hS := hS2; clear hP2 hD2 hS2; have hP := hPD.1; have hD := hPD.2; clear hPD
                                      rw [nI_clamp (show 201 + 9 * i_212 + i_246 < 2 ^ 31 by omega)] at hP hD
                                      have hPD : PD D A [(Mn, .inl (g 0, 1767, .inl (upd F_247 (201 + 9 * i_212 + i_246) (nI n_263)))), (Mr, .inl (g 0, 3, .inl F_162)), (Mh, .inl (g 0, 9, .inl F_178)), (Mt, .inl (g 0, 160, .inl fmt)), (Mrr, .inl (g 0, 3, .inl frrx_6)), (Mrh, .inl (g 0, 9, .inl frhx_7)), (Mm, .inr (7, [.int 0, .ref Mt, .int 0, .int zmax_2, .int zwrx_3, .ref Mrr, .ref Mrh, .ref Mrc, .int (nI rhx_4), .int 1, .ref Mn, .ref Mf, .ref Mr, .ref Mh, .int (nI rhx_4), .int 1, .ref Ma, .ref Mas, .ref Msn, .ref Mac, .ref Mat])), (Mrc, .inl (g 0, 9, .inl frcx_147))] H := ⟨hP, hD⟩
                                      clear hP hD; have hP := hPD.1; have hD := hPD.2; clear hPD
                                      have hF_264 : mOK tb ub (upd F_247 (201 + 9 * i_212 + i_246) (nI n_263)) := mOK_free hF_247 (show mfree (201 + 9 * i_212 + i_246) by unfold mfree; omega)
                                      generalize upd F_247 (201 + 9 * i_212 + i_246) (nI n_263) = F_264 at hP hD hF_264
                                      refine lv_iinc (v := (nI (i_246 + 1))) (lv' := [(2, .int (nI (i_246 + 1))), (1, .int (nI i_212)), (0, .ref Mm)]) hx hb dX7_net_186 hl (k := 0) rfl (nI_1 (i_246)) (by decide) rfl (fun ls hl => ?_)
                                      refine lv_goto (tgt := 160) hx hb dX7_net_189 (by decide) ?_
                                      exact loop_256_ih (i_246 + 1) F_264 (hF_264) (show (i_246 + 1) ≤ 3 by omega) (show 3 - (i_246 + 1) < Nloop_256 by omega) _ _ _ hP hD hS hl
                                exact loop_256 _ 0 F_213 (hF_213) (show 0 ≤ 3 by omega) (Nat.lt_succ_self _) _ _ _ hP hD hS hl
                          exact loop_239 _ 0 F_177 (hF_177) (show 0 ≤ 1 by omega) (Nat.lt_succ_self _) _ _ _ hP hD hS hl
                        · skip
                          have cn_265 : i_176 < rhx_4 := Nat.lt_of_not_le (fun q9 => cb_188 ((nI_leI (show rhx_4 < 2 ^ 31 by omega) (show i_176 < 2 ^ 31 by omega)).mpr q9))
                          refine lv_aload_n hx hb dX7_net_137 rfl (lv_at hl 1 rfl) ?_
                          refine lv_iload_n hx hb dX7_net_138 rfl (lv_at hl 0 rfl) ?_
                          refine ky_Vv (As := [.int (nI i_176)]) (rest := []) ⟨hx, hb, hml, hown, hts⟩ ⟨hK, hN⟩ hZ hP hD hS hA [6, 0, 2, 1, 5] [3, 4, 7] (wc := [(Mm, .inr (7, [.int 0, .ref Mt, .int 0, .int zmax_2, .int zwrx_3, .ref Mrr, .ref Mrh, .ref Mrc, .int (nI rhx_4), .int 1, .ref Mn, .ref Mf, .ref Mr, .ref Mh, .int (nI rhx_4), .int 1, .ref Ma, .ref Mas, .ref Msn, .ref Mac, .ref Mat])), (Mn, .inl (g 0, 1767, .inl F_177)), (Mh, .inl (g 0, 9, .inl F_178)), (Mr, .inl (g 0, 3, .inl F_162)), (Mrh, .inl (g 0, 9, .inl frhx_7))]) (wr := [(Mt, .inl (g 0, 160, .inl fmt)), (Mrr, .inl (g 0, 3, .inl frrx_6)), (Mrc, .inl (g 0, 9, .inl frcx_147))]) rfl rfl rfl rfl (by decide) (k_X7_laysHop l D g H.size Mm i_176 0 Mt 0 zmax_2 zwrx_3 Mrr Mrh Mrc (nI rhx_4) 1 Mn Mf Mr Mh rhx_4 1 Ma Mas Msn Mac Mat F_177 F_178 F_162 frhx_7 tb ub (show tb < 2 ^ 29 by omega) (show ub < 2 ^ 29 by omega) (hF_177) (show 1 ≤ rhx_4 by omega) (show rhx_4 ≤ 3 by omega) (show 1 ≤ 1 by omega) (show 1 ≤ 3 by omega) (show i_176 < 3 by omega) (hF_178) (hf_9.2.1) (hF_162)) (cwV 1 hts gX7_net_X7_laysHop rfl rfl rfl (by decide +kernel) ⟨(Nat.le_of_ble_eq_true rfl), (Nat.le_of_ble_eq_true rfl)⟩) 6 7 rfl rfl rfl rfl hl.1 rfl (Nat.le_of_ble_eq_true rfl) dX7_net_139 ⟨(Nat.le_of_ble_eq_true rfl), (Nat.le_of_ble_eq_true rfl)⟩ (fun u H locs hw hP2 hD2 hS2 => ?_)
                          clear hP hD hS
                          obtain ⟨fnox_267, fmhx_268, rfl, hf_269, hf_270⟩ := hw
                          have hPD : PD D A [(Mt, .inl (g 0, 160, .inl fmt)), (Mrr, .inl (g 0, 3, .inl frrx_6)), (Mrc, .inl (g 0, 9, .inl frcx_147)), (Mm, .inr (7, [.int 0, .ref Mt, .int (nI 0), .int zmax_2, .int zwrx_3, .ref Mrr, .ref Mrh, .ref Mrc, .int (nI rhx_4), .int 1, .ref Mn, .ref Mf, .ref Mr, .ref Mh, .int (nI rhx_4), .int (nI 1), .ref Ma, .ref Mas, .ref Msn, .ref Mac, .ref Mat])), (Mn, .inl (g 0, 1767, .inl fnox_267)), (Mh, .inl (g 0, 9, .inl fmhx_268)), (Mr, .inl (g 0, 3, .inl F_162)), (Mrh, .inl (g 0, 9, .inl frhx_7))] H := ⟨hP2, hD2⟩
                          have hS := hS2; clear hP2 hD2 hS2; have hP := hPD.1; have hD := hPD.2; clear hPD
                          refine W.widen (k := 0) (n := 0) (Nat.le_of_ble_eq_true rfl) (Nat.le_of_ble_eq_true rfl) ?_
                          refine lv_iinc (v := (nI (i_176 + 1))) (lv' := [(1, .int (nI (i_176 + 1))), (0, .ref Mm)]) hx hb dX7_net_142 hl (k := 0) rfl (nI_1 (i_176)) (by decide) rfl (fun ls hl => ?_)
                          refine lv_goto (tgt := 129) hx hb dX7_net_145 (by decide) ?_
                          exact loop_187_ih (i_176 + 1) fnox_267 fmhx_268 (hf_269) (hf_270) (show (i_176 + 1) ≤ rhx_4 by omega) (show rhx_4 - (i_176 + 1) < Nloop_187 by omega) _ _ _ (hP.sub [4, 6, 5, 0, 1, 7, 3, 2] rfl) (hD.sub [4, 6, 5, 0, 1, 7, 3, 2] (by decide) rfl) hS hl
                    exact loop_187 _ 0 F_151 fmh (hF_151) (h8) (show 0 ≤ rhx_4 by omega) (Nat.lt_succ_self _) _ _ _ hP hD hS hl
                  · skip
                    have cn_271 : i_161 < 3 := Nat.lt_of_not_le (fun q9 => cb_169 ((nI_leI (show 3 < 2 ^ 31 by omega) (show i_161 < 2 ^ 31 by omega)).mpr q9))
                    refine lv_aload_n hx hb dX7_net_109 rfl (lv_at hl 1 rfl) ?_
                    refine va_get (D := D) (ci := 7) (v := .ref Mr) (C := RX7) (T := TX7) (N := 21) hx hb hts iX7 hown hK hP 6 rfl rfl 12 (by decide) f28 (fun _ h9 => h9) rfl dX7_net_110 ?_
                    refine lv_iload_n hx hb dX7_net_113 rfl (lv_at hl 0 rfl) ?_
                    refine lv_aload_n hx hb dX7_net_114 rfl (lv_at hl 1 rfl) ?_
                    refine va_get (D := D) (ci := 7) (v := .ref Mrr) (C := RX7) (T := TX7) (N := 21) hx hb hts iX7 hown hK hP 6 rfl rfl 5 (by decide) f13 (fun _ h9 => h9) rfl dX7_net_115 ?_
                    refine lv_iload_n hx hb dX7_net_118 rfl (lv_at hl 0 rfl) ?_
                    refine va_iald hx hb hK hP 4 0 rfl rfl (vp_in_nI (show i_161 < 3 by omega) (by decide)) dX7_net_119 ?_
                    refine lv_eqi (y := (frrx_6 (i_161))) (congrArg frrx_6 (nI_clamp (show i_161 < 2 ^ 31 by omega))) ?_
                    obtain ⟨n_272, hn_272, q9⟩ := hf_9.1 (i_161)
                    refine lv_eqi (y := nI n_272) q9 ?_
                    refine va_iast hx hb hK hP hD hS 1 0 rfl rfl (vp_in_nI (show i_161 < 3 by omega) (by decide)) dX7_net_120 (fun H locs hP2 hD2 hS2 => ?_)
                    clear hP hD hS
                    have hPD : PD D A [(Mn, .inl (g 0, 1767, .inl F_151)), (Mr, .inl (g 0, 3, .inl (upd F_162 (nI i_161).toNatClampNeg (nI n_272)))), (Mh, .inl (g 0, 9, .inl fmh)), (Mt, .inl (g 0, 160, .inl fmt)), (Mrr, .inl (g 0, 3, .inl frrx_6)), (Mrh, .inl (g 0, 9, .inl frhx_7)), (Mm, .inr (7, [.int 0, .ref Mt, .int 0, .int zmax_2, .int zwrx_3, .ref Mrr, .ref Mrh, .ref Mrc, .int (nI rhx_4), .int 1, .ref Mn, .ref Mf, .ref Mr, .ref Mh, .int (nI rhx_4), .int 1, .ref Ma, .ref Mas, .ref Msn, .ref Mac, .ref Mat])), (Mrc, .inl (g 0, 9, .inl frcx_147))] H := ⟨hP2, hD2⟩
                    have hS := hS2; clear hP2 hD2 hS2; have hP := hPD.1; have hD := hPD.2; clear hPD
                    rw [nI_clamp (show i_161 < 2 ^ 31 by omega)] at hP hD
                    have hPD : PD D A [(Mn, .inl (g 0, 1767, .inl F_151)), (Mr, .inl (g 0, 3, .inl (upd F_162 (i_161) (nI n_272)))), (Mh, .inl (g 0, 9, .inl fmh)), (Mt, .inl (g 0, 160, .inl fmt)), (Mrr, .inl (g 0, 3, .inl frrx_6)), (Mrh, .inl (g 0, 9, .inl frhx_7)), (Mm, .inr (7, [.int 0, .ref Mt, .int 0, .int zmax_2, .int zwrx_3, .ref Mrr, .ref Mrh, .ref Mrc, .int (nI rhx_4), .int 1, .ref Mn, .ref Mf, .ref Mr, .ref Mh, .int (nI rhx_4), .int 1, .ref Ma, .ref Mas, .ref Msn, .ref Mac, .ref Mat])), (Mrc, .inl (g 0, 9, .inl frcx_147))] H := ⟨hP, hD⟩
                    clear hP hD; have hP := hPD.1; have hD := hPD.2; clear hPD
                    have hF_273 : n1 (upd F_162 (i_161) (nI n_272)) := n1_upd (hF_162) (n := n_272) (show n_272 ≤ 99 by omega)
                    generalize upd F_162 (i_161) (nI n_272) = F_273 at hP hD hF_273
                    refine lv_iinc (v := (nI (i_161 + 1))) (lv' := [(1, .int (nI (i_161 + 1))), (0, .ref Mm)]) hx hb dX7_net_121 hl (k := 0) rfl (nI_1 (i_161)) (by decide) rfl (fun ls hl => ?_)
                    refine lv_goto (tgt := 104) hx hb dX7_net_124 (by decide) ?_
                    exact loop_168_ih (i_161 + 1) F_273 (hF_273) (show (i_161 + 1) ≤ 3 by omega) (show 3 - (i_161 + 1) < Nloop_168 by omega) _ _ _ hP hD hS hl
              exact loop_168 _ 0 fmr (h7) (show 0 ≤ 3 by omega) (Nat.lt_succ_self _) _ _ _ hP hD hS hl
            · skip
              have cn_274 : i_150 < 1767 := Nat.lt_of_not_le (fun q9 => cb_157 ((nI_leI (show 1767 < 2 ^ 31 by omega) (show i_150 < 2 ^ 31 by omega)).mpr q9))
              refine lv_aload_n hx hb dX7_net_89 rfl (lv_at hl 1 rfl) ?_
              refine va_get (D := D) (ci := 7) (v := .ref Mn) (C := RX7) (T := TX7) (N := 21) hx hb hts iX7 hown hK hP 6 rfl rfl 10 (by decide) f22 (fun _ h9 => h9) rfl dX7_net_90 ?_
              refine lv_iload_n hx hb dX7_net_93 rfl (lv_at hl 0 rfl) ?_
              refine lv_iconst (v := 0) hx hb dX7_net_94 (by decide) ?_
              refine va_iast hx hb hK hP hD hS 0 0 rfl rfl (vp_in_nI (show i_150 < 1767 by omega) (by decide)) dX7_net_95 (fun H locs hP2 hD2 hS2 => ?_)
              clear hP hD hS
              have hPD : PD D A [(Mn, .inl (g 0, 1767, .inl (upd F_151 (nI i_150).toNatClampNeg 0))), (Mr, .inl (g 0, 3, .inl fmr)), (Mh, .inl (g 0, 9, .inl fmh)), (Mt, .inl (g 0, 160, .inl fmt)), (Mrr, .inl (g 0, 3, .inl frrx_6)), (Mrh, .inl (g 0, 9, .inl frhx_7)), (Mm, .inr (7, [.int 0, .ref Mt, .int 0, .int zmax_2, .int zwrx_3, .ref Mrr, .ref Mrh, .ref Mrc, .int (nI rhx_4), .int 1, .ref Mn, .ref Mf, .ref Mr, .ref Mh, .int (nI rhx_4), .int 1, .ref Ma, .ref Mas, .ref Msn, .ref Mac, .ref Mat])), (Mrc, .inl (g 0, 9, .inl frcx_147))] H := ⟨hP2, hD2⟩
              have hS := hS2; clear hP2 hD2 hS2; have hP := hPD.1; have hD := hPD.2; clear hPD
              rw [nI_clamp (show i_150 < 2 ^ 31 by omega)] at hP hD
              have hPD : PD D A [(Mn, .inl (g 0, 1767, .inl (upd F_151 (i_150) 0))), (Mr, .inl (g 0, 3, .inl fmr)), (Mh, .inl (g 0, 9, .inl fmh)), (Mt, .inl (g 0, 160, .inl fmt)), (Mrr, .inl (g 0, 3, .inl frrx_6)), (Mrh, .inl (g 0, 9, .inl frhx_7)), (Mm, .inr (7, [.int 0, .ref Mt, .int 0, .int zmax_2, .int zwrx_3, .ref Mrr, .ref Mrh, .ref Mrc, .int (nI rhx_4), .int 1, .ref Mn, .ref Mf, .ref Mr, .ref Mh, .int (nI rhx_4), .int 1, .ref Ma, .ref Mas, .ref Msn, .ref Mac, .ref Mat])), (Mrc, .inl (g 0, 9, .inl frcx_147))] H := ⟨hP, hD⟩
              clear hP hD; have hP := hPD.1; have hD := hPD.2; clear hPD
              have hF_275 : mOK tb ub (upd F_151 (i_150) 0) := mOK_zero hF_151
              generalize upd F_151 (i_150) 0 = F_275 at hP hD hF_275
              refine lv_iinc (v := (nI (i_150 + 1))) (lv' := [(1, .int (nI (i_150 + 1))), (0, .ref Mm)]) hx hb dX7_net_96 hl (k := 0) rfl (nI_1 (i_150)) (by decide) rfl (fun ls hl => ?_)
              refine lv_goto (tgt := 82) hx hb dX7_net_99 (by decide) ?_
              exact loop_156_ih (i_150 + 1) F_275 (hF_275) (show (i_150 + 1) ≤ 1767 by omega) (show 1767 - (i_150 + 1) < Nloop_156 by omega) _ _ _ hP hD hS hl
        exact loop_156 _ 0 fno (h6) (show 0 ≤ 1767 by omega) (Nat.lt_succ_self _) _ _ _ hP hD hS hl
    · skip
      have cn_276 : rhx_4 = 0 := (nI_eq (show rhx_4 < 2 ^ 31 by omega) (show 0 < 2 ^ 31 by omega)).mp cb_14
      refine lv_aload_n hx hb dX7_net_27 rfl (lv_at hl 0 rfl) ?_
      refine lv_iconst (v := 1) hx hb dX7_net_28 (by decide) ?_
      refine lv_aload_n hx hb dX7_net_29 rfl (lv_at hl 0 rfl) ?_
      refine va_get (D := D) (ci := 7) (v := .ref Mrh) (C := RX7) (T := TX7) (N := 21) hx hb hts iX7 hown hK hP 3 rfl rfl 6 (by decide) f16 (fun _ h9 => h9) rfl dX7_net_30 ?_
      refine lv_iconst (v := 0) hx hb dX7_net_33 (by decide) ?_
      refine ky_Vv (As := [.int 1, .ref Mrh, .int 0]) (rest := []) ⟨hx, hb, hml, hown, hts⟩ ⟨hK, hN⟩ hZ hP hD hS hA [3, 6] [0, 1, 2, 4, 5, 7] (wc := [(Mm, .inr (7, [.int 0, .ref Mt, .int 0, .int zmax_2, .int zwrx_3, .ref Mrr, .ref Mrh, .ref Mrc, .int (nI rhx_4), .int (nI rcx_5), .ref Mn, .ref Mf, .ref Mr, .ref Mh, .int (nI hp), .int (nI cc), .ref Ma, .ref Mas, .ref Msn, .ref Mac, .ref Mat])), (Mrh, .inl (g 0, 9, .inl frhx_7))]) (wr := [(Mn, .inl (g 0, 1767, .inl fno)), (Mr, .inl (g 0, 3, .inl fmr)), (Mh, .inl (g 0, 9, .inl fmh)), (Mt, .inl (g 0, 160, .inl fmt)), (Mrr, .inl (g 0, 3, .inl frrx_6)), (Mrc, .inl (g 0, 9, .inl frcx_8))]) rfl rfl rfl rfl (by decide) (k_X7_laysUsual_1 l D g H.size Mm Mrh 0 0 Mt 0 zmax_2 zwrx_3 Mrr Mrc (nI rhx_4) (nI rcx_5) Mn Mf Mr Mh (nI hp) (nI cc) Ma Mas Msn Mac Mat frhx_7 (show 0 ≤ 6 by omega) (hf_9.2.1)) (cwV 3 hts gX7_net_X7_laysUsual rfl rfl rfl (by decide +kernel) ⟨(Nat.le_of_ble_eq_true rfl), (Nat.le_of_ble_eq_true rfl)⟩) 3 7 rfl rfl rfl rfl hl.1 rfl (Nat.le_of_ble_eq_true rfl) dX7_net_34 ⟨(Nat.le_of_ble_eq_true rfl), (Nat.le_of_ble_eq_true rfl)⟩ (fun u H locs hw hP2 hD2 hS2 => ?_)
      clear hP hD hS
      obtain ⟨frhx_278, rfl, hf_279⟩ := hw
      have hPD : PD D A [(Mn, .inl (g 0, 1767, .inl fno)), (Mr, .inl (g 0, 3, .inl fmr)), (Mh, .inl (g 0, 9, .inl fmh)), (Mt, .inl (g 0, 160, .inl fmt)), (Mrr, .inl (g 0, 3, .inl frrx_6)), (Mrc, .inl (g 0, 9, .inl frcx_8)), (Mm, .inr (7, [.int 0, .ref Mt, .int 0, .int zmax_2, .int zwrx_3, .ref Mrr, .ref Mrh, .ref Mrc, .int (nI rhx_4), .int (nI rcx_5), .ref Mn, .ref Mf, .ref Mr, .ref Mh, .int (nI hp), .int (nI cc), .ref Ma, .ref Mas, .ref Msn, .ref Mac, .ref Mat])), (Mrh, .inl (g 0, 9, .inl frhx_278))] H := ⟨hP2, hD2⟩
      have hS := hS2; clear hP2 hD2 hS2; have hP := hPD.1; have hD := hPD.2; clear hPD
      refine W.widen (k := 0) (n := 0) (Nat.le_of_ble_eq_true rfl) (Nat.le_of_ble_eq_true rfl) ?_
      refine lv_aload_n hx hb dX7_net_37 rfl (lv_at hl 0 rfl) ?_
      refine lv_iconst (v := 1) hx hb dX7_net_38 (by decide) ?_
      refine va_put (D := D) (ci := 7) (v := .int 1) (ty := .int) (C := RX7) (T := TX7) (N := 21) hx hb hts iX7 tyX7 tyX7_ok nmX7 hown hK hP hD hS 6 rfl rfl 8 (by decide) f111 (fun _ h9 => h9) rfl (by decide +kernel) (rfl) (rfl) (Nat.le_of_ble_eq_true rfl) dX7_net_39 (fun H locs hP2 hD2 hS2 => ?_)
      clear hP hD hS
      have hPD : PD D A [(Mn, .inl (g 0, 1767, .inl fno)), (Mr, .inl (g 0, 3, .inl fmr)), (Mh, .inl (g 0, 9, .inl fmh)), (Mt, .inl (g 0, 160, .inl fmt)), (Mrr, .inl (g 0, 3, .inl frrx_6)), (Mrc, .inl (g 0, 9, .inl frcx_8)), (Mm, .inr (7, [.int 0, .ref Mt, .int 0, .int zmax_2, .int zwrx_3, .ref Mrr, .ref Mrh, .ref Mrc, .int 1, .int (nI rcx_5), .ref Mn, .ref Mf, .ref Mr, .ref Mh, .int (nI hp), .int (nI cc), .ref Ma, .ref Mas, .ref Msn, .ref Mac, .ref Mat])), (Mrh, .inl (g 0, 9, .inl frhx_278))] H := ⟨hP2, hD2⟩
      have hS := hS2; clear hP2 hD2 hS2; have hP := hPD.1; have hD := hPD.2; clear hPD
      refine lv_aload_n hx hb dX7_net_42 rfl (lv_at hl 0 rfl) ?_
      refine va_get (D := D) (ci := 7) (v := .int (nI rcx_5)) (C := RX7) (T := TX7) (N := 21) hx hb hts iX7 hown hK hP 6 rfl rfl 9 (by decide) f114 (fun _ h9 => h9) rfl dX7_net_43 ?_
      refine lv_if_ne (tgt := 64) hx hb dX7_net_46 (by decide) (fun cb_280 => ?_) (fun cb_280 => ?_)
      · skip
        have cn_281 : ¬ rcx_5 = 0 := fun q9 => cb_280 (congrArg nI q9)
        refine lv_aload_n hx hb dX7_net_64 rfl (lv_at hl 0 rfl) ?_
        refine lv_aload_n hx hb dX7_net_65 rfl (lv_at hl 0 rfl) ?_
        refine va_get (D := D) (ci := 7) (v := .int 1) (C := RX7) (T := TX7) (N := 21) hx hb hts iX7 hown hK hP 6 rfl rfl 8 (by decide) f111 (fun _ h9 => h9) rfl dX7_net_66 ?_
        refine va_put (D := D) (ci := 7) (v := .int 1) (ty := .int) (C := RX7) (T := TX7) (N := 21) hx hb hts iX7 tyX7 tyX7_ok nmX7 hown hK hP hD hS 6 rfl rfl 14 (by decide) f124 (fun _ h9 => h9) rfl (by decide +kernel) (rfl) (rfl) (Nat.le_of_ble_eq_true rfl) dX7_net_69 (fun H locs hP2 hD2 hS2 => ?_)
        clear hP hD hS
        have hPD : PD D A [(Mn, .inl (g 0, 1767, .inl fno)), (Mr, .inl (g 0, 3, .inl fmr)), (Mh, .inl (g 0, 9, .inl fmh)), (Mt, .inl (g 0, 160, .inl fmt)), (Mrr, .inl (g 0, 3, .inl frrx_6)), (Mrc, .inl (g 0, 9, .inl frcx_8)), (Mm, .inr (7, [.int 0, .ref Mt, .int 0, .int zmax_2, .int zwrx_3, .ref Mrr, .ref Mrh, .ref Mrc, .int 1, .int (nI rcx_5), .ref Mn, .ref Mf, .ref Mr, .ref Mh, .int 1, .int (nI cc), .ref Ma, .ref Mas, .ref Msn, .ref Mac, .ref Mat])), (Mrh, .inl (g 0, 9, .inl frhx_278))] H := ⟨hP2, hD2⟩
        have hS := hS2; clear hP2 hD2 hS2; have hP := hPD.1; have hD := hPD.2; clear hPD
        refine lv_aload_n hx hb dX7_net_72 rfl (lv_at hl 0 rfl) ?_
        refine lv_aload_n hx hb dX7_net_73 rfl (lv_at hl 0 rfl) ?_
        refine va_get (D := D) (ci := 7) (v := .int (nI rcx_5)) (C := RX7) (T := TX7) (N := 21) hx hb hts iX7 hown hK hP 6 rfl rfl 9 (by decide) f114 (fun _ h9 => h9) rfl dX7_net_74 ?_
        refine va_put (D := D) (ci := 7) (v := .int (nI rcx_5)) (ty := .int) (C := RX7) (T := TX7) (N := 21) hx hb hts iX7 tyX7 tyX7_ok nmX7 hown hK hP hD hS 6 rfl rfl 15 (by decide) f127 (fun _ h9 => h9) rfl (by decide +kernel) (rfl) (rfl) (Nat.le_of_ble_eq_true rfl) dX7_net_77 (fun H locs hP2 hD2 hS2 => ?_)
        clear hP hD hS
        have hPD : PD D A [(Mn, .inl (g 0, 1767, .inl fno)), (Mr, .inl (g 0, 3, .inl fmr)), (Mh, .inl (g 0, 9, .inl fmh)), (Mt, .inl (g 0, 160, .inl fmt)), (Mrr, .inl (g 0, 3, .inl frrx_6)), (Mrc, .inl (g 0, 9, .inl frcx_8)), (Mm, .inr (7, [.int 0, .ref Mt, .int 0, .int zmax_2, .int zwrx_3, .ref Mrr, .ref Mrh, .ref Mrc, .int 1, .int (nI rcx_5), .ref Mn, .ref Mf, .ref Mr, .ref Mh, .int 1, .int (nI rcx_5), .ref Ma, .ref Mas, .ref Msn, .ref Mac, .ref Mat])), (Mrh, .inl (g 0, 9, .inl frhx_278))] H := ⟨hP2, hD2⟩
        have hS := hS2; clear hP2 hD2 hS2; have hP := hPD.1; have hD := hPD.2; clear hPD
        refine lv_iconst (v := 0) hx hb dX7_net_80 (by decide) ?_
        refine lv_istore_n (lv' := [(1, .int 0), (0, .ref Mm)]) hx hb dX7_net_81 rfl hl (by decide) rfl (fun ls hl => ?_)
        have loop_289 : ∀ (Nloop_289 : Nat) (i_283 : Nat) (F_284 : Nat → Int32) (hF_284 : mOK tb ub F_284) (hbi_283 : i_283 ≤ 1767) (hmloop_289 : 1767 - i_283 < Nloop_289) (H : Heap) (locs : List Loc) (ls : Array Slot), va_P D vwCl [(Mn, .inl (g 0, 1767, .inl F_284)), (Mr, .inl (g 0, 3, .inl fmr)), (Mh, .inl (g 0, 9, .inl fmh)), (Mt, .inl (g 0, 160, .inl fmt)), (Mrr, .inl (g 0, 3, .inl frrx_6)), (Mrc, .inl (g 0, 9, .inl frcx_8)), (Mm, .inr (7, [.int 0, .ref Mt, .int 0, .int zmax_2, .int zwrx_3, .ref Mrr, .ref Mrh, .ref Mrc, .int 1, .int (nI rcx_5), .ref Mn, .ref Mf, .ref Mr, .ref Mh, .int 1, .int (nI rcx_5), .ref Ma, .ref Mas, .ref Msn, .ref Mac, .ref Mat])), (Mrh, .inl (g 0, 9, .inl frhx_278))] H → va_D A [(Mn, .inl (g 0, 1767, .inl F_284)), (Mr, .inl (g 0, 3, .inl fmr)), (Mh, .inl (g 0, 9, .inl fmh)), (Mt, .inl (g 0, 160, .inl fmt)), (Mrr, .inl (g 0, 3, .inl frrx_6)), (Mrc, .inl (g 0, 9, .inl frcx_8)), (Mm, .inr (7, [.int 0, .ref Mt, .int 0, .int zmax_2, .int zwrx_3, .ref Mrr, .ref Mrh, .ref Mrc, .int 1, .int (nI rcx_5), .ref Mn, .ref Mf, .ref Mr, .ref Mh, .int 1, .int (nI rcx_5), .ref Ma, .ref Mas, .ref Msn, .ref Mac, .ref Mat])), (Mrh, .inl (g 0, 9, .inl frhx_278))] → va_S A s.heap H locs → lv_has ls 3 [(1, .int (nI i_283)), (0, .ref Mm)] → W p l e (headSpec wsX7_net ({ frames := 6, cells := 0, slots := 0, locals := 133 })).room s m ([.ref Mm] : List Value).toArray below meth c H locs 0 0 Q (F0 m 82 ls []) := by
          clear hP hD hS hl
          intro Nloop_289
          induction Nloop_289 with
          | zero => intro i_283 F_284 hF_284 hbi_283 hm9; exact absurd hm9 (Nat.not_lt_zero _)
          | succ Nloop_289 loop_289_ih =>
            intro i_283 F_284 hF_284 hbi_283 hmloop_289 H locs ls hP hD hS hl
            refine lv_iload_n hx hb dX7_net_82 rfl (lv_at hl 0 rfl) ?_
            refine lv_sipush (v := 1767) hx hb dX7_net_83 (by decide) ?_
            refine lv_icmp_ge (tgt := 102) hx hb dX7_net_86 (by decide) (fun cb_290 => ?_) (fun cb_290 => ?_)
            · skip
              have cn_291 : 1767 ≤ i_283 := (nI_leI (show 1767 < 2 ^ 31 by omega) (show i_283 < 2 ^ 31 by omega)).mp cb_290
              refine lv_iconst (v := 0) hx hb dX7_net_102 (by decide) ?_
              refine lv_istore_n (lv' := [(1, .int 0), (0, .ref Mm)]) hx hb dX7_net_103 rfl hl (by decide) rfl (fun ls hl => ?_)
              have loop_301 : ∀ (Nloop_301 : Nat) (i_294 : Nat) (F_295 : Nat → Int32) (hF_295 : n1 F_295) (hbi_294 : i_294 ≤ 3) (hmloop_301 : 3 - i_294 < Nloop_301) (H : Heap) (locs : List Loc) (ls : Array Slot), va_P D vwCl [(Mn, .inl (g 0, 1767, .inl F_284)), (Mr, .inl (g 0, 3, .inl F_295)), (Mh, .inl (g 0, 9, .inl fmh)), (Mt, .inl (g 0, 160, .inl fmt)), (Mrr, .inl (g 0, 3, .inl frrx_6)), (Mrc, .inl (g 0, 9, .inl frcx_8)), (Mm, .inr (7, [.int 0, .ref Mt, .int 0, .int zmax_2, .int zwrx_3, .ref Mrr, .ref Mrh, .ref Mrc, .int 1, .int (nI rcx_5), .ref Mn, .ref Mf, .ref Mr, .ref Mh, .int 1, .int (nI rcx_5), .ref Ma, .ref Mas, .ref Msn, .ref Mac, .ref Mat])), (Mrh, .inl (g 0, 9, .inl frhx_278))] H → va_D A [(Mn, .inl (g 0, 1767, .inl F_284)), (Mr, .inl (g 0, 3, .inl F_295)), (Mh, .inl (g 0, 9, .inl fmh)), (Mt, .inl (g 0, 160, .inl fmt)), (Mrr, .inl (g 0, 3, .inl frrx_6)), (Mrc, .inl (g 0, 9, .inl frcx_8)), (Mm, .inr (7, [.int 0, .ref Mt, .int 0, .int zmax_2, .int zwrx_3, .ref Mrr, .ref Mrh, .ref Mrc, .int 1, .int (nI rcx_5), .ref Mn, .ref Mf, .ref Mr, .ref Mh, .int 1, .int (nI rcx_5), .ref Ma, .ref Mas, .ref Msn, .ref Mac, .ref Mat])), (Mrh, .inl (g 0, 9, .inl frhx_278))] → va_S A s.heap H locs → lv_has ls 3 [(1, .int (nI i_294)), (0, .ref Mm)] → W p l e (headSpec wsX7_net ({ frames := 6, cells := 0, slots := 0, locals := 133 })).room s m ([.ref Mm] : List Value).toArray below meth c H locs 0 0 Q (F0 m 104 ls []) := by
                clear hP hD hS hl
                intro Nloop_301
                induction Nloop_301 with
                | zero => intro i_294 F_295 hF_295 hbi_294 hm9; exact absurd hm9 (Nat.not_lt_zero _)
                | succ Nloop_301 loop_301_ih =>
                  intro i_294 F_295 hF_295 hbi_294 hmloop_301 H locs ls hP hD hS hl
                  refine lv_iload_n hx hb dX7_net_104 rfl (lv_at hl 0 rfl) ?_
                  refine lv_iconst (v := 3) hx hb dX7_net_105 (by decide) ?_
                  refine lv_icmp_ge (tgt := 127) hx hb dX7_net_106 (by decide) (fun cb_302 => ?_) (fun cb_302 => ?_)
                  · skip
                    have cn_303 : 3 ≤ i_294 := (nI_leI (show 3 < 2 ^ 31 by omega) (show i_294 < 2 ^ 31 by omega)).mp cb_302
                    refine lv_iconst (v := 0) hx hb dX7_net_127 (by decide) ?_
                    refine lv_istore_n (lv' := [(1, .int 0), (0, .ref Mm)]) hx hb dX7_net_128 rfl hl (by decide) rfl (fun ls hl => ?_)
                    have loop_320 : ∀ (Nloop_320 : Nat) (i_309 : Nat) (F_310 : Nat → Int32) (F_311 : Nat → Int32) (hF_310 : mOK tb ub F_310) (hF_311 : n3 F_311) (hbi_309 : i_309 ≤ 1) (hmloop_320 : 1 - i_309 < Nloop_320) (H : Heap) (locs : List Loc) (ls : Array Slot), va_P D vwCl [(Mn, .inl (g 0, 1767, .inl F_310)), (Mr, .inl (g 0, 3, .inl F_295)), (Mh, .inl (g 0, 9, .inl F_311)), (Mt, .inl (g 0, 160, .inl fmt)), (Mrr, .inl (g 0, 3, .inl frrx_6)), (Mrc, .inl (g 0, 9, .inl frcx_8)), (Mm, .inr (7, [.int 0, .ref Mt, .int 0, .int zmax_2, .int zwrx_3, .ref Mrr, .ref Mrh, .ref Mrc, .int 1, .int (nI rcx_5), .ref Mn, .ref Mf, .ref Mr, .ref Mh, .int 1, .int (nI rcx_5), .ref Ma, .ref Mas, .ref Msn, .ref Mac, .ref Mat])), (Mrh, .inl (g 0, 9, .inl frhx_278))] H → va_D A [(Mn, .inl (g 0, 1767, .inl F_310)), (Mr, .inl (g 0, 3, .inl F_295)), (Mh, .inl (g 0, 9, .inl F_311)), (Mt, .inl (g 0, 160, .inl fmt)), (Mrr, .inl (g 0, 3, .inl frrx_6)), (Mrc, .inl (g 0, 9, .inl frcx_8)), (Mm, .inr (7, [.int 0, .ref Mt, .int 0, .int zmax_2, .int zwrx_3, .ref Mrr, .ref Mrh, .ref Mrc, .int 1, .int (nI rcx_5), .ref Mn, .ref Mf, .ref Mr, .ref Mh, .int 1, .int (nI rcx_5), .ref Ma, .ref Mas, .ref Msn, .ref Mac, .ref Mat])), (Mrh, .inl (g 0, 9, .inl frhx_278))] → va_S A s.heap H locs → lv_has ls 3 [(1, .int (nI i_309)), (0, .ref Mm)] → W p l e (headSpec wsX7_net ({ frames := 6, cells := 0, slots := 0, locals := 133 })).room s m ([.ref Mm] : List Value).toArray below meth c H locs 0 0 Q (F0 m 129 ls []) := by
                      clear hP hD hS hl
                      intro Nloop_320
                      induction Nloop_320 with
                      | zero => intro i_309 F_310 F_311 hF_310 hF_311 hbi_309 hm9; exact absurd hm9 (Nat.not_lt_zero _)
                      | succ Nloop_320 loop_320_ih =>
                        intro i_309 F_310 F_311 hF_310 hF_311 hbi_309 hmloop_320 H locs ls hP hD hS hl
                        refine lv_iload_n hx hb dX7_net_129 rfl (lv_at hl 0 rfl) ?_
                        refine lv_aload_n hx hb dX7_net_130 rfl (lv_at hl 1 rfl) ?_
                        refine va_get (D := D) (ci := 7) (v := .int 1) (C := RX7) (T := TX7) (N := 21) hx hb hts iX7 hown hK hP 6 rfl rfl 14 (by decide) f124 (fun _ h9 => h9) rfl dX7_net_131 ?_
                        refine lv_icmp_ge (tgt := 148) hx hb dX7_net_134 (by decide) (fun cb_321 => ?_) (fun cb_321 => ?_)
                        · skip
                          have cn_322 : 1 ≤ i_309 := (nI_leI (show 1 < 2 ^ 31 by omega) (show i_309 < 2 ^ 31 by omega)).mp cb_321
                          refine lv_iconst (v := 0) hx hb dX7_net_148 (by decide) ?_
                          refine lv_istore_n (lv' := [(1, .int 0), (0, .ref Mm)]) hx hb dX7_net_149 rfl hl (by decide) rfl (fun ls hl => ?_)
                          have loop_372 : ∀ (Nloop_372 : Nat) (i_345 : Nat) (F_346 : Nat → Int32) (hF_346 : mOK tb ub F_346) (hbi_345 : i_345 ≤ rcx_5) (hmloop_372 : rcx_5 - i_345 < Nloop_372) (H : Heap) (locs : List Loc) (ls : Array Slot), va_P D vwCl [(Mn, .inl (g 0, 1767, .inl F_346)), (Mr, .inl (g 0, 3, .inl F_295)), (Mh, .inl (g 0, 9, .inl F_311)), (Mt, .inl (g 0, 160, .inl fmt)), (Mrr, .inl (g 0, 3, .inl frrx_6)), (Mrc, .inl (g 0, 9, .inl frcx_8)), (Mm, .inr (7, [.int 0, .ref Mt, .int 0, .int zmax_2, .int zwrx_3, .ref Mrr, .ref Mrh, .ref Mrc, .int 1, .int (nI rcx_5), .ref Mn, .ref Mf, .ref Mr, .ref Mh, .int 1, .int (nI rcx_5), .ref Ma, .ref Mas, .ref Msn, .ref Mac, .ref Mat])), (Mrh, .inl (g 0, 9, .inl frhx_278))] H → va_D A [(Mn, .inl (g 0, 1767, .inl F_346)), (Mr, .inl (g 0, 3, .inl F_295)), (Mh, .inl (g 0, 9, .inl F_311)), (Mt, .inl (g 0, 160, .inl fmt)), (Mrr, .inl (g 0, 3, .inl frrx_6)), (Mrc, .inl (g 0, 9, .inl frcx_8)), (Mm, .inr (7, [.int 0, .ref Mt, .int 0, .int zmax_2, .int zwrx_3, .ref Mrr, .ref Mrh, .ref Mrc, .int 1, .int (nI rcx_5), .ref Mn, .ref Mf, .ref Mr, .ref Mh, .int 1, .int (nI rcx_5), .ref Ma, .ref Mas, .ref Msn, .ref Mac, .ref Mat])), (Mrh, .inl (g 0, 9, .inl frhx_278))] → va_S A s.heap H locs → lv_has ls 3 [(1, .int (nI i_345)), (0, .ref Mm)] → W p l e (headSpec wsX7_net ({ frames := 6, cells := 0, slots := 0, locals := 133 })).room s m ([.ref Mm] : List Value).toArray below meth c H locs 0 0 Q (F0 m 150 ls []) := by
                            clear hP hD hS hl
                            intro Nloop_372
                            induction Nloop_372 with
                            | zero => intro i_345 F_346 hF_346 hbi_345 hm9; exact absurd hm9 (Nat.not_lt_zero _)
                            | succ Nloop_372 loop_372_ih =>
                              intro i_345 F_346 hF_346 hbi_345 hmloop_372 H locs ls hP hD hS hl
                              refine lv_iload_n hx hb dX7_net_150 rfl (lv_at hl 0 rfl) ?_
                              refine lv_aload_n hx hb dX7_net_151 rfl (lv_at hl 1 rfl) ?_
                              refine va_get (D := D) (ci := 7) (v := .int (nI rcx_5)) (C := RX7) (T := TX7) (N := 21) hx hb hts iX7 hown hK hP 6 rfl rfl 15 (by decide) f127 (fun _ h9 => h9) rfl dX7_net_152 ?_
                              refine lv_icmp_ge (tgt := 211) hx hb dX7_net_155 (by decide) (fun cb_373 => ?_) (fun cb_373 => ?_)
                              · skip
                                have cn_374 : rcx_5 ≤ i_345 := (nI_leI (show rcx_5 < 2 ^ 31 by omega) (show i_345 < 2 ^ 31 by omega)).mp cb_373
                                refine lv_aload_n hx hb dX7_net_211 rfl (lv_at hl 1 rfl) ?_
                                refine va_get (D := D) (ci := 7) (v := .int (nI rcx_5)) (C := RX7) (T := TX7) (N := 21) hx hb hts iX7 hown hK hP 6 rfl rfl 15 (by decide) f127 (fun _ h9 => h9) rfl dX7_net_212 ?_
                                have hPD9 : PD D A [(Mm, .inr (7, [.int 0, .ref Mt, .int 0, .int zmax_2, .int zwrx_3, .ref Mrr, .ref Mrh, .ref Mrc, .int 1, .int (nI rcx_5), .ref Mn, .ref Mf, .ref Mr, .ref Mh, .int 1, .int (nI rcx_5), .ref Ma, .ref Mas, .ref Msn, .ref Mac, .ref Mat])), (Mt, .inl (g 0, 160, .inl fmt)), (Mrr, .inl (g 0, 3, .inl frrx_6)), (Mrh, .inl (g 0, 9, .inl frhx_278)), (Mrc, .inl (g 0, 9, .inl frcx_8)), (Mn, .inl (g 0, 1767, .inl F_346)), (Mr, .inl (g 0, 3, .inl F_295)), (Mh, .inl (g 0, 9, .inl F_311))] H := ⟨hP.sub [6, 3, 4, 7, 5, 0, 1, 2] rfl, hD.sub [6, 3, 4, 7, 5, 0, 1, 2] (by decide) rfl⟩
                                have hP9 := hPD9.1; have hD9 := hPD9.2
                                subst hQ
                                refine W.widen (k := 0) (n := 0) (Nat.le_of_ble_eq_true rfl) (Nat.le_of_ble_eq_true rfl) ?_
                                exact W.iret (v := (nI rcx_5)) hx hb hr (fun tS htS _ => ⟨⟨_, _, rfl, ⟨(lf2 [frrx_6, frhx_278, frcx_8, F_346, F_295, F_311]), 0, 0, zmax_2, zwrx_3, 1, (nI rcx_5), 1, rcx_5, rfl, ⟨(hf_9.1), (hf_279), (hf_9.2.2.1), (hF_346), (hF_295), (hF_311), (show 1 ≤ 3 by omega), (show rcx_5 ≤ 3 by omega), (show (1 = 0 ∧ rcx_5 = 0) ∨ (1 ≤ 1 ∧ 1 ≤ rcx_5) by omega), (show 0 ≤ 160 by omega)⟩⟩, by rw [htS]; exact hP9, hD9⟩, hS.F htS⟩) hS.2.2 dX7_net_215
                              · skip
                                have cn_375 : i_345 < rcx_5 := Nat.lt_of_not_le (fun q9 => cb_373 ((nI_leI (show rcx_5 < 2 ^ 31 by omega) (show i_345 < 2 ^ 31 by omega)).mpr q9))
                                refine lv_iconst (v := 0) hx hb dX7_net_158 (by decide) ?_
                                refine lv_istore_n (lv' := [(2, .int 0), (1, .int (nI i_345)), (0, .ref Mm)]) hx hb dX7_net_159 rfl hl (by decide) rfl (fun ls hl => ?_)
                                have loop_389 : ∀ (Nloop_389 : Nat) (i_379 : Nat) (F_380 : Nat → Int32) (hF_380 : mOK tb ub F_380) (hbi_379 : i_379 ≤ 3) (hmloop_389 : 3 - i_379 < Nloop_389) (H : Heap) (locs : List Loc) (ls : Array Slot), va_P D vwCl [(Mn, .inl (g 0, 1767, .inl F_380)), (Mr, .inl (g 0, 3, .inl F_295)), (Mh, .inl (g 0, 9, .inl F_311)), (Mt, .inl (g 0, 160, .inl fmt)), (Mrr, .inl (g 0, 3, .inl frrx_6)), (Mrc, .inl (g 0, 9, .inl frcx_8)), (Mm, .inr (7, [.int 0, .ref Mt, .int 0, .int zmax_2, .int zwrx_3, .ref Mrr, .ref Mrh, .ref Mrc, .int 1, .int (nI rcx_5), .ref Mn, .ref Mf, .ref Mr, .ref Mh, .int 1, .int (nI rcx_5), .ref Ma, .ref Mas, .ref Msn, .ref Mac, .ref Mat])), (Mrh, .inl (g 0, 9, .inl frhx_278))] H → va_D A [(Mn, .inl (g 0, 1767, .inl F_380)), (Mr, .inl (g 0, 3, .inl F_295)), (Mh, .inl (g 0, 9, .inl F_311)), (Mt, .inl (g 0, 160, .inl fmt)), (Mrr, .inl (g 0, 3, .inl frrx_6)), (Mrc, .inl (g 0, 9, .inl frcx_8)), (Mm, .inr (7, [.int 0, .ref Mt, .int 0, .int zmax_2, .int zwrx_3, .ref Mrr, .ref Mrh, .ref Mrc, .int 1, .int (nI rcx_5), .ref Mn, .ref Mf, .ref Mr, .ref Mh, .int 1, .int (nI rcx_5), .ref Ma, .ref Mas, .ref Msn, .ref Mac, .ref Mat])), (Mrh, .inl (g 0, 9, .inl frhx_278))] → va_S A s.heap H locs → lv_has ls 3 [(2, .int (nI i_379)), (1, .int (nI i_345)), (0, .ref Mm)] → W p l e (headSpec wsX7_net ({ frames := 6, cells := 0, slots := 0, locals := 133 })).room s m ([.ref Mm] : List Value).toArray below meth c H locs 0 0 Q (F0 m 160 ls []) := by
                                  clear hP hD hS hl
                                  intro Nloop_389
                                  induction Nloop_389 with
                                  | zero => intro i_379 F_380 hF_380 hbi_379 hm9; exact absurd hm9 (Nat.not_lt_zero _)
                                  | succ Nloop_389 loop_389_ih =>
                                    intro i_379 F_380 hF_380 hbi_379 hmloop_389 H locs ls hP hD hS hl
                                    refine lv_iload_n hx hb dX7_net_160 rfl (lv_at hl 0 rfl) ?_
                                    refine lv_iconst (v := 3) hx hb dX7_net_161 (by decide) ?_
                                    refine lv_icmp_ge (tgt := 192) hx hb dX7_net_162 (by decide) (fun cb_390 => ?_) (fun cb_390 => ?_)
                                    · skip
                                      have cn_391 : 3 ≤ i_379 := (nI_leI (show 3 < 2 ^ 31 by omega) (show i_379 < 2 ^ 31 by omega)).mp cb_390
                                      refine lv_aload_n hx hb dX7_net_192 rfl (lv_at hl 2 rfl) ?_
                                      refine va_get (D := D) (ci := 7) (v := .ref Mn) (C := RX7) (T := TX7) (N := 21) hx hb hts iX7 hown hK hP 6 rfl rfl 10 (by decide) f22 (fun _ h9 => h9) rfl dX7_net_193 ?_
                                      refine lv_iload_n hx hb dX7_net_196 rfl (lv_at hl 1 rfl) ?_
                                      refine ky_Si (As := [.int (nI i_345)]) (rest := [.ref Mn]) ⟨hx, hb, hml, hown, hts⟩ ⟨hK, hN⟩ hZ hP hD hS hA [] [0, 1, 2, 3, 4, 5, 6, 7] (wc := []) (wr := [(Mn, .inl (g 0, 1767, .inl F_380)), (Mr, .inl (g 0, 3, .inl F_295)), (Mh, .inl (g 0, 9, .inl F_311)), (Mt, .inl (g 0, 160, .inl fmt)), (Mrr, .inl (g 0, 3, .inl frrx_6)), (Mrc, .inl (g 0, 9, .inl frcx_8)), (Mm, .inr (7, [.int 0, .ref Mt, .int 0, .int zmax_2, .int zwrx_3, .ref Mrr, .ref Mrh, .ref Mrc, .int 1, .int (nI rcx_5), .ref Mn, .ref Mf, .ref Mr, .ref Mh, .int 1, .int (nI rcx_5), .ref Ma, .ref Mas, .ref Msn, .ref Mac, .ref Mat])), (Mrh, .inl (g 0, 9, .inl frhx_278))]) rfl rfl rfl rfl (by decide) (k_X7_circuitAt l D g H.size i_345 (show i_345 < 3 by omega)) (va_cwS 1 hts gX7_net_X7_circuitAt rfl rfl rfl (by decide +kernel) ⟨(Nat.le_of_ble_eq_true rfl), (Nat.le_of_ble_eq_true rfl)⟩) rfl hl.1 rfl (Nat.le_of_ble_eq_true rfl) dX7_net_197 ⟨(Nat.le_of_ble_eq_true rfl), (Nat.le_of_ble_eq_true rfl)⟩ (fun r_392 u H locs hw hP2 hD2 hS2 => ?_)
                                      clear hP hD hS
                                      obtain ⟨rfl, rfl⟩ := hw
                                      have hPD : PD D A [(Mn, .inl (g 0, 1767, .inl F_380)), (Mr, .inl (g 0, 3, .inl F_295)), (Mh, .inl (g 0, 9, .inl F_311)), (Mt, .inl (g 0, 160, .inl fmt)), (Mrr, .inl (g 0, 3, .inl frrx_6)), (Mrc, .inl (g 0, 9, .inl frcx_8)), (Mm, .inr (7, [.int 0, .ref Mt, .int 0, .int zmax_2, .int zwrx_3, .ref Mrr, .ref Mrh, .ref Mrc, .int 1, .int (nI rcx_5), .ref Mn, .ref Mf, .ref Mr, .ref Mh, .int 1, .int (nI rcx_5), .ref Ma, .ref Mas, .ref Msn, .ref Mac, .ref Mat])), (Mrh, .inl (g 0, 9, .inl frhx_278))] H := ⟨hP2, hD2⟩
                                      have hS := hS2; clear hP2 hD2 hS2; have hP := hPD.1; have hD := hPD.2; clear hPD
                                      refine W.widen (k := 0) (n := 0) (Nat.le_of_ble_eq_true rfl) (Nat.le_of_ble_eq_true rfl) ?_
                                      refine lv_bipush (v := 6) hx hb dX7_net_200 (by decide) ?_
                                      refine lv_iadd hx hb dX7_net_202 ?_
                                      refine lv_eqi (y := (nI (201 + 9 * i_345 + 6))) (nI_add (201 + 9 * i_345) (6)) ?_
                                      refine lv_iconst (v := (-1)) hx hb dX7_net_203 (by decide) ?_
                                      refine va_iast hx hb hK hP hD hS 0 0 rfl rfl (vp_in_nI (show 201 + 9 * i_345 + 6 < 1767 by omega) (by decide)) dX7_net_204 (fun H locs hP2 hD2 hS2 => ?_)
                                      clear hP hD hS
                                      have hPD : PD D A [(Mn, .inl (g 0, 1767, .inl (upd F_380 (nI (201 + 9 * i_345 + 6)).toNatClampNeg (-1)))), (Mr, .inl (g 0, 3, .inl F_295)), (Mh, .inl (g 0, 9, .inl F_311)), (Mt, .inl (g 0, 160, .inl fmt)), (Mrr, .inl (g 0, 3, .inl frrx_6)), (Mrc, .inl (g 0, 9, .inl frcx_8)), (Mm, .inr (7, [.int 0, .ref Mt, .int 0, .int zmax_2, .int zwrx_3, .ref Mrr, .ref Mrh, .ref Mrc, .int 1, .int (nI rcx_5), .ref Mn, .ref Mf, .ref Mr, .ref Mh, .int 1, .int (nI rcx_5), .ref Ma, .ref Mas, .ref Msn, .ref Mac, .ref Mat])), (Mrh, .inl (g 0, 9, .inl frhx_278))] H := ⟨hP2, hD2⟩
                                      have hS := hS2; clear hP2 hD2 hS2; have hP := hPD.1; have hD := hPD.2; clear hPD
                                      rw [nI_clamp (show 201 + 9 * i_345 + 6 < 2 ^ 31 by omega)] at hP hD
                                      have hPD : PD D A [(Mn, .inl (g 0, 1767, .inl (upd F_380 (201 + 9 * i_345 + 6) (-1)))), (Mr, .inl (g 0, 3, .inl F_295)), (Mh, .inl (g 0, 9, .inl F_311)), (Mt, .inl (g 0, 160, .inl fmt)), (Mrr, .inl (g 0, 3, .inl frrx_6)), (Mrc, .inl (g 0, 9, .inl frcx_8)), (Mm, .inr (7, [.int 0, .ref Mt, .int 0, .int zmax_2, .int zwrx_3, .ref Mrr, .ref Mrh, .ref Mrc, .int 1, .int (nI rcx_5), .ref Mn, .ref Mf, .ref Mr, .ref Mh, .int 1, .int (nI rcx_5), .ref Ma, .ref Mas, .ref Msn, .ref Mac, .ref Mat])), (Mrh, .inl (g 0, 9, .inl frhx_278))] H := ⟨hP, hD⟩
                                      clear hP hD; have hP := hPD.1; have hD := hPD.2; clear hPD
                                      have hF_393 : mOK tb ub (upd F_380 (201 + 9 * i_345 + 6) (-1)) := mOK_free hF_380 (show mfree (201 + 9 * i_345 + 6) by unfold mfree; omega)
                                      generalize upd F_380 (201 + 9 * i_345 + 6) (-1) = F_393 at hP hD hF_393
                                      refine lv_iinc (v := (nI (i_345 + 1))) (lv' := [(1, .int (nI (i_345 + 1))), (2, .int (nI i_379)), (0, .ref Mm)]) hx hb dX7_net_205 hl (k := 1) rfl (nI_1 (i_345)) (by decide) rfl (fun ls hl => ?_)
                                      refine lv_goto (tgt := 150) hx hb dX7_net_208 (by decide) ?_
                                      exact loop_372_ih (i_345 + 1) F_393 (hF_393) (show (i_345 + 1) ≤ rcx_5 by omega) (show rcx_5 - (i_345 + 1) < Nloop_372 by omega) _ _ _ hP hD hS (lv_sub hl [0, 2] rfl)
                                    · skip
                                      have cn_394 : i_379 < 3 := Nat.lt_of_not_le (fun q9 => cb_390 ((nI_leI (show 3 < 2 ^ 31 by omega) (show i_379 < 2 ^ 31 by omega)).mpr q9))
                                      refine lv_aload_n hx hb dX7_net_165 rfl (lv_at hl 2 rfl) ?_
                                      refine va_get (D := D) (ci := 7) (v := .ref Mn) (C := RX7) (T := TX7) (N := 21) hx hb hts iX7 hown hK hP 6 rfl rfl 10 (by decide) f22 (fun _ h9 => h9) rfl dX7_net_166 ?_
                                      refine lv_iload_n hx hb dX7_net_169 rfl (lv_at hl 1 rfl) ?_
                                      refine ky_Si (As := [.int (nI i_345)]) (rest := [.ref Mn]) ⟨hx, hb, hml, hown, hts⟩ ⟨hK, hN⟩ hZ hP hD hS hA [] [0, 1, 2, 3, 4, 5, 6, 7] (wc := []) (wr := [(Mn, .inl (g 0, 1767, .inl F_380)), (Mr, .inl (g 0, 3, .inl F_295)), (Mh, .inl (g 0, 9, .inl F_311)), (Mt, .inl (g 0, 160, .inl fmt)), (Mrr, .inl (g 0, 3, .inl frrx_6)), (Mrc, .inl (g 0, 9, .inl frcx_8)), (Mm, .inr (7, [.int 0, .ref Mt, .int 0, .int zmax_2, .int zwrx_3, .ref Mrr, .ref Mrh, .ref Mrc, .int 1, .int (nI rcx_5), .ref Mn, .ref Mf, .ref Mr, .ref Mh, .int 1, .int (nI rcx_5), .ref Ma, .ref Mas, .ref Msn, .ref Mac, .ref Mat])), (Mrh, .inl (g 0, 9, .inl frhx_278))]) rfl rfl rfl rfl (by decide) (k_X7_circuitAt l D g H.size i_345 (show i_345 < 3 by omega)) (va_cwS 1 hts gX7_net_X7_circuitAt rfl rfl rfl (by decide +kernel) ⟨(Nat.le_of_ble_eq_true rfl), (Nat.le_of_ble_eq_true rfl)⟩) rfl hl.1 rfl (Nat.le_of_ble_eq_true rfl) dX7_net_170 ⟨(Nat.le_of_ble_eq_true rfl), (Nat.le_of_ble_eq_true rfl)⟩ (fun r_395 u H locs hw hP2 hD2 hS2 => ?_)
                                      clear hP hD hS
                                      obtain ⟨rfl, rfl⟩ := hw
                                      have hPD : PD D A [(Mn, .inl (g 0, 1767, .inl F_380)), (Mr, .inl (g 0, 3, .inl F_295)), (Mh, .inl (g 0, 9, .inl F_311)), (Mt, .inl (g 0, 160, .inl fmt)), (Mrr, .inl (g 0, 3, .inl frrx_6)), (Mrc, .inl (g 0, 9, .inl frcx_8)), (Mm, .inr (7, [.int 0, .ref Mt, .int 0, .int zmax_2, .int zwrx_3, .ref Mrr, .ref Mrh, .ref Mrc, .int 1, .int (nI rcx_5), .ref Mn, .ref Mf, .ref Mr, .ref Mh, .int 1, .int (nI rcx_5), .ref Ma, .ref Mas, .ref Msn, .ref Mac, .ref Mat])), (Mrh, .inl (g 0, 9, .inl frhx_278))] H := ⟨hP2, hD2⟩
                                      have hS := hS2; clear hP2 hD2 hS2; have hP := hPD.1; have hD := hPD.2; clear hPD
                                      refine W.widen (k := 0) (n := 0) (Nat.le_of_ble_eq_true rfl) (Nat.le_of_ble_eq_true rfl) ?_
                                      refine lv_iload_n hx hb dX7_net_173 rfl (lv_at hl 0 rfl) ?_
                                      refine lv_iadd hx hb dX7_net_174 ?_
                                      refine lv_eqi (y := (nI (201 + 9 * i_345 + i_379))) (nI_add (201 + 9 * i_345) (i_379)) ?_
                                      refine lv_aload_n hx hb dX7_net_175 rfl (lv_at hl 2 rfl) ?_
                                      refine va_get (D := D) (ci := 7) (v := .ref Mrc) (C := RX7) (T := TX7) (N := 21) hx hb hts iX7 hown hK hP 6 rfl rfl 7 (by decide) f19 (fun _ h9 => h9) rfl dX7_net_176 ?_
                                      refine lv_iconst (v := 3) hx hb dX7_net_179 (by decide) ?_
                                      refine lv_iload_n hx hb dX7_net_180 rfl (lv_at hl 1 rfl) ?_
                                      refine lv_imul hx hb dX7_net_181 ?_
                                      refine lv_eqi (y := (nI (3 * i_345))) (pk_mul (3) (i_345)) ?_
                                      refine lv_iload_n hx hb dX7_net_182 rfl (lv_at hl 0 rfl) ?_
                                      refine lv_iadd hx hb dX7_net_183 ?_
                                      refine lv_eqi (y := (nI (3 * i_345 + i_379))) (nI_add (3 * i_345) (i_379)) ?_
                                      refine va_iald hx hb hK hP 5 0 rfl rfl (vp_in_nI (show 3 * i_345 + i_379 < 9 by omega) (by decide)) dX7_net_184 ?_
                                      refine lv_eqi (y := (frcx_8 (3 * i_345 + i_379))) (congrArg frcx_8 (nI_clamp (show 3 * i_345 + i_379 < 2 ^ 31 by omega))) ?_
                                      obtain ⟨n_396, hn_396, q9⟩ := hf_9.2.2.1 (3 * i_345 + i_379)
                                      refine lv_eqi (y := nI n_396) q9 ?_
                                      refine va_iast hx hb hK hP hD hS 0 0 rfl rfl (vp_in_nI (show 201 + 9 * i_345 + i_379 < 1767 by omega) (by decide)) dX7_net_185 (fun H locs hP2 hD2 hS2 => ?_)
                                      clear hP hD hS
                                      have hPD : PD D A [(Mn, .inl (g 0, 1767, .inl (upd F_380 (nI (201 + 9 * i_345 + i_379)).toNatClampNeg (nI n_396)))), (Mr, .inl (g 0, 3, .inl F_295)), (Mh, .inl (g 0, 9, .inl F_311)), (Mt, .inl (g 0, 160, .inl fmt)), (Mrr, .inl (g 0, 3, .inl frrx_6)), (Mrc, .inl (g 0, 9, .inl frcx_8)), (Mm, .inr (7, [.int 0, .ref Mt, .int 0, .int zmax_2, .int zwrx_3, .ref Mrr, .ref Mrh, .ref Mrc, .int 1, .int (nI rcx_5), .ref Mn, .ref Mf, .ref Mr, .ref Mh, .int 1, .int (nI rcx_5), .ref Ma, .ref Mas, .ref Msn, .ref Mac, .ref Mat])), (Mrh, .inl (g 0, 9, .inl frhx_278))] H := ⟨hP2, hD2⟩
                                      have hS := hS2; clear hP2 hD2 hS2; have hP := hPD.1; have hD := hPD.2; clear hPD
                                      rw [nI_clamp (show 201 + 9 * i_345 + i_379 < 2 ^ 31 by omega)] at hP hD
                                      have hPD : PD D A [(Mn, .inl (g 0, 1767, .inl (upd F_380 (201 + 9 * i_345 + i_379) (nI n_396)))), (Mr, .inl (g 0, 3, .inl F_295)), (Mh, .inl (g 0, 9, .inl F_311)), (Mt, .inl (g 0, 160, .inl fmt)), (Mrr, .inl (g 0, 3, .inl frrx_6)), (Mrc, .inl (g 0, 9, .inl frcx_8)), (Mm, .inr (7, [.int 0, .ref Mt, .int 0, .int zmax_2, .int zwrx_3, .ref Mrr, .ref Mrh, .ref Mrc, .int 1, .int (nI rcx_5), .ref Mn, .ref Mf, .ref Mr, .ref Mh, .int 1, .int (nI rcx_5), .ref Ma, .ref Mas, .ref Msn, .ref Mac, .ref Mat])), (Mrh, .inl (g 0, 9, .inl frhx_278))] H := ⟨hP, hD⟩
                                      clear hP hD; have hP := hPD.1; have hD := hPD.2; clear hPD
                                      have hF_397 : mOK tb ub (upd F_380 (201 + 9 * i_345 + i_379) (nI n_396)) := mOK_free hF_380 (show mfree (201 + 9 * i_345 + i_379) by unfold mfree; omega)
                                      generalize upd F_380 (201 + 9 * i_345 + i_379) (nI n_396) = F_397 at hP hD hF_397
                                      refine lv_iinc (v := (nI (i_379 + 1))) (lv' := [(2, .int (nI (i_379 + 1))), (1, .int (nI i_345)), (0, .ref Mm)]) hx hb dX7_net_186 hl (k := 0) rfl (nI_1 (i_379)) (by decide) rfl (fun ls hl => ?_)
                                      refine lv_goto (tgt := 160) hx hb dX7_net_189 (by decide) ?_
                                      exact loop_389_ih (i_379 + 1) F_397 (hF_397) (show (i_379 + 1) ≤ 3 by omega) (show 3 - (i_379 + 1) < Nloop_389 by omega) _ _ _ hP hD hS hl
                                exact loop_389 _ 0 F_346 (hF_346) (show 0 ≤ 3 by omega) (Nat.lt_succ_self _) _ _ _ hP hD hS hl
                          exact loop_372 _ 0 F_310 (hF_310) (show 0 ≤ rcx_5 by omega) (Nat.lt_succ_self _) _ _ _ hP hD hS hl
                        · skip
                          have cn_398 : i_309 < 1 := Nat.lt_of_not_le (fun q9 => cb_321 ((nI_leI (show 1 < 2 ^ 31 by omega) (show i_309 < 2 ^ 31 by omega)).mpr q9))
                          refine lv_aload_n hx hb dX7_net_137 rfl (lv_at hl 1 rfl) ?_
                          refine lv_iload_n hx hb dX7_net_138 rfl (lv_at hl 0 rfl) ?_
                          refine ky_Vv (As := [.int (nI i_309)]) (rest := []) ⟨hx, hb, hml, hown, hts⟩ ⟨hK, hN⟩ hZ hP hD hS hA [6, 0, 2, 1, 7] [3, 4, 5] (wc := [(Mm, .inr (7, [.int 0, .ref Mt, .int 0, .int zmax_2, .int zwrx_3, .ref Mrr, .ref Mrh, .ref Mrc, .int 1, .int (nI rcx_5), .ref Mn, .ref Mf, .ref Mr, .ref Mh, .int 1, .int (nI rcx_5), .ref Ma, .ref Mas, .ref Msn, .ref Mac, .ref Mat])), (Mn, .inl (g 0, 1767, .inl F_310)), (Mh, .inl (g 0, 9, .inl F_311)), (Mr, .inl (g 0, 3, .inl F_295)), (Mrh, .inl (g 0, 9, .inl frhx_278))]) (wr := [(Mt, .inl (g 0, 160, .inl fmt)), (Mrr, .inl (g 0, 3, .inl frrx_6)), (Mrc, .inl (g 0, 9, .inl frcx_8))]) rfl rfl rfl rfl (by decide) (k_X7_laysHop l D g H.size Mm i_309 0 Mt 0 zmax_2 zwrx_3 Mrr Mrh Mrc 1 (nI rcx_5) Mn Mf Mr Mh 1 rcx_5 Ma Mas Msn Mac Mat F_310 F_311 F_295 frhx_278 tb ub (show tb < 2 ^ 29 by omega) (show ub < 2 ^ 29 by omega) (hF_310) (show 1 ≤ 1 by omega) (show 1 ≤ 3 by omega) (show 1 ≤ rcx_5 by omega) (show rcx_5 ≤ 3 by omega) (show i_309 < 3 by omega) (hF_311) (hf_279) (hF_295)) (cwV 1 hts gX7_net_X7_laysHop rfl rfl rfl (by decide +kernel) ⟨(Nat.le_of_ble_eq_true rfl), (Nat.le_of_ble_eq_true rfl)⟩) 6 7 rfl rfl rfl rfl hl.1 rfl (Nat.le_of_ble_eq_true rfl) dX7_net_139 ⟨(Nat.le_of_ble_eq_true rfl), (Nat.le_of_ble_eq_true rfl)⟩ (fun u H locs hw hP2 hD2 hS2 => ?_)
                          clear hP hD hS
                          obtain ⟨fnox_400, fmhx_401, rfl, hf_402, hf_403⟩ := hw
                          have hPD : PD D A [(Mt, .inl (g 0, 160, .inl fmt)), (Mrr, .inl (g 0, 3, .inl frrx_6)), (Mrc, .inl (g 0, 9, .inl frcx_8)), (Mm, .inr (7, [.int 0, .ref Mt, .int (nI 0), .int zmax_2, .int zwrx_3, .ref Mrr, .ref Mrh, .ref Mrc, .int 1, .int (nI rcx_5), .ref Mn, .ref Mf, .ref Mr, .ref Mh, .int (nI 1), .int (nI rcx_5), .ref Ma, .ref Mas, .ref Msn, .ref Mac, .ref Mat])), (Mn, .inl (g 0, 1767, .inl fnox_400)), (Mh, .inl (g 0, 9, .inl fmhx_401)), (Mr, .inl (g 0, 3, .inl F_295)), (Mrh, .inl (g 0, 9, .inl frhx_278))] H := ⟨hP2, hD2⟩
                          have hS := hS2; clear hP2 hD2 hS2; have hP := hPD.1; have hD := hPD.2; clear hPD
                          refine W.widen (k := 0) (n := 0) (Nat.le_of_ble_eq_true rfl) (Nat.le_of_ble_eq_true rfl) ?_
                          refine lv_iinc (v := (nI (i_309 + 1))) (lv' := [(1, .int (nI (i_309 + 1))), (0, .ref Mm)]) hx hb dX7_net_142 hl (k := 0) rfl (nI_1 (i_309)) (by decide) rfl (fun ls hl => ?_)
                          refine lv_goto (tgt := 129) hx hb dX7_net_145 (by decide) ?_
                          exact loop_320_ih (i_309 + 1) fnox_400 fmhx_401 (hf_402) (hf_403) (show (i_309 + 1) ≤ 1 by omega) (show 1 - (i_309 + 1) < Nloop_320 by omega) _ _ _ (hP.sub [4, 6, 5, 0, 1, 2, 3, 7] rfl) (hD.sub [4, 6, 5, 0, 1, 2, 3, 7] (by decide) rfl) hS hl
                    exact loop_320 _ 0 F_284 fmh (hF_284) (h8) (show 0 ≤ 1 by omega) (Nat.lt_succ_self _) _ _ _ hP hD hS hl
                  · skip
                    have cn_404 : i_294 < 3 := Nat.lt_of_not_le (fun q9 => cb_302 ((nI_leI (show 3 < 2 ^ 31 by omega) (show i_294 < 2 ^ 31 by omega)).mpr q9))
                    refine lv_aload_n hx hb dX7_net_109 rfl (lv_at hl 1 rfl) ?_
                    refine va_get (D := D) (ci := 7) (v := .ref Mr) (C := RX7) (T := TX7) (N := 21) hx hb hts iX7 hown hK hP 6 rfl rfl 12 (by decide) f28 (fun _ h9 => h9) rfl dX7_net_110 ?_
                    refine lv_iload_n hx hb dX7_net_113 rfl (lv_at hl 0 rfl) ?_
                    refine lv_aload_n hx hb dX7_net_114 rfl (lv_at hl 1 rfl) ?_
                    refine va_get (D := D) (ci := 7) (v := .ref Mrr) (C := RX7) (T := TX7) (N := 21) hx hb hts iX7 hown hK hP 6 rfl rfl 5 (by decide) f13 (fun _ h9 => h9) rfl dX7_net_115 ?_
                    refine lv_iload_n hx hb dX7_net_118 rfl (lv_at hl 0 rfl) ?_
                    refine va_iald hx hb hK hP 4 0 rfl rfl (vp_in_nI (show i_294 < 3 by omega) (by decide)) dX7_net_119 ?_
                    refine lv_eqi (y := (frrx_6 (i_294))) (congrArg frrx_6 (nI_clamp (show i_294 < 2 ^ 31 by omega))) ?_
                    obtain ⟨n_405, hn_405, q9⟩ := hf_9.1 (i_294)
                    refine lv_eqi (y := nI n_405) q9 ?_
                    refine va_iast hx hb hK hP hD hS 1 0 rfl rfl (vp_in_nI (show i_294 < 3 by omega) (by decide)) dX7_net_120 (fun H locs hP2 hD2 hS2 => ?_)
                    clear hP hD hS
                    have hPD : PD D A [(Mn, .inl (g 0, 1767, .inl F_284)), (Mr, .inl (g 0, 3, .inl (upd F_295 (nI i_294).toNatClampNeg (nI n_405)))), (Mh, .inl (g 0, 9, .inl fmh)), (Mt, .inl (g 0, 160, .inl fmt)), (Mrr, .inl (g 0, 3, .inl frrx_6)), (Mrc, .inl (g 0, 9, .inl frcx_8)), (Mm, .inr (7, [.int 0, .ref Mt, .int 0, .int zmax_2, .int zwrx_3, .ref Mrr, .ref Mrh, .ref Mrc, .int 1, .int (nI rcx_5), .ref Mn, .ref Mf, .ref Mr, .ref Mh, .int 1, .int (nI rcx_5), .ref Ma, .ref Mas, .ref Msn, .ref Mac, .ref Mat])), (Mrh, .inl (g 0, 9, .inl frhx_278))] H := ⟨hP2, hD2⟩
                    have hS := hS2; clear hP2 hD2 hS2; have hP := hPD.1; have hD := hPD.2; clear hPD
                    rw [nI_clamp (show i_294 < 2 ^ 31 by omega)] at hP hD
                    have hPD : PD D A [(Mn, .inl (g 0, 1767, .inl F_284)), (Mr, .inl (g 0, 3, .inl (upd F_295 (i_294) (nI n_405)))), (Mh, .inl (g 0, 9, .inl fmh)), (Mt, .inl (g 0, 160, .inl fmt)), (Mrr, .inl (g 0, 3, .inl frrx_6)), (Mrc, .inl (g 0, 9, .inl frcx_8)), (Mm, .inr (7, [.int 0, .ref Mt, .int 0, .int zmax_2, .int zwrx_3, .ref Mrr, .ref Mrh, .ref Mrc, .int 1, .int (nI rcx_5), .ref Mn, .ref Mf, .ref Mr, .ref Mh, .int 1, .int (nI rcx_5), .ref Ma, .ref Mas, .ref Msn, .ref Mac, .ref Mat])), (Mrh, .inl (g 0, 9, .inl frhx_278))] H := ⟨hP, hD⟩
                    clear hP hD; have hP := hPD.1; have hD := hPD.2; clear hPD
                    have hF_406 : n1 (upd F_295 (i_294) (nI n_405)) := n1_upd (hF_295) (n := n_405) (show n_405 ≤ 99 by omega)
                    generalize upd F_295 (i_294) (nI n_405) = F_406 at hP hD hF_406
                    refine lv_iinc (v := (nI (i_294 + 1))) (lv' := [(1, .int (nI (i_294 + 1))), (0, .ref Mm)]) hx hb dX7_net_121 hl (k := 0) rfl (nI_1 (i_294)) (by decide) rfl (fun ls hl => ?_)
                    refine lv_goto (tgt := 104) hx hb dX7_net_124 (by decide) ?_
                    exact loop_301_ih (i_294 + 1) F_406 (hF_406) (show (i_294 + 1) ≤ 3 by omega) (show 3 - (i_294 + 1) < Nloop_301 by omega) _ _ _ hP hD hS hl
              exact loop_301 _ 0 fmr (h7) (show 0 ≤ 3 by omega) (Nat.lt_succ_self _) _ _ _ hP hD hS hl
            · skip
              have cn_407 : i_283 < 1767 := Nat.lt_of_not_le (fun q9 => cb_290 ((nI_leI (show 1767 < 2 ^ 31 by omega) (show i_283 < 2 ^ 31 by omega)).mpr q9))
              refine lv_aload_n hx hb dX7_net_89 rfl (lv_at hl 1 rfl) ?_
              refine va_get (D := D) (ci := 7) (v := .ref Mn) (C := RX7) (T := TX7) (N := 21) hx hb hts iX7 hown hK hP 6 rfl rfl 10 (by decide) f22 (fun _ h9 => h9) rfl dX7_net_90 ?_
              refine lv_iload_n hx hb dX7_net_93 rfl (lv_at hl 0 rfl) ?_
              refine lv_iconst (v := 0) hx hb dX7_net_94 (by decide) ?_
              refine va_iast hx hb hK hP hD hS 0 0 rfl rfl (vp_in_nI (show i_283 < 1767 by omega) (by decide)) dX7_net_95 (fun H locs hP2 hD2 hS2 => ?_)
              clear hP hD hS
              have hPD : PD D A [(Mn, .inl (g 0, 1767, .inl (upd F_284 (nI i_283).toNatClampNeg 0))), (Mr, .inl (g 0, 3, .inl fmr)), (Mh, .inl (g 0, 9, .inl fmh)), (Mt, .inl (g 0, 160, .inl fmt)), (Mrr, .inl (g 0, 3, .inl frrx_6)), (Mrc, .inl (g 0, 9, .inl frcx_8)), (Mm, .inr (7, [.int 0, .ref Mt, .int 0, .int zmax_2, .int zwrx_3, .ref Mrr, .ref Mrh, .ref Mrc, .int 1, .int (nI rcx_5), .ref Mn, .ref Mf, .ref Mr, .ref Mh, .int 1, .int (nI rcx_5), .ref Ma, .ref Mas, .ref Msn, .ref Mac, .ref Mat])), (Mrh, .inl (g 0, 9, .inl frhx_278))] H := ⟨hP2, hD2⟩
              have hS := hS2; clear hP2 hD2 hS2; have hP := hPD.1; have hD := hPD.2; clear hPD
              rw [nI_clamp (show i_283 < 2 ^ 31 by omega)] at hP hD
              have hPD : PD D A [(Mn, .inl (g 0, 1767, .inl (upd F_284 (i_283) 0))), (Mr, .inl (g 0, 3, .inl fmr)), (Mh, .inl (g 0, 9, .inl fmh)), (Mt, .inl (g 0, 160, .inl fmt)), (Mrr, .inl (g 0, 3, .inl frrx_6)), (Mrc, .inl (g 0, 9, .inl frcx_8)), (Mm, .inr (7, [.int 0, .ref Mt, .int 0, .int zmax_2, .int zwrx_3, .ref Mrr, .ref Mrh, .ref Mrc, .int 1, .int (nI rcx_5), .ref Mn, .ref Mf, .ref Mr, .ref Mh, .int 1, .int (nI rcx_5), .ref Ma, .ref Mas, .ref Msn, .ref Mac, .ref Mat])), (Mrh, .inl (g 0, 9, .inl frhx_278))] H := ⟨hP, hD⟩
              clear hP hD; have hP := hPD.1; have hD := hPD.2; clear hPD
              have hF_408 : mOK tb ub (upd F_284 (i_283) 0) := mOK_zero hF_284
              generalize upd F_284 (i_283) 0 = F_408 at hP hD hF_408
              refine lv_iinc (v := (nI (i_283 + 1))) (lv' := [(1, .int (nI (i_283 + 1))), (0, .ref Mm)]) hx hb dX7_net_96 hl (k := 0) rfl (nI_1 (i_283)) (by decide) rfl (fun ls hl => ?_)
              refine lv_goto (tgt := 82) hx hb dX7_net_99 (by decide) ?_
              exact loop_289_ih (i_283 + 1) F_408 (hF_408) (show (i_283 + 1) ≤ 1767 by omega) (show 1767 - (i_283 + 1) < Nloop_289 by omega) _ _ _ hP hD hS hl
        exact loop_289 _ 0 fno (h6) (show 0 ≤ 1767 by omega) (Nat.lt_succ_self _) _ _ _ hP hD hS hl
      · skip
        have cn_409 : rcx_5 = 0 := (nI_eq (show rcx_5 < 2 ^ 31 by omega) (show 0 < 2 ^ 31 by omega)).mp cb_280
        refine lv_aload_n hx hb dX7_net_49 rfl (lv_at hl 0 rfl) ?_
        refine lv_iconst (v := 2) hx hb dX7_net_50 (by decide) ?_
        refine lv_aload_n hx hb dX7_net_51 rfl (lv_at hl 0 rfl) ?_
        refine va_get (D := D) (ci := 7) (v := .ref Mrc) (C := RX7) (T := TX7) (N := 21) hx hb hts iX7 hown hK hP 6 rfl rfl 7 (by decide) f19 (fun _ h9 => h9) rfl dX7_net_52 ?_
        refine lv_iconst (v := 0) hx hb dX7_net_55 (by decide) ?_
        refine ky_Vv (As := [.int 2, .ref Mrc, .int 0]) (rest := []) ⟨hx, hb, hml, hown, hts⟩ ⟨hK, hN⟩ hZ hP hD hS hA [6, 5] [0, 1, 2, 3, 4, 7] (wc := [(Mm, .inr (7, [.int 0, .ref Mt, .int 0, .int zmax_2, .int zwrx_3, .ref Mrr, .ref Mrh, .ref Mrc, .int 1, .int (nI rcx_5), .ref Mn, .ref Mf, .ref Mr, .ref Mh, .int (nI hp), .int (nI cc), .ref Ma, .ref Mas, .ref Msn, .ref Mac, .ref Mat])), (Mrc, .inl (g 0, 9, .inl frcx_8))]) (wr := [(Mn, .inl (g 0, 1767, .inl fno)), (Mr, .inl (g 0, 3, .inl fmr)), (Mh, .inl (g 0, 9, .inl fmh)), (Mt, .inl (g 0, 160, .inl fmt)), (Mrr, .inl (g 0, 3, .inl frrx_6)), (Mrh, .inl (g 0, 9, .inl frhx_278))]) rfl rfl rfl rfl (by decide) (k_X7_laysUsual_2 l D g H.size Mm Mrc 0 0 Mt 0 zmax_2 zwrx_3 Mrr Mrh 1 (nI rcx_5) Mn Mf Mr Mh (nI hp) (nI cc) Ma Mas Msn Mac Mat frcx_8 (show 0 ≤ 6 by omega) (hf_9.2.2.1)) (cwV 3 hts gX7_net_X7_laysUsual rfl rfl rfl (by decide +kernel) ⟨(Nat.le_of_ble_eq_true rfl), (Nat.le_of_ble_eq_true rfl)⟩) 6 7 rfl rfl rfl rfl hl.1 rfl (Nat.le_of_ble_eq_true rfl) dX7_net_56 ⟨(Nat.le_of_ble_eq_true rfl), (Nat.le_of_ble_eq_true rfl)⟩ (fun u H locs hw hP2 hD2 hS2 => ?_)
        clear hP hD hS
        obtain ⟨frcx_411, rfl, hf_412⟩ := hw
        have hPD : PD D A [(Mn, .inl (g 0, 1767, .inl fno)), (Mr, .inl (g 0, 3, .inl fmr)), (Mh, .inl (g 0, 9, .inl fmh)), (Mt, .inl (g 0, 160, .inl fmt)), (Mrr, .inl (g 0, 3, .inl frrx_6)), (Mrh, .inl (g 0, 9, .inl frhx_278)), (Mm, .inr (7, [.int 0, .ref Mt, .int 0, .int zmax_2, .int zwrx_3, .ref Mrr, .ref Mrh, .ref Mrc, .int 1, .int (nI rcx_5), .ref Mn, .ref Mf, .ref Mr, .ref Mh, .int (nI hp), .int (nI cc), .ref Ma, .ref Mas, .ref Msn, .ref Mac, .ref Mat])), (Mrc, .inl (g 0, 9, .inl frcx_411))] H := ⟨hP2, hD2⟩
        have hS := hS2; clear hP2 hD2 hS2; have hP := hPD.1; have hD := hPD.2; clear hPD
        refine W.widen (k := 0) (n := 0) (Nat.le_of_ble_eq_true rfl) (Nat.le_of_ble_eq_true rfl) ?_
        refine lv_aload_n hx hb dX7_net_59 rfl (lv_at hl 0 rfl) ?_
        refine lv_iconst (v := 1) hx hb dX7_net_60 (by decide) ?_
        refine va_put (D := D) (ci := 7) (v := .int 1) (ty := .int) (C := RX7) (T := TX7) (N := 21) hx hb hts iX7 tyX7 tyX7_ok nmX7 hown hK hP hD hS 6 rfl rfl 9 (by decide) f114 (fun _ h9 => h9) rfl (by decide +kernel) (rfl) (rfl) (Nat.le_of_ble_eq_true rfl) dX7_net_61 (fun H locs hP2 hD2 hS2 => ?_)
        clear hP hD hS
        have hPD : PD D A [(Mn, .inl (g 0, 1767, .inl fno)), (Mr, .inl (g 0, 3, .inl fmr)), (Mh, .inl (g 0, 9, .inl fmh)), (Mt, .inl (g 0, 160, .inl fmt)), (Mrr, .inl (g 0, 3, .inl frrx_6)), (Mrh, .inl (g 0, 9, .inl frhx_278)), (Mm, .inr (7, [.int 0, .ref Mt, .int 0, .int zmax_2, .int zwrx_3, .ref Mrr, .ref Mrh, .ref Mrc, .int 1, .int 1, .ref Mn, .ref Mf, .ref Mr, .ref Mh, .int (nI hp), .int (nI cc), .ref Ma, .ref Mas, .ref Msn, .ref Mac, .ref Mat])), (Mrc, .inl (g 0, 9, .inl frcx_411))] H := ⟨hP2, hD2⟩
        have hS := hS2; clear hP2 hD2 hS2; have hP := hPD.1; have hD := hPD.2; clear hPD
        refine lv_aload_n hx hb dX7_net_64 rfl (lv_at hl 0 rfl) ?_
        refine lv_aload_n hx hb dX7_net_65 rfl (lv_at hl 0 rfl) ?_
        refine va_get (D := D) (ci := 7) (v := .int 1) (C := RX7) (T := TX7) (N := 21) hx hb hts iX7 hown hK hP 6 rfl rfl 8 (by decide) f111 (fun _ h9 => h9) rfl dX7_net_66 ?_
        refine va_put (D := D) (ci := 7) (v := .int 1) (ty := .int) (C := RX7) (T := TX7) (N := 21) hx hb hts iX7 tyX7 tyX7_ok nmX7 hown hK hP hD hS 6 rfl rfl 14 (by decide) f124 (fun _ h9 => h9) rfl (by decide +kernel) (rfl) (rfl) (Nat.le_of_ble_eq_true rfl) dX7_net_69 (fun H locs hP2 hD2 hS2 => ?_)
        clear hP hD hS
        have hPD : PD D A [(Mn, .inl (g 0, 1767, .inl fno)), (Mr, .inl (g 0, 3, .inl fmr)), (Mh, .inl (g 0, 9, .inl fmh)), (Mt, .inl (g 0, 160, .inl fmt)), (Mrr, .inl (g 0, 3, .inl frrx_6)), (Mrh, .inl (g 0, 9, .inl frhx_278)), (Mm, .inr (7, [.int 0, .ref Mt, .int 0, .int zmax_2, .int zwrx_3, .ref Mrr, .ref Mrh, .ref Mrc, .int 1, .int 1, .ref Mn, .ref Mf, .ref Mr, .ref Mh, .int 1, .int (nI cc), .ref Ma, .ref Mas, .ref Msn, .ref Mac, .ref Mat])), (Mrc, .inl (g 0, 9, .inl frcx_411))] H := ⟨hP2, hD2⟩
        have hS := hS2; clear hP2 hD2 hS2; have hP := hPD.1; have hD := hPD.2; clear hPD
        refine lv_aload_n hx hb dX7_net_72 rfl (lv_at hl 0 rfl) ?_
        refine lv_aload_n hx hb dX7_net_73 rfl (lv_at hl 0 rfl) ?_
        refine va_get (D := D) (ci := 7) (v := .int 1) (C := RX7) (T := TX7) (N := 21) hx hb hts iX7 hown hK hP 6 rfl rfl 9 (by decide) f114 (fun _ h9 => h9) rfl dX7_net_74 ?_
        refine va_put (D := D) (ci := 7) (v := .int 1) (ty := .int) (C := RX7) (T := TX7) (N := 21) hx hb hts iX7 tyX7 tyX7_ok nmX7 hown hK hP hD hS 6 rfl rfl 15 (by decide) f127 (fun _ h9 => h9) rfl (by decide +kernel) (rfl) (rfl) (Nat.le_of_ble_eq_true rfl) dX7_net_77 (fun H locs hP2 hD2 hS2 => ?_)
        clear hP hD hS
        have hPD : PD D A [(Mn, .inl (g 0, 1767, .inl fno)), (Mr, .inl (g 0, 3, .inl fmr)), (Mh, .inl (g 0, 9, .inl fmh)), (Mt, .inl (g 0, 160, .inl fmt)), (Mrr, .inl (g 0, 3, .inl frrx_6)), (Mrh, .inl (g 0, 9, .inl frhx_278)), (Mm, .inr (7, [.int 0, .ref Mt, .int 0, .int zmax_2, .int zwrx_3, .ref Mrr, .ref Mrh, .ref Mrc, .int 1, .int 1, .ref Mn, .ref Mf, .ref Mr, .ref Mh, .int 1, .int 1, .ref Ma, .ref Mas, .ref Msn, .ref Mac, .ref Mat])), (Mrc, .inl (g 0, 9, .inl frcx_411))] H := ⟨hP2, hD2⟩
        have hS := hS2; clear hP2 hD2 hS2; have hP := hPD.1; have hD := hPD.2; clear hPD
        refine lv_iconst (v := 0) hx hb dX7_net_80 (by decide) ?_
        refine lv_istore_n (lv' := [(1, .int 0), (0, .ref Mm)]) hx hb dX7_net_81 rfl hl (by decide) rfl (fun ls hl => ?_)
        have loop_420 : ∀ (Nloop_420 : Nat) (i_414 : Nat) (F_415 : Nat → Int32) (hF_415 : mOK tb ub F_415) (hbi_414 : i_414 ≤ 1767) (hmloop_420 : 1767 - i_414 < Nloop_420) (H : Heap) (locs : List Loc) (ls : Array Slot), va_P D vwCl [(Mn, .inl (g 0, 1767, .inl F_415)), (Mr, .inl (g 0, 3, .inl fmr)), (Mh, .inl (g 0, 9, .inl fmh)), (Mt, .inl (g 0, 160, .inl fmt)), (Mrr, .inl (g 0, 3, .inl frrx_6)), (Mrh, .inl (g 0, 9, .inl frhx_278)), (Mm, .inr (7, [.int 0, .ref Mt, .int 0, .int zmax_2, .int zwrx_3, .ref Mrr, .ref Mrh, .ref Mrc, .int 1, .int 1, .ref Mn, .ref Mf, .ref Mr, .ref Mh, .int 1, .int 1, .ref Ma, .ref Mas, .ref Msn, .ref Mac, .ref Mat])), (Mrc, .inl (g 0, 9, .inl frcx_411))] H → va_D A [(Mn, .inl (g 0, 1767, .inl F_415)), (Mr, .inl (g 0, 3, .inl fmr)), (Mh, .inl (g 0, 9, .inl fmh)), (Mt, .inl (g 0, 160, .inl fmt)), (Mrr, .inl (g 0, 3, .inl frrx_6)), (Mrh, .inl (g 0, 9, .inl frhx_278)), (Mm, .inr (7, [.int 0, .ref Mt, .int 0, .int zmax_2, .int zwrx_3, .ref Mrr, .ref Mrh, .ref Mrc, .int 1, .int 1, .ref Mn, .ref Mf, .ref Mr, .ref Mh, .int 1, .int 1, .ref Ma, .ref Mas, .ref Msn, .ref Mac, .ref Mat])), (Mrc, .inl (g 0, 9, .inl frcx_411))] → va_S A s.heap H locs → lv_has ls 3 [(1, .int (nI i_414)), (0, .ref Mm)] → W p l e (headSpec wsX7_net ({ frames := 6, cells := 0, slots := 0, locals := 133 })).room s m ([.ref Mm] : List Value).toArray below meth c H locs 0 0 Q (F0 m 82 ls []) := by
          clear hP hD hS hl
          intro Nloop_420
          induction Nloop_420 with
          | zero => intro i_414 F_415 hF_415 hbi_414 hm9; exact absurd hm9 (Nat.not_lt_zero _)
          | succ Nloop_420 loop_420_ih =>
            intro i_414 F_415 hF_415 hbi_414 hmloop_420 H locs ls hP hD hS hl
            refine lv_iload_n hx hb dX7_net_82 rfl (lv_at hl 0 rfl) ?_
            refine lv_sipush (v := 1767) hx hb dX7_net_83 (by decide) ?_
            refine lv_icmp_ge (tgt := 102) hx hb dX7_net_86 (by decide) (fun cb_421 => ?_) (fun cb_421 => ?_)
            · skip
              have cn_422 : 1767 ≤ i_414 := (nI_leI (show 1767 < 2 ^ 31 by omega) (show i_414 < 2 ^ 31 by omega)).mp cb_421
              refine lv_iconst (v := 0) hx hb dX7_net_102 (by decide) ?_
              refine lv_istore_n (lv' := [(1, .int 0), (0, .ref Mm)]) hx hb dX7_net_103 rfl hl (by decide) rfl (fun ls hl => ?_)
              have loop_432 : ∀ (Nloop_432 : Nat) (i_425 : Nat) (F_426 : Nat → Int32) (hF_426 : n1 F_426) (hbi_425 : i_425 ≤ 3) (hmloop_432 : 3 - i_425 < Nloop_432) (H : Heap) (locs : List Loc) (ls : Array Slot), va_P D vwCl [(Mn, .inl (g 0, 1767, .inl F_415)), (Mr, .inl (g 0, 3, .inl F_426)), (Mh, .inl (g 0, 9, .inl fmh)), (Mt, .inl (g 0, 160, .inl fmt)), (Mrr, .inl (g 0, 3, .inl frrx_6)), (Mrh, .inl (g 0, 9, .inl frhx_278)), (Mm, .inr (7, [.int 0, .ref Mt, .int 0, .int zmax_2, .int zwrx_3, .ref Mrr, .ref Mrh, .ref Mrc, .int 1, .int 1, .ref Mn, .ref Mf, .ref Mr, .ref Mh, .int 1, .int 1, .ref Ma, .ref Mas, .ref Msn, .ref Mac, .ref Mat])), (Mrc, .inl (g 0, 9, .inl frcx_411))] H → va_D A [(Mn, .inl (g 0, 1767, .inl F_415)), (Mr, .inl (g 0, 3, .inl F_426)), (Mh, .inl (g 0, 9, .inl fmh)), (Mt, .inl (g 0, 160, .inl fmt)), (Mrr, .inl (g 0, 3, .inl frrx_6)), (Mrh, .inl (g 0, 9, .inl frhx_278)), (Mm, .inr (7, [.int 0, .ref Mt, .int 0, .int zmax_2, .int zwrx_3, .ref Mrr, .ref Mrh, .ref Mrc, .int 1, .int 1, .ref Mn, .ref Mf, .ref Mr, .ref Mh, .int 1, .int 1, .ref Ma, .ref Mas, .ref Msn, .ref Mac, .ref Mat])), (Mrc, .inl (g 0, 9, .inl frcx_411))] → va_S A s.heap H locs → lv_has ls 3 [(1, .int (nI i_425)), (0, .ref Mm)] → W p l e (headSpec wsX7_net ({ frames := 6, cells := 0, slots := 0, locals := 133 })).room s m ([.ref Mm] : List Value).toArray below meth c H locs 0 0 Q (F0 m 104 ls []) := by
                clear hP hD hS hl
                intro Nloop_432
                induction Nloop_432 with
                | zero => intro i_425 F_426 hF_426 hbi_425 hm9; exact absurd hm9 (Nat.not_lt_zero _)
                | succ Nloop_432 loop_432_ih =>
                  intro i_425 F_426 hF_426 hbi_425 hmloop_432 H locs ls hP hD hS hl
                  refine lv_iload_n hx hb dX7_net_104 rfl (lv_at hl 0 rfl) ?_
                  refine lv_iconst (v := 3) hx hb dX7_net_105 (by decide) ?_
                  refine lv_icmp_ge (tgt := 127) hx hb dX7_net_106 (by decide) (fun cb_433 => ?_) (fun cb_433 => ?_)
                  · skip
                    have cn_434 : 3 ≤ i_425 := (nI_leI (show 3 < 2 ^ 31 by omega) (show i_425 < 2 ^ 31 by omega)).mp cb_433
                    refine lv_iconst (v := 0) hx hb dX7_net_127 (by decide) ?_
                    refine lv_istore_n (lv' := [(1, .int 0), (0, .ref Mm)]) hx hb dX7_net_128 rfl hl (by decide) rfl (fun ls hl => ?_)
                    have loop_451 : ∀ (Nloop_451 : Nat) (i_440 : Nat) (F_441 : Nat → Int32) (F_442 : Nat → Int32) (hF_441 : mOK tb ub F_441) (hF_442 : n3 F_442) (hbi_440 : i_440 ≤ 1) (hmloop_451 : 1 - i_440 < Nloop_451) (H : Heap) (locs : List Loc) (ls : Array Slot), va_P D vwCl [(Mn, .inl (g 0, 1767, .inl F_441)), (Mr, .inl (g 0, 3, .inl F_426)), (Mh, .inl (g 0, 9, .inl F_442)), (Mt, .inl (g 0, 160, .inl fmt)), (Mrr, .inl (g 0, 3, .inl frrx_6)), (Mrh, .inl (g 0, 9, .inl frhx_278)), (Mm, .inr (7, [.int 0, .ref Mt, .int 0, .int zmax_2, .int zwrx_3, .ref Mrr, .ref Mrh, .ref Mrc, .int 1, .int 1, .ref Mn, .ref Mf, .ref Mr, .ref Mh, .int 1, .int 1, .ref Ma, .ref Mas, .ref Msn, .ref Mac, .ref Mat])), (Mrc, .inl (g 0, 9, .inl frcx_411))] H → va_D A [(Mn, .inl (g 0, 1767, .inl F_441)), (Mr, .inl (g 0, 3, .inl F_426)), (Mh, .inl (g 0, 9, .inl F_442)), (Mt, .inl (g 0, 160, .inl fmt)), (Mrr, .inl (g 0, 3, .inl frrx_6)), (Mrh, .inl (g 0, 9, .inl frhx_278)), (Mm, .inr (7, [.int 0, .ref Mt, .int 0, .int zmax_2, .int zwrx_3, .ref Mrr, .ref Mrh, .ref Mrc, .int 1, .int 1, .ref Mn, .ref Mf, .ref Mr, .ref Mh, .int 1, .int 1, .ref Ma, .ref Mas, .ref Msn, .ref Mac, .ref Mat])), (Mrc, .inl (g 0, 9, .inl frcx_411))] → va_S A s.heap H locs → lv_has ls 3 [(1, .int (nI i_440)), (0, .ref Mm)] → W p l e (headSpec wsX7_net ({ frames := 6, cells := 0, slots := 0, locals := 133 })).room s m ([.ref Mm] : List Value).toArray below meth c H locs 0 0 Q (F0 m 129 ls []) := by
                      clear hP hD hS hl
                      intro Nloop_451
                      induction Nloop_451 with
                      | zero => intro i_440 F_441 F_442 hF_441 hF_442 hbi_440 hm9; exact absurd hm9 (Nat.not_lt_zero _)
                      | succ Nloop_451 loop_451_ih =>
                        intro i_440 F_441 F_442 hF_441 hF_442 hbi_440 hmloop_451 H locs ls hP hD hS hl
                        refine lv_iload_n hx hb dX7_net_129 rfl (lv_at hl 0 rfl) ?_
                        refine lv_aload_n hx hb dX7_net_130 rfl (lv_at hl 1 rfl) ?_
                        refine va_get (D := D) (ci := 7) (v := .int 1) (C := RX7) (T := TX7) (N := 21) hx hb hts iX7 hown hK hP 6 rfl rfl 14 (by decide) f124 (fun _ h9 => h9) rfl dX7_net_131 ?_
                        refine lv_icmp_ge (tgt := 148) hx hb dX7_net_134 (by decide) (fun cb_452 => ?_) (fun cb_452 => ?_)
                        · skip
                          have cn_453 : 1 ≤ i_440 := (nI_leI (show 1 < 2 ^ 31 by omega) (show i_440 < 2 ^ 31 by omega)).mp cb_452
                          refine lv_iconst (v := 0) hx hb dX7_net_148 (by decide) ?_
                          refine lv_istore_n (lv' := [(1, .int 0), (0, .ref Mm)]) hx hb dX7_net_149 rfl hl (by decide) rfl (fun ls hl => ?_)
                          have loop_503 : ∀ (Nloop_503 : Nat) (i_476 : Nat) (F_477 : Nat → Int32) (hF_477 : mOK tb ub F_477) (hbi_476 : i_476 ≤ 1) (hmloop_503 : 1 - i_476 < Nloop_503) (H : Heap) (locs : List Loc) (ls : Array Slot), va_P D vwCl [(Mn, .inl (g 0, 1767, .inl F_477)), (Mr, .inl (g 0, 3, .inl F_426)), (Mh, .inl (g 0, 9, .inl F_442)), (Mt, .inl (g 0, 160, .inl fmt)), (Mrr, .inl (g 0, 3, .inl frrx_6)), (Mrh, .inl (g 0, 9, .inl frhx_278)), (Mm, .inr (7, [.int 0, .ref Mt, .int 0, .int zmax_2, .int zwrx_3, .ref Mrr, .ref Mrh, .ref Mrc, .int 1, .int 1, .ref Mn, .ref Mf, .ref Mr, .ref Mh, .int 1, .int 1, .ref Ma, .ref Mas, .ref Msn, .ref Mac, .ref Mat])), (Mrc, .inl (g 0, 9, .inl frcx_411))] H → va_D A [(Mn, .inl (g 0, 1767, .inl F_477)), (Mr, .inl (g 0, 3, .inl F_426)), (Mh, .inl (g 0, 9, .inl F_442)), (Mt, .inl (g 0, 160, .inl fmt)), (Mrr, .inl (g 0, 3, .inl frrx_6)), (Mrh, .inl (g 0, 9, .inl frhx_278)), (Mm, .inr (7, [.int 0, .ref Mt, .int 0, .int zmax_2, .int zwrx_3, .ref Mrr, .ref Mrh, .ref Mrc, .int 1, .int 1, .ref Mn, .ref Mf, .ref Mr, .ref Mh, .int 1, .int 1, .ref Ma, .ref Mas, .ref Msn, .ref Mac, .ref Mat])), (Mrc, .inl (g 0, 9, .inl frcx_411))] → va_S A s.heap H locs → lv_has ls 3 [(1, .int (nI i_476)), (0, .ref Mm)] → W p l e (headSpec wsX7_net ({ frames := 6, cells := 0, slots := 0, locals := 133 })).room s m ([.ref Mm] : List Value).toArray below meth c H locs 0 0 Q (F0 m 150 ls []) := by
                            clear hP hD hS hl
                            intro Nloop_503
                            induction Nloop_503 with
                            | zero => intro i_476 F_477 hF_477 hbi_476 hm9; exact absurd hm9 (Nat.not_lt_zero _)
                            | succ Nloop_503 loop_503_ih =>
                              intro i_476 F_477 hF_477 hbi_476 hmloop_503 H locs ls hP hD hS hl
                              refine lv_iload_n hx hb dX7_net_150 rfl (lv_at hl 0 rfl) ?_
                              refine lv_aload_n hx hb dX7_net_151 rfl (lv_at hl 1 rfl) ?_
                              refine va_get (D := D) (ci := 7) (v := .int 1) (C := RX7) (T := TX7) (N := 21) hx hb hts iX7 hown hK hP 6 rfl rfl 15 (by decide) f127 (fun _ h9 => h9) rfl dX7_net_152 ?_
                              refine lv_icmp_ge (tgt := 211) hx hb dX7_net_155 (by decide) (fun cb_504 => ?_) (fun cb_504 => ?_)
                              · skip
                                have cn_505 : 1 ≤ i_476 := (nI_leI (show 1 < 2 ^ 31 by omega) (show i_476 < 2 ^ 31 by omega)).mp cb_504
                                refine lv_aload_n hx hb dX7_net_211 rfl (lv_at hl 1 rfl) ?_
                                refine va_get (D := D) (ci := 7) (v := .int 1) (C := RX7) (T := TX7) (N := 21) hx hb hts iX7 hown hK hP 6 rfl rfl 15 (by decide) f127 (fun _ h9 => h9) rfl dX7_net_212 ?_
                                have hPD9 : PD D A [(Mm, .inr (7, [.int 0, .ref Mt, .int 0, .int zmax_2, .int zwrx_3, .ref Mrr, .ref Mrh, .ref Mrc, .int 1, .int 1, .ref Mn, .ref Mf, .ref Mr, .ref Mh, .int 1, .int 1, .ref Ma, .ref Mas, .ref Msn, .ref Mac, .ref Mat])), (Mt, .inl (g 0, 160, .inl fmt)), (Mrr, .inl (g 0, 3, .inl frrx_6)), (Mrh, .inl (g 0, 9, .inl frhx_278)), (Mrc, .inl (g 0, 9, .inl frcx_411)), (Mn, .inl (g 0, 1767, .inl F_477)), (Mr, .inl (g 0, 3, .inl F_426)), (Mh, .inl (g 0, 9, .inl F_442))] H := ⟨hP.sub [6, 3, 4, 5, 7, 0, 1, 2] rfl, hD.sub [6, 3, 4, 5, 7, 0, 1, 2] (by decide) rfl⟩
                                have hP9 := hPD9.1; have hD9 := hPD9.2
                                subst hQ
                                refine W.widen (k := 0) (n := 0) (Nat.le_of_ble_eq_true rfl) (Nat.le_of_ble_eq_true rfl) ?_
                                exact W.iret (v := 1) hx hb hr (fun tS htS _ => ⟨⟨_, _, rfl, ⟨(lf2 [frrx_6, frhx_278, frcx_411, F_477, F_426, F_442]), 0, 0, zmax_2, zwrx_3, 1, 1, 1, 1, rfl, ⟨(hf_9.1), (hf_279), (hf_412), (hF_477), (hF_426), (hF_442), (show 1 ≤ 3 by omega), (show 1 ≤ 3 by omega), (show (1 = 0 ∧ 1 = 0) ∨ (1 ≤ 1 ∧ 1 ≤ 1) by omega), (show 0 ≤ 160 by omega)⟩⟩, by rw [htS]; exact hP9, hD9⟩, hS.F htS⟩) hS.2.2 dX7_net_215
                              · skip
                                have cn_506 : i_476 < 1 := Nat.lt_of_not_le (fun q9 => cb_504 ((nI_leI (show 1 < 2 ^ 31 by omega) (show i_476 < 2 ^ 31 by omega)).mpr q9))
                                refine lv_iconst (v := 0) hx hb dX7_net_158 (by decide) ?_
                                refine lv_istore_n (lv' := [(2, .int 0), (1, .int (nI i_476)), (0, .ref Mm)]) hx hb dX7_net_159 rfl hl (by decide) rfl (fun ls hl => ?_)
                                have loop_520 : ∀ (Nloop_520 : Nat) (i_510 : Nat) (F_511 : Nat → Int32) (hF_511 : mOK tb ub F_511) (hbi_510 : i_510 ≤ 3) (hmloop_520 : 3 - i_510 < Nloop_520) (H : Heap) (locs : List Loc) (ls : Array Slot), va_P D vwCl [(Mn, .inl (g 0, 1767, .inl F_511)), (Mr, .inl (g 0, 3, .inl F_426)), (Mh, .inl (g 0, 9, .inl F_442)), (Mt, .inl (g 0, 160, .inl fmt)), (Mrr, .inl (g 0, 3, .inl frrx_6)), (Mrh, .inl (g 0, 9, .inl frhx_278)), (Mm, .inr (7, [.int 0, .ref Mt, .int 0, .int zmax_2, .int zwrx_3, .ref Mrr, .ref Mrh, .ref Mrc, .int 1, .int 1, .ref Mn, .ref Mf, .ref Mr, .ref Mh, .int 1, .int 1, .ref Ma, .ref Mas, .ref Msn, .ref Mac, .ref Mat])), (Mrc, .inl (g 0, 9, .inl frcx_411))] H → va_D A [(Mn, .inl (g 0, 1767, .inl F_511)), (Mr, .inl (g 0, 3, .inl F_426)), (Mh, .inl (g 0, 9, .inl F_442)), (Mt, .inl (g 0, 160, .inl fmt)), (Mrr, .inl (g 0, 3, .inl frrx_6)), (Mrh, .inl (g 0, 9, .inl frhx_278)), (Mm, .inr (7, [.int 0, .ref Mt, .int 0, .int zmax_2, .int zwrx_3, .ref Mrr, .ref Mrh, .ref Mrc, .int 1, .int 1, .ref Mn, .ref Mf, .ref Mr, .ref Mh, .int 1, .int 1, .ref Ma, .ref Mas, .ref Msn, .ref Mac, .ref Mat])), (Mrc, .inl (g 0, 9, .inl frcx_411))] → va_S A s.heap H locs → lv_has ls 3 [(2, .int (nI i_510)), (1, .int (nI i_476)), (0, .ref Mm)] → W p l e (headSpec wsX7_net ({ frames := 6, cells := 0, slots := 0, locals := 133 })).room s m ([.ref Mm] : List Value).toArray below meth c H locs 0 0 Q (F0 m 160 ls []) := by
                                  clear hP hD hS hl
                                  intro Nloop_520
                                  induction Nloop_520 with
                                  | zero => intro i_510 F_511 hF_511 hbi_510 hm9; exact absurd hm9 (Nat.not_lt_zero _)
                                  | succ Nloop_520 loop_520_ih =>
                                    intro i_510 F_511 hF_511 hbi_510 hmloop_520 H locs ls hP hD hS hl
                                    refine lv_iload_n hx hb dX7_net_160 rfl (lv_at hl 0 rfl) ?_
                                    refine lv_iconst (v := 3) hx hb dX7_net_161 (by decide) ?_
                                    refine lv_icmp_ge (tgt := 192) hx hb dX7_net_162 (by decide) (fun cb_521 => ?_) (fun cb_521 => ?_)
                                    · skip
                                      have cn_522 : 3 ≤ i_510 := (nI_leI (show 3 < 2 ^ 31 by omega) (show i_510 < 2 ^ 31 by omega)).mp cb_521
                                      refine lv_aload_n hx hb dX7_net_192 rfl (lv_at hl 2 rfl) ?_
                                      refine va_get (D := D) (ci := 7) (v := .ref Mn) (C := RX7) (T := TX7) (N := 21) hx hb hts iX7 hown hK hP 6 rfl rfl 10 (by decide) f22 (fun _ h9 => h9) rfl dX7_net_193 ?_
                                      refine lv_iload_n hx hb dX7_net_196 rfl (lv_at hl 1 rfl) ?_
                                      refine ky_Si (As := [.int (nI i_476)]) (rest := [.ref Mn]) ⟨hx, hb, hml, hown, hts⟩ ⟨hK, hN⟩ hZ hP hD hS hA [] [0, 1, 2, 3, 4, 5, 6, 7] (wc := []) (wr := [(Mn, .inl (g 0, 1767, .inl F_511)), (Mr, .inl (g 0, 3, .inl F_426)), (Mh, .inl (g 0, 9, .inl F_442)), (Mt, .inl (g 0, 160, .inl fmt)), (Mrr, .inl (g 0, 3, .inl frrx_6)), (Mrh, .inl (g 0, 9, .inl frhx_278)), (Mm, .inr (7, [.int 0, .ref Mt, .int 0, .int zmax_2, .int zwrx_3, .ref Mrr, .ref Mrh, .ref Mrc, .int 1, .int 1, .ref Mn, .ref Mf, .ref Mr, .ref Mh, .int 1, .int 1, .ref Ma, .ref Mas, .ref Msn, .ref Mac, .ref Mat])), (Mrc, .inl (g 0, 9, .inl frcx_411))]) rfl rfl rfl rfl (by decide) (k_X7_circuitAt l D g H.size i_476 (show i_476 < 3 by omega)) (va_cwS 1 hts gX7_net_X7_circuitAt rfl rfl rfl (by decide +kernel) ⟨(Nat.le_of_ble_eq_true rfl), (Nat.le_of_ble_eq_true rfl)⟩) rfl hl.1 rfl (Nat.le_of_ble_eq_true rfl) dX7_net_197 ⟨(Nat.le_of_ble_eq_true rfl), (Nat.le_of_ble_eq_true rfl)⟩ (fun r_523 u H locs hw hP2 hD2 hS2 => ?_)
                                      clear hP hD hS
                                      obtain ⟨rfl, rfl⟩ := hw
                                      have hPD : PD D A [(Mn, .inl (g 0, 1767, .inl F_511)), (Mr, .inl (g 0, 3, .inl F_426)), (Mh, .inl (g 0, 9, .inl F_442)), (Mt, .inl (g 0, 160, .inl fmt)), (Mrr, .inl (g 0, 3, .inl frrx_6)), (Mrh, .inl (g 0, 9, .inl frhx_278)), (Mm, .inr (7, [.int 0, .ref Mt, .int 0, .int zmax_2, .int zwrx_3, .ref Mrr, .ref Mrh, .ref Mrc, .int 1, .int 1, .ref Mn, .ref Mf, .ref Mr, .ref Mh, .int 1, .int 1, .ref Ma, .ref Mas, .ref Msn, .ref Mac, .ref Mat])), (Mrc, .inl (g 0, 9, .inl frcx_411))] H := ⟨hP2, hD2⟩
                                      have hS := hS2; clear hP2 hD2 hS2; have hP := hPD.1; have hD := hPD.2; clear hPD
                                      refine W.widen (k := 0) (n := 0) (Nat.le_of_ble_eq_true rfl) (Nat.le_of_ble_eq_true rfl) ?_
                                      refine lv_bipush (v := 6) hx hb dX7_net_200 (by decide) ?_
                                      refine lv_iadd hx hb dX7_net_202 ?_
                                      refine lv_eqi (y := (nI (201 + 9 * i_476 + 6))) (nI_add (201 + 9 * i_476) (6)) ?_
                                      refine lv_iconst (v := (-1)) hx hb dX7_net_203 (by decide) ?_
                                      refine va_iast hx hb hK hP hD hS 0 0 rfl rfl (vp_in_nI (show 201 + 9 * i_476 + 6 < 1767 by omega) (by decide)) dX7_net_204 (fun H locs hP2 hD2 hS2 => ?_)
                                      clear hP hD hS
                                      have hPD : PD D A [(Mn, .inl (g 0, 1767, .inl (upd F_511 (nI (201 + 9 * i_476 + 6)).toNatClampNeg (-1)))), (Mr, .inl (g 0, 3, .inl F_426)), (Mh, .inl (g 0, 9, .inl F_442)), (Mt, .inl (g 0, 160, .inl fmt)), (Mrr, .inl (g 0, 3, .inl frrx_6)), (Mrh, .inl (g 0, 9, .inl frhx_278)), (Mm, .inr (7, [.int 0, .ref Mt, .int 0, .int zmax_2, .int zwrx_3, .ref Mrr, .ref Mrh, .ref Mrc, .int 1, .int 1, .ref Mn, .ref Mf, .ref Mr, .ref Mh, .int 1, .int 1, .ref Ma, .ref Mas, .ref Msn, .ref Mac, .ref Mat])), (Mrc, .inl (g 0, 9, .inl frcx_411))] H := ⟨hP2, hD2⟩
                                      have hS := hS2; clear hP2 hD2 hS2; have hP := hPD.1; have hD := hPD.2; clear hPD
                                      rw [nI_clamp (show 201 + 9 * i_476 + 6 < 2 ^ 31 by omega)] at hP hD
                                      have hPD : PD D A [(Mn, .inl (g 0, 1767, .inl (upd F_511 (201 + 9 * i_476 + 6) (-1)))), (Mr, .inl (g 0, 3, .inl F_426)), (Mh, .inl (g 0, 9, .inl F_442)), (Mt, .inl (g 0, 160, .inl fmt)), (Mrr, .inl (g 0, 3, .inl frrx_6)), (Mrh, .inl (g 0, 9, .inl frhx_278)), (Mm, .inr (7, [.int 0, .ref Mt, .int 0, .int zmax_2, .int zwrx_3, .ref Mrr, .ref Mrh, .ref Mrc, .int 1, .int 1, .ref Mn, .ref Mf, .ref Mr, .ref Mh, .int 1, .int 1, .ref Ma, .ref Mas, .ref Msn, .ref Mac, .ref Mat])), (Mrc, .inl (g 0, 9, .inl frcx_411))] H := ⟨hP, hD⟩
                                      clear hP hD; have hP := hPD.1; have hD := hPD.2; clear hPD
                                      have hF_524 : mOK tb ub (upd F_511 (201 + 9 * i_476 + 6) (-1)) := mOK_free hF_511 (show mfree (201 + 9 * i_476 + 6) by unfold mfree; omega)
                                      generalize upd F_511 (201 + 9 * i_476 + 6) (-1) = F_524 at hP hD hF_524
                                      refine lv_iinc (v := (nI (i_476 + 1))) (lv' := [(1, .int (nI (i_476 + 1))), (2, .int (nI i_510)), (0, .ref Mm)]) hx hb dX7_net_205 hl (k := 1) rfl (nI_1 (i_476)) (by decide) rfl (fun ls hl => ?_)
                                      refine lv_goto (tgt := 150) hx hb dX7_net_208 (by decide) ?_
                                      exact loop_503_ih (i_476 + 1) F_524 (hF_524) (show (i_476 + 1) ≤ 1 by omega) (show 1 - (i_476 + 1) < Nloop_503 by omega) _ _ _ hP hD hS (lv_sub hl [0, 2] rfl)
                                    · skip
                                      have cn_525 : i_510 < 3 := Nat.lt_of_not_le (fun q9 => cb_521 ((nI_leI (show 3 < 2 ^ 31 by omega) (show i_510 < 2 ^ 31 by omega)).mpr q9))
                                      refine lv_aload_n hx hb dX7_net_165 rfl (lv_at hl 2 rfl) ?_
                                      refine va_get (D := D) (ci := 7) (v := .ref Mn) (C := RX7) (T := TX7) (N := 21) hx hb hts iX7 hown hK hP 6 rfl rfl 10 (by decide) f22 (fun _ h9 => h9) rfl dX7_net_166 ?_
                                      refine lv_iload_n hx hb dX7_net_169 rfl (lv_at hl 1 rfl) ?_
                                      refine ky_Si (As := [.int (nI i_476)]) (rest := [.ref Mn]) ⟨hx, hb, hml, hown, hts⟩ ⟨hK, hN⟩ hZ hP hD hS hA [] [0, 1, 2, 3, 4, 5, 6, 7] (wc := []) (wr := [(Mn, .inl (g 0, 1767, .inl F_511)), (Mr, .inl (g 0, 3, .inl F_426)), (Mh, .inl (g 0, 9, .inl F_442)), (Mt, .inl (g 0, 160, .inl fmt)), (Mrr, .inl (g 0, 3, .inl frrx_6)), (Mrh, .inl (g 0, 9, .inl frhx_278)), (Mm, .inr (7, [.int 0, .ref Mt, .int 0, .int zmax_2, .int zwrx_3, .ref Mrr, .ref Mrh, .ref Mrc, .int 1, .int 1, .ref Mn, .ref Mf, .ref Mr, .ref Mh, .int 1, .int 1, .ref Ma, .ref Mas, .ref Msn, .ref Mac, .ref Mat])), (Mrc, .inl (g 0, 9, .inl frcx_411))]) rfl rfl rfl rfl (by decide) (k_X7_circuitAt l D g H.size i_476 (show i_476 < 3 by omega)) (va_cwS 1 hts gX7_net_X7_circuitAt rfl rfl rfl (by decide +kernel) ⟨(Nat.le_of_ble_eq_true rfl), (Nat.le_of_ble_eq_true rfl)⟩) rfl hl.1 rfl (Nat.le_of_ble_eq_true rfl) dX7_net_170 ⟨(Nat.le_of_ble_eq_true rfl), (Nat.le_of_ble_eq_true rfl)⟩ (fun r_526 u H locs hw hP2 hD2 hS2 => ?_)
                                      clear hP hD hS
                                      obtain ⟨rfl, rfl⟩ := hw
                                      have hPD : PD D A [(Mn, .inl (g 0, 1767, .inl F_511)), (Mr, .inl (g 0, 3, .inl F_426)), (Mh, .inl (g 0, 9, .inl F_442)), (Mt, .inl (g 0, 160, .inl fmt)), (Mrr, .inl (g 0, 3, .inl frrx_6)), (Mrh, .inl (g 0, 9, .inl frhx_278)), (Mm, .inr (7, [.int 0, .ref Mt, .int 0, .int zmax_2, .int zwrx_3, .ref Mrr, .ref Mrh, .ref Mrc, .int 1, .int 1, .ref Mn, .ref Mf, .ref Mr, .ref Mh, .int 1, .int 1, .ref Ma, .ref Mas, .ref Msn, .ref Mac, .ref Mat])), (Mrc, .inl (g 0, 9, .inl frcx_411))] H := ⟨hP2, hD2⟩
                                      have hS := hS2; clear hP2 hD2 hS2; have hP := hPD.1; have hD := hPD.2; clear hPD
                                      refine W.widen (k := 0) (n := 0) (Nat.le_of_ble_eq_true rfl) (Nat.le_of_ble_eq_true rfl) ?_
                                      refine lv_iload_n hx hb dX7_net_173 rfl (lv_at hl 0 rfl) ?_
                                      refine lv_iadd hx hb dX7_net_174 ?_
                                      refine lv_eqi (y := (nI (201 + 9 * i_476 + i_510))) (nI_add (201 + 9 * i_476) (i_510)) ?_
                                      refine lv_aload_n hx hb dX7_net_175 rfl (lv_at hl 2 rfl) ?_
                                      refine va_get (D := D) (ci := 7) (v := .ref Mrc) (C := RX7) (T := TX7) (N := 21) hx hb hts iX7 hown hK hP 6 rfl rfl 7 (by decide) f19 (fun _ h9 => h9) rfl dX7_net_176 ?_
                                      refine lv_iconst (v := 3) hx hb dX7_net_179 (by decide) ?_
                                      refine lv_iload_n hx hb dX7_net_180 rfl (lv_at hl 1 rfl) ?_
                                      refine lv_imul hx hb dX7_net_181 ?_
                                      refine lv_eqi (y := (nI (3 * i_476))) (pk_mul (3) (i_476)) ?_
                                      refine lv_iload_n hx hb dX7_net_182 rfl (lv_at hl 0 rfl) ?_
                                      refine lv_iadd hx hb dX7_net_183 ?_
                                      refine lv_eqi (y := (nI (3 * i_476 + i_510))) (nI_add (3 * i_476) (i_510)) ?_
                                      refine va_iald hx hb hK hP 7 0 rfl rfl (vp_in_nI (show 3 * i_476 + i_510 < 9 by omega) (by decide)) dX7_net_184 ?_
                                      refine lv_eqi (y := (frcx_411 (3 * i_476 + i_510))) (congrArg frcx_411 (nI_clamp (show 3 * i_476 + i_510 < 2 ^ 31 by omega))) ?_
                                      obtain ⟨n_527, hn_527, q9⟩ := hf_412 (3 * i_476 + i_510)
                                      refine lv_eqi (y := nI n_527) q9 ?_
                                      refine va_iast hx hb hK hP hD hS 0 0 rfl rfl (vp_in_nI (show 201 + 9 * i_476 + i_510 < 1767 by omega) (by decide)) dX7_net_185 (fun H locs hP2 hD2 hS2 => ?_)
                                      clear hP hD hS
                                      have hPD : PD D A [(Mn, .inl (g 0, 1767, .inl (upd F_511 (nI (201 + 9 * i_476 + i_510)).toNatClampNeg (nI n_527)))), (Mr, .inl (g 0, 3, .inl F_426)), (Mh, .inl (g 0, 9, .inl F_442)), (Mt, .inl (g 0, 160, .inl fmt)), (Mrr, .inl (g 0, 3, .inl frrx_6)), (Mrh, .inl (g 0, 9, .inl frhx_278)), (Mm, .inr (7, [.int 0, .ref Mt, .int 0, .int zmax_2, .int zwrx_3, .ref Mrr, .ref Mrh, .ref Mrc, .int 1, .int 1, .ref Mn, .ref Mf, .ref Mr, .ref Mh, .int 1, .int 1, .ref Ma, .ref Mas, .ref Msn, .ref Mac, .ref Mat])), (Mrc, .inl (g 0, 9, .inl frcx_411))] H := ⟨hP2, hD2⟩
                                      have hS := hS2; clear hP2 hD2 hS2; have hP := hPD.1; have hD := hPD.2; clear hPD
                                      rw [nI_clamp (show 201 + 9 * i_476 + i_510 < 2 ^ 31 by omega)] at hP hD
                                      have hPD : PD D A [(Mn, .inl (g 0, 1767, .inl (upd F_511 (201 + 9 * i_476 + i_510) (nI n_527)))), (Mr, .inl (g 0, 3, .inl F_426)), (Mh, .inl (g 0, 9, .inl F_442)), (Mt, .inl (g 0, 160, .inl fmt)), (Mrr, .inl (g 0, 3, .inl frrx_6)), (Mrh, .inl (g 0, 9, .inl frhx_278)), (Mm, .inr (7, [.int 0, .ref Mt, .int 0, .int zmax_2, .int zwrx_3, .ref Mrr, .ref Mrh, .ref Mrc, .int 1, .int 1, .ref Mn, .ref Mf, .ref Mr, .ref Mh, .int 1, .int 1, .ref Ma, .ref Mas, .ref Msn, .ref Mac, .ref Mat])), (Mrc, .inl (g 0, 9, .inl frcx_411))] H := ⟨hP, hD⟩
                                      clear hP hD; have hP := hPD.1; have hD := hPD.2; clear hPD
                                      have hF_528 : mOK tb ub (upd F_511 (201 + 9 * i_476 + i_510) (nI n_527)) := mOK_free hF_511 (show mfree (201 + 9 * i_476 + i_510) by unfold mfree; omega)
                                      generalize upd F_511 (201 + 9 * i_476 + i_510) (nI n_527) = F_528 at hP hD hF_528
                                      refine lv_iinc (v := (nI (i_510 + 1))) (lv' := [(2, .int (nI (i_510 + 1))), (1, .int (nI i_476)), (0, .ref Mm)]) hx hb dX7_net_186 hl (k := 0) rfl (nI_1 (i_510)) (by decide) rfl (fun ls hl => ?_)
                                      refine lv_goto (tgt := 160) hx hb dX7_net_189 (by decide) ?_
                                      exact loop_520_ih (i_510 + 1) F_528 (hF_528) (show (i_510 + 1) ≤ 3 by omega) (show 3 - (i_510 + 1) < Nloop_520 by omega) _ _ _ hP hD hS hl
                                exact loop_520 _ 0 F_477 (hF_477) (show 0 ≤ 3 by omega) (Nat.lt_succ_self _) _ _ _ hP hD hS hl
                          exact loop_503 _ 0 F_441 (hF_441) (show 0 ≤ 1 by omega) (Nat.lt_succ_self _) _ _ _ hP hD hS hl
                        · skip
                          have cn_529 : i_440 < 1 := Nat.lt_of_not_le (fun q9 => cb_452 ((nI_leI (show 1 < 2 ^ 31 by omega) (show i_440 < 2 ^ 31 by omega)).mpr q9))
                          refine lv_aload_n hx hb dX7_net_137 rfl (lv_at hl 1 rfl) ?_
                          refine lv_iload_n hx hb dX7_net_138 rfl (lv_at hl 0 rfl) ?_
                          refine ky_Vv (As := [.int (nI i_440)]) (rest := []) ⟨hx, hb, hml, hown, hts⟩ ⟨hK, hN⟩ hZ hP hD hS hA [6, 0, 2, 1, 5] [3, 4, 7] (wc := [(Mm, .inr (7, [.int 0, .ref Mt, .int 0, .int zmax_2, .int zwrx_3, .ref Mrr, .ref Mrh, .ref Mrc, .int 1, .int 1, .ref Mn, .ref Mf, .ref Mr, .ref Mh, .int 1, .int 1, .ref Ma, .ref Mas, .ref Msn, .ref Mac, .ref Mat])), (Mn, .inl (g 0, 1767, .inl F_441)), (Mh, .inl (g 0, 9, .inl F_442)), (Mr, .inl (g 0, 3, .inl F_426)), (Mrh, .inl (g 0, 9, .inl frhx_278))]) (wr := [(Mt, .inl (g 0, 160, .inl fmt)), (Mrr, .inl (g 0, 3, .inl frrx_6)), (Mrc, .inl (g 0, 9, .inl frcx_411))]) rfl rfl rfl rfl (by decide) (k_X7_laysHop l D g H.size Mm i_440 0 Mt 0 zmax_2 zwrx_3 Mrr Mrh Mrc 1 1 Mn Mf Mr Mh 1 1 Ma Mas Msn Mac Mat F_441 F_442 F_426 frhx_278 tb ub (show tb < 2 ^ 29 by omega) (show ub < 2 ^ 29 by omega) (hF_441) (show 1 ≤ 1 by omega) (show 1 ≤ 3 by omega) (show 1 ≤ 1 by omega) (show 1 ≤ 3 by omega) (show i_440 < 3 by omega) (hF_442) (hf_279) (hF_426)) (cwV 1 hts gX7_net_X7_laysHop rfl rfl rfl (by decide +kernel) ⟨(Nat.le_of_ble_eq_true rfl), (Nat.le_of_ble_eq_true rfl)⟩) 6 7 rfl rfl rfl rfl hl.1 rfl (Nat.le_of_ble_eq_true rfl) dX7_net_139 ⟨(Nat.le_of_ble_eq_true rfl), (Nat.le_of_ble_eq_true rfl)⟩ (fun u H locs hw hP2 hD2 hS2 => ?_)
                          clear hP hD hS
                          obtain ⟨fnox_531, fmhx_532, rfl, hf_533, hf_534⟩ := hw
                          have hPD : PD D A [(Mt, .inl (g 0, 160, .inl fmt)), (Mrr, .inl (g 0, 3, .inl frrx_6)), (Mrc, .inl (g 0, 9, .inl frcx_411)), (Mm, .inr (7, [.int 0, .ref Mt, .int (nI 0), .int zmax_2, .int zwrx_3, .ref Mrr, .ref Mrh, .ref Mrc, .int 1, .int 1, .ref Mn, .ref Mf, .ref Mr, .ref Mh, .int (nI 1), .int (nI 1), .ref Ma, .ref Mas, .ref Msn, .ref Mac, .ref Mat])), (Mn, .inl (g 0, 1767, .inl fnox_531)), (Mh, .inl (g 0, 9, .inl fmhx_532)), (Mr, .inl (g 0, 3, .inl F_426)), (Mrh, .inl (g 0, 9, .inl frhx_278))] H := ⟨hP2, hD2⟩
                          have hS := hS2; clear hP2 hD2 hS2; have hP := hPD.1; have hD := hPD.2; clear hPD
                          refine W.widen (k := 0) (n := 0) (Nat.le_of_ble_eq_true rfl) (Nat.le_of_ble_eq_true rfl) ?_
                          refine lv_iinc (v := (nI (i_440 + 1))) (lv' := [(1, .int (nI (i_440 + 1))), (0, .ref Mm)]) hx hb dX7_net_142 hl (k := 0) rfl (nI_1 (i_440)) (by decide) rfl (fun ls hl => ?_)
                          refine lv_goto (tgt := 129) hx hb dX7_net_145 (by decide) ?_
                          exact loop_451_ih (i_440 + 1) fnox_531 fmhx_532 (hf_533) (hf_534) (show (i_440 + 1) ≤ 1 by omega) (show 1 - (i_440 + 1) < Nloop_451 by omega) _ _ _ (hP.sub [4, 6, 5, 0, 1, 7, 3, 2] rfl) (hD.sub [4, 6, 5, 0, 1, 7, 3, 2] (by decide) rfl) hS hl
                    exact loop_451 _ 0 F_415 fmh (hF_415) (h8) (show 0 ≤ 1 by omega) (Nat.lt_succ_self _) _ _ _ hP hD hS hl
                  · skip
                    have cn_535 : i_425 < 3 := Nat.lt_of_not_le (fun q9 => cb_433 ((nI_leI (show 3 < 2 ^ 31 by omega) (show i_425 < 2 ^ 31 by omega)).mpr q9))
                    refine lv_aload_n hx hb dX7_net_109 rfl (lv_at hl 1 rfl) ?_
                    refine va_get (D := D) (ci := 7) (v := .ref Mr) (C := RX7) (T := TX7) (N := 21) hx hb hts iX7 hown hK hP 6 rfl rfl 12 (by decide) f28 (fun _ h9 => h9) rfl dX7_net_110 ?_
                    refine lv_iload_n hx hb dX7_net_113 rfl (lv_at hl 0 rfl) ?_
                    refine lv_aload_n hx hb dX7_net_114 rfl (lv_at hl 1 rfl) ?_
                    refine va_get (D := D) (ci := 7) (v := .ref Mrr) (C := RX7) (T := TX7) (N := 21) hx hb hts iX7 hown hK hP 6 rfl rfl 5 (by decide) f13 (fun _ h9 => h9) rfl dX7_net_115 ?_
                    refine lv_iload_n hx hb dX7_net_118 rfl (lv_at hl 0 rfl) ?_
                    refine va_iald hx hb hK hP 4 0 rfl rfl (vp_in_nI (show i_425 < 3 by omega) (by decide)) dX7_net_119 ?_
                    refine lv_eqi (y := (frrx_6 (i_425))) (congrArg frrx_6 (nI_clamp (show i_425 < 2 ^ 31 by omega))) ?_
                    obtain ⟨n_536, hn_536, q9⟩ := hf_9.1 (i_425)
                    refine lv_eqi (y := nI n_536) q9 ?_
                    refine va_iast hx hb hK hP hD hS 1 0 rfl rfl (vp_in_nI (show i_425 < 3 by omega) (by decide)) dX7_net_120 (fun H locs hP2 hD2 hS2 => ?_)
                    clear hP hD hS
                    have hPD : PD D A [(Mn, .inl (g 0, 1767, .inl F_415)), (Mr, .inl (g 0, 3, .inl (upd F_426 (nI i_425).toNatClampNeg (nI n_536)))), (Mh, .inl (g 0, 9, .inl fmh)), (Mt, .inl (g 0, 160, .inl fmt)), (Mrr, .inl (g 0, 3, .inl frrx_6)), (Mrh, .inl (g 0, 9, .inl frhx_278)), (Mm, .inr (7, [.int 0, .ref Mt, .int 0, .int zmax_2, .int zwrx_3, .ref Mrr, .ref Mrh, .ref Mrc, .int 1, .int 1, .ref Mn, .ref Mf, .ref Mr, .ref Mh, .int 1, .int 1, .ref Ma, .ref Mas, .ref Msn, .ref Mac, .ref Mat])), (Mrc, .inl (g 0, 9, .inl frcx_411))] H := ⟨hP2, hD2⟩
                    have hS := hS2; clear hP2 hD2 hS2; have hP := hPD.1; have hD := hPD.2; clear hPD
                    rw [nI_clamp (show i_425 < 2 ^ 31 by omega)] at hP hD
                    have hPD : PD D A [(Mn, .inl (g 0, 1767, .inl F_415)), (Mr, .inl (g 0, 3, .inl (upd F_426 (i_425) (nI n_536)))), (Mh, .inl (g 0, 9, .inl fmh)), (Mt, .inl (g 0, 160, .inl fmt)), (Mrr, .inl (g 0, 3, .inl frrx_6)), (Mrh, .inl (g 0, 9, .inl frhx_278)), (Mm, .inr (7, [.int 0, .ref Mt, .int 0, .int zmax_2, .int zwrx_3, .ref Mrr, .ref Mrh, .ref Mrc, .int 1, .int 1, .ref Mn, .ref Mf, .ref Mr, .ref Mh, .int 1, .int 1, .ref Ma, .ref Mas, .ref Msn, .ref Mac, .ref Mat])), (Mrc, .inl (g 0, 9, .inl frcx_411))] H := ⟨hP, hD⟩
                    clear hP hD; have hP := hPD.1; have hD := hPD.2; clear hPD
                    have hF_537 : n1 (upd F_426 (i_425) (nI n_536)) := n1_upd (hF_426) (n := n_536) (show n_536 ≤ 99 by omega)
                    generalize upd F_426 (i_425) (nI n_536) = F_537 at hP hD hF_537
                    refine lv_iinc (v := (nI (i_425 + 1))) (lv' := [(1, .int (nI (i_425 + 1))), (0, .ref Mm)]) hx hb dX7_net_121 hl (k := 0) rfl (nI_1 (i_425)) (by decide) rfl (fun ls hl => ?_)
                    refine lv_goto (tgt := 104) hx hb dX7_net_124 (by decide) ?_
                    exact loop_432_ih (i_425 + 1) F_537 (hF_537) (show (i_425 + 1) ≤ 3 by omega) (show 3 - (i_425 + 1) < Nloop_432 by omega) _ _ _ hP hD hS hl
              exact loop_432 _ 0 fmr (h7) (show 0 ≤ 3 by omega) (Nat.lt_succ_self _) _ _ _ hP hD hS hl
            · skip
              have cn_538 : i_414 < 1767 := Nat.lt_of_not_le (fun q9 => cb_421 ((nI_leI (show 1767 < 2 ^ 31 by omega) (show i_414 < 2 ^ 31 by omega)).mpr q9))
              refine lv_aload_n hx hb dX7_net_89 rfl (lv_at hl 1 rfl) ?_
              refine va_get (D := D) (ci := 7) (v := .ref Mn) (C := RX7) (T := TX7) (N := 21) hx hb hts iX7 hown hK hP 6 rfl rfl 10 (by decide) f22 (fun _ h9 => h9) rfl dX7_net_90 ?_
              refine lv_iload_n hx hb dX7_net_93 rfl (lv_at hl 0 rfl) ?_
              refine lv_iconst (v := 0) hx hb dX7_net_94 (by decide) ?_
              refine va_iast hx hb hK hP hD hS 0 0 rfl rfl (vp_in_nI (show i_414 < 1767 by omega) (by decide)) dX7_net_95 (fun H locs hP2 hD2 hS2 => ?_)
              clear hP hD hS
              have hPD : PD D A [(Mn, .inl (g 0, 1767, .inl (upd F_415 (nI i_414).toNatClampNeg 0))), (Mr, .inl (g 0, 3, .inl fmr)), (Mh, .inl (g 0, 9, .inl fmh)), (Mt, .inl (g 0, 160, .inl fmt)), (Mrr, .inl (g 0, 3, .inl frrx_6)), (Mrh, .inl (g 0, 9, .inl frhx_278)), (Mm, .inr (7, [.int 0, .ref Mt, .int 0, .int zmax_2, .int zwrx_3, .ref Mrr, .ref Mrh, .ref Mrc, .int 1, .int 1, .ref Mn, .ref Mf, .ref Mr, .ref Mh, .int 1, .int 1, .ref Ma, .ref Mas, .ref Msn, .ref Mac, .ref Mat])), (Mrc, .inl (g 0, 9, .inl frcx_411))] H := ⟨hP2, hD2⟩
              have hS := hS2; clear hP2 hD2 hS2; have hP := hPD.1; have hD := hPD.2; clear hPD
              rw [nI_clamp (show i_414 < 2 ^ 31 by omega)] at hP hD
              have hPD : PD D A [(Mn, .inl (g 0, 1767, .inl (upd F_415 (i_414) 0))), (Mr, .inl (g 0, 3, .inl fmr)), (Mh, .inl (g 0, 9, .inl fmh)), (Mt, .inl (g 0, 160, .inl fmt)), (Mrr, .inl (g 0, 3, .inl frrx_6)), (Mrh, .inl (g 0, 9, .inl frhx_278)), (Mm, .inr (7, [.int 0, .ref Mt, .int 0, .int zmax_2, .int zwrx_3, .ref Mrr, .ref Mrh, .ref Mrc, .int 1, .int 1, .ref Mn, .ref Mf, .ref Mr, .ref Mh, .int 1, .int 1, .ref Ma, .ref Mas, .ref Msn, .ref Mac, .ref Mat])), (Mrc, .inl (g 0, 9, .inl frcx_411))] H := ⟨hP, hD⟩
              clear hP hD; have hP := hPD.1; have hD := hPD.2; clear hPD
              have hF_539 : mOK tb ub (upd F_415 (i_414) 0) := mOK_zero hF_415
              generalize upd F_415 (i_414) 0 = F_539 at hP hD hF_539
              refine lv_iinc (v := (nI (i_414 + 1))) (lv' := [(1, .int (nI (i_414 + 1))), (0, .ref Mm)]) hx hb dX7_net_96 hl (k := 0) rfl (nI_1 (i_414)) (by decide) rfl (fun ls hl => ?_)
              refine lv_goto (tgt := 82) hx hb dX7_net_99 (by decide) ?_
              exact loop_420_ih (i_414 + 1) F_539 (hF_539) (show (i_414 + 1) ≤ 1767 by omega) (show 1767 - (i_414 + 1) < Nloop_420 by omega) _ _ _ hP hD hS hl
        exact loop_420 _ 0 fno (h6) (show 0 ≤ 1767 by omega) (Nat.lt_succ_self _) _ _ _ hP hD hS hl
  · skip
    refine lv_iconst (v := (-1)) hx hb dX7_net_13 (by decide) ?_
    have hPD9 : PD D A [(Mm, .inr (7, [.int 0, .ref Mt, .int (nI tp), .int zmax_2, .int zwrx_3, .ref Mrr, .ref Mrh, .ref Mrc, .int (nI rhx_4), .int (nI rcx_5), .ref Mn, .ref Mf, .ref Mr, .ref Mh, .int (nI hp), .int (nI cc), .ref Ma, .ref Mas, .ref Msn, .ref Mac, .ref Mat])), (Mt, .inl (g 0, 160, .inl fmt)), (Mrr, .inl (g 0, 3, .inl frrx_6)), (Mrh, .inl (g 0, 9, .inl frhx_7)), (Mrc, .inl (g 0, 9, .inl frcx_8)), (Mn, .inl (g 0, 1767, .inl fno)), (Mr, .inl (g 0, 3, .inl fmr)), (Mh, .inl (g 0, 9, .inl fmh))] H := ⟨hP.sub [3, 4, 5, 6, 7, 0, 1, 2] rfl, hD.sub [3, 4, 5, 6, 7, 0, 1, 2] (by decide) rfl⟩
    have hP9 := hPD9.1; have hD9 := hPD9.2
    subst hQ
    refine W.widen (k := 0) (n := 0) (Nat.le_of_ble_eq_true rfl) (Nat.le_of_ble_eq_true rfl) ?_
    exact W.iret (v := (-1)) hx hb hr (fun tS htS _ => ⟨⟨_, _, rfl, ⟨(lf2 [frrx_6, frhx_7, frcx_8, fno, fmr, fmh]), 0, tp, zmax_2, zwrx_3, (nI rhx_4), (nI rcx_5), hp, cc, rfl, ⟨(hf_9.1), (hf_9.2.1), (hf_9.2.2.1), (h6), (h7), (h8), (show hp ≤ 3 by omega), (show cc ≤ 3 by omega), (show (hp = 0 ∧ cc = 0) ∨ (1 ≤ hp ∧ 1 ≤ cc) by omega), (show tp ≤ 160 by omega)⟩⟩, by rw [htS]; exact hP9, hD9⟩, hS.F htS⟩) hS.2.2 dX7_net_14

set_option maxHeartbeats 4000000 in
set_option maxRecDepth 100000 in
theorem k_X7_end (l : Launch) (D : va_G) (g : Nat → ClassId) (sz : Nat) (Mm : Nat) (zn : Int32) (zth : Int32) (Mt : Nat) (tp : Nat) (zma : Int32) (zwr : Int32) (Mrr : Nat) (Mrh : Nat) (Mrc : Nat) (zrh : Int32) (zrc : Int32) (Mn : Nat) (Mf : Nat) (Mr : Nat) (Mh : Nat) (hp : Nat) (cc : Nat) (Ma : Nat) (Mas : Nat) (Msn : Nat) (Mac : Nat) (Mat : Nat) (h0 : tp ≤ 160) : Met l yX7_end wsX7_end ({ frames := 1, cells := 0, slots := 0, locals := 22 }) (va_Pc [.ref Mm, .int zn] (pre D g sz [(Mm, .inr (7, [.int zth, .ref Mt, .int (nI tp), .int zma, .int zwr, .ref Mrr, .ref Mrh, .ref Mrc, .int zrh, .int zrc, .ref Mn, .ref Mf, .ref Mr, .ref Mh, .int (nI hp), .int (nI cc), .ref Ma, .ref Mas, .ref Msn, .ref Mac, .ref Mat]))])) (va_Qi (fun (r : Int32) (u : va_W) => ∃ (zthx : Int32) (tpx : Nat), u = [(Mm, .inr (7, [.int zthx, .ref Mt, .int (nI tpx), .int zma, .int zwr, .ref Mrr, .ref Mrh, .ref Mrc, .int zrh, .int zrc, .ref Mn, .ref Mf, .ref Mr, .ref Mh, .int (nI hp), .int (nI cc), .ref Ma, .ref Mas, .ref Msn, .ref Mac, .ref Mat]))] ∧ (tpx ≤ 160)) (wd D (va_A [(Mm, .inr (7, [.int zth, .ref Mt, .int (nI tp), .int zma, .int zwr, .ref Mrr, .ref Mrh, .ref Mrc, .int zrh, .int zrc, .ref Mn, .ref Mf, .ref Mr, .ref Mh, .int (nI hp), .int (nI cc), .ref Ma, .ref Mas, .ref Msn, .ref Mac, .ref Mat]))] sz)) (va_A [(Mm, .inr (7, [.int zth, .ref Mt, .int (nI tp), .int zma, .int zwr, .ref Mrr, .ref Mrh, .ref Mrc, .int zrh, .int zrc, .ref Mn, .ref Mf, .ref Mr, .ref Mh, .int (nI hp), .int (nI cc), .ref Ma, .ref Mas, .ref Msn, .ref Mac, .ref Mat]))] sz)) 0 0 (va_A [(Mm, .inr (7, [.int zth, .ref Mt, .int (nI tp), .int zma, .int zwr, .ref Mrr, .ref Mrh, .ref Mrc, .int zrh, .int zrc, .ref Mn, .ref Mf, .ref Mr, .ref Mh, .int (nI hp), .int (nI cc), .ref Ma, .ref Mas, .ref Msn, .ref Mac, .ref Mat]))] sz) := by
  refine Met.ofW (cc := cX7_end) (maxL := 2) (ret := (some .boolean)) (by decide) rfl ?_
  intro p e s m args below meth c s₁ B hml hv
  obtain ⟨rfl, hsz, hP, ⟨hK, hN⟩, hD0, hZ⟩ := hv
  have hx := B.exec
  have hb := B.bytes
  have hr := B.returns
  have hts := atoms_spec (ws := wsX7_end) B.pre
  have hown : s.vm.findClass RX7 = some m.cls := findClass_of_methodNamed B.named
  have hlocks := B.notSynchronized
  clear B
  subst hsz
  have hD := hD0.self (sz := s.heap.size)
  clear hD0
  generalize hAe : va_A [(Mm, .inr (7, [.int zth, .ref Mt, .int (nI tp), .int zma, .int zwr, .ref Mrr, .ref Mrh, .ref Mrc, .int zrh, .int zrc, .ref Mn, .ref Mf, .ref Mr, .ref Mh, .int (nI hp), .int (nI cc), .ref Ma, .ref Mas, .ref Msn, .ref Mac, .ref Mat]))] s.heap.size = A at hD hZ ⊢
  have hA : ∀ q : Nat, s.heap.size ≤ q → A q := fun q h => by rw [← hAe]; exact Or.inr h
  have hS : va_S A s.heap s.heap [] := va_S.rf
  have f49 := hts (.fieldLink RX7 49 "HopCreditsModel" "thrown" "I") (List.mem_of_getElem? (i := 1) rfl)
  have f57 := hts (.fieldLink RX7 57 "HopCreditsModel" "taped" "I") (List.mem_of_getElem? (i := 2) rfl)
  have iX7 : ∀ w ∈ u_ws RX7 TX7 21, w ∈ wsX7_end := fun w h => List.mem_cons_of_mem _ (List.mem_append_right _ (h))
  have hl := lv_entry ([.ref Mm, .int zn]) (n := 2) (Nat.le_of_ble_eq_true rfl)
  rw [lg_entry_eq]
  generalize (lg_sl ([.ref Mm, .int zn]) ++ List.replicate (2 - (lg_sl ([.ref Mm, .int zn])).length) Slot.unset).toArray = ls at hl ⊢
  have hl : lv_has ls 2 [(0, .ref Mm), (1, .int zn)] := hl
  generalize hQ : MQ below _ _ s _ _ _ = Q
  generalize hH : s.heap = H at hP ⊢
  have hS : va_S A s.heap H [] := by rw [← hH]; exact hS
  clear hH
  refine lv_aload_n hx hb dX7_end_0 rfl (lv_at hl 0 rfl) ?_
  refine lv_iconst (v := 0) hx hb dX7_end_1 (by decide) ?_
  refine va_put (D := D) (ci := 7) (v := .int 0) (ty := .int) (C := RX7) (T := TX7) (N := 21) hx hb hts iX7 tyX7 tyX7_ok nmX7 hown hK hP hD hS 0 rfl rfl 0 (by decide) f49 (fun _ h9 => h9) rfl (by decide +kernel) (rfl) (rfl) (Nat.le_of_ble_eq_true rfl) dX7_end_2 (fun H locs hP2 hD2 hS2 => ?_)
  clear hP hD hS
  have hPD : PD D A [(Mm, .inr (7, [.int 0, .ref Mt, .int (nI tp), .int zma, .int zwr, .ref Mrr, .ref Mrh, .ref Mrc, .int zrh, .int zrc, .ref Mn, .ref Mf, .ref Mr, .ref Mh, .int (nI hp), .int (nI cc), .ref Ma, .ref Mas, .ref Msn, .ref Mac, .ref Mat]))] H := ⟨hP2, hD2⟩
  have hS := hS2; clear hP2 hD2 hS2; have hP := hPD.1; have hD := hPD.2; clear hPD
  refine lv_iload_n hx hb dX7_end_5 rfl (lv_at hl 1 rfl) ?_
  refine lv_iconst (v := 0) hx hb dX7_end_6 (by decide) ?_
  refine lv_aload_n hx hb dX7_end_7 rfl (lv_at hl 0 rfl) ?_
  refine va_get (D := D) (ci := 7) (v := .int (nI tp)) (C := RX7) (T := TX7) (N := 21) hx hb hts iX7 hown hK hP 0 rfl rfl 2 (by decide) f57 (fun _ h9 => h9) rfl dX7_end_8 ?_
  refine ky_Si (As := [.int zn, .int 0, .int (nI tp)]) (rest := []) ⟨hx, hb, hml, hown, hts⟩ ⟨hK, hN⟩ hZ hP hD hS hA [] [0] (wc := []) (wr := [(Mm, .inr (7, [.int 0, .ref Mt, .int (nI tp), .int zma, .int zwr, .ref Mrr, .ref Mrh, .ref Mrc, .int zrh, .int zrc, .ref Mn, .ref Mf, .ref Mr, .ref Mh, .int (nI hp), .int (nI cc), .ref Ma, .ref Mas, .ref Msn, .ref Mac, .ref Mat]))]) rfl rfl rfl rfl (by decide) (k_X7_in l D g H.size zn 0 (nI tp)) (va_cwS 3 hts gX7_end_X7_in rfl rfl rfl (by decide +kernel) ⟨(Nat.le_of_ble_eq_true rfl), (Nat.le_of_ble_eq_true rfl)⟩) rfl hl.1 rfl (Nat.le_of_ble_eq_true rfl) dX7_end_11 ⟨(Nat.le_of_ble_eq_true rfl), (Nat.le_of_ble_eq_true rfl)⟩ (fun r_1 u H locs hw hP2 hD2 hS2 => ?_)
  clear hP hD hS
  obtain ⟨rfl, rfl⟩ := hw
  have hPD : PD D A [(Mm, .inr (7, [.int 0, .ref Mt, .int (nI tp), .int zma, .int zwr, .ref Mrr, .ref Mrh, .ref Mrc, .int zrh, .int zrc, .ref Mn, .ref Mf, .ref Mr, .ref Mh, .int (nI hp), .int (nI cc), .ref Ma, .ref Mas, .ref Msn, .ref Mac, .ref Mat]))] H := ⟨hP2, hD2⟩
  have hS := hS2; clear hP2 hD2 hS2; have hP := hPD.1; have hD := hPD.2; clear hPD
  refine W.widen (k := 0) (n := 0) (Nat.le_of_ble_eq_true rfl) (Nat.le_of_ble_eq_true rfl) ?_
  refine lv_if_ne (tgt := 19) hx hb dX7_end_14 (by decide) (fun cb_2 => ?_) (fun cb_2 => ?_)
  · skip
    have hq_3 : 0 ≤ zn ∧ zn ≤ (nI tp) := b01_1.mp cb_2
    have hPq_7 := hP; have hDq_7 := hD; have hSq_7 := hS; have hlq_7 := hl; clear hP hD hS hl
    obtain ⟨j_4, hl_5, hu_6, rfl⟩ := rg (L := 0) (U := tp) rfl rfl (show 0 < 2 ^ 31 by omega) (show tp < 2 ^ 31 by omega) hq_3
    have hP := hPq_7; have hD := hDq_7; have hS := hSq_7; have hl := hlq_7; clear hPq_7 hDq_7 hSq_7 hlq_7
    refine lv_aload_n hx hb dX7_end_19 rfl (lv_at hl 0 rfl) ?_
    refine lv_iload_n hx hb dX7_end_20 rfl (lv_at hl 1 rfl) ?_
    refine va_put (D := D) (ci := 7) (v := .int (nI j_4)) (ty := .int) (C := RX7) (T := TX7) (N := 21) hx hb hts iX7 tyX7 tyX7_ok nmX7 hown hK hP hD hS 0 rfl rfl 2 (by decide) f57 (fun _ h9 => h9) rfl (by decide +kernel) (rfl) (rfl) (Nat.le_of_ble_eq_true rfl) dX7_end_21 (fun H locs hP2 hD2 hS2 => ?_)
    clear hP hD hS
    have hPD : PD D A [(Mm, .inr (7, [.int 0, .ref Mt, .int (nI j_4), .int zma, .int zwr, .ref Mrr, .ref Mrh, .ref Mrc, .int zrh, .int zrc, .ref Mn, .ref Mf, .ref Mr, .ref Mh, .int (nI hp), .int (nI cc), .ref Ma, .ref Mas, .ref Msn, .ref Mac, .ref Mat]))] H := ⟨hP2, hD2⟩
    have hS := hS2; clear hP2 hD2 hS2; have hP := hPD.1; have hD := hPD.2; clear hPD
    refine lv_iconst (v := 1) hx hb dX7_end_24 (by decide) ?_
    have hP9 := hP; have hD9 := hD
    subst hQ
    refine W.widen (k := 0) (n := 0) (Nat.le_of_ble_eq_true rfl) (Nat.le_of_ble_eq_true rfl) ?_
    exact W.zret (v := 1) (ty := .boolean) hx hb hr (rfl) (fun tS htS _ => ⟨⟨_, _, rfl, ⟨0, j_4, rfl, (show j_4 ≤ 160 by omega)⟩, by rw [htS]; exact hP9, hD9⟩, hS.F htS⟩) hS.2.2 dX7_end_25
  · skip
    have hq_8 : ¬ (0 ≤ zn ∧ zn ≤ (nI tp)) := b01_0.mp cb_2
    refine lv_iconst (v := 0) hx hb dX7_end_17 (by decide) ?_
    have hP9 := hP; have hD9 := hD
    subst hQ
    refine W.widen (k := 0) (n := 0) (Nat.le_of_ble_eq_true rfl) (Nat.le_of_ble_eq_true rfl) ?_
    exact W.zret (v := 0) (ty := .boolean) hx hb hr (rfl) (fun tS htS _ => ⟨⟨_, _, rfl, ⟨0, tp, rfl, (show tp ≤ 160 by omega)⟩, by rw [htS]; exact hP9, hD9⟩, hS.F htS⟩) hS.2.2 dX7_end_18
