set_option maxHeartbeats 4000000 in
set_option maxRecDepth 100000 in
theorem w_X7_net (l : Launch) (D : va_G) (g : Nat → ClassId) (sz : Nat) {gs : Nat → Int32} (Mm : Nat) (zth : Int32) (Mt : Nat) (tp : Nat) (zma : Int32) (zwr : Int32) (Mrr : Nat) (Mrh : Nat) (Mrc : Nat) (zrh : Int32) (zrc : Int32) (Mn : Nat) (Mf : Nat) (Mr : Nat) (Mh : Nat) (hp : Nat) (cc : Nat) (Ma : Nat) (Mas : Nat) (Msn : Nat) (Mac : Nat) (Mat : Nat) (fmt : Nat → Int32) (frr : Nat → Int32) (frh : Nat → Int32) (frc : Nat → Int32) (fno : Nat → Int32) (fmr : Nat → Int32) (fmh : Nat → Int32) (tb : Nat) (ub : Nat) (h0 : tp ≤ 160) (h1 : n1 frr) (h2 : n1 frh) (h3 : n1 frc) (h4 : tb < 2 ^ 29) (h5 : ub < 2 ^ 29) (h6 : mOK gs tb ub fno) (h7 : n1 fmr) (h8 : n3 fmh) (h9 : hp ≤ 3) (h10 : cc ≤ 3) (h11 : (hp = 0 ∧ cc = 0) ∨ (1 ≤ hp ∧ 1 ≤ cc)) (h12 : tOK fmt) : Met l yX7_net wsX7_net ({ frames := 6, cells := 0, slots := 0, locals := 133 }) (va_Pc [.ref Mm] (pre D g sz [(Mm, .inr (7, [.int zth, .ref Mt, .int (nI tp), .int zma, .int zwr, .ref Mrr, .ref Mrh, .ref Mrc, .int zrh, .int zrc, .ref Mn, .ref Mf, .ref Mr, .ref Mh, .int (nI hp), .int (nI cc), .ref Ma, .ref Mas, .ref Msn, .ref Mac, .ref Mat])), (Mt, .inl (g 0, 160, .inl fmt)), (Mrr, .inl (g 0, 3, .inl frr)), (Mrh, .inl (g 0, 9, .inl frh)), (Mrc, .inl (g 0, 9, .inl frc)), (Mn, .inl (g 0, 1767, .inl fno)), (Mr, .inl (g 0, 3, .inl fmr)), (Mh, .inl (g 0, 9, .inl fmh))])) (va_Qi (fun (r : Int32) (u : va_W) => ∃ (PF : Nat → Nat → Int32) (zthx : Int32) (tpx : Nat) (zmax : Int32) (zwrx : Int32) (zrhx : Int32) (zrcx : Int32) (hpx : Nat) (ccx : Nat) (zr : Int32) (tbx : Nat), u = [(Mm, .inr (7, [.int zthx, .ref Mt, .int (nI tpx), .int zmax, .int zwrx, .ref Mrr, .ref Mrh, .ref Mrc, .int zrhx, .int zrcx, .ref Mn, .ref Mf, .ref Mr, .ref Mh, .int (nI hpx), .int (nI ccx), .ref Ma, .ref Mas, .ref Msn, .ref Mac, .ref Mat])), (Mt, .inl (g 0, 160, .inl fmt)), (Mrr, .inl (g 0, 3, .inl (PF 0))), (Mrh, .inl (g 0, 9, .inl (PF 1))), (Mrc, .inl (g 0, 9, .inl (PF 2))), (Mn, .inl (g 0, 1767, .inl (PF 3))), (Mr, .inl (g 0, 3, .inl (PF 4))), (Mh, .inl (g 0, 9, .inl (PF 5)))] ∧ r = zr ∧ ((n1 (PF 0)) ∧ (n1 (PF 1)) ∧ (n1 (PF 2)) ∧ (mOK (PF 3) tbx ub (PF 3)) ∧ (n1 (PF 4)) ∧ (n3 (PF 5)) ∧ (hpx ≤ 3) ∧ (ccx ≤ 3) ∧ ((hpx = 0 ∧ ccx = 0) ∨ (1 ≤ hpx ∧ 1 ≤ ccx)) ∧ (tpx ≤ 160) ∧ ((zr, tpx) = ntQ fmt tp) ∧ (zr = -1 → tbx = tb ∧ hpx = hp ∧ ccx = cc ∧ (PF 4) = fmr ∧ (PF 3) = fno) ∧ (¬ zr = -1 → tbx = 0 ∧ ntM fmt tp (PF 4) (PF 3) hpx ccx))) (wd D (va_A [(Mm, .inr (7, [.int zth, .ref Mt, .int (nI tp), .int zma, .int zwr, .ref Mrr, .ref Mrh, .ref Mrc, .int zrh, .int zrc, .ref Mn, .ref Mf, .ref Mr, .ref Mh, .int (nI hp), .int (nI cc), .ref Ma, .ref Mas, .ref Msn, .ref Mac, .ref Mat])), (Mt, .inl (g 0, 160, .inl fmt)), (Mrr, .inl (g 0, 3, .inl frr)), (Mrh, .inl (g 0, 9, .inl frh)), (Mrc, .inl (g 0, 9, .inl frc)), (Mn, .inl (g 0, 1767, .inl fno)), (Mr, .inl (g 0, 3, .inl fmr)), (Mh, .inl (g 0, 9, .inl fmh))] sz)) (va_A [(Mm, .inr (7, [.int zth, .ref Mt, .int (nI tp), .int zma, .int zwr, .ref Mrr, .ref Mrh, .ref Mrc, .int zrh, .int zrc, .ref Mn, .ref Mf, .ref Mr, .ref Mh, .int (nI hp), .int (nI cc), .ref Ma, .ref Mas, .ref Msn, .ref Mac, .ref Mat])), (Mt, .inl (g 0, 160, .inl fmt)), (Mrr, .inl (g 0, 3, .inl frr)), (Mrh, .inl (g 0, 9, .inl frh)), (Mrc, .inl (g 0, 9, .inl frc)), (Mn, .inl (g 0, 1767, .inl fno)), (Mr, .inl (g 0, 3, .inl fmr)), (Mh, .inl (g 0, 9, .inl fmh))] sz)) 0 0 (va_A [(Mm, .inr (7, [.int zth, .ref Mt, .int (nI tp), .int zma, .int zwr, .ref Mrr, .ref Mrh, .ref Mrc, .int zrh, .int zrc, .ref Mn, .ref Mf, .ref Mr, .ref Mh, .int (nI hp), .int (nI cc), .ref Ma, .ref Mas, .ref Msn, .ref Mac, .ref Mat])), (Mt, .inl (g 0, 160, .inl fmt)), (Mrr, .inl (g 0, 3, .inl frr)), (Mrh, .inl (g 0, 9, .inl frh)), (Mrc, .inl (g 0, 9, .inl frc)), (Mn, .inl (g 0, 1767, .inl fno)), (Mr, .inl (g 0, 3, .inl fmr)), (Mh, .inl (g 0, 9, .inl fmh))] sz) := by
  refine Met.ofW (cc := cX7_net) (maxL := 3) (ret := (some .int)) (by decide) rfl ?_
  intro p e s m args below meth c s₁ B hml hv
  obtain ⟨rfl, hsz, hP, ⟨hK, hN⟩, hD0, hZ⟩ := hv
  have hx := B.exec
  have hb := B.bytes
  have hr := B.returns
  have hts := atoms_spec (ws := wsX7_net) B.pre
  have hown : s.vm.findClass RX7 = some m.cls := findClass_of_methodNamed B.named
  have hlocks := B.notSynchronized
  clear B
  subst hsz
  have hD := hD0.self (sz := s.heap.size)
  clear hD0
  generalize hAe : va_A [(Mm, .inr (7, [.int zth, .ref Mt, .int (nI tp), .int zma, .int zwr, .ref Mrr, .ref Mrh, .ref Mrc, .int zrh, .int zrc, .ref Mn, .ref Mf, .ref Mr, .ref Mh, .int (nI hp), .int (nI cc), .ref Ma, .ref Mas, .ref Msn, .ref Mac, .ref Mat])), (Mt, .inl (g 0, 160, .inl fmt)), (Mrr, .inl (g 0, 3, .inl frr)), (Mrh, .inl (g 0, 9, .inl frh)), (Mrc, .inl (g 0, 9, .inl frc)), (Mn, .inl (g 0, 1767, .inl fno)), (Mr, .inl (g 0, 3, .inl fmr)), (Mh, .inl (g 0, 9, .inl fmh))] s.heap.size = A at hD hZ ⊢
  have hA : ∀ q : Nat, s.heap.size ≤ q → A q := fun q h => by rw [← hAe]; exact Or.inr h
  have hS : va_S A s.heap s.heap [] := va_S.rf
  have f111 := hts (.fieldLink RX7 111 "HopCreditsModel" "readHops" "I") (List.mem_of_getElem? (i := 3) rfl)
  have f114 := hts (.fieldLink RX7 114 "HopCreditsModel" "readCircuits" "I") (List.mem_of_getElem? (i := 5) rfl)
  have f124 := hts (.fieldLink RX7 124 "HopCreditsModel" "hops" "I") (List.mem_of_getElem? (i := 7) rfl)
  have f127 := hts (.fieldLink RX7 127 "HopCreditsModel" "circuits" "I") (List.mem_of_getElem? (i := 8) rfl)
  have f13 := hts (.fieldLink RX7 13 "HopCreditsModel" "readRule" "[I") (List.mem_of_getElem? (i := 11) rfl)
  have f16 := hts (.fieldLink RX7 16 "HopCreditsModel" "readHop" "[I") (List.mem_of_getElem? (i := 4) rfl)
  have f19 := hts (.fieldLink RX7 19 "HopCreditsModel" "readCircuit" "[I") (List.mem_of_getElem? (i := 6) rfl)
  have f22 := hts (.fieldLink RX7 22 "HopCreditsModel" "now" "[I") (List.mem_of_getElem? (i := 9) rfl)
  have f28 := hts (.fieldLink RX7 28 "HopCreditsModel" "rule" "[I") (List.mem_of_getElem? (i := 10) rfl)
  have f49 := hts (.fieldLink RX7 49 "HopCreditsModel" "thrown" "I") (List.mem_of_getElem? (i := 1) rfl)
  have f57 := hts (.fieldLink RX7 57 "HopCreditsModel" "taped" "I") (List.mem_of_getElem? (i := 2) rfl)
  have iX7 : ∀ w ∈ u_ws RX7 TX7 21, w ∈ wsX7_net := fun w h => List.mem_cons_of_mem _ (List.mem_append_right _ (h))
  have hl := lv_entry ([.ref Mm]) (n := 3) (Nat.le_of_ble_eq_true rfl)
  rw [lg_entry_eq]
  generalize (lg_sl ([.ref Mm]) ++ List.replicate (3 - (lg_sl ([.ref Mm])).length) Slot.unset).toArray = ls at hl ⊢
  have hl : lv_has ls 3 [(0, .ref Mm)] := hl
  generalize hQ : MQ below _ _ s _ _ _ = Q
  generalize hH : s.heap = H at hP ⊢
  have hS : va_S A s.heap H [] := by rw [← hH]; exact hS
  clear hH
  refine lv_aload_n hx hb dX7_net_0 rfl (lv_at hl 0 rfl) ?_
  refine lv_iconst (v := 0) hx hb dX7_net_1 (by decide) ?_
  refine va_put (D := D) (ci := 7) (v := .int 0) (ty := .int) (C := RX7) (T := TX7) (N := 21) hx hb hts iX7 tyX7 tyX7_ok nmX7 hown hK hP hD hS 0 rfl rfl 0 (by decide) f49 (fun _ h9 => h9) rfl (by decide +kernel) (rfl) (rfl) (Nat.le_of_ble_eq_true rfl) dX7_net_2 (fun H locs hP2 hD2 hS2 => ?_)
  clear hP hD hS
  have hPD : PD D A [(Mm, .inr (7, [.int 0, .ref Mt, .int (nI tp), .int zma, .int zwr, .ref Mrr, .ref Mrh, .ref Mrc, .int zrh, .int zrc, .ref Mn, .ref Mf, .ref Mr, .ref Mh, .int (nI hp), .int (nI cc), .ref Ma, .ref Mas, .ref Msn, .ref Mac, .ref Mat])), (Mt, .inl (g 0, 160, .inl fmt)), (Mrr, .inl (g 0, 3, .inl frr)), (Mrh, .inl (g 0, 9, .inl frh)), (Mrc, .inl (g 0, 9, .inl frc)), (Mn, .inl (g 0, 1767, .inl fno)), (Mr, .inl (g 0, 3, .inl fmr)), (Mh, .inl (g 0, 9, .inl fmh))] H := ⟨hP2, hD2⟩
  have hS := hS2; clear hP2 hD2 hS2; have hP := hPD.1; have hD := hPD.2; clear hPD
  refine lv_aload_n hx hb dX7_net_5 rfl (lv_at hl 0 rfl) ?_
  refine ky_Vi (As := []) (rest := []) ⟨hx, hb, hml, hown, hts⟩ ⟨hK, hN⟩ hZ hP hD hS hA [0, 1, 2, 3, 4] [5, 6, 7] (wc := [(Mm, .inr (7, [.int 0, .ref Mt, .int (nI tp), .int zma, .int zwr, .ref Mrr, .ref Mrh, .ref Mrc, .int zrh, .int zrc, .ref Mn, .ref Mf, .ref Mr, .ref Mh, .int (nI hp), .int (nI cc), .ref Ma, .ref Mas, .ref Msn, .ref Mac, .ref Mat])), (Mt, .inl (g 0, 160, .inl fmt)), (Mrr, .inl (g 0, 3, .inl frr)), (Mrh, .inl (g 0, 9, .inl frh)), (Mrc, .inl (g 0, 9, .inl frc))]) (wr := [(Mn, .inl (g 0, 1767, .inl fno)), (Mr, .inl (g 0, 3, .inl fmr)), (Mh, .inl (g 0, 9, .inl fmh))]) rfl rfl rfl rfl (by decide) (w_X7_readNet l D g H.size Mm 0 Mt tp zma zwr Mrr Mrh Mrc zrh zrc Mn Mf Mr Mh (nI hp) (nI cc) Ma Mas Msn Mac Mat fmt frr frh frc (show tp ≤ 160 by omega) (h1) (h2) (h3) (h12)) (cwV 0 hts gX7_net_X7_readNet rfl rfl rfl (by decide +kernel) ⟨(Nat.le_of_ble_eq_true rfl), (Nat.le_of_ble_eq_true rfl)⟩) 0 7 rfl rfl rfl rfl hl.1 rfl (Nat.le_of_ble_eq_true rfl) dX7_net_6 ⟨(Nat.le_of_ble_eq_true rfl), (Nat.le_of_ble_eq_true rfl)⟩ (fun r_1 u H locs hw hP2 hD2 hS2 => ?_)
  clear hP hD hS
  obtain ⟨zmax_2, zwrx_3, rhx_4, rcx_5, frrx_6, frhx_7, frcx_8, rfl, rfl, hf_9⟩ := hw
  have hg_10 := hf_9.2.2.2.1
  have hg_11 := hf_9.2.2.2.2.1
  have hPD : PD D A [(Mn, .inl (g 0, 1767, .inl fno)), (Mr, .inl (g 0, 3, .inl fmr)), (Mh, .inl (g 0, 9, .inl fmh)), (Mm, .inr (7, [.int 0, .ref Mt, .int (nI tp), .int zmax_2, .int r_1, .ref Mrr, .ref Mrh, .ref Mrc, .int (nI rhx_4), .int (nI rcx_5), .ref Mn, .ref Mf, .ref Mr, .ref Mh, .int (nI hp), .int (nI cc), .ref Ma, .ref Mas, .ref Msn, .ref Mac, .ref Mat])), (Mt, .inl (g 0, 160, .inl fmt)), (Mrr, .inl (g 0, 3, .inl frrx_6)), (Mrh, .inl (g 0, 9, .inl frhx_7)), (Mrc, .inl (g 0, 9, .inl frcx_8))] H := ⟨hP2, hD2⟩
  have hS := hS2; clear hP2 hD2 hS2; have hP := hPD.1; have hD := hPD.2; clear hPD
  refine W.widen (k := 0) (n := 0) (Nat.le_of_ble_eq_true rfl) (Nat.le_of_ble_eq_true rfl) ?_
  have hmx_12 := mx1_or rcx_5
  have hmy_13 := mx1_or rhx_4
  refine lv_iconst (v := (-1)) hx hb dX7_net_9 (by decide) ?_
  refine lv_icmp_eq (tgt := 15) hx hb dX7_net_10 (by decide) (fun cb_14 => ?_) (fun cb_14 => ?_)
  · skip
    have hPq_15 := hP; have hDq_15 := hD; have hSq_15 := hS; have hlq_15 := hl; clear hP hD hS hl
    subst cb_14
    have hP := hPq_15; have hD := hDq_15; have hS := hSq_15; have hl := hlq_15; clear hPq_15 hDq_15 hSq_15 hlq_15
    refine lv_aload_n hx hb dX7_net_15 rfl (lv_at hl 0 rfl) ?_
    refine lv_iconst (v := 0) hx hb dX7_net_16 (by decide) ?_
    refine va_put (D := D) (ci := 7) (v := .int 0) (ty := .int) (C := RX7) (T := TX7) (N := 21) hx hb hts iX7 tyX7 tyX7_ok nmX7 hown hK hP hD hS 3 rfl rfl 2 (by decide) f57 (fun _ h9 => h9) rfl (by decide +kernel) (rfl) (rfl) (Nat.le_of_ble_eq_true rfl) dX7_net_17 (fun H locs hP2 hD2 hS2 => ?_)
    clear hP hD hS
    have hPD : PD D A [(Mn, .inl (g 0, 1767, .inl fno)), (Mr, .inl (g 0, 3, .inl fmr)), (Mh, .inl (g 0, 9, .inl fmh)), (Mm, .inr (7, [.int 0, .ref Mt, .int 0, .int zmax_2, .int (-1), .ref Mrr, .ref Mrh, .ref Mrc, .int (nI rhx_4), .int (nI rcx_5), .ref Mn, .ref Mf, .ref Mr, .ref Mh, .int (nI hp), .int (nI cc), .ref Ma, .ref Mas, .ref Msn, .ref Mac, .ref Mat])), (Mt, .inl (g 0, 160, .inl fmt)), (Mrr, .inl (g 0, 3, .inl frrx_6)), (Mrh, .inl (g 0, 9, .inl frhx_7)), (Mrc, .inl (g 0, 9, .inl frcx_8))] H := ⟨hP2, hD2⟩
    have hS := hS2; clear hP2 hD2 hS2; have hP := hPD.1; have hD := hPD.2; clear hPD
    refine lv_aload_n hx hb dX7_net_20 rfl (lv_at hl 0 rfl) ?_
    refine va_get (D := D) (ci := 7) (v := .int (nI rhx_4)) (C := RX7) (T := TX7) (N := 21) hx hb hts iX7 hown hK hP 3 rfl rfl 8 (by decide) f111 (fun _ h9 => h9) rfl dX7_net_21 ?_
    refine lv_if_ne (tgt := 42) hx hb dX7_net_24 (by decide) (fun cb_16 => ?_) (fun cb_16 => ?_)
    · skip
      have cn_17 : ¬ rhx_4 = 0 := fun q9 => cb_16 (congrArg nI q9)
      refine lv_aload_n hx hb dX7_net_42 rfl (lv_at hl 0 rfl) ?_
      refine va_get (D := D) (ci := 7) (v := .int (nI rcx_5)) (C := RX7) (T := TX7) (N := 21) hx hb hts iX7 hown hK hP 3 rfl rfl 9 (by decide) f114 (fun _ h9 => h9) rfl dX7_net_43 ?_
      refine lv_if_ne (tgt := 64) hx hb dX7_net_46 (by decide) (fun cb_18 => ?_) (fun cb_18 => ?_)
      · skip
        have cn_19 : ¬ rcx_5 = 0 := fun q9 => cb_18 (congrArg nI q9)
        refine lv_aload_n hx hb dX7_net_64 rfl (lv_at hl 0 rfl) ?_
        refine lv_aload_n hx hb dX7_net_65 rfl (lv_at hl 0 rfl) ?_
        refine va_get (D := D) (ci := 7) (v := .int (nI rhx_4)) (C := RX7) (T := TX7) (N := 21) hx hb hts iX7 hown hK hP 3 rfl rfl 8 (by decide) f111 (fun _ h9 => h9) rfl dX7_net_66 ?_
        refine va_put (D := D) (ci := 7) (v := .int (nI rhx_4)) (ty := .int) (C := RX7) (T := TX7) (N := 21) hx hb hts iX7 tyX7 tyX7_ok nmX7 hown hK hP hD hS 3 rfl rfl 14 (by decide) f124 (fun _ h9 => h9) rfl (by decide +kernel) (rfl) (rfl) (Nat.le_of_ble_eq_true rfl) dX7_net_69 (fun H locs hP2 hD2 hS2 => ?_)
        clear hP hD hS
        have hPD : PD D A [(Mn, .inl (g 0, 1767, .inl fno)), (Mr, .inl (g 0, 3, .inl fmr)), (Mh, .inl (g 0, 9, .inl fmh)), (Mm, .inr (7, [.int 0, .ref Mt, .int 0, .int zmax_2, .int (-1), .ref Mrr, .ref Mrh, .ref Mrc, .int (nI rhx_4), .int (nI rcx_5), .ref Mn, .ref Mf, .ref Mr, .ref Mh, .int (nI rhx_4), .int (nI cc), .ref Ma, .ref Mas, .ref Msn, .ref Mac, .ref Mat])), (Mt, .inl (g 0, 160, .inl fmt)), (Mrr, .inl (g 0, 3, .inl frrx_6)), (Mrh, .inl (g 0, 9, .inl frhx_7)), (Mrc, .inl (g 0, 9, .inl frcx_8))] H := ⟨hP2, hD2⟩
        have hS := hS2; clear hP2 hD2 hS2; have hP := hPD.1; have hD := hPD.2; clear hPD
        refine lv_aload_n hx hb dX7_net_72 rfl (lv_at hl 0 rfl) ?_
        refine lv_aload_n hx hb dX7_net_73 rfl (lv_at hl 0 rfl) ?_
        refine va_get (D := D) (ci := 7) (v := .int (nI rcx_5)) (C := RX7) (T := TX7) (N := 21) hx hb hts iX7 hown hK hP 3 rfl rfl 9 (by decide) f114 (fun _ h9 => h9) rfl dX7_net_74 ?_
        refine va_put (D := D) (ci := 7) (v := .int (nI rcx_5)) (ty := .int) (C := RX7) (T := TX7) (N := 21) hx hb hts iX7 tyX7 tyX7_ok nmX7 hown hK hP hD hS 3 rfl rfl 15 (by decide) f127 (fun _ h9 => h9) rfl (by decide +kernel) (rfl) (rfl) (Nat.le_of_ble_eq_true rfl) dX7_net_77 (fun H locs hP2 hD2 hS2 => ?_)
        clear hP hD hS
        have hPD : PD D A [(Mn, .inl (g 0, 1767, .inl fno)), (Mr, .inl (g 0, 3, .inl fmr)), (Mh, .inl (g 0, 9, .inl fmh)), (Mm, .inr (7, [.int 0, .ref Mt, .int 0, .int zmax_2, .int (-1), .ref Mrr, .ref Mrh, .ref Mrc, .int (nI rhx_4), .int (nI rcx_5), .ref Mn, .ref Mf, .ref Mr, .ref Mh, .int (nI rhx_4), .int (nI rcx_5), .ref Ma, .ref Mas, .ref Msn, .ref Mac, .ref Mat])), (Mt, .inl (g 0, 160, .inl fmt)), (Mrr, .inl (g 0, 3, .inl frrx_6)), (Mrh, .inl (g 0, 9, .inl frhx_7)), (Mrc, .inl (g 0, 9, .inl frcx_8))] H := ⟨hP2, hD2⟩
        have hS := hS2; clear hP2 hD2 hS2; have hP := hPD.1; have hD := hPD.2; clear hPD
        refine lv_iconst (v := 0) hx hb dX7_net_80 (by decide) ?_
        refine lv_istore_n (lv' := [(1, .int 0), (0, .ref Mm)]) hx hb dX7_net_81 rfl hl (by decide) rfl (fun ls hl => ?_)
        have loop_27 : ∀ (Nloop_27 : Nat) (i_21 : Nat) (F_22 : Nat → Int32) (hF_22 : zer i_21 F_22) (hbi_21 : i_21 ≤ 1767) (hmloop_27 : 1767 - i_21 < Nloop_27) (H : Heap) (locs : List Loc) (ls : Array Slot), va_P D vwCl [(Mn, .inl (g 0, 1767, .inl F_22)), (Mr, .inl (g 0, 3, .inl fmr)), (Mh, .inl (g 0, 9, .inl fmh)), (Mm, .inr (7, [.int 0, .ref Mt, .int 0, .int zmax_2, .int (-1), .ref Mrr, .ref Mrh, .ref Mrc, .int (nI rhx_4), .int (nI rcx_5), .ref Mn, .ref Mf, .ref Mr, .ref Mh, .int (nI rhx_4), .int (nI rcx_5), .ref Ma, .ref Mas, .ref Msn, .ref Mac, .ref Mat])), (Mt, .inl (g 0, 160, .inl fmt)), (Mrr, .inl (g 0, 3, .inl frrx_6)), (Mrh, .inl (g 0, 9, .inl frhx_7)), (Mrc, .inl (g 0, 9, .inl frcx_8))] H → va_D A [(Mn, .inl (g 0, 1767, .inl F_22)), (Mr, .inl (g 0, 3, .inl fmr)), (Mh, .inl (g 0, 9, .inl fmh)), (Mm, .inr (7, [.int 0, .ref Mt, .int 0, .int zmax_2, .int (-1), .ref Mrr, .ref Mrh, .ref Mrc, .int (nI rhx_4), .int (nI rcx_5), .ref Mn, .ref Mf, .ref Mr, .ref Mh, .int (nI rhx_4), .int (nI rcx_5), .ref Ma, .ref Mas, .ref Msn, .ref Mac, .ref Mat])), (Mt, .inl (g 0, 160, .inl fmt)), (Mrr, .inl (g 0, 3, .inl frrx_6)), (Mrh, .inl (g 0, 9, .inl frhx_7)), (Mrc, .inl (g 0, 9, .inl frcx_8))] → va_S A s.heap H locs → lv_has ls 3 [(1, .int (nI i_21)), (0, .ref Mm)] → W p l e (headSpec wsX7_net ({ frames := 6, cells := 0, slots := 0, locals := 133 })).room s m ([.ref Mm] : List Value).toArray below meth c H locs 0 0 Q (F0 m 82 ls []) := by
          clear hP hD hS hl
          intro Nloop_27
          induction Nloop_27 with
          | zero => intro i_21 F_22 hF_22 hbi_21 hm9; exact absurd hm9 (Nat.not_lt_zero _)
          | succ Nloop_27 loop_27_ih =>
            intro i_21 F_22 hF_22 hbi_21 hmloop_27 H locs ls hP hD hS hl
            refine lv_iload_n hx hb dX7_net_82 rfl (lv_at hl 0 rfl) ?_
            refine lv_sipush (v := 1767) hx hb dX7_net_83 (by decide) ?_
            refine lv_icmp_ge (tgt := 102) hx hb dX7_net_86 (by decide) (fun cb_28 => ?_) (fun cb_28 => ?_)
            · skip
              have cn_29 : 1767 ≤ i_21 := (nI_leI (show 1767 < 2 ^ 31 by omega) (show i_21 < 2 ^ 31 by omega)).mp cb_28
              have hF_22 := zer_mOK (U := ub) hF_22 (show 1767 ≤ i_21 by omega)
              refine lv_iconst (v := 0) hx hb dX7_net_102 (by decide) ?_
              refine lv_istore_n (lv' := [(1, .int 0), (0, .ref Mm)]) hx hb dX7_net_103 rfl hl (by decide) rfl (fun ls hl => ?_)
              have loop_39 : ∀ (Nloop_39 : Nat) (i_32 : Nat) (F_33 : Nat → Int32) (hF_33 : n1 F_33) (hr_33 : agr i_32 frrx_6 F_33) (hbi_32 : i_32 ≤ 3) (hmloop_39 : 3 - i_32 < Nloop_39) (H : Heap) (locs : List Loc) (ls : Array Slot), va_P D vwCl [(Mn, .inl (g 0, 1767, .inl F_22)), (Mr, .inl (g 0, 3, .inl F_33)), (Mh, .inl (g 0, 9, .inl fmh)), (Mm, .inr (7, [.int 0, .ref Mt, .int 0, .int zmax_2, .int (-1), .ref Mrr, .ref Mrh, .ref Mrc, .int (nI rhx_4), .int (nI rcx_5), .ref Mn, .ref Mf, .ref Mr, .ref Mh, .int (nI rhx_4), .int (nI rcx_5), .ref Ma, .ref Mas, .ref Msn, .ref Mac, .ref Mat])), (Mt, .inl (g 0, 160, .inl fmt)), (Mrr, .inl (g 0, 3, .inl frrx_6)), (Mrh, .inl (g 0, 9, .inl frhx_7)), (Mrc, .inl (g 0, 9, .inl frcx_8))] H → va_D A [(Mn, .inl (g 0, 1767, .inl F_22)), (Mr, .inl (g 0, 3, .inl F_33)), (Mh, .inl (g 0, 9, .inl fmh)), (Mm, .inr (7, [.int 0, .ref Mt, .int 0, .int zmax_2, .int (-1), .ref Mrr, .ref Mrh, .ref Mrc, .int (nI rhx_4), .int (nI rcx_5), .ref Mn, .ref Mf, .ref Mr, .ref Mh, .int (nI rhx_4), .int (nI rcx_5), .ref Ma, .ref Mas, .ref Msn, .ref Mac, .ref Mat])), (Mt, .inl (g 0, 160, .inl fmt)), (Mrr, .inl (g 0, 3, .inl frrx_6)), (Mrh, .inl (g 0, 9, .inl frhx_7)), (Mrc, .inl (g 0, 9, .inl frcx_8))] → va_S A s.heap H locs → lv_has ls 3 [(1, .int (nI i_32)), (0, .ref Mm)] → W p l e (headSpec wsX7_net ({ frames := 6, cells := 0, slots := 0, locals := 133 })).room s m ([.ref Mm] : List Value).toArray below meth c H locs 0 0 Q (F0 m 104 ls []) := by
                clear hP hD hS hl
                intro Nloop_39
                induction Nloop_39 with
                | zero => intro i_32 F_33 hF_33 hr_33 hbi_32 hm9; exact absurd hm9 (Nat.not_lt_zero _)
                | succ Nloop_39 loop_39_ih =>
                  intro i_32 F_33 hF_33 hr_33 hbi_32 hmloop_39 H locs ls hP hD hS hl
                  refine lv_iload_n hx hb dX7_net_104 rfl (lv_at hl 0 rfl) ?_
                  refine lv_iconst (v := 3) hx hb dX7_net_105 (by decide) ?_
                  refine lv_icmp_ge (tgt := 127) hx hb dX7_net_106 (by decide) (fun cb_40 => ?_) (fun cb_40 => ?_)
                  · skip
                    have cn_41 : 3 ≤ i_32 := (nI_leI (show 3 < 2 ^ 31 by omega) (show i_32 < 2 ^ 31 by omega)).mp cb_40
                    refine lv_iconst (v := 0) hx hb dX7_net_127 (by decide) ?_
                    refine lv_istore_n (lv' := [(1, .int 0), (0, .ref Mm)]) hx hb dX7_net_128 rfl hl (by decide) rfl (fun ls hl => ?_)
                    have loop_58 : ∀ (Nloop_58 : Nat) (i_47 : Nat) (F_48 : Nat → Int32) (F_49 : Nat → Int32) (hF_48 : mOK F_48 0 ub F_48) (hF_49 : n3 F_49) (hbi_47 : i_47 ≤ rhx_4) (hmloop_58 : rhx_4 - i_47 < Nloop_58) (H : Heap) (locs : List Loc) (ls : Array Slot), va_P D vwCl [(Mn, .inl (g 0, 1767, .inl F_48)), (Mr, .inl (g 0, 3, .inl F_33)), (Mh, .inl (g 0, 9, .inl F_49)), (Mm, .inr (7, [.int 0, .ref Mt, .int 0, .int zmax_2, .int (-1), .ref Mrr, .ref Mrh, .ref Mrc, .int (nI rhx_4), .int (nI rcx_5), .ref Mn, .ref Mf, .ref Mr, .ref Mh, .int (nI rhx_4), .int (nI rcx_5), .ref Ma, .ref Mas, .ref Msn, .ref Mac, .ref Mat])), (Mt, .inl (g 0, 160, .inl fmt)), (Mrr, .inl (g 0, 3, .inl frrx_6)), (Mrh, .inl (g 0, 9, .inl frhx_7)), (Mrc, .inl (g 0, 9, .inl frcx_8))] H → va_D A [(Mn, .inl (g 0, 1767, .inl F_48)), (Mr, .inl (g 0, 3, .inl F_33)), (Mh, .inl (g 0, 9, .inl F_49)), (Mm, .inr (7, [.int 0, .ref Mt, .int 0, .int zmax_2, .int (-1), .ref Mrr, .ref Mrh, .ref Mrc, .int (nI rhx_4), .int (nI rcx_5), .ref Mn, .ref Mf, .ref Mr, .ref Mh, .int (nI rhx_4), .int (nI rcx_5), .ref Ma, .ref Mas, .ref Msn, .ref Mac, .ref Mat])), (Mt, .inl (g 0, 160, .inl fmt)), (Mrr, .inl (g 0, 3, .inl frrx_6)), (Mrh, .inl (g 0, 9, .inl frhx_7)), (Mrc, .inl (g 0, 9, .inl frcx_8))] → va_S A s.heap H locs → lv_has ls 3 [(1, .int (nI i_47)), (0, .ref Mm)] → W p l e (headSpec wsX7_net ({ frames := 6, cells := 0, slots := 0, locals := 133 })).room s m ([.ref Mm] : List Value).toArray below meth c H locs 0 0 Q (F0 m 129 ls []) := by
                      clear hP hD hS hl
                      intro Nloop_58
                      induction Nloop_58 with
                      | zero => intro i_47 F_48 F_49 hF_48 hF_49 hbi_47 hm9; exact absurd hm9 (Nat.not_lt_zero _)
                      | succ Nloop_58 loop_58_ih =>
                        intro i_47 F_48 F_49 hF_48 hF_49 hbi_47 hmloop_58 H locs ls hP hD hS hl
                        refine lv_iload_n hx hb dX7_net_129 rfl (lv_at hl 0 rfl) ?_
                        refine lv_aload_n hx hb dX7_net_130 rfl (lv_at hl 1 rfl) ?_
                        refine va_get (D := D) (ci := 7) (v := .int (nI rhx_4)) (C := RX7) (T := TX7) (N := 21) hx hb hts iX7 hown hK hP 3 rfl rfl 14 (by decide) f124 (fun _ h9 => h9) rfl dX7_net_131 ?_
                        refine lv_icmp_ge (tgt := 148) hx hb dX7_net_134 (by decide) (fun cb_59 => ?_) (fun cb_59 => ?_)
                        · skip
                          have cn_60 : rhx_4 ≤ i_47 := (nI_leI (show rhx_4 < 2 ^ 31 by omega) (show i_47 < 2 ^ 31 by omega)).mp cb_59
                          refine lv_iconst (v := 0) hx hb dX7_net_148 (by decide) ?_
                          refine lv_istore_n (lv' := [(1, .int 0), (0, .ref Mm)]) hx hb dX7_net_149 rfl hl (by decide) rfl (fun ls hl => ?_)
                          have loop_110 : ∀ (Nloop_110 : Nat) (i_83 : Nat) (F_84 : Nat → Int32) (hF_84 : mOK F_84 0 ub F_84) (hA_84 : gA i_83 F_84 frcx_8) (hbi_83 : i_83 ≤ rcx_5) (hmloop_110 : rcx_5 - i_83 < Nloop_110) (H : Heap) (locs : List Loc) (ls : Array Slot), va_P D vwCl [(Mn, .inl (g 0, 1767, .inl F_84)), (Mr, .inl (g 0, 3, .inl F_33)), (Mh, .inl (g 0, 9, .inl F_49)), (Mm, .inr (7, [.int 0, .ref Mt, .int 0, .int zmax_2, .int (-1), .ref Mrr, .ref Mrh, .ref Mrc, .int (nI rhx_4), .int (nI rcx_5), .ref Mn, .ref Mf, .ref Mr, .ref Mh, .int (nI rhx_4), .int (nI rcx_5), .ref Ma, .ref Mas, .ref Msn, .ref Mac, .ref Mat])), (Mt, .inl (g 0, 160, .inl fmt)), (Mrr, .inl (g 0, 3, .inl frrx_6)), (Mrh, .inl (g 0, 9, .inl frhx_7)), (Mrc, .inl (g 0, 9, .inl frcx_8))] H → va_D A [(Mn, .inl (g 0, 1767, .inl F_84)), (Mr, .inl (g 0, 3, .inl F_33)), (Mh, .inl (g 0, 9, .inl F_49)), (Mm, .inr (7, [.int 0, .ref Mt, .int 0, .int zmax_2, .int (-1), .ref Mrr, .ref Mrh, .ref Mrc, .int (nI rhx_4), .int (nI rcx_5), .ref Mn, .ref Mf, .ref Mr, .ref Mh, .int (nI rhx_4), .int (nI rcx_5), .ref Ma, .ref Mas, .ref Msn, .ref Mac, .ref Mat])), (Mt, .inl (g 0, 160, .inl fmt)), (Mrr, .inl (g 0, 3, .inl frrx_6)), (Mrh, .inl (g 0, 9, .inl frhx_7)), (Mrc, .inl (g 0, 9, .inl frcx_8))] → va_S A s.heap H locs → lv_has ls 3 [(1, .int (nI i_83)), (0, .ref Mm)] → W p l e (headSpec wsX7_net ({ frames := 6, cells := 0, slots := 0, locals := 133 })).room s m ([.ref Mm] : List Value).toArray below meth c H locs 0 0 Q (F0 m 150 ls []) := by
                            clear hP hD hS hl
                            intro Nloop_110
                            induction Nloop_110 with
                            | zero => intro i_83 F_84 hF_84 hA_84 hbi_83 hm9; exact absurd hm9 (Nat.not_lt_zero _)
                            | succ Nloop_110 loop_110_ih =>
                              intro i_83 F_84 hF_84 hA_84 hbi_83 hmloop_110 H locs ls hP hD hS hl
                              refine lv_iload_n hx hb dX7_net_150 rfl (lv_at hl 0 rfl) ?_
                              refine lv_aload_n hx hb dX7_net_151 rfl (lv_at hl 1 rfl) ?_
                              refine va_get (D := D) (ci := 7) (v := .int (nI rcx_5)) (C := RX7) (T := TX7) (N := 21) hx hb hts iX7 hown hK hP 3 rfl rfl 15 (by decide) f127 (fun _ h9 => h9) rfl dX7_net_152 ?_
                              refine lv_icmp_ge (tgt := 211) hx hb dX7_net_155 (by decide) (fun cb_111 => ?_) (fun cb_111 => ?_)
                              · skip
                                have cn_112 : rcx_5 ≤ i_83 := (nI_leI (show rcx_5 < 2 ^ 31 by omega) (show i_83 < 2 ^ 31 by omega)).mp cb_111
                                refine lv_aload_n hx hb dX7_net_211 rfl (lv_at hl 1 rfl) ?_
                                refine va_get (D := D) (ci := 7) (v := .int (nI rcx_5)) (C := RX7) (T := TX7) (N := 21) hx hb hts iX7 hown hK hP 3 rfl rfl 15 (by decide) f127 (fun _ h9 => h9) rfl dX7_net_212 ?_
                                have hPD9 : PD D A [(Mm, .inr (7, [.int 0, .ref Mt, .int 0, .int zmax_2, .int (-1), .ref Mrr, .ref Mrh, .ref Mrc, .int (nI rhx_4), .int (nI rcx_5), .ref Mn, .ref Mf, .ref Mr, .ref Mh, .int (nI rhx_4), .int (nI rcx_5), .ref Ma, .ref Mas, .ref Msn, .ref Mac, .ref Mat])), (Mt, .inl (g 0, 160, .inl fmt)), (Mrr, .inl (g 0, 3, .inl frrx_6)), (Mrh, .inl (g 0, 9, .inl frhx_7)), (Mrc, .inl (g 0, 9, .inl frcx_8)), (Mn, .inl (g 0, 1767, .inl F_84)), (Mr, .inl (g 0, 3, .inl F_33)), (Mh, .inl (g 0, 9, .inl F_49))] H := ⟨hP.sub [3, 4, 5, 6, 7, 0, 1, 2] rfl, hD.sub [3, 4, 5, 6, 7, 0, 1, 2] (by decide) rfl⟩
                                have hP9 := hPD9.1; have hD9 := hPD9.2
                                subst hQ
                                refine W.widen (k := 0) (n := 0) (Nat.le_of_ble_eq_true rfl) (Nat.le_of_ble_eq_true rfl) ?_
                                exact W.iret (v := (nI rcx_5)) hx hb hr (fun tS htS _ => ⟨⟨_, _, rfl, ⟨(lf2 [frrx_6, frhx_7, frcx_8, F_84, F_33, F_49]), 0, 0, zmax_2, (-1), (nI rhx_4), (nI rcx_5), rhx_4, rcx_5, (nI rcx_5), 0, rfl, rfl, ⟨(hf_9.1), (hf_9.2.1), (hf_9.2.2.1), (hF_84), (hF_33), (hF_49), (show rhx_4 ≤ 3 by omega), (show rcx_5 ≤ 3 by omega), (show (rhx_4 = 0 ∧ rcx_5 = 0) ∨ (1 ≤ rhx_4 ∧ 1 ≤ rcx_5) by omega), (show 0 ≤ 160 by omega), nt_yes (cc := rcx_5) hf_9.2.2.2.2.2.1 rfl (by omega), ⟨fun q9 => absurd q9 (m1_ne (by omega)), fun _ => ⟨rfl, nk_c (hf_9.2.2.2.2.2.2 rfl) hf_9.2.2.2.2.2.1 (by omega) (by omega) (by omega) (ag_f hr_33 (by omega)) (gA_f hA_84 (by omega))⟩⟩⟩⟩, by rw [htS]; exact hP9, hD9⟩, hS.F htS⟩) hS.2.2 dX7_net_215
                              · skip
                                have cn_113 : i_83 < rcx_5 := Nat.lt_of_not_le (fun q9 => cb_111 ((nI_leI (show rcx_5 < 2 ^ 31 by omega) (show i_83 < 2 ^ 31 by omega)).mpr q9))
                                refine lv_iconst (v := 0) hx hb dX7_net_158 (by decide) ?_
                                refine lv_istore_n (lv' := [(2, .int 0), (1, .int (nI i_83)), (0, .ref Mm)]) hx hb dX7_net_159 rfl hl (by decide) rfl (fun ls hl => ?_)
                                have loop_127 : ∀ (Nloop_127 : Nat) (i_117 : Nat) (F_118 : Nat → Int32) (hF_118 : mOK F_118 0 ub F_118) (hA_118 : gA i_83 F_118 frcx_8) (hB_118 : gB i_83 i_117 F_118 frcx_8) (hbi_117 : i_117 ≤ 3) (hmloop_127 : 3 - i_117 < Nloop_127) (H : Heap) (locs : List Loc) (ls : Array Slot), va_P D vwCl [(Mn, .inl (g 0, 1767, .inl F_118)), (Mr, .inl (g 0, 3, .inl F_33)), (Mh, .inl (g 0, 9, .inl F_49)), (Mm, .inr (7, [.int 0, .ref Mt, .int 0, .int zmax_2, .int (-1), .ref Mrr, .ref Mrh, .ref Mrc, .int (nI rhx_4), .int (nI rcx_5), .ref Mn, .ref Mf, .ref Mr, .ref Mh, .int (nI rhx_4), .int (nI rcx_5), .ref Ma, .ref Mas, .ref Msn, .ref Mac, .ref Mat])), (Mt, .inl (g 0, 160, .inl fmt)), (Mrr, .inl (g 0, 3, .inl frrx_6)), (Mrh, .inl (g 0, 9, .inl frhx_7)), (Mrc, .inl (g 0, 9, .inl frcx_8))] H → va_D A [(Mn, .inl (g 0, 1767, .inl F_118)), (Mr, .inl (g 0, 3, .inl F_33)), (Mh, .inl (g 0, 9, .inl F_49)), (Mm, .inr (7, [.int 0, .ref Mt, .int 0, .int zmax_2, .int (-1), .ref Mrr, .ref Mrh, .ref Mrc, .int (nI rhx_4), .int (nI rcx_5), .ref Mn, .ref Mf, .ref Mr, .ref Mh, .int (nI rhx_4), .int (nI rcx_5), .ref Ma, .ref Mas, .ref Msn, .ref Mac, .ref Mat])), (Mt, .inl (g 0, 160, .inl fmt)), (Mrr, .inl (g 0, 3, .inl frrx_6)), (Mrh, .inl (g 0, 9, .inl frhx_7)), (Mrc, .inl (g 0, 9, .inl frcx_8))] → va_S A s.heap H locs → lv_has ls 3 [(2, .int (nI i_117)), (1, .int (nI i_83)), (0, .ref Mm)] → W p l e (headSpec wsX7_net ({ frames := 6, cells := 0, slots := 0, locals := 133 })).room s m ([.ref Mm] : List Value).toArray below meth c H locs 0 0 Q (F0 m 160 ls []) := by
                                  clear hP hD hS hl
                                  intro Nloop_127
                                  induction Nloop_127 with
                                  | zero => intro i_117 F_118 hF_118 hA_118 hB_118 hbi_117 hm9; exact absurd hm9 (Nat.not_lt_zero _)
                                  | succ Nloop_127 loop_127_ih =>
                                    intro i_117 F_118 hF_118 hA_118 hB_118 hbi_117 hmloop_127 H locs ls hP hD hS hl
                                    refine lv_iload_n hx hb dX7_net_160 rfl (lv_at hl 0 rfl) ?_
                                    refine lv_iconst (v := 3) hx hb dX7_net_161 (by decide) ?_
                                    refine lv_icmp_ge (tgt := 192) hx hb dX7_net_162 (by decide) (fun cb_128 => ?_) (fun cb_128 => ?_)
                                    · skip
                                      have cn_129 : 3 ≤ i_117 := (nI_leI (show 3 < 2 ^ 31 by omega) (show i_117 < 2 ^ 31 by omega)).mp cb_128
                                      refine lv_aload_n hx hb dX7_net_192 rfl (lv_at hl 2 rfl) ?_
                                      refine va_get (D := D) (ci := 7) (v := .ref Mn) (C := RX7) (T := TX7) (N := 21) hx hb hts iX7 hown hK hP 3 rfl rfl 10 (by decide) f22 (fun _ h9 => h9) rfl dX7_net_193 ?_
                                      refine lv_iload_n hx hb dX7_net_196 rfl (lv_at hl 1 rfl) ?_
                                      refine ky_Si (As := [.int (nI i_83)]) (rest := [.ref Mn]) ⟨hx, hb, hml, hown, hts⟩ ⟨hK, hN⟩ hZ hP hD hS hA [] [0, 1, 2, 3, 4, 5, 6, 7] (wc := []) (wr := [(Mn, .inl (g 0, 1767, .inl F_118)), (Mr, .inl (g 0, 3, .inl F_33)), (Mh, .inl (g 0, 9, .inl F_49)), (Mm, .inr (7, [.int 0, .ref Mt, .int 0, .int zmax_2, .int (-1), .ref Mrr, .ref Mrh, .ref Mrc, .int (nI rhx_4), .int (nI rcx_5), .ref Mn, .ref Mf, .ref Mr, .ref Mh, .int (nI rhx_4), .int (nI rcx_5), .ref Ma, .ref Mas, .ref Msn, .ref Mac, .ref Mat])), (Mt, .inl (g 0, 160, .inl fmt)), (Mrr, .inl (g 0, 3, .inl frrx_6)), (Mrh, .inl (g 0, 9, .inl frhx_7)), (Mrc, .inl (g 0, 9, .inl frcx_8))]) rfl rfl rfl rfl (by decide) (k_X7_circuitAt l D g H.size i_83 (show i_83 < 3 by omega)) (va_cwS 1 hts gX7_net_X7_circuitAt rfl rfl rfl (by decide +kernel) ⟨(Nat.le_of_ble_eq_true rfl), (Nat.le_of_ble_eq_true rfl)⟩) rfl hl.1 rfl (Nat.le_of_ble_eq_true rfl) dX7_net_197 ⟨(Nat.le_of_ble_eq_true rfl), (Nat.le_of_ble_eq_true rfl)⟩ (fun r_130 u H locs hw hP2 hD2 hS2 => ?_)
                                      clear hP hD hS
                                      obtain ⟨rfl, rfl⟩ := hw
                                      have hPD : PD D A [(Mn, .inl (g 0, 1767, .inl F_118)), (Mr, .inl (g 0, 3, .inl F_33)), (Mh, .inl (g 0, 9, .inl F_49)), (Mm, .inr (7, [.int 0, .ref Mt, .int 0, .int zmax_2, .int (-1), .ref Mrr, .ref Mrh, .ref Mrc, .int (nI rhx_4), .int (nI rcx_5), .ref Mn, .ref Mf, .ref Mr, .ref Mh, .int (nI rhx_4), .int (nI rcx_5), .ref Ma, .ref Mas, .ref Msn, .ref Mac, .ref Mat])), (Mt, .inl (g 0, 160, .inl fmt)), (Mrr, .inl (g 0, 3, .inl frrx_6)), (Mrh, .inl (g 0, 9, .inl frhx_7)), (Mrc, .inl (g 0, 9, .inl frcx_8))] H := ⟨hP2, hD2⟩
                                      have hS := hS2; clear hP2 hD2 hS2; have hP := hPD.1; have hD := hPD.2; clear hPD
                                      refine W.widen (k := 0) (n := 0) (Nat.le_of_ble_eq_true rfl) (Nat.le_of_ble_eq_true rfl) ?_
                                      refine lv_bipush (v := 6) hx hb dX7_net_200 (by decide) ?_
                                      refine lv_iadd hx hb dX7_net_202 ?_
                                      refine lv_eqi (y := (nI (201 + 9 * i_83 + 6))) (nI_add (201 + 9 * i_83) (6)) ?_
                                      refine lv_iconst (v := (-1)) hx hb dX7_net_203 (by decide) ?_
                                      refine va_iast hx hb hK hP hD hS 0 0 rfl rfl (vp_in_nI (show 201 + 9 * i_83 + 6 < 1767 by omega) (by decide)) dX7_net_204 (fun H locs hP2 hD2 hS2 => ?_)
                                      clear hP hD hS
                                      have hPD : PD D A [(Mn, .inl (g 0, 1767, .inl (upd F_118 (nI (201 + 9 * i_83 + 6)).toNatClampNeg (-1)))), (Mr, .inl (g 0, 3, .inl F_33)), (Mh, .inl (g 0, 9, .inl F_49)), (Mm, .inr (7, [.int 0, .ref Mt, .int 0, .int zmax_2, .int (-1), .ref Mrr, .ref Mrh, .ref Mrc, .int (nI rhx_4), .int (nI rcx_5), .ref Mn, .ref Mf, .ref Mr, .ref Mh, .int (nI rhx_4), .int (nI rcx_5), .ref Ma, .ref Mas, .ref Msn, .ref Mac, .ref Mat])), (Mt, .inl (g 0, 160, .inl fmt)), (Mrr, .inl (g 0, 3, .inl frrx_6)), (Mrh, .inl (g 0, 9, .inl frhx_7)), (Mrc, .inl (g 0, 9, .inl frcx_8))] H := ⟨hP2, hD2⟩
                                      have hS := hS2; clear hP2 hD2 hS2; have hP := hPD.1; have hD := hPD.2; clear hPD
                                      rw [nI_clamp (show 201 + 9 * i_83 + 6 < 2 ^ 31 by omega)] at hP hD
                                      have hPD : PD D A [(Mn, .inl (g 0, 1767, .inl (upd F_118 (201 + 9 * i_83 + 6) (-1)))), (Mr, .inl (g 0, 3, .inl F_33)), (Mh, .inl (g 0, 9, .inl F_49)), (Mm, .inr (7, [.int 0, .ref Mt, .int 0, .int zmax_2, .int (-1), .ref Mrr, .ref Mrh, .ref Mrc, .int (nI rhx_4), .int (nI rcx_5), .ref Mn, .ref Mf, .ref Mr, .ref Mh, .int (nI rhx_4), .int (nI rcx_5), .ref Ma, .ref Mas, .ref Msn, .ref Mac, .ref Mat])), (Mt, .inl (g 0, 160, .inl fmt)), (Mrr, .inl (g 0, 3, .inl frrx_6)), (Mrh, .inl (g 0, 9, .inl frhx_7)), (Mrc, .inl (g 0, 9, .inl frcx_8))] H := ⟨hP, hD⟩
                                      clear hP hD; have hP := hPD.1; have hD := hPD.2; clear hPD
                                      have hF_131 : mOK (upd F_118 (201 + 9 * i_83 + 6) (-1)) 0 ub (upd F_118 (201 + 9 * i_83 + 6) (-1)) := mOK_self (mOK_free hF_118 (show mfree (201 + 9 * i_83 + 6) by unfold mfree; omega))
                                      have hA_131 : gA (i_83 + 1) (upd F_118 (201 + 9 * i_83 + 6) (-1)) frcx_8 := gA_n hA_118 hB_118 (show 3 ≤ i_117 by omega)
                                      generalize upd F_118 (201 + 9 * i_83 + 6) (-1) = F_131 at hP hD hF_131 hA_131
                                      refine lv_iinc (v := (nI (i_83 + 1))) (lv' := [(1, .int (nI (i_83 + 1))), (2, .int (nI i_117)), (0, .ref Mm)]) hx hb dX7_net_205 hl (k := 1) rfl (nI_1 (i_83)) (by decide) rfl (fun ls hl => ?_)
                                      refine lv_goto (tgt := 150) hx hb dX7_net_208 (by decide) ?_
                                      exact loop_110_ih (i_83 + 1) F_131 (hF_131) (hA_131) (show (i_83 + 1) ≤ rcx_5 by omega) (show rcx_5 - (i_83 + 1) < Nloop_110 by omega) _ _ _ hP hD hS (lv_sub hl [0, 2] rfl)
                                    · skip
                                      have cn_132 : i_117 < 3 := Nat.lt_of_not_le (fun q9 => cb_128 ((nI_leI (show 3 < 2 ^ 31 by omega) (show i_117 < 2 ^ 31 by omega)).mpr q9))
                                      refine lv_aload_n hx hb dX7_net_165 rfl (lv_at hl 2 rfl) ?_
                                      refine va_get (D := D) (ci := 7) (v := .ref Mn) (C := RX7) (T := TX7) (N := 21) hx hb hts iX7 hown hK hP 3 rfl rfl 10 (by decide) f22 (fun _ h9 => h9) rfl dX7_net_166 ?_
                                      refine lv_iload_n hx hb dX7_net_169 rfl (lv_at hl 1 rfl) ?_
                                      refine ky_Si (As := [.int (nI i_83)]) (rest := [.ref Mn]) ⟨hx, hb, hml, hown, hts⟩ ⟨hK, hN⟩ hZ hP hD hS hA [] [0, 1, 2, 3, 4, 5, 6, 7] (wc := []) (wr := [(Mn, .inl (g 0, 1767, .inl F_118)), (Mr, .inl (g 0, 3, .inl F_33)), (Mh, .inl (g 0, 9, .inl F_49)), (Mm, .inr (7, [.int 0, .ref Mt, .int 0, .int zmax_2, .int (-1), .ref Mrr, .ref Mrh, .ref Mrc, .int (nI rhx_4), .int (nI rcx_5), .ref Mn, .ref Mf, .ref Mr, .ref Mh, .int (nI rhx_4), .int (nI rcx_5), .ref Ma, .ref Mas, .ref Msn, .ref Mac, .ref Mat])), (Mt, .inl (g 0, 160, .inl fmt)), (Mrr, .inl (g 0, 3, .inl frrx_6)), (Mrh, .inl (g 0, 9, .inl frhx_7)), (Mrc, .inl (g 0, 9, .inl frcx_8))]) rfl rfl rfl rfl (by decide) (k_X7_circuitAt l D g H.size i_83 (show i_83 < 3 by omega)) (va_cwS 1 hts gX7_net_X7_circuitAt rfl rfl rfl (by decide +kernel) ⟨(Nat.le_of_ble_eq_true rfl), (Nat.le_of_ble_eq_true rfl)⟩) rfl hl.1 rfl (Nat.le_of_ble_eq_true rfl) dX7_net_170 ⟨(Nat.le_of_ble_eq_true rfl), (Nat.le_of_ble_eq_true rfl)⟩ (fun r_133 u H locs hw hP2 hD2 hS2 => ?_)
                                      clear hP hD hS
                                      obtain ⟨rfl, rfl⟩ := hw
                                      have hPD : PD D A [(Mn, .inl (g 0, 1767, .inl F_118)), (Mr, .inl (g 0, 3, .inl F_33)), (Mh, .inl (g 0, 9, .inl F_49)), (Mm, .inr (7, [.int 0, .ref Mt, .int 0, .int zmax_2, .int (-1), .ref Mrr, .ref Mrh, .ref Mrc, .int (nI rhx_4), .int (nI rcx_5), .ref Mn, .ref Mf, .ref Mr, .ref Mh, .int (nI rhx_4), .int (nI rcx_5), .ref Ma, .ref Mas, .ref Msn, .ref Mac, .ref Mat])), (Mt, .inl (g 0, 160, .inl fmt)), (Mrr, .inl (g 0, 3, .inl frrx_6)), (Mrh, .inl (g 0, 9, .inl frhx_7)), (Mrc, .inl (g 0, 9, .inl frcx_8))] H := ⟨hP2, hD2⟩
                                      have hS := hS2; clear hP2 hD2 hS2; have hP := hPD.1; have hD := hPD.2; clear hPD
                                      refine W.widen (k := 0) (n := 0) (Nat.le_of_ble_eq_true rfl) (Nat.le_of_ble_eq_true rfl) ?_
                                      refine lv_iload_n hx hb dX7_net_173 rfl (lv_at hl 0 rfl) ?_
                                      refine lv_iadd hx hb dX7_net_174 ?_
                                      refine lv_eqi (y := (nI (201 + 9 * i_83 + i_117))) (nI_add (201 + 9 * i_83) (i_117)) ?_
                                      refine lv_aload_n hx hb dX7_net_175 rfl (lv_at hl 2 rfl) ?_
                                      refine va_get (D := D) (ci := 7) (v := .ref Mrc) (C := RX7) (T := TX7) (N := 21) hx hb hts iX7 hown hK hP 3 rfl rfl 7 (by decide) f19 (fun _ h9 => h9) rfl dX7_net_176 ?_
                                      refine lv_iconst (v := 3) hx hb dX7_net_179 (by decide) ?_
                                      refine lv_iload_n hx hb dX7_net_180 rfl (lv_at hl 1 rfl) ?_
                                      refine lv_imul hx hb dX7_net_181 ?_
                                      refine lv_eqi (y := (nI (3 * i_83))) (pk_mul (3) (i_83)) ?_
                                      refine lv_iload_n hx hb dX7_net_182 rfl (lv_at hl 0 rfl) ?_
                                      refine lv_iadd hx hb dX7_net_183 ?_
                                      refine lv_eqi (y := (nI (3 * i_83 + i_117))) (nI_add (3 * i_83) (i_117)) ?_
                                      refine va_iald hx hb hK hP 7 0 rfl rfl (vp_in_nI (show 3 * i_83 + i_117 < 9 by omega) (by decide)) dX7_net_184 ?_
                                      refine lv_eqi (y := (frcx_8 (3 * i_83 + i_117))) (congrArg frcx_8 (nI_clamp (show 3 * i_83 + i_117 < 2 ^ 31 by omega))) ?_
                                      obtain ⟨n_134, hn_134, q9⟩ := hf_9.2.2.1 (3 * i_83 + i_117)
                                      have qv_134 := q9
                                      refine lv_eqi (y := nI n_134) q9 ?_
                                      refine va_iast hx hb hK hP hD hS 0 0 rfl rfl (vp_in_nI (show 201 + 9 * i_83 + i_117 < 1767 by omega) (by decide)) dX7_net_185 (fun H locs hP2 hD2 hS2 => ?_)
                                      clear hP hD hS
                                      have hPD : PD D A [(Mn, .inl (g 0, 1767, .inl (upd F_118 (nI (201 + 9 * i_83 + i_117)).toNatClampNeg (nI n_134)))), (Mr, .inl (g 0, 3, .inl F_33)), (Mh, .inl (g 0, 9, .inl F_49)), (Mm, .inr (7, [.int 0, .ref Mt, .int 0, .int zmax_2, .int (-1), .ref Mrr, .ref Mrh, .ref Mrc, .int (nI rhx_4), .int (nI rcx_5), .ref Mn, .ref Mf, .ref Mr, .ref Mh, .int (nI rhx_4), .int (nI rcx_5), .ref Ma, .ref Mas, .ref Msn, .ref Mac, .ref Mat])), (Mt, .inl (g 0, 160, .inl fmt)), (Mrr, .inl (g 0, 3, .inl frrx_6)), (Mrh, .inl (g 0, 9, .inl frhx_7)), (Mrc, .inl (g 0, 9, .inl frcx_8))] H := ⟨hP2, hD2⟩
                                      have hS := hS2; clear hP2 hD2 hS2; have hP := hPD.1; have hD := hPD.2; clear hPD
                                      rw [nI_clamp (show 201 + 9 * i_83 + i_117 < 2 ^ 31 by omega)] at hP hD
                                      have hPD : PD D A [(Mn, .inl (g 0, 1767, .inl (upd F_118 (201 + 9 * i_83 + i_117) (nI n_134)))), (Mr, .inl (g 0, 3, .inl F_33)), (Mh, .inl (g 0, 9, .inl F_49)), (Mm, .inr (7, [.int 0, .ref Mt, .int 0, .int zmax_2, .int (-1), .ref Mrr, .ref Mrh, .ref Mrc, .int (nI rhx_4), .int (nI rcx_5), .ref Mn, .ref Mf, .ref Mr, .ref Mh, .int (nI rhx_4), .int (nI rcx_5), .ref Ma, .ref Mas, .ref Msn, .ref Mac, .ref Mat])), (Mt, .inl (g 0, 160, .inl fmt)), (Mrr, .inl (g 0, 3, .inl frrx_6)), (Mrh, .inl (g 0, 9, .inl frhx_7)), (Mrc, .inl (g 0, 9, .inl frcx_8))] H := ⟨hP, hD⟩
                                      clear hP hD; have hP := hPD.1; have hD := hPD.2; clear hPD
                                      have hF_135 : mOK (upd F_118 (201 + 9 * i_83 + i_117) (nI n_134)) 0 ub (upd F_118 (201 + 9 * i_83 + i_117) (nI n_134)) := mOK_g hF_118 (show gidx (201 + 9 * i_83 + i_117) by unfold gidx; omega)
                                      have hA_135 : gA i_83 (upd F_118 (201 + 9 * i_83 + i_117) (nI n_134)) frcx_8 := gA_s hA_118 (show i_117 < 3 by omega)
                                      have hB_135 : gB i_83 (i_117 + 1) (upd F_118 (201 + 9 * i_83 + i_117) (nI n_134)) frcx_8 := gB_s hB_118 qv_134
                                      generalize upd F_118 (201 + 9 * i_83 + i_117) (nI n_134) = F_135 at hP hD hF_135 hA_135 hB_135
                                      refine lv_iinc (v := (nI (i_117 + 1))) (lv' := [(2, .int (nI (i_117 + 1))), (1, .int (nI i_83)), (0, .ref Mm)]) hx hb dX7_net_186 hl (k := 0) rfl (nI_1 (i_117)) (by decide) rfl (fun ls hl => ?_)
                                      refine lv_goto (tgt := 160) hx hb dX7_net_189 (by decide) ?_
                                      exact loop_127_ih (i_117 + 1) F_135 (hF_135) (hA_135) (hB_135) (show (i_117 + 1) ≤ 3 by omega) (show 3 - (i_117 + 1) < Nloop_127 by omega) _ _ _ hP hD hS hl
                                exact loop_127 _ 0 F_84 (hF_84) (hA_84) (gB_0) (show 0 ≤ 3 by omega) (Nat.lt_succ_self _) _ _ _ hP hD hS hl
                          exact loop_110 _ 0 F_48 (hF_48) (gA_0) (show 0 ≤ rcx_5 by omega) (Nat.lt_succ_self _) _ _ _ hP hD hS hl
                        · skip
                          have cn_136 : i_47 < rhx_4 := Nat.lt_of_not_le (fun q9 => cb_59 ((nI_leI (show rhx_4 < 2 ^ 31 by omega) (show i_47 < 2 ^ 31 by omega)).mpr q9))
                          refine lv_aload_n hx hb dX7_net_137 rfl (lv_at hl 1 rfl) ?_
                          refine lv_iload_n hx hb dX7_net_138 rfl (lv_at hl 0 rfl) ?_
                          refine ky_Vv (As := [.int (nI i_47)]) (rest := []) ⟨hx, hb, hml, hown, hts⟩ ⟨hK, hN⟩ hZ hP hD hS hA [3, 0, 2, 1, 6] [4, 5, 7] (wc := [(Mm, .inr (7, [.int 0, .ref Mt, .int 0, .int zmax_2, .int (-1), .ref Mrr, .ref Mrh, .ref Mrc, .int (nI rhx_4), .int (nI rcx_5), .ref Mn, .ref Mf, .ref Mr, .ref Mh, .int (nI rhx_4), .int (nI rcx_5), .ref Ma, .ref Mas, .ref Msn, .ref Mac, .ref Mat])), (Mn, .inl (g 0, 1767, .inl F_48)), (Mh, .inl (g 0, 9, .inl F_49)), (Mr, .inl (g 0, 3, .inl F_33)), (Mrh, .inl (g 0, 9, .inl frhx_7))]) (wr := [(Mt, .inl (g 0, 160, .inl fmt)), (Mrr, .inl (g 0, 3, .inl frrx_6)), (Mrc, .inl (g 0, 9, .inl frcx_8))]) rfl rfl rfl rfl (by decide) (k_X7_laysHop l D g H.size Mm i_47 0 Mt 0 zmax_2 (-1) Mrr Mrh Mrc (nI rhx_4) (nI rcx_5) Mn Mf Mr Mh rhx_4 rcx_5 Ma Mas Msn Mac Mat F_48 F_49 F_33 frhx_7 0 ub (show 0 < 2 ^ 29 by omega) (show ub < 2 ^ 29 by omega) (hF_48) (show 1 ≤ rhx_4 by omega) (show rhx_4 ≤ 3 by omega) (show 1 ≤ rcx_5 by omega) (show rcx_5 ≤ 3 by omega) (show i_47 < 3 by omega) (hF_49) (hf_9.2.1) (hF_33)) (cwV 1 hts gX7_net_X7_laysHop rfl rfl rfl (by decide +kernel) ⟨(Nat.le_of_ble_eq_true rfl), (Nat.le_of_ble_eq_true rfl)⟩) 3 7 rfl rfl rfl rfl hl.1 rfl (Nat.le_of_ble_eq_true rfl) dX7_net_139 ⟨(Nat.le_of_ble_eq_true rfl), (Nat.le_of_ble_eq_true rfl)⟩ (fun u H locs hw hP2 hD2 hS2 => ?_)
                          clear hP hD hS
                          obtain ⟨fnox_138, fmhx_139, rfl, hf_140, hf_141⟩ := hw
                          have hPD : PD D A [(Mt, .inl (g 0, 160, .inl fmt)), (Mrr, .inl (g 0, 3, .inl frrx_6)), (Mrc, .inl (g 0, 9, .inl frcx_8)), (Mm, .inr (7, [.int 0, .ref Mt, .int (nI 0), .int zmax_2, .int (-1), .ref Mrr, .ref Mrh, .ref Mrc, .int (nI rhx_4), .int (nI rcx_5), .ref Mn, .ref Mf, .ref Mr, .ref Mh, .int (nI rhx_4), .int (nI rcx_5), .ref Ma, .ref Mas, .ref Msn, .ref Mac, .ref Mat])), (Mn, .inl (g 0, 1767, .inl fnox_138)), (Mh, .inl (g 0, 9, .inl fmhx_139)), (Mr, .inl (g 0, 3, .inl F_33)), (Mrh, .inl (g 0, 9, .inl frhx_7))] H := ⟨hP2, hD2⟩
                          have hS := hS2; clear hP2 hD2 hS2; have hP := hPD.1; have hD := hPD.2; clear hPD
                          refine W.widen (k := 0) (n := 0) (Nat.le_of_ble_eq_true rfl) (Nat.le_of_ble_eq_true rfl) ?_
                          refine lv_iinc (v := (nI (i_47 + 1))) (lv' := [(1, .int (nI (i_47 + 1))), (0, .ref Mm)]) hx hb dX7_net_142 hl (k := 0) rfl (nI_1 (i_47)) (by decide) rfl (fun ls hl => ?_)
                          refine lv_goto (tgt := 129) hx hb dX7_net_145 (by decide) ?_
                          exact loop_58_ih (i_47 + 1) fnox_138 fmhx_139 (mOK_self hf_140) (hf_141) (show (i_47 + 1) ≤ rhx_4 by omega) (show rhx_4 - (i_47 + 1) < Nloop_58 by omega) _ _ _ (hP.sub [4, 6, 5, 3, 0, 1, 7, 2] rfl) (hD.sub [4, 6, 5, 3, 0, 1, 7, 2] (by decide) rfl) hS hl
                    exact loop_58 _ 0 F_22 fmh (hF_22) (h8) (show 0 ≤ rhx_4 by omega) (Nat.lt_succ_self _) _ _ _ hP hD hS hl
                  · skip
                    have cn_142 : i_32 < 3 := Nat.lt_of_not_le (fun q9 => cb_40 ((nI_leI (show 3 < 2 ^ 31 by omega) (show i_32 < 2 ^ 31 by omega)).mpr q9))
                    refine lv_aload_n hx hb dX7_net_109 rfl (lv_at hl 1 rfl) ?_
                    refine va_get (D := D) (ci := 7) (v := .ref Mr) (C := RX7) (T := TX7) (N := 21) hx hb hts iX7 hown hK hP 3 rfl rfl 12 (by decide) f28 (fun _ h9 => h9) rfl dX7_net_110 ?_
                    refine lv_iload_n hx hb dX7_net_113 rfl (lv_at hl 0 rfl) ?_
                    refine lv_aload_n hx hb dX7_net_114 rfl (lv_at hl 1 rfl) ?_
                    refine va_get (D := D) (ci := 7) (v := .ref Mrr) (C := RX7) (T := TX7) (N := 21) hx hb hts iX7 hown hK hP 3 rfl rfl 5 (by decide) f13 (fun _ h9 => h9) rfl dX7_net_115 ?_
                    refine lv_iload_n hx hb dX7_net_118 rfl (lv_at hl 0 rfl) ?_
                    refine va_iald hx hb hK hP 5 0 rfl rfl (vp_in_nI (show i_32 < 3 by omega) (by decide)) dX7_net_119 ?_
                    refine lv_eqi (y := (frrx_6 (i_32))) (congrArg frrx_6 (nI_clamp (show i_32 < 2 ^ 31 by omega))) ?_
                    obtain ⟨n_143, hn_143, q9⟩ := hf_9.1 (i_32)
                    have qv_143 := q9
                    refine lv_eqi (y := nI n_143) q9 ?_
                    refine va_iast hx hb hK hP hD hS 1 0 rfl rfl (vp_in_nI (show i_32 < 3 by omega) (by decide)) dX7_net_120 (fun H locs hP2 hD2 hS2 => ?_)
                    clear hP hD hS
                    have hPD : PD D A [(Mn, .inl (g 0, 1767, .inl F_22)), (Mr, .inl (g 0, 3, .inl (upd F_33 (nI i_32).toNatClampNeg (nI n_143)))), (Mh, .inl (g 0, 9, .inl fmh)), (Mm, .inr (7, [.int 0, .ref Mt, .int 0, .int zmax_2, .int (-1), .ref Mrr, .ref Mrh, .ref Mrc, .int (nI rhx_4), .int (nI rcx_5), .ref Mn, .ref Mf, .ref Mr, .ref Mh, .int (nI rhx_4), .int (nI rcx_5), .ref Ma, .ref Mas, .ref Msn, .ref Mac, .ref Mat])), (Mt, .inl (g 0, 160, .inl fmt)), (Mrr, .inl (g 0, 3, .inl frrx_6)), (Mrh, .inl (g 0, 9, .inl frhx_7)), (Mrc, .inl (g 0, 9, .inl frcx_8))] H := ⟨hP2, hD2⟩
                    have hS := hS2; clear hP2 hD2 hS2; have hP := hPD.1; have hD := hPD.2; clear hPD
                    rw [nI_clamp (show i_32 < 2 ^ 31 by omega)] at hP hD
                    have hPD : PD D A [(Mn, .inl (g 0, 1767, .inl F_22)), (Mr, .inl (g 0, 3, .inl (upd F_33 (i_32) (nI n_143)))), (Mh, .inl (g 0, 9, .inl fmh)), (Mm, .inr (7, [.int 0, .ref Mt, .int 0, .int zmax_2, .int (-1), .ref Mrr, .ref Mrh, .ref Mrc, .int (nI rhx_4), .int (nI rcx_5), .ref Mn, .ref Mf, .ref Mr, .ref Mh, .int (nI rhx_4), .int (nI rcx_5), .ref Ma, .ref Mas, .ref Msn, .ref Mac, .ref Mat])), (Mt, .inl (g 0, 160, .inl fmt)), (Mrr, .inl (g 0, 3, .inl frrx_6)), (Mrh, .inl (g 0, 9, .inl frhx_7)), (Mrc, .inl (g 0, 9, .inl frcx_8))] H := ⟨hP, hD⟩
                    clear hP hD; have hP := hPD.1; have hD := hPD.2; clear hPD
                    have hF_144 : n1 (upd F_33 (i_32) (nI n_143)) := n1_upd (hF_33) (n := n_143) (show n_143 ≤ 99 by omega)
                    have hr_144 : agr (i_32 + 1) frrx_6 (upd F_33 (i_32) (nI n_143)) := ag_s hr_33 qv_143
                    generalize upd F_33 (i_32) (nI n_143) = F_144 at hP hD hF_144 hr_144
                    refine lv_iinc (v := (nI (i_32 + 1))) (lv' := [(1, .int (nI (i_32 + 1))), (0, .ref Mm)]) hx hb dX7_net_121 hl (k := 0) rfl (nI_1 (i_32)) (by decide) rfl (fun ls hl => ?_)
                    refine lv_goto (tgt := 104) hx hb dX7_net_124 (by decide) ?_
                    exact loop_39_ih (i_32 + 1) F_144 (hF_144) (hr_144) (show (i_32 + 1) ≤ 3 by omega) (show 3 - (i_32 + 1) < Nloop_39 by omega) _ _ _ hP hD hS hl
              exact loop_39 _ 0 fmr (h7) (agr_0) (show 0 ≤ 3 by omega) (Nat.lt_succ_self _) _ _ _ hP hD hS hl
            · skip
              have cn_145 : i_21 < 1767 := Nat.lt_of_not_le (fun q9 => cb_28 ((nI_leI (show 1767 < 2 ^ 31 by omega) (show i_21 < 2 ^ 31 by omega)).mpr q9))
              refine lv_aload_n hx hb dX7_net_89 rfl (lv_at hl 1 rfl) ?_
              refine va_get (D := D) (ci := 7) (v := .ref Mn) (C := RX7) (T := TX7) (N := 21) hx hb hts iX7 hown hK hP 3 rfl rfl 10 (by decide) f22 (fun _ h9 => h9) rfl dX7_net_90 ?_
              refine lv_iload_n hx hb dX7_net_93 rfl (lv_at hl 0 rfl) ?_
              refine lv_iconst (v := 0) hx hb dX7_net_94 (by decide) ?_
              refine va_iast hx hb hK hP hD hS 0 0 rfl rfl (vp_in_nI (show i_21 < 1767 by omega) (by decide)) dX7_net_95 (fun H locs hP2 hD2 hS2 => ?_)
              clear hP hD hS
              have hPD : PD D A [(Mn, .inl (g 0, 1767, .inl (upd F_22 (nI i_21).toNatClampNeg 0))), (Mr, .inl (g 0, 3, .inl fmr)), (Mh, .inl (g 0, 9, .inl fmh)), (Mm, .inr (7, [.int 0, .ref Mt, .int 0, .int zmax_2, .int (-1), .ref Mrr, .ref Mrh, .ref Mrc, .int (nI rhx_4), .int (nI rcx_5), .ref Mn, .ref Mf, .ref Mr, .ref Mh, .int (nI rhx_4), .int (nI rcx_5), .ref Ma, .ref Mas, .ref Msn, .ref Mac, .ref Mat])), (Mt, .inl (g 0, 160, .inl fmt)), (Mrr, .inl (g 0, 3, .inl frrx_6)), (Mrh, .inl (g 0, 9, .inl frhx_7)), (Mrc, .inl (g 0, 9, .inl frcx_8))] H := ⟨hP2, hD2⟩
              have hS := hS2; clear hP2 hD2 hS2; have hP := hPD.1; have hD := hPD.2; clear hPD
              rw [nI_clamp (show i_21 < 2 ^ 31 by omega)] at hP hD
              have hPD : PD D A [(Mn, .inl (g 0, 1767, .inl (upd F_22 (i_21) 0))), (Mr, .inl (g 0, 3, .inl fmr)), (Mh, .inl (g 0, 9, .inl fmh)), (Mm, .inr (7, [.int 0, .ref Mt, .int 0, .int zmax_2, .int (-1), .ref Mrr, .ref Mrh, .ref Mrc, .int (nI rhx_4), .int (nI rcx_5), .ref Mn, .ref Mf, .ref Mr, .ref Mh, .int (nI rhx_4), .int (nI rcx_5), .ref Ma, .ref Mas, .ref Msn, .ref Mac, .ref Mat])), (Mt, .inl (g 0, 160, .inl fmt)), (Mrr, .inl (g 0, 3, .inl frrx_6)), (Mrh, .inl (g 0, 9, .inl frhx_7)), (Mrc, .inl (g 0, 9, .inl frcx_8))] H := ⟨hP, hD⟩
              clear hP hD; have hP := hPD.1; have hD := hPD.2; clear hPD
              have hF_146 : zer (i_21 + 1) (upd F_22 (i_21) 0) := zer_s hF_22
              generalize upd F_22 (i_21) 0 = F_146 at hP hD hF_146
              refine lv_iinc (v := (nI (i_21 + 1))) (lv' := [(1, .int (nI (i_21 + 1))), (0, .ref Mm)]) hx hb dX7_net_96 hl (k := 0) rfl (nI_1 (i_21)) (by decide) rfl (fun ls hl => ?_)
              refine lv_goto (tgt := 82) hx hb dX7_net_99 (by decide) ?_
              exact loop_27_ih (i_21 + 1) F_146 (hF_146) (show (i_21 + 1) ≤ 1767 by omega) (show 1767 - (i_21 + 1) < Nloop_27 by omega) _ _ _ hP hD hS hl
        exact loop_27 _ 0 fno (zer_0) (show 0 ≤ 1767 by omega) (Nat.lt_succ_self _) _ _ _ hP hD hS hl
      · skip
        have cn_147 : rcx_5 = 0 := (nI_eq (show rcx_5 < 2 ^ 31 by omega) (show 0 < 2 ^ 31 by omega)).mp cb_18
        refine lv_aload_n hx hb dX7_net_49 rfl (lv_at hl 0 rfl) ?_
        refine lv_iconst (v := 2) hx hb dX7_net_50 (by decide) ?_
        refine lv_aload_n hx hb dX7_net_51 rfl (lv_at hl 0 rfl) ?_
        refine va_get (D := D) (ci := 7) (v := .ref Mrc) (C := RX7) (T := TX7) (N := 21) hx hb hts iX7 hown hK hP 3 rfl rfl 7 (by decide) f19 (fun _ h9 => h9) rfl dX7_net_52 ?_
        refine lv_iconst (v := 0) hx hb dX7_net_55 (by decide) ?_
        refine ky_Vv (As := [.int 2, .ref Mrc, .int 0]) (rest := []) ⟨hx, hb, hml, hown, hts⟩ ⟨hK, hN⟩ hZ hP hD hS hA [3, 7] [0, 1, 2, 4, 5, 6] (wc := [(Mm, .inr (7, [.int 0, .ref Mt, .int 0, .int zmax_2, .int (-1), .ref Mrr, .ref Mrh, .ref Mrc, .int (nI rhx_4), .int (nI rcx_5), .ref Mn, .ref Mf, .ref Mr, .ref Mh, .int (nI hp), .int (nI cc), .ref Ma, .ref Mas, .ref Msn, .ref Mac, .ref Mat])), (Mrc, .inl (g 0, 9, .inl frcx_8))]) (wr := [(Mn, .inl (g 0, 1767, .inl fno)), (Mr, .inl (g 0, 3, .inl fmr)), (Mh, .inl (g 0, 9, .inl fmh)), (Mt, .inl (g 0, 160, .inl fmt)), (Mrr, .inl (g 0, 3, .inl frrx_6)), (Mrh, .inl (g 0, 9, .inl frhx_7))]) rfl rfl rfl rfl (by decide) (w_X7_laysUsual_2 l D g H.size Mm Mrc 0 0 Mt 0 zmax_2 (-1) Mrr Mrh (nI rhx_4) (nI rcx_5) Mn Mf Mr Mh (nI hp) (nI cc) Ma Mas Msn Mac Mat frcx_8 (show 0 ≤ 6 by omega) (hf_9.2.2.1)) (cwV 3 hts gX7_net_X7_laysUsual rfl rfl rfl (by decide +kernel) ⟨(Nat.le_of_ble_eq_true rfl), (Nat.le_of_ble_eq_true rfl)⟩) 3 7 rfl rfl rfl rfl hl.1 rfl (Nat.le_of_ble_eq_true rfl) dX7_net_56 ⟨(Nat.le_of_ble_eq_true rfl), (Nat.le_of_ble_eq_true rfl)⟩ (fun u H locs hw hP2 hD2 hS2 => ?_)
        clear hP hD hS
        obtain ⟨frcx_149, rfl, hf_150, hf_151⟩ := hw
        have hPD : PD D A [(Mn, .inl (g 0, 1767, .inl fno)), (Mr, .inl (g 0, 3, .inl fmr)), (Mh, .inl (g 0, 9, .inl fmh)), (Mt, .inl (g 0, 160, .inl fmt)), (Mrr, .inl (g 0, 3, .inl frrx_6)), (Mrh, .inl (g 0, 9, .inl frhx_7)), (Mm, .inr (7, [.int 0, .ref Mt, .int 0, .int zmax_2, .int (-1), .ref Mrr, .ref Mrh, .ref Mrc, .int (nI rhx_4), .int (nI rcx_5), .ref Mn, .ref Mf, .ref Mr, .ref Mh, .int (nI hp), .int (nI cc), .ref Ma, .ref Mas, .ref Msn, .ref Mac, .ref Mat])), (Mrc, .inl (g 0, 9, .inl frcx_149))] H := ⟨hP2, hD2⟩
        have hS := hS2; clear hP2 hD2 hS2; have hP := hPD.1; have hD := hPD.2; clear hPD
        refine W.widen (k := 0) (n := 0) (Nat.le_of_ble_eq_true rfl) (Nat.le_of_ble_eq_true rfl) ?_
        refine lv_aload_n hx hb dX7_net_59 rfl (lv_at hl 0 rfl) ?_
        refine lv_iconst (v := 1) hx hb dX7_net_60 (by decide) ?_
        refine va_put (D := D) (ci := 7) (v := .int 1) (ty := .int) (C := RX7) (T := TX7) (N := 21) hx hb hts iX7 tyX7 tyX7_ok nmX7 hown hK hP hD hS 6 rfl rfl 9 (by decide) f114 (fun _ h9 => h9) rfl (by decide +kernel) (rfl) (rfl) (Nat.le_of_ble_eq_true rfl) dX7_net_61 (fun H locs hP2 hD2 hS2 => ?_)
        clear hP hD hS
        have hPD : PD D A [(Mn, .inl (g 0, 1767, .inl fno)), (Mr, .inl (g 0, 3, .inl fmr)), (Mh, .inl (g 0, 9, .inl fmh)), (Mt, .inl (g 0, 160, .inl fmt)), (Mrr, .inl (g 0, 3, .inl frrx_6)), (Mrh, .inl (g 0, 9, .inl frhx_7)), (Mm, .inr (7, [.int 0, .ref Mt, .int 0, .int zmax_2, .int (-1), .ref Mrr, .ref Mrh, .ref Mrc, .int (nI rhx_4), .int 1, .ref Mn, .ref Mf, .ref Mr, .ref Mh, .int (nI hp), .int (nI cc), .ref Ma, .ref Mas, .ref Msn, .ref Mac, .ref Mat])), (Mrc, .inl (g 0, 9, .inl frcx_149))] H := ⟨hP2, hD2⟩
        have hS := hS2; clear hP2 hD2 hS2; have hP := hPD.1; have hD := hPD.2; clear hPD
        refine lv_aload_n hx hb dX7_net_64 rfl (lv_at hl 0 rfl) ?_
        refine lv_aload_n hx hb dX7_net_65 rfl (lv_at hl 0 rfl) ?_
        refine va_get (D := D) (ci := 7) (v := .int (nI rhx_4)) (C := RX7) (T := TX7) (N := 21) hx hb hts iX7 hown hK hP 6 rfl rfl 8 (by decide) f111 (fun _ h9 => h9) rfl dX7_net_66 ?_
        refine va_put (D := D) (ci := 7) (v := .int (nI rhx_4)) (ty := .int) (C := RX7) (T := TX7) (N := 21) hx hb hts iX7 tyX7 tyX7_ok nmX7 hown hK hP hD hS 6 rfl rfl 14 (by decide) f124 (fun _ h9 => h9) rfl (by decide +kernel) (rfl) (rfl) (Nat.le_of_ble_eq_true rfl) dX7_net_69 (fun H locs hP2 hD2 hS2 => ?_)
        clear hP hD hS
        have hPD : PD D A [(Mn, .inl (g 0, 1767, .inl fno)), (Mr, .inl (g 0, 3, .inl fmr)), (Mh, .inl (g 0, 9, .inl fmh)), (Mt, .inl (g 0, 160, .inl fmt)), (Mrr, .inl (g 0, 3, .inl frrx_6)), (Mrh, .inl (g 0, 9, .inl frhx_7)), (Mm, .inr (7, [.int 0, .ref Mt, .int 0, .int zmax_2, .int (-1), .ref Mrr, .ref Mrh, .ref Mrc, .int (nI rhx_4), .int 1, .ref Mn, .ref Mf, .ref Mr, .ref Mh, .int (nI rhx_4), .int (nI cc), .ref Ma, .ref Mas, .ref Msn, .ref Mac, .ref Mat])), (Mrc, .inl (g 0, 9, .inl frcx_149))] H := ⟨hP2, hD2⟩
        have hS := hS2; clear hP2 hD2 hS2; have hP := hPD.1; have hD := hPD.2; clear hPD
        refine lv_aload_n hx hb dX7_net_72 rfl (lv_at hl 0 rfl) ?_
        refine lv_aload_n hx hb dX7_net_73 rfl (lv_at hl 0 rfl) ?_
        refine va_get (D := D) (ci := 7) (v := .int 1) (C := RX7) (T := TX7) (N := 21) hx hb hts iX7 hown hK hP 6 rfl rfl 9 (by decide) f114 (fun _ h9 => h9) rfl dX7_net_74 ?_
        refine va_put (D := D) (ci := 7) (v := .int 1) (ty := .int) (C := RX7) (T := TX7) (N := 21) hx hb hts iX7 tyX7 tyX7_ok nmX7 hown hK hP hD hS 6 rfl rfl 15 (by decide) f127 (fun _ h9 => h9) rfl (by decide +kernel) (rfl) (rfl) (Nat.le_of_ble_eq_true rfl) dX7_net_77 (fun H locs hP2 hD2 hS2 => ?_)
        clear hP hD hS
        have hPD : PD D A [(Mn, .inl (g 0, 1767, .inl fno)), (Mr, .inl (g 0, 3, .inl fmr)), (Mh, .inl (g 0, 9, .inl fmh)), (Mt, .inl (g 0, 160, .inl fmt)), (Mrr, .inl (g 0, 3, .inl frrx_6)), (Mrh, .inl (g 0, 9, .inl frhx_7)), (Mm, .inr (7, [.int 0, .ref Mt, .int 0, .int zmax_2, .int (-1), .ref Mrr, .ref Mrh, .ref Mrc, .int (nI rhx_4), .int 1, .ref Mn, .ref Mf, .ref Mr, .ref Mh, .int (nI rhx_4), .int 1, .ref Ma, .ref Mas, .ref Msn, .ref Mac, .ref Mat])), (Mrc, .inl (g 0, 9, .inl frcx_149))] H := ⟨hP2, hD2⟩
        have hS := hS2; clear hP2 hD2 hS2; have hP := hPD.1; have hD := hPD.2; clear hPD
        refine lv_iconst (v := 0) hx hb dX7_net_80 (by decide) ?_
        refine lv_istore_n (lv' := [(1, .int 0), (0, .ref Mm)]) hx hb dX7_net_81 rfl hl (by decide) rfl (fun ls hl => ?_)
        have loop_159 : ∀ (Nloop_159 : Nat) (i_153 : Nat) (F_154 : Nat → Int32) (hF_154 : zer i_153 F_154) (hbi_153 : i_153 ≤ 1767) (hmloop_159 : 1767 - i_153 < Nloop_159) (H : Heap) (locs : List Loc) (ls : Array Slot), va_P D vwCl [(Mn, .inl (g 0, 1767, .inl F_154)), (Mr, .inl (g 0, 3, .inl fmr)), (Mh, .inl (g 0, 9, .inl fmh)), (Mt, .inl (g 0, 160, .inl fmt)), (Mrr, .inl (g 0, 3, .inl frrx_6)), (Mrh, .inl (g 0, 9, .inl frhx_7)), (Mm, .inr (7, [.int 0, .ref Mt, .int 0, .int zmax_2, .int (-1), .ref Mrr, .ref Mrh, .ref Mrc, .int (nI rhx_4), .int 1, .ref Mn, .ref Mf, .ref Mr, .ref Mh, .int (nI rhx_4), .int 1, .ref Ma, .ref Mas, .ref Msn, .ref Mac, .ref Mat])), (Mrc, .inl (g 0, 9, .inl frcx_149))] H → va_D A [(Mn, .inl (g 0, 1767, .inl F_154)), (Mr, .inl (g 0, 3, .inl fmr)), (Mh, .inl (g 0, 9, .inl fmh)), (Mt, .inl (g 0, 160, .inl fmt)), (Mrr, .inl (g 0, 3, .inl frrx_6)), (Mrh, .inl (g 0, 9, .inl frhx_7)), (Mm, .inr (7, [.int 0, .ref Mt, .int 0, .int zmax_2, .int (-1), .ref Mrr, .ref Mrh, .ref Mrc, .int (nI rhx_4), .int 1, .ref Mn, .ref Mf, .ref Mr, .ref Mh, .int (nI rhx_4), .int 1, .ref Ma, .ref Mas, .ref Msn, .ref Mac, .ref Mat])), (Mrc, .inl (g 0, 9, .inl frcx_149))] → va_S A s.heap H locs → lv_has ls 3 [(1, .int (nI i_153)), (0, .ref Mm)] → W p l e (headSpec wsX7_net ({ frames := 6, cells := 0, slots := 0, locals := 133 })).room s m ([.ref Mm] : List Value).toArray below meth c H locs 0 0 Q (F0 m 82 ls []) := by
          clear hP hD hS hl
          intro Nloop_159
          induction Nloop_159 with
          | zero => intro i_153 F_154 hF_154 hbi_153 hm9; exact absurd hm9 (Nat.not_lt_zero _)
          | succ Nloop_159 loop_159_ih =>
            intro i_153 F_154 hF_154 hbi_153 hmloop_159 H locs ls hP hD hS hl
            refine lv_iload_n hx hb dX7_net_82 rfl (lv_at hl 0 rfl) ?_
            refine lv_sipush (v := 1767) hx hb dX7_net_83 (by decide) ?_
            refine lv_icmp_ge (tgt := 102) hx hb dX7_net_86 (by decide) (fun cb_160 => ?_) (fun cb_160 => ?_)
            · skip
              have cn_161 : 1767 ≤ i_153 := (nI_leI (show 1767 < 2 ^ 31 by omega) (show i_153 < 2 ^ 31 by omega)).mp cb_160
              have hF_154 := zer_mOK (U := ub) hF_154 (show 1767 ≤ i_153 by omega)
              refine lv_iconst (v := 0) hx hb dX7_net_102 (by decide) ?_
              refine lv_istore_n (lv' := [(1, .int 0), (0, .ref Mm)]) hx hb dX7_net_103 rfl hl (by decide) rfl (fun ls hl => ?_)
              have loop_171 : ∀ (Nloop_171 : Nat) (i_164 : Nat) (F_165 : Nat → Int32) (hF_165 : n1 F_165) (hr_165 : agr i_164 frrx_6 F_165) (hbi_164 : i_164 ≤ 3) (hmloop_171 : 3 - i_164 < Nloop_171) (H : Heap) (locs : List Loc) (ls : Array Slot), va_P D vwCl [(Mn, .inl (g 0, 1767, .inl F_154)), (Mr, .inl (g 0, 3, .inl F_165)), (Mh, .inl (g 0, 9, .inl fmh)), (Mt, .inl (g 0, 160, .inl fmt)), (Mrr, .inl (g 0, 3, .inl frrx_6)), (Mrh, .inl (g 0, 9, .inl frhx_7)), (Mm, .inr (7, [.int 0, .ref Mt, .int 0, .int zmax_2, .int (-1), .ref Mrr, .ref Mrh, .ref Mrc, .int (nI rhx_4), .int 1, .ref Mn, .ref Mf, .ref Mr, .ref Mh, .int (nI rhx_4), .int 1, .ref Ma, .ref Mas, .ref Msn, .ref Mac, .ref Mat])), (Mrc, .inl (g 0, 9, .inl frcx_149))] H → va_D A [(Mn, .inl (g 0, 1767, .inl F_154)), (Mr, .inl (g 0, 3, .inl F_165)), (Mh, .inl (g 0, 9, .inl fmh)), (Mt, .inl (g 0, 160, .inl fmt)), (Mrr, .inl (g 0, 3, .inl frrx_6)), (Mrh, .inl (g 0, 9, .inl frhx_7)), (Mm, .inr (7, [.int 0, .ref Mt, .int 0, .int zmax_2, .int (-1), .ref Mrr, .ref Mrh, .ref Mrc, .int (nI rhx_4), .int 1, .ref Mn, .ref Mf, .ref Mr, .ref Mh, .int (nI rhx_4), .int 1, .ref Ma, .ref Mas, .ref Msn, .ref Mac, .ref Mat])), (Mrc, .inl (g 0, 9, .inl frcx_149))] → va_S A s.heap H locs → lv_has ls 3 [(1, .int (nI i_164)), (0, .ref Mm)] → W p l e (headSpec wsX7_net ({ frames := 6, cells := 0, slots := 0, locals := 133 })).room s m ([.ref Mm] : List Value).toArray below meth c H locs 0 0 Q (F0 m 104 ls []) := by
                clear hP hD hS hl
                intro Nloop_171
                induction Nloop_171 with
                | zero => intro i_164 F_165 hF_165 hr_165 hbi_164 hm9; exact absurd hm9 (Nat.not_lt_zero _)
                | succ Nloop_171 loop_171_ih =>
                  intro i_164 F_165 hF_165 hr_165 hbi_164 hmloop_171 H locs ls hP hD hS hl
                  refine lv_iload_n hx hb dX7_net_104 rfl (lv_at hl 0 rfl) ?_
                  refine lv_iconst (v := 3) hx hb dX7_net_105 (by decide) ?_
                  refine lv_icmp_ge (tgt := 127) hx hb dX7_net_106 (by decide) (fun cb_172 => ?_) (fun cb_172 => ?_)
                  · skip
                    have cn_173 : 3 ≤ i_164 := (nI_leI (show 3 < 2 ^ 31 by omega) (show i_164 < 2 ^ 31 by omega)).mp cb_172
                    refine lv_iconst (v := 0) hx hb dX7_net_127 (by decide) ?_
                    refine lv_istore_n (lv' := [(1, .int 0), (0, .ref Mm)]) hx hb dX7_net_128 rfl hl (by decide) rfl (fun ls hl => ?_)
                    have loop_190 : ∀ (Nloop_190 : Nat) (i_179 : Nat) (F_180 : Nat → Int32) (F_181 : Nat → Int32) (hF_180 : mOK F_180 0 ub F_180) (hF_181 : n3 F_181) (hbi_179 : i_179 ≤ rhx_4) (hmloop_190 : rhx_4 - i_179 < Nloop_190) (H : Heap) (locs : List Loc) (ls : Array Slot), va_P D vwCl [(Mn, .inl (g 0, 1767, .inl F_180)), (Mr, .inl (g 0, 3, .inl F_165)), (Mh, .inl (g 0, 9, .inl F_181)), (Mt, .inl (g 0, 160, .inl fmt)), (Mrr, .inl (g 0, 3, .inl frrx_6)), (Mrh, .inl (g 0, 9, .inl frhx_7)), (Mm, .inr (7, [.int 0, .ref Mt, .int 0, .int zmax_2, .int (-1), .ref Mrr, .ref Mrh, .ref Mrc, .int (nI rhx_4), .int 1, .ref Mn, .ref Mf, .ref Mr, .ref Mh, .int (nI rhx_4), .int 1, .ref Ma, .ref Mas, .ref Msn, .ref Mac, .ref Mat])), (Mrc, .inl (g 0, 9, .inl frcx_149))] H → va_D A [(Mn, .inl (g 0, 1767, .inl F_180)), (Mr, .inl (g 0, 3, .inl F_165)), (Mh, .inl (g 0, 9, .inl F_181)), (Mt, .inl (g 0, 160, .inl fmt)), (Mrr, .inl (g 0, 3, .inl frrx_6)), (Mrh, .inl (g 0, 9, .inl frhx_7)), (Mm, .inr (7, [.int 0, .ref Mt, .int 0, .int zmax_2, .int (-1), .ref Mrr, .ref Mrh, .ref Mrc, .int (nI rhx_4), .int 1, .ref Mn, .ref Mf, .ref Mr, .ref Mh, .int (nI rhx_4), .int 1, .ref Ma, .ref Mas, .ref Msn, .ref Mac, .ref Mat])), (Mrc, .inl (g 0, 9, .inl frcx_149))] → va_S A s.heap H locs → lv_has ls 3 [(1, .int (nI i_179)), (0, .ref Mm)] → W p l e (headSpec wsX7_net ({ frames := 6, cells := 0, slots := 0, locals := 133 })).room s m ([.ref Mm] : List Value).toArray below meth c H locs 0 0 Q (F0 m 129 ls []) := by
                      clear hP hD hS hl
                      intro Nloop_190
                      induction Nloop_190 with
                      | zero => intro i_179 F_180 F_181 hF_180 hF_181 hbi_179 hm9; exact absurd hm9 (Nat.not_lt_zero _)
                      | succ Nloop_190 loop_190_ih =>
                        intro i_179 F_180 F_181 hF_180 hF_181 hbi_179 hmloop_190 H locs ls hP hD hS hl
                        refine lv_iload_n hx hb dX7_net_129 rfl (lv_at hl 0 rfl) ?_
                        refine lv_aload_n hx hb dX7_net_130 rfl (lv_at hl 1 rfl) ?_
                        refine va_get (D := D) (ci := 7) (v := .int (nI rhx_4)) (C := RX7) (T := TX7) (N := 21) hx hb hts iX7 hown hK hP 6 rfl rfl 14 (by decide) f124 (fun _ h9 => h9) rfl dX7_net_131 ?_
                        refine lv_icmp_ge (tgt := 148) hx hb dX7_net_134 (by decide) (fun cb_191 => ?_) (fun cb_191 => ?_)
                        · skip
                          have cn_192 : rhx_4 ≤ i_179 := (nI_leI (show rhx_4 < 2 ^ 31 by omega) (show i_179 < 2 ^ 31 by omega)).mp cb_191
                          refine lv_iconst (v := 0) hx hb dX7_net_148 (by decide) ?_
                          refine lv_istore_n (lv' := [(1, .int 0), (0, .ref Mm)]) hx hb dX7_net_149 rfl hl (by decide) rfl (fun ls hl => ?_)
                          have loop_242 : ∀ (Nloop_242 : Nat) (i_215 : Nat) (F_216 : Nat → Int32) (hF_216 : mOK F_216 0 ub F_216) (hA_216 : gA i_215 F_216 frcx_149) (hbi_215 : i_215 ≤ 1) (hmloop_242 : 1 - i_215 < Nloop_242) (H : Heap) (locs : List Loc) (ls : Array Slot), va_P D vwCl [(Mn, .inl (g 0, 1767, .inl F_216)), (Mr, .inl (g 0, 3, .inl F_165)), (Mh, .inl (g 0, 9, .inl F_181)), (Mt, .inl (g 0, 160, .inl fmt)), (Mrr, .inl (g 0, 3, .inl frrx_6)), (Mrh, .inl (g 0, 9, .inl frhx_7)), (Mm, .inr (7, [.int 0, .ref Mt, .int 0, .int zmax_2, .int (-1), .ref Mrr, .ref Mrh, .ref Mrc, .int (nI rhx_4), .int 1, .ref Mn, .ref Mf, .ref Mr, .ref Mh, .int (nI rhx_4), .int 1, .ref Ma, .ref Mas, .ref Msn, .ref Mac, .ref Mat])), (Mrc, .inl (g 0, 9, .inl frcx_149))] H → va_D A [(Mn, .inl (g 0, 1767, .inl F_216)), (Mr, .inl (g 0, 3, .inl F_165)), (Mh, .inl (g 0, 9, .inl F_181)), (Mt, .inl (g 0, 160, .inl fmt)), (Mrr, .inl (g 0, 3, .inl frrx_6)), (Mrh, .inl (g 0, 9, .inl frhx_7)), (Mm, .inr (7, [.int 0, .ref Mt, .int 0, .int zmax_2, .int (-1), .ref Mrr, .ref Mrh, .ref Mrc, .int (nI rhx_4), .int 1, .ref Mn, .ref Mf, .ref Mr, .ref Mh, .int (nI rhx_4), .int 1, .ref Ma, .ref Mas, .ref Msn, .ref Mac, .ref Mat])), (Mrc, .inl (g 0, 9, .inl frcx_149))] → va_S A s.heap H locs → lv_has ls 3 [(1, .int (nI i_215)), (0, .ref Mm)] → W p l e (headSpec wsX7_net ({ frames := 6, cells := 0, slots := 0, locals := 133 })).room s m ([.ref Mm] : List Value).toArray below meth c H locs 0 0 Q (F0 m 150 ls []) := by
                            clear hP hD hS hl
                            intro Nloop_242
                            induction Nloop_242 with
                            | zero => intro i_215 F_216 hF_216 hA_216 hbi_215 hm9; exact absurd hm9 (Nat.not_lt_zero _)
                            | succ Nloop_242 loop_242_ih =>
                              intro i_215 F_216 hF_216 hA_216 hbi_215 hmloop_242 H locs ls hP hD hS hl
                              refine lv_iload_n hx hb dX7_net_150 rfl (lv_at hl 0 rfl) ?_
                              refine lv_aload_n hx hb dX7_net_151 rfl (lv_at hl 1 rfl) ?_
                              refine va_get (D := D) (ci := 7) (v := .int 1) (C := RX7) (T := TX7) (N := 21) hx hb hts iX7 hown hK hP 6 rfl rfl 15 (by decide) f127 (fun _ h9 => h9) rfl dX7_net_152 ?_
                              refine lv_icmp_ge (tgt := 211) hx hb dX7_net_155 (by decide) (fun cb_243 => ?_) (fun cb_243 => ?_)
                              · skip
                                have cn_244 : 1 ≤ i_215 := (nI_leI (show 1 < 2 ^ 31 by omega) (show i_215 < 2 ^ 31 by omega)).mp cb_243
                                refine lv_aload_n hx hb dX7_net_211 rfl (lv_at hl 1 rfl) ?_
                                refine va_get (D := D) (ci := 7) (v := .int 1) (C := RX7) (T := TX7) (N := 21) hx hb hts iX7 hown hK hP 6 rfl rfl 15 (by decide) f127 (fun _ h9 => h9) rfl dX7_net_212 ?_
                                have hPD9 : PD D A [(Mm, .inr (7, [.int 0, .ref Mt, .int 0, .int zmax_2, .int (-1), .ref Mrr, .ref Mrh, .ref Mrc, .int (nI rhx_4), .int 1, .ref Mn, .ref Mf, .ref Mr, .ref Mh, .int (nI rhx_4), .int 1, .ref Ma, .ref Mas, .ref Msn, .ref Mac, .ref Mat])), (Mt, .inl (g 0, 160, .inl fmt)), (Mrr, .inl (g 0, 3, .inl frrx_6)), (Mrh, .inl (g 0, 9, .inl frhx_7)), (Mrc, .inl (g 0, 9, .inl frcx_149)), (Mn, .inl (g 0, 1767, .inl F_216)), (Mr, .inl (g 0, 3, .inl F_165)), (Mh, .inl (g 0, 9, .inl F_181))] H := ⟨hP.sub [6, 3, 4, 5, 7, 0, 1, 2] rfl, hD.sub [6, 3, 4, 5, 7, 0, 1, 2] (by decide) rfl⟩
                                have hP9 := hPD9.1; have hD9 := hPD9.2
                                subst hQ
                                refine W.widen (k := 0) (n := 0) (Nat.le_of_ble_eq_true rfl) (Nat.le_of_ble_eq_true rfl) ?_
                                exact W.iret (v := 1) hx hb hr (fun tS htS _ => ⟨⟨_, _, rfl, ⟨(lf2 [frrx_6, frhx_7, frcx_149, F_216, F_165, F_181]), 0, 0, zmax_2, (-1), (nI rhx_4), 1, rhx_4, 1, 1, 0, rfl, rfl, ⟨(hf_9.1), (hf_9.2.1), (hf_150), (hF_216), (hF_165), (hF_181), (show rhx_4 ≤ 3 by omega), (show 1 ≤ 3 by omega), (show (rhx_4 = 0 ∧ 1 = 0) ∨ (1 ≤ rhx_4 ∧ 1 ≤ 1) by omega), (show 0 ≤ 160 by omega), nt_yes (cc := 1) hf_9.2.2.2.2.2.1 rfl (by omega), ⟨fun q9 => absurd q9 (show ¬ (1 : Int32) = -1 by decide), fun _ => ⟨rfl, nk_0 (hf_9.2.2.2.2.2.2 rfl) hf_9.2.2.2.2.2.1 (by omega) (by omega) hf_151 (by omega) (ag_f hr_165 (by omega)) (gA_f hA_216 (by omega))⟩⟩⟩⟩, by rw [htS]; exact hP9, hD9⟩, hS.F htS⟩) hS.2.2 dX7_net_215
                              · skip
                                have cn_245 : i_215 < 1 := Nat.lt_of_not_le (fun q9 => cb_243 ((nI_leI (show 1 < 2 ^ 31 by omega) (show i_215 < 2 ^ 31 by omega)).mpr q9))
                                refine lv_iconst (v := 0) hx hb dX7_net_158 (by decide) ?_
                                refine lv_istore_n (lv' := [(2, .int 0), (1, .int (nI i_215)), (0, .ref Mm)]) hx hb dX7_net_159 rfl hl (by decide) rfl (fun ls hl => ?_)
                                have loop_259 : ∀ (Nloop_259 : Nat) (i_249 : Nat) (F_250 : Nat → Int32) (hF_250 : mOK F_250 0 ub F_250) (hA_250 : gA i_215 F_250 frcx_149) (hB_250 : gB i_215 i_249 F_250 frcx_149) (hbi_249 : i_249 ≤ 3) (hmloop_259 : 3 - i_249 < Nloop_259) (H : Heap) (locs : List Loc) (ls : Array Slot), va_P D vwCl [(Mn, .inl (g 0, 1767, .inl F_250)), (Mr, .inl (g 0, 3, .inl F_165)), (Mh, .inl (g 0, 9, .inl F_181)), (Mt, .inl (g 0, 160, .inl fmt)), (Mrr, .inl (g 0, 3, .inl frrx_6)), (Mrh, .inl (g 0, 9, .inl frhx_7)), (Mm, .inr (7, [.int 0, .ref Mt, .int 0, .int zmax_2, .int (-1), .ref Mrr, .ref Mrh, .ref Mrc, .int (nI rhx_4), .int 1, .ref Mn, .ref Mf, .ref Mr, .ref Mh, .int (nI rhx_4), .int 1, .ref Ma, .ref Mas, .ref Msn, .ref Mac, .ref Mat])), (Mrc, .inl (g 0, 9, .inl frcx_149))] H → va_D A [(Mn, .inl (g 0, 1767, .inl F_250)), (Mr, .inl (g 0, 3, .inl F_165)), (Mh, .inl (g 0, 9, .inl F_181)), (Mt, .inl (g 0, 160, .inl fmt)), (Mrr, .inl (g 0, 3, .inl frrx_6)), (Mrh, .inl (g 0, 9, .inl frhx_7)), (Mm, .inr (7, [.int 0, .ref Mt, .int 0, .int zmax_2, .int (-1), .ref Mrr, .ref Mrh, .ref Mrc, .int (nI rhx_4), .int 1, .ref Mn, .ref Mf, .ref Mr, .ref Mh, .int (nI rhx_4), .int 1, .ref Ma, .ref Mas, .ref Msn, .ref Mac, .ref Mat])), (Mrc, .inl (g 0, 9, .inl frcx_149))] → va_S A s.heap H locs → lv_has ls 3 [(2, .int (nI i_249)), (1, .int (nI i_215)), (0, .ref Mm)] → W p l e (headSpec wsX7_net ({ frames := 6, cells := 0, slots := 0, locals := 133 })).room s m ([.ref Mm] : List Value).toArray below meth c H locs 0 0 Q (F0 m 160 ls []) := by
                                  clear hP hD hS hl
                                  intro Nloop_259
                                  induction Nloop_259 with
                                  | zero => intro i_249 F_250 hF_250 hA_250 hB_250 hbi_249 hm9; exact absurd hm9 (Nat.not_lt_zero _)
                                  | succ Nloop_259 loop_259_ih =>
                                    intro i_249 F_250 hF_250 hA_250 hB_250 hbi_249 hmloop_259 H locs ls hP hD hS hl
                                    refine lv_iload_n hx hb dX7_net_160 rfl (lv_at hl 0 rfl) ?_
                                    refine lv_iconst (v := 3) hx hb dX7_net_161 (by decide) ?_
                                    refine lv_icmp_ge (tgt := 192) hx hb dX7_net_162 (by decide) (fun cb_260 => ?_) (fun cb_260 => ?_)
                                    · skip
                                      have cn_261 : 3 ≤ i_249 := (nI_leI (show 3 < 2 ^ 31 by omega) (show i_249 < 2 ^ 31 by omega)).mp cb_260
                                      refine lv_aload_n hx hb dX7_net_192 rfl (lv_at hl 2 rfl) ?_
                                      refine va_get (D := D) (ci := 7) (v := .ref Mn) (C := RX7) (T := TX7) (N := 21) hx hb hts iX7 hown hK hP 6 rfl rfl 10 (by decide) f22 (fun _ h9 => h9) rfl dX7_net_193 ?_
                                      refine lv_iload_n hx hb dX7_net_196 rfl (lv_at hl 1 rfl) ?_
                                      refine ky_Si (As := [.int (nI i_215)]) (rest := [.ref Mn]) ⟨hx, hb, hml, hown, hts⟩ ⟨hK, hN⟩ hZ hP hD hS hA [] [0, 1, 2, 3, 4, 5, 6, 7] (wc := []) (wr := [(Mn, .inl (g 0, 1767, .inl F_250)), (Mr, .inl (g 0, 3, .inl F_165)), (Mh, .inl (g 0, 9, .inl F_181)), (Mt, .inl (g 0, 160, .inl fmt)), (Mrr, .inl (g 0, 3, .inl frrx_6)), (Mrh, .inl (g 0, 9, .inl frhx_7)), (Mm, .inr (7, [.int 0, .ref Mt, .int 0, .int zmax_2, .int (-1), .ref Mrr, .ref Mrh, .ref Mrc, .int (nI rhx_4), .int 1, .ref Mn, .ref Mf, .ref Mr, .ref Mh, .int (nI rhx_4), .int 1, .ref Ma, .ref Mas, .ref Msn, .ref Mac, .ref Mat])), (Mrc, .inl (g 0, 9, .inl frcx_149))]) rfl rfl rfl rfl (by decide) (k_X7_circuitAt l D g H.size i_215 (show i_215 < 3 by omega)) (va_cwS 1 hts gX7_net_X7_circuitAt rfl rfl rfl (by decide +kernel) ⟨(Nat.le_of_ble_eq_true rfl), (Nat.le_of_ble_eq_true rfl)⟩) rfl hl.1 rfl (Nat.le_of_ble_eq_true rfl) dX7_net_197 ⟨(Nat.le_of_ble_eq_true rfl), (Nat.le_of_ble_eq_true rfl)⟩ (fun r_262 u H locs hw hP2 hD2 hS2 => ?_)
                                      clear hP hD hS
                                      obtain ⟨rfl, rfl⟩ := hw
                                      have hPD : PD D A [(Mn, .inl (g 0, 1767, .inl F_250)), (Mr, .inl (g 0, 3, .inl F_165)), (Mh, .inl (g 0, 9, .inl F_181)), (Mt, .inl (g 0, 160, .inl fmt)), (Mrr, .inl (g 0, 3, .inl frrx_6)), (Mrh, .inl (g 0, 9, .inl frhx_7)), (Mm, .inr (7, [.int 0, .ref Mt, .int 0, .int zmax_2, .int (-1), .ref Mrr, .ref Mrh, .ref Mrc, .int (nI rhx_4), .int 1, .ref Mn, .ref Mf, .ref Mr, .ref Mh, .int (nI rhx_4), .int 1, .ref Ma, .ref Mas, .ref Msn, .ref Mac, .ref Mat])), (Mrc, .inl (g 0, 9, .inl frcx_149))] H := ⟨hP2, hD2⟩
                                      have hS := hS2; clear hP2 hD2 hS2; have hP := hPD.1; have hD := hPD.2; clear hPD
                                      refine W.widen (k := 0) (n := 0) (Nat.le_of_ble_eq_true rfl) (Nat.le_of_ble_eq_true rfl) ?_
                                      refine lv_bipush (v := 6) hx hb dX7_net_200 (by decide) ?_
                                      refine lv_iadd hx hb dX7_net_202 ?_
                                      refine lv_eqi (y := (nI (201 + 9 * i_215 + 6))) (nI_add (201 + 9 * i_215) (6)) ?_
                                      refine lv_iconst (v := (-1)) hx hb dX7_net_203 (by decide) ?_
                                      refine va_iast hx hb hK hP hD hS 0 0 rfl rfl (vp_in_nI (show 201 + 9 * i_215 + 6 < 1767 by omega) (by decide)) dX7_net_204 (fun H locs hP2 hD2 hS2 => ?_)
                                      clear hP hD hS
                                      have hPD : PD D A [(Mn, .inl (g 0, 1767, .inl (upd F_250 (nI (201 + 9 * i_215 + 6)).toNatClampNeg (-1)))), (Mr, .inl (g 0, 3, .inl F_165)), (Mh, .inl (g 0, 9, .inl F_181)), (Mt, .inl (g 0, 160, .inl fmt)), (Mrr, .inl (g 0, 3, .inl frrx_6)), (Mrh, .inl (g 0, 9, .inl frhx_7)), (Mm, .inr (7, [.int 0, .ref Mt, .int 0, .int zmax_2, .int (-1), .ref Mrr, .ref Mrh, .ref Mrc, .int (nI rhx_4), .int 1, .ref Mn, .ref Mf, .ref Mr, .ref Mh, .int (nI rhx_4), .int 1, .ref Ma, .ref Mas, .ref Msn, .ref Mac, .ref Mat])), (Mrc, .inl (g 0, 9, .inl frcx_149))] H := ⟨hP2, hD2⟩
                                      have hS := hS2; clear hP2 hD2 hS2; have hP := hPD.1; have hD := hPD.2; clear hPD
                                      rw [nI_clamp (show 201 + 9 * i_215 + 6 < 2 ^ 31 by omega)] at hP hD
                                      have hPD : PD D A [(Mn, .inl (g 0, 1767, .inl (upd F_250 (201 + 9 * i_215 + 6) (-1)))), (Mr, .inl (g 0, 3, .inl F_165)), (Mh, .inl (g 0, 9, .inl F_181)), (Mt, .inl (g 0, 160, .inl fmt)), (Mrr, .inl (g 0, 3, .inl frrx_6)), (Mrh, .inl (g 0, 9, .inl frhx_7)), (Mm, .inr (7, [.int 0, .ref Mt, .int 0, .int zmax_2, .int (-1), .ref Mrr, .ref Mrh, .ref Mrc, .int (nI rhx_4), .int 1, .ref Mn, .ref Mf, .ref Mr, .ref Mh, .int (nI rhx_4), .int 1, .ref Ma, .ref Mas, .ref Msn, .ref Mac, .ref Mat])), (Mrc, .inl (g 0, 9, .inl frcx_149))] H := ⟨hP, hD⟩
                                      clear hP hD; have hP := hPD.1; have hD := hPD.2; clear hPD
                                      have hF_263 : mOK (upd F_250 (201 + 9 * i_215 + 6) (-1)) 0 ub (upd F_250 (201 + 9 * i_215 + 6) (-1)) := mOK_self (mOK_free hF_250 (show mfree (201 + 9 * i_215 + 6) by unfold mfree; omega))
                                      have hA_263 : gA (i_215 + 1) (upd F_250 (201 + 9 * i_215 + 6) (-1)) frcx_149 := gA_n hA_250 hB_250 (show 3 ≤ i_249 by omega)
                                      generalize upd F_250 (201 + 9 * i_215 + 6) (-1) = F_263 at hP hD hF_263 hA_263
                                      refine lv_iinc (v := (nI (i_215 + 1))) (lv' := [(1, .int (nI (i_215 + 1))), (2, .int (nI i_249)), (0, .ref Mm)]) hx hb dX7_net_205 hl (k := 1) rfl (nI_1 (i_215)) (by decide) rfl (fun ls hl => ?_)
                                      refine lv_goto (tgt := 150) hx hb dX7_net_208 (by decide) ?_
                                      exact loop_242_ih (i_215 + 1) F_263 (hF_263) (hA_263) (show (i_215 + 1) ≤ 1 by omega) (show 1 - (i_215 + 1) < Nloop_242 by omega) _ _ _ hP hD hS (lv_sub hl [0, 2] rfl)
                                    · skip
                                      have cn_264 : i_249 < 3 := Nat.lt_of_not_le (fun q9 => cb_260 ((nI_leI (show 3 < 2 ^ 31 by omega) (show i_249 < 2 ^ 31 by omega)).mpr q9))
                                      refine lv_aload_n hx hb dX7_net_165 rfl (lv_at hl 2 rfl) ?_
                                      refine va_get (D := D) (ci := 7) (v := .ref Mn) (C := RX7) (T := TX7) (N := 21) hx hb hts iX7 hown hK hP 6 rfl rfl 10 (by decide) f22 (fun _ h9 => h9) rfl dX7_net_166 ?_
                                      refine lv_iload_n hx hb dX7_net_169 rfl (lv_at hl 1 rfl) ?_
                                      refine ky_Si (As := [.int (nI i_215)]) (rest := [.ref Mn]) ⟨hx, hb, hml, hown, hts⟩ ⟨hK, hN⟩ hZ hP hD hS hA [] [0, 1, 2, 3, 4, 5, 6, 7] (wc := []) (wr := [(Mn, .inl (g 0, 1767, .inl F_250)), (Mr, .inl (g 0, 3, .inl F_165)), (Mh, .inl (g 0, 9, .inl F_181)), (Mt, .inl (g 0, 160, .inl fmt)), (Mrr, .inl (g 0, 3, .inl frrx_6)), (Mrh, .inl (g 0, 9, .inl frhx_7)), (Mm, .inr (7, [.int 0, .ref Mt, .int 0, .int zmax_2, .int (-1), .ref Mrr, .ref Mrh, .ref Mrc, .int (nI rhx_4), .int 1, .ref Mn, .ref Mf, .ref Mr, .ref Mh, .int (nI rhx_4), .int 1, .ref Ma, .ref Mas, .ref Msn, .ref Mac, .ref Mat])), (Mrc, .inl (g 0, 9, .inl frcx_149))]) rfl rfl rfl rfl (by decide) (k_X7_circuitAt l D g H.size i_215 (show i_215 < 3 by omega)) (va_cwS 1 hts gX7_net_X7_circuitAt rfl rfl rfl (by decide +kernel) ⟨(Nat.le_of_ble_eq_true rfl), (Nat.le_of_ble_eq_true rfl)⟩) rfl hl.1 rfl (Nat.le_of_ble_eq_true rfl) dX7_net_170 ⟨(Nat.le_of_ble_eq_true rfl), (Nat.le_of_ble_eq_true rfl)⟩ (fun r_265 u H locs hw hP2 hD2 hS2 => ?_)
                                      clear hP hD hS
                                      obtain ⟨rfl, rfl⟩ := hw
                                      have hPD : PD D A [(Mn, .inl (g 0, 1767, .inl F_250)), (Mr, .inl (g 0, 3, .inl F_165)), (Mh, .inl (g 0, 9, .inl F_181)), (Mt, .inl (g 0, 160, .inl fmt)), (Mrr, .inl (g 0, 3, .inl frrx_6)), (Mrh, .inl (g 0, 9, .inl frhx_7)), (Mm, .inr (7, [.int 0, .ref Mt, .int 0, .int zmax_2, .int (-1), .ref Mrr, .ref Mrh, .ref Mrc, .int (nI rhx_4), .int 1, .ref Mn, .ref Mf, .ref Mr, .ref Mh, .int (nI rhx_4), .int 1, .ref Ma, .ref Mas, .ref Msn, .ref Mac, .ref Mat])), (Mrc, .inl (g 0, 9, .inl frcx_149))] H := ⟨hP2, hD2⟩
                                      have hS := hS2; clear hP2 hD2 hS2; have hP := hPD.1; have hD := hPD.2; clear hPD
                                      refine W.widen (k := 0) (n := 0) (Nat.le_of_ble_eq_true rfl) (Nat.le_of_ble_eq_true rfl) ?_
                                      refine lv_iload_n hx hb dX7_net_173 rfl (lv_at hl 0 rfl) ?_
                                      refine lv_iadd hx hb dX7_net_174 ?_
                                      refine lv_eqi (y := (nI (201 + 9 * i_215 + i_249))) (nI_add (201 + 9 * i_215) (i_249)) ?_
                                      refine lv_aload_n hx hb dX7_net_175 rfl (lv_at hl 2 rfl) ?_
                                      refine va_get (D := D) (ci := 7) (v := .ref Mrc) (C := RX7) (T := TX7) (N := 21) hx hb hts iX7 hown hK hP 6 rfl rfl 7 (by decide) f19 (fun _ h9 => h9) rfl dX7_net_176 ?_
                                      refine lv_iconst (v := 3) hx hb dX7_net_179 (by decide) ?_
                                      refine lv_iload_n hx hb dX7_net_180 rfl (lv_at hl 1 rfl) ?_
                                      refine lv_imul hx hb dX7_net_181 ?_
                                      refine lv_eqi (y := (nI (3 * i_215))) (pk_mul (3) (i_215)) ?_
                                      refine lv_iload_n hx hb dX7_net_182 rfl (lv_at hl 0 rfl) ?_
                                      refine lv_iadd hx hb dX7_net_183 ?_
                                      refine lv_eqi (y := (nI (3 * i_215 + i_249))) (nI_add (3 * i_215) (i_249)) ?_
                                      refine va_iald hx hb hK hP 7 0 rfl rfl (vp_in_nI (show 3 * i_215 + i_249 < 9 by omega) (by decide)) dX7_net_184 ?_
                                      refine lv_eqi (y := (frcx_149 (3 * i_215 + i_249))) (congrArg frcx_149 (nI_clamp (show 3 * i_215 + i_249 < 2 ^ 31 by omega))) ?_
                                      obtain ⟨n_266, hn_266, q9⟩ := hf_150 (3 * i_215 + i_249)
                                      have qv_266 := q9
                                      refine lv_eqi (y := nI n_266) q9 ?_
                                      refine va_iast hx hb hK hP hD hS 0 0 rfl rfl (vp_in_nI (show 201 + 9 * i_215 + i_249 < 1767 by omega) (by decide)) dX7_net_185 (fun H locs hP2 hD2 hS2 => ?_)
                                      clear hP hD hS
                                      have hPD : PD D A [(Mn, .inl (g 0, 1767, .inl (upd F_250 (nI (201 + 9 * i_215 + i_249)).toNatClampNeg (nI n_266)))), (Mr, .inl (g 0, 3, .inl F_165)), (Mh, .inl (g 0, 9, .inl F_181)), (Mt, .inl (g 0, 160, .inl fmt)), (Mrr, .inl (g 0, 3, .inl frrx_6)), (Mrh, .inl (g 0, 9, .inl frhx_7)), (Mm, .inr (7, [.int 0, .ref Mt, .int 0, .int zmax_2, .int (-1), .ref Mrr, .ref Mrh, .ref Mrc, .int (nI rhx_4), .int 1, .ref Mn, .ref Mf, .ref Mr, .ref Mh, .int (nI rhx_4), .int 1, .ref Ma, .ref Mas, .ref Msn, .ref Mac, .ref Mat])), (Mrc, .inl (g 0, 9, .inl frcx_149))] H := ⟨hP2, hD2⟩
                                      have hS := hS2; clear hP2 hD2 hS2; have hP := hPD.1; have hD := hPD.2; clear hPD
                                      rw [nI_clamp (show 201 + 9 * i_215 + i_249 < 2 ^ 31 by omega)] at hP hD
                                      have hPD : PD D A [(Mn, .inl (g 0, 1767, .inl (upd F_250 (201 + 9 * i_215 + i_249) (nI n_266)))), (Mr, .inl (g 0, 3, .inl F_165)), (Mh, .inl (g 0, 9, .inl F_181)), (Mt, .inl (g 0, 160, .inl fmt)), (Mrr, .inl (g 0, 3, .inl frrx_6)), (Mrh, .inl (g 0, 9, .inl frhx_7)), (Mm, .inr (7, [.int 0, .ref Mt, .int 0, .int zmax_2, .int (-1), .ref Mrr, .ref Mrh, .ref Mrc, .int (nI rhx_4), .int 1, .ref Mn, .ref Mf, .ref Mr, .ref Mh, .int (nI rhx_4), .int 1, .ref Ma, .ref Mas, .ref Msn, .ref Mac, .ref Mat])), (Mrc, .inl (g 0, 9, .inl frcx_149))] H := ⟨hP, hD⟩
                                      clear hP hD; have hP := hPD.1; have hD := hPD.2; clear hPD
                                      have hF_267 : mOK (upd F_250 (201 + 9 * i_215 + i_249) (nI n_266)) 0 ub (upd F_250 (201 + 9 * i_215 + i_249) (nI n_266)) := mOK_g hF_250 (show gidx (201 + 9 * i_215 + i_249) by unfold gidx; omega)
                                      have hA_267 : gA i_215 (upd F_250 (201 + 9 * i_215 + i_249) (nI n_266)) frcx_149 := gA_s hA_250 (show i_249 < 3 by omega)
                                      have hB_267 : gB i_215 (i_249 + 1) (upd F_250 (201 + 9 * i_215 + i_249) (nI n_266)) frcx_149 := gB_s hB_250 qv_266
                                      generalize upd F_250 (201 + 9 * i_215 + i_249) (nI n_266) = F_267 at hP hD hF_267 hA_267 hB_267
                                      refine lv_iinc (v := (nI (i_249 + 1))) (lv' := [(2, .int (nI (i_249 + 1))), (1, .int (nI i_215)), (0, .ref Mm)]) hx hb dX7_net_186 hl (k := 0) rfl (nI_1 (i_249)) (by decide) rfl (fun ls hl => ?_)
                                      refine lv_goto (tgt := 160) hx hb dX7_net_189 (by decide) ?_
                                      exact loop_259_ih (i_249 + 1) F_267 (hF_267) (hA_267) (hB_267) (show (i_249 + 1) ≤ 3 by omega) (show 3 - (i_249 + 1) < Nloop_259 by omega) _ _ _ hP hD hS hl
                                exact loop_259 _ 0 F_216 (hF_216) (hA_216) (gB_0) (show 0 ≤ 3 by omega) (Nat.lt_succ_self _) _ _ _ hP hD hS hl
                          exact loop_242 _ 0 F_180 (hF_180) (gA_0) (show 0 ≤ 1 by omega) (Nat.lt_succ_self _) _ _ _ hP hD hS hl
                        · skip
                          have cn_268 : i_179 < rhx_4 := Nat.lt_of_not_le (fun q9 => cb_191 ((nI_leI (show rhx_4 < 2 ^ 31 by omega) (show i_179 < 2 ^ 31 by omega)).mpr q9))
                          refine lv_aload_n hx hb dX7_net_137 rfl (lv_at hl 1 rfl) ?_
                          refine lv_iload_n hx hb dX7_net_138 rfl (lv_at hl 0 rfl) ?_
                          refine ky_Vv (As := [.int (nI i_179)]) (rest := []) ⟨hx, hb, hml, hown, hts⟩ ⟨hK, hN⟩ hZ hP hD hS hA [6, 0, 2, 1, 5] [3, 4, 7] (wc := [(Mm, .inr (7, [.int 0, .ref Mt, .int 0, .int zmax_2, .int (-1), .ref Mrr, .ref Mrh, .ref Mrc, .int (nI rhx_4), .int 1, .ref Mn, .ref Mf, .ref Mr, .ref Mh, .int (nI rhx_4), .int 1, .ref Ma, .ref Mas, .ref Msn, .ref Mac, .ref Mat])), (Mn, .inl (g 0, 1767, .inl F_180)), (Mh, .inl (g 0, 9, .inl F_181)), (Mr, .inl (g 0, 3, .inl F_165)), (Mrh, .inl (g 0, 9, .inl frhx_7))]) (wr := [(Mt, .inl (g 0, 160, .inl fmt)), (Mrr, .inl (g 0, 3, .inl frrx_6)), (Mrc, .inl (g 0, 9, .inl frcx_149))]) rfl rfl rfl rfl (by decide) (k_X7_laysHop l D g H.size Mm i_179 0 Mt 0 zmax_2 (-1) Mrr Mrh Mrc (nI rhx_4) 1 Mn Mf Mr Mh rhx_4 1 Ma Mas Msn Mac Mat F_180 F_181 F_165 frhx_7 0 ub (show 0 < 2 ^ 29 by omega) (show ub < 2 ^ 29 by omega) (hF_180) (show 1 ≤ rhx_4 by omega) (show rhx_4 ≤ 3 by omega) (show 1 ≤ 1 by omega) (show 1 ≤ 3 by omega) (show i_179 < 3 by omega) (hF_181) (hf_9.2.1) (hF_165)) (cwV 1 hts gX7_net_X7_laysHop rfl rfl rfl (by decide +kernel) ⟨(Nat.le_of_ble_eq_true rfl), (Nat.le_of_ble_eq_true rfl)⟩) 6 7 rfl rfl rfl rfl hl.1 rfl (Nat.le_of_ble_eq_true rfl) dX7_net_139 ⟨(Nat.le_of_ble_eq_true rfl), (Nat.le_of_ble_eq_true rfl)⟩ (fun u H locs hw hP2 hD2 hS2 => ?_)
                          clear hP hD hS
                          obtain ⟨fnox_270, fmhx_271, rfl, hf_272, hf_273⟩ := hw
                          have hPD : PD D A [(Mt, .inl (g 0, 160, .inl fmt)), (Mrr, .inl (g 0, 3, .inl frrx_6)), (Mrc, .inl (g 0, 9, .inl frcx_149)), (Mm, .inr (7, [.int 0, .ref Mt, .int (nI 0), .int zmax_2, .int (-1), .ref Mrr, .ref Mrh, .ref Mrc, .int (nI rhx_4), .int 1, .ref Mn, .ref Mf, .ref Mr, .ref Mh, .int (nI rhx_4), .int (nI 1), .ref Ma, .ref Mas, .ref Msn, .ref Mac, .ref Mat])), (Mn, .inl (g 0, 1767, .inl fnox_270)), (Mh, .inl (g 0, 9, .inl fmhx_271)), (Mr, .inl (g 0, 3, .inl F_165)), (Mrh, .inl (g 0, 9, .inl frhx_7))] H := ⟨hP2, hD2⟩
                          have hS := hS2; clear hP2 hD2 hS2; have hP := hPD.1; have hD := hPD.2; clear hPD
                          refine W.widen (k := 0) (n := 0) (Nat.le_of_ble_eq_true rfl) (Nat.le_of_ble_eq_true rfl) ?_
                          refine lv_iinc (v := (nI (i_179 + 1))) (lv' := [(1, .int (nI (i_179 + 1))), (0, .ref Mm)]) hx hb dX7_net_142 hl (k := 0) rfl (nI_1 (i_179)) (by decide) rfl (fun ls hl => ?_)
                          refine lv_goto (tgt := 129) hx hb dX7_net_145 (by decide) ?_
                          exact loop_190_ih (i_179 + 1) fnox_270 fmhx_271 (mOK_self hf_272) (hf_273) (show (i_179 + 1) ≤ rhx_4 by omega) (show rhx_4 - (i_179 + 1) < Nloop_190 by omega) _ _ _ (hP.sub [4, 6, 5, 0, 1, 7, 3, 2] rfl) (hD.sub [4, 6, 5, 0, 1, 7, 3, 2] (by decide) rfl) hS hl
                    exact loop_190 _ 0 F_154 fmh (hF_154) (h8) (show 0 ≤ rhx_4 by omega) (Nat.lt_succ_self _) _ _ _ hP hD hS hl
                  · skip
                    have cn_274 : i_164 < 3 := Nat.lt_of_not_le (fun q9 => cb_172 ((nI_leI (show 3 < 2 ^ 31 by omega) (show i_164 < 2 ^ 31 by omega)).mpr q9))
                    refine lv_aload_n hx hb dX7_net_109 rfl (lv_at hl 1 rfl) ?_
                    refine va_get (D := D) (ci := 7) (v := .ref Mr) (C := RX7) (T := TX7) (N := 21) hx hb hts iX7 hown hK hP 6 rfl rfl 12 (by decide) f28 (fun _ h9 => h9) rfl dX7_net_110 ?_
                    refine lv_iload_n hx hb dX7_net_113 rfl (lv_at hl 0 rfl) ?_
                    refine lv_aload_n hx hb dX7_net_114 rfl (lv_at hl 1 rfl) ?_
                    refine va_get (D := D) (ci := 7) (v := .ref Mrr) (C := RX7) (T := TX7) (N := 21) hx hb hts iX7 hown hK hP 6 rfl rfl 5 (by decide) f13 (fun _ h9 => h9) rfl dX7_net_115 ?_
                    refine lv_iload_n hx hb dX7_net_118 rfl (lv_at hl 0 rfl) ?_
                    refine va_iald hx hb hK hP 4 0 rfl rfl (vp_in_nI (show i_164 < 3 by omega) (by decide)) dX7_net_119 ?_
                    refine lv_eqi (y := (frrx_6 (i_164))) (congrArg frrx_6 (nI_clamp (show i_164 < 2 ^ 31 by omega))) ?_
                    obtain ⟨n_275, hn_275, q9⟩ := hf_9.1 (i_164)
                    have qv_275 := q9
                    refine lv_eqi (y := nI n_275) q9 ?_
                    refine va_iast hx hb hK hP hD hS 1 0 rfl rfl (vp_in_nI (show i_164 < 3 by omega) (by decide)) dX7_net_120 (fun H locs hP2 hD2 hS2 => ?_)
                    clear hP hD hS
                    have hPD : PD D A [(Mn, .inl (g 0, 1767, .inl F_154)), (Mr, .inl (g 0, 3, .inl (upd F_165 (nI i_164).toNatClampNeg (nI n_275)))), (Mh, .inl (g 0, 9, .inl fmh)), (Mt, .inl (g 0, 160, .inl fmt)), (Mrr, .inl (g 0, 3, .inl frrx_6)), (Mrh, .inl (g 0, 9, .inl frhx_7)), (Mm, .inr (7, [.int 0, .ref Mt, .int 0, .int zmax_2, .int (-1), .ref Mrr, .ref Mrh, .ref Mrc, .int (nI rhx_4), .int 1, .ref Mn, .ref Mf, .ref Mr, .ref Mh, .int (nI rhx_4), .int 1, .ref Ma, .ref Mas, .ref Msn, .ref Mac, .ref Mat])), (Mrc, .inl (g 0, 9, .inl frcx_149))] H := ⟨hP2, hD2⟩
                    have hS := hS2; clear hP2 hD2 hS2; have hP := hPD.1; have hD := hPD.2; clear hPD
                    rw [nI_clamp (show i_164 < 2 ^ 31 by omega)] at hP hD
                    have hPD : PD D A [(Mn, .inl (g 0, 1767, .inl F_154)), (Mr, .inl (g 0, 3, .inl (upd F_165 (i_164) (nI n_275)))), (Mh, .inl (g 0, 9, .inl fmh)), (Mt, .inl (g 0, 160, .inl fmt)), (Mrr, .inl (g 0, 3, .inl frrx_6)), (Mrh, .inl (g 0, 9, .inl frhx_7)), (Mm, .inr (7, [.int 0, .ref Mt, .int 0, .int zmax_2, .int (-1), .ref Mrr, .ref Mrh, .ref Mrc, .int (nI rhx_4), .int 1, .ref Mn, .ref Mf, .ref Mr, .ref Mh, .int (nI rhx_4), .int 1, .ref Ma, .ref Mas, .ref Msn, .ref Mac, .ref Mat])), (Mrc, .inl (g 0, 9, .inl frcx_149))] H := ⟨hP, hD⟩
                    clear hP hD; have hP := hPD.1; have hD := hPD.2; clear hPD
                    have hF_276 : n1 (upd F_165 (i_164) (nI n_275)) := n1_upd (hF_165) (n := n_275) (show n_275 ≤ 99 by omega)
                    have hr_276 : agr (i_164 + 1) frrx_6 (upd F_165 (i_164) (nI n_275)) := ag_s hr_165 qv_275
                    generalize upd F_165 (i_164) (nI n_275) = F_276 at hP hD hF_276 hr_276
                    refine lv_iinc (v := (nI (i_164 + 1))) (lv' := [(1, .int (nI (i_164 + 1))), (0, .ref Mm)]) hx hb dX7_net_121 hl (k := 0) rfl (nI_1 (i_164)) (by decide) rfl (fun ls hl => ?_)
                    refine lv_goto (tgt := 104) hx hb dX7_net_124 (by decide) ?_
                    exact loop_171_ih (i_164 + 1) F_276 (hF_276) (hr_276) (show (i_164 + 1) ≤ 3 by omega) (show 3 - (i_164 + 1) < Nloop_171 by omega) _ _ _ hP hD hS hl
              exact loop_171 _ 0 fmr (h7) (agr_0) (show 0 ≤ 3 by omega) (Nat.lt_succ_self _) _ _ _ hP hD hS hl
            · skip
              have cn_277 : i_153 < 1767 := Nat.lt_of_not_le (fun q9 => cb_160 ((nI_leI (show 1767 < 2 ^ 31 by omega) (show i_153 < 2 ^ 31 by omega)).mpr q9))
              refine lv_aload_n hx hb dX7_net_89 rfl (lv_at hl 1 rfl) ?_
              refine va_get (D := D) (ci := 7) (v := .ref Mn) (C := RX7) (T := TX7) (N := 21) hx hb hts iX7 hown hK hP 6 rfl rfl 10 (by decide) f22 (fun _ h9 => h9) rfl dX7_net_90 ?_
              refine lv_iload_n hx hb dX7_net_93 rfl (lv_at hl 0 rfl) ?_
              refine lv_iconst (v := 0) hx hb dX7_net_94 (by decide) ?_
              refine va_iast hx hb hK hP hD hS 0 0 rfl rfl (vp_in_nI (show i_153 < 1767 by omega) (by decide)) dX7_net_95 (fun H locs hP2 hD2 hS2 => ?_)
              clear hP hD hS
              have hPD : PD D A [(Mn, .inl (g 0, 1767, .inl (upd F_154 (nI i_153).toNatClampNeg 0))), (Mr, .inl (g 0, 3, .inl fmr)), (Mh, .inl (g 0, 9, .inl fmh)), (Mt, .inl (g 0, 160, .inl fmt)), (Mrr, .inl (g 0, 3, .inl frrx_6)), (Mrh, .inl (g 0, 9, .inl frhx_7)), (Mm, .inr (7, [.int 0, .ref Mt, .int 0, .int zmax_2, .int (-1), .ref Mrr, .ref Mrh, .ref Mrc, .int (nI rhx_4), .int 1, .ref Mn, .ref Mf, .ref Mr, .ref Mh, .int (nI rhx_4), .int 1, .ref Ma, .ref Mas, .ref Msn, .ref Mac, .ref Mat])), (Mrc, .inl (g 0, 9, .inl frcx_149))] H := ⟨hP2, hD2⟩
              have hS := hS2; clear hP2 hD2 hS2; have hP := hPD.1; have hD := hPD.2; clear hPD
              rw [nI_clamp (show i_153 < 2 ^ 31 by omega)] at hP hD
              have hPD : PD D A [(Mn, .inl (g 0, 1767, .inl (upd F_154 (i_153) 0))), (Mr, .inl (g 0, 3, .inl fmr)), (Mh, .inl (g 0, 9, .inl fmh)), (Mt, .inl (g 0, 160, .inl fmt)), (Mrr, .inl (g 0, 3, .inl frrx_6)), (Mrh, .inl (g 0, 9, .inl frhx_7)), (Mm, .inr (7, [.int 0, .ref Mt, .int 0, .int zmax_2, .int (-1), .ref Mrr, .ref Mrh, .ref Mrc, .int (nI rhx_4), .int 1, .ref Mn, .ref Mf, .ref Mr, .ref Mh, .int (nI rhx_4), .int 1, .ref Ma, .ref Mas, .ref Msn, .ref Mac, .ref Mat])), (Mrc, .inl (g 0, 9, .inl frcx_149))] H := ⟨hP, hD⟩
              clear hP hD; have hP := hPD.1; have hD := hPD.2; clear hPD
              have hF_278 : zer (i_153 + 1) (upd F_154 (i_153) 0) := zer_s hF_154
              generalize upd F_154 (i_153) 0 = F_278 at hP hD hF_278
              refine lv_iinc (v := (nI (i_153 + 1))) (lv' := [(1, .int (nI (i_153 + 1))), (0, .ref Mm)]) hx hb dX7_net_96 hl (k := 0) rfl (nI_1 (i_153)) (by decide) rfl (fun ls hl => ?_)
              refine lv_goto (tgt := 82) hx hb dX7_net_99 (by decide) ?_
              exact loop_159_ih (i_153 + 1) F_278 (hF_278) (show (i_153 + 1) ≤ 1767 by omega) (show 1767 - (i_153 + 1) < Nloop_159 by omega) _ _ _ hP hD hS hl
        exact loop_159 _ 0 fno (zer_0) (show 0 ≤ 1767 by omega) (Nat.lt_succ_self _) _ _ _ hP hD hS hl
    · skip
      have cn_279 : rhx_4 = 0 := (nI_eq (show rhx_4 < 2 ^ 31 by omega) (show 0 < 2 ^ 31 by omega)).mp cb_16
      refine lv_aload_n hx hb dX7_net_27 rfl (lv_at hl 0 rfl) ?_
      refine lv_iconst (v := 1) hx hb dX7_net_28 (by decide) ?_
      refine lv_aload_n hx hb dX7_net_29 rfl (lv_at hl 0 rfl) ?_
      refine va_get (D := D) (ci := 7) (v := .ref Mrh) (C := RX7) (T := TX7) (N := 21) hx hb hts iX7 hown hK hP 3 rfl rfl 6 (by decide) f16 (fun _ h9 => h9) rfl dX7_net_30 ?_
      refine lv_iconst (v := 0) hx hb dX7_net_33 (by decide) ?_
      refine ky_Vv (As := [.int 1, .ref Mrh, .int 0]) (rest := []) ⟨hx, hb, hml, hown, hts⟩ ⟨hK, hN⟩ hZ hP hD hS hA [3, 6] [0, 1, 2, 4, 5, 7] (wc := [(Mm, .inr (7, [.int 0, .ref Mt, .int 0, .int zmax_2, .int (-1), .ref Mrr, .ref Mrh, .ref Mrc, .int (nI rhx_4), .int (nI rcx_5), .ref Mn, .ref Mf, .ref Mr, .ref Mh, .int (nI hp), .int (nI cc), .ref Ma, .ref Mas, .ref Msn, .ref Mac, .ref Mat])), (Mrh, .inl (g 0, 9, .inl frhx_7))]) (wr := [(Mn, .inl (g 0, 1767, .inl fno)), (Mr, .inl (g 0, 3, .inl fmr)), (Mh, .inl (g 0, 9, .inl fmh)), (Mt, .inl (g 0, 160, .inl fmt)), (Mrr, .inl (g 0, 3, .inl frrx_6)), (Mrc, .inl (g 0, 9, .inl frcx_8))]) rfl rfl rfl rfl (by decide) (w_X7_laysUsual_1 l D g H.size Mm Mrh 0 0 Mt 0 zmax_2 (-1) Mrr Mrc (nI rhx_4) (nI rcx_5) Mn Mf Mr Mh (nI hp) (nI cc) Ma Mas Msn Mac Mat frhx_7 (show 0 ≤ 6 by omega) (hf_9.2.1)) (cwV 3 hts gX7_net_X7_laysUsual rfl rfl rfl (by decide +kernel) ⟨(Nat.le_of_ble_eq_true rfl), (Nat.le_of_ble_eq_true rfl)⟩) 3 7 rfl rfl rfl rfl hl.1 rfl (Nat.le_of_ble_eq_true rfl) dX7_net_34 ⟨(Nat.le_of_ble_eq_true rfl), (Nat.le_of_ble_eq_true rfl)⟩ (fun u H locs hw hP2 hD2 hS2 => ?_)
      clear hP hD hS
      obtain ⟨frhx_281, rfl, hf_282, hf_283⟩ := hw
      have hPD : PD D A [(Mn, .inl (g 0, 1767, .inl fno)), (Mr, .inl (g 0, 3, .inl fmr)), (Mh, .inl (g 0, 9, .inl fmh)), (Mt, .inl (g 0, 160, .inl fmt)), (Mrr, .inl (g 0, 3, .inl frrx_6)), (Mrc, .inl (g 0, 9, .inl frcx_8)), (Mm, .inr (7, [.int 0, .ref Mt, .int 0, .int zmax_2, .int (-1), .ref Mrr, .ref Mrh, .ref Mrc, .int (nI rhx_4), .int (nI rcx_5), .ref Mn, .ref Mf, .ref Mr, .ref Mh, .int (nI hp), .int (nI cc), .ref Ma, .ref Mas, .ref Msn, .ref Mac, .ref Mat])), (Mrh, .inl (g 0, 9, .inl frhx_281))] H := ⟨hP2, hD2⟩
      have hS := hS2; clear hP2 hD2 hS2; have hP := hPD.1; have hD := hPD.2; clear hPD
      refine W.widen (k := 0) (n := 0) (Nat.le_of_ble_eq_true rfl) (Nat.le_of_ble_eq_true rfl) ?_
      refine lv_aload_n hx hb dX7_net_37 rfl (lv_at hl 0 rfl) ?_
      refine lv_iconst (v := 1) hx hb dX7_net_38 (by decide) ?_
      refine va_put (D := D) (ci := 7) (v := .int 1) (ty := .int) (C := RX7) (T := TX7) (N := 21) hx hb hts iX7 tyX7 tyX7_ok nmX7 hown hK hP hD hS 6 rfl rfl 8 (by decide) f111 (fun _ h9 => h9) rfl (by decide +kernel) (rfl) (rfl) (Nat.le_of_ble_eq_true rfl) dX7_net_39 (fun H locs hP2 hD2 hS2 => ?_)
      clear hP hD hS
      have hPD : PD D A [(Mn, .inl (g 0, 1767, .inl fno)), (Mr, .inl (g 0, 3, .inl fmr)), (Mh, .inl (g 0, 9, .inl fmh)), (Mt, .inl (g 0, 160, .inl fmt)), (Mrr, .inl (g 0, 3, .inl frrx_6)), (Mrc, .inl (g 0, 9, .inl frcx_8)), (Mm, .inr (7, [.int 0, .ref Mt, .int 0, .int zmax_2, .int (-1), .ref Mrr, .ref Mrh, .ref Mrc, .int 1, .int (nI rcx_5), .ref Mn, .ref Mf, .ref Mr, .ref Mh, .int (nI hp), .int (nI cc), .ref Ma, .ref Mas, .ref Msn, .ref Mac, .ref Mat])), (Mrh, .inl (g 0, 9, .inl frhx_281))] H := ⟨hP2, hD2⟩
      have hS := hS2; clear hP2 hD2 hS2; have hP := hPD.1; have hD := hPD.2; clear hPD
      refine lv_aload_n hx hb dX7_net_42 rfl (lv_at hl 0 rfl) ?_
      refine va_get (D := D) (ci := 7) (v := .int (nI rcx_5)) (C := RX7) (T := TX7) (N := 21) hx hb hts iX7 hown hK hP 6 rfl rfl 9 (by decide) f114 (fun _ h9 => h9) rfl dX7_net_43 ?_
      refine lv_if_ne (tgt := 64) hx hb dX7_net_46 (by decide) (fun cb_284 => ?_) (fun cb_284 => ?_)
      · skip
        have cn_285 : ¬ rcx_5 = 0 := fun q9 => cb_284 (congrArg nI q9)
        refine lv_aload_n hx hb dX7_net_64 rfl (lv_at hl 0 rfl) ?_
        refine lv_aload_n hx hb dX7_net_65 rfl (lv_at hl 0 rfl) ?_
        refine va_get (D := D) (ci := 7) (v := .int 1) (C := RX7) (T := TX7) (N := 21) hx hb hts iX7 hown hK hP 6 rfl rfl 8 (by decide) f111 (fun _ h9 => h9) rfl dX7_net_66 ?_
        refine va_put (D := D) (ci := 7) (v := .int 1) (ty := .int) (C := RX7) (T := TX7) (N := 21) hx hb hts iX7 tyX7 tyX7_ok nmX7 hown hK hP hD hS 6 rfl rfl 14 (by decide) f124 (fun _ h9 => h9) rfl (by decide +kernel) (rfl) (rfl) (Nat.le_of_ble_eq_true rfl) dX7_net_69 (fun H locs hP2 hD2 hS2 => ?_)
        clear hP hD hS
        have hPD : PD D A [(Mn, .inl (g 0, 1767, .inl fno)), (Mr, .inl (g 0, 3, .inl fmr)), (Mh, .inl (g 0, 9, .inl fmh)), (Mt, .inl (g 0, 160, .inl fmt)), (Mrr, .inl (g 0, 3, .inl frrx_6)), (Mrc, .inl (g 0, 9, .inl frcx_8)), (Mm, .inr (7, [.int 0, .ref Mt, .int 0, .int zmax_2, .int (-1), .ref Mrr, .ref Mrh, .ref Mrc, .int 1, .int (nI rcx_5), .ref Mn, .ref Mf, .ref Mr, .ref Mh, .int 1, .int (nI cc), .ref Ma, .ref Mas, .ref Msn, .ref Mac, .ref Mat])), (Mrh, .inl (g 0, 9, .inl frhx_281))] H := ⟨hP2, hD2⟩
        have hS := hS2; clear hP2 hD2 hS2; have hP := hPD.1; have hD := hPD.2; clear hPD
        refine lv_aload_n hx hb dX7_net_72 rfl (lv_at hl 0 rfl) ?_
        refine lv_aload_n hx hb dX7_net_73 rfl (lv_at hl 0 rfl) ?_
        refine va_get (D := D) (ci := 7) (v := .int (nI rcx_5)) (C := RX7) (T := TX7) (N := 21) hx hb hts iX7 hown hK hP 6 rfl rfl 9 (by decide) f114 (fun _ h9 => h9) rfl dX7_net_74 ?_
        refine va_put (D := D) (ci := 7) (v := .int (nI rcx_5)) (ty := .int) (C := RX7) (T := TX7) (N := 21) hx hb hts iX7 tyX7 tyX7_ok nmX7 hown hK hP hD hS 6 rfl rfl 15 (by decide) f127 (fun _ h9 => h9) rfl (by decide +kernel) (rfl) (rfl) (Nat.le_of_ble_eq_true rfl) dX7_net_77 (fun H locs hP2 hD2 hS2 => ?_)
        clear hP hD hS
        have hPD : PD D A [(Mn, .inl (g 0, 1767, .inl fno)), (Mr, .inl (g 0, 3, .inl fmr)), (Mh, .inl (g 0, 9, .inl fmh)), (Mt, .inl (g 0, 160, .inl fmt)), (Mrr, .inl (g 0, 3, .inl frrx_6)), (Mrc, .inl (g 0, 9, .inl frcx_8)), (Mm, .inr (7, [.int 0, .ref Mt, .int 0, .int zmax_2, .int (-1), .ref Mrr, .ref Mrh, .ref Mrc, .int 1, .int (nI rcx_5), .ref Mn, .ref Mf, .ref Mr, .ref Mh, .int 1, .int (nI rcx_5), .ref Ma, .ref Mas, .ref Msn, .ref Mac, .ref Mat])), (Mrh, .inl (g 0, 9, .inl frhx_281))] H := ⟨hP2, hD2⟩
        have hS := hS2; clear hP2 hD2 hS2; have hP := hPD.1; have hD := hPD.2; clear hPD
        refine lv_iconst (v := 0) hx hb dX7_net_80 (by decide) ?_
        refine lv_istore_n (lv' := [(1, .int 0), (0, .ref Mm)]) hx hb dX7_net_81 rfl hl (by decide) rfl (fun ls hl => ?_)
        have loop_293 : ∀ (Nloop_293 : Nat) (i_287 : Nat) (F_288 : Nat → Int32) (hF_288 : zer i_287 F_288) (hbi_287 : i_287 ≤ 1767) (hmloop_293 : 1767 - i_287 < Nloop_293) (H : Heap) (locs : List Loc) (ls : Array Slot), va_P D vwCl [(Mn, .inl (g 0, 1767, .inl F_288)), (Mr, .inl (g 0, 3, .inl fmr)), (Mh, .inl (g 0, 9, .inl fmh)), (Mt, .inl (g 0, 160, .inl fmt)), (Mrr, .inl (g 0, 3, .inl frrx_6)), (Mrc, .inl (g 0, 9, .inl frcx_8)), (Mm, .inr (7, [.int 0, .ref Mt, .int 0, .int zmax_2, .int (-1), .ref Mrr, .ref Mrh, .ref Mrc, .int 1, .int (nI rcx_5), .ref Mn, .ref Mf, .ref Mr, .ref Mh, .int 1, .int (nI rcx_5), .ref Ma, .ref Mas, .ref Msn, .ref Mac, .ref Mat])), (Mrh, .inl (g 0, 9, .inl frhx_281))] H → va_D A [(Mn, .inl (g 0, 1767, .inl F_288)), (Mr, .inl (g 0, 3, .inl fmr)), (Mh, .inl (g 0, 9, .inl fmh)), (Mt, .inl (g 0, 160, .inl fmt)), (Mrr, .inl (g 0, 3, .inl frrx_6)), (Mrc, .inl (g 0, 9, .inl frcx_8)), (Mm, .inr (7, [.int 0, .ref Mt, .int 0, .int zmax_2, .int (-1), .ref Mrr, .ref Mrh, .ref Mrc, .int 1, .int (nI rcx_5), .ref Mn, .ref Mf, .ref Mr, .ref Mh, .int 1, .int (nI rcx_5), .ref Ma, .ref Mas, .ref Msn, .ref Mac, .ref Mat])), (Mrh, .inl (g 0, 9, .inl frhx_281))] → va_S A s.heap H locs → lv_has ls 3 [(1, .int (nI i_287)), (0, .ref Mm)] → W p l e (headSpec wsX7_net ({ frames := 6, cells := 0, slots := 0, locals := 133 })).room s m ([.ref Mm] : List Value).toArray below meth c H locs 0 0 Q (F0 m 82 ls []) := by
          clear hP hD hS hl
          intro Nloop_293
          induction Nloop_293 with
          | zero => intro i_287 F_288 hF_288 hbi_287 hm9; exact absurd hm9 (Nat.not_lt_zero _)
          | succ Nloop_293 loop_293_ih =>
            intro i_287 F_288 hF_288 hbi_287 hmloop_293 H locs ls hP hD hS hl
            refine lv_iload_n hx hb dX7_net_82 rfl (lv_at hl 0 rfl) ?_
            refine lv_sipush (v := 1767) hx hb dX7_net_83 (by decide) ?_
            refine lv_icmp_ge (tgt := 102) hx hb dX7_net_86 (by decide) (fun cb_294 => ?_) (fun cb_294 => ?_)
            · skip
              have cn_295 : 1767 ≤ i_287 := (nI_leI (show 1767 < 2 ^ 31 by omega) (show i_287 < 2 ^ 31 by omega)).mp cb_294
              have hF_288 := zer_mOK (U := ub) hF_288 (show 1767 ≤ i_287 by omega)
              refine lv_iconst (v := 0) hx hb dX7_net_102 (by decide) ?_
              refine lv_istore_n (lv' := [(1, .int 0), (0, .ref Mm)]) hx hb dX7_net_103 rfl hl (by decide) rfl (fun ls hl => ?_)
              have loop_305 : ∀ (Nloop_305 : Nat) (i_298 : Nat) (F_299 : Nat → Int32) (hF_299 : n1 F_299) (hr_299 : agr i_298 frrx_6 F_299) (hbi_298 : i_298 ≤ 3) (hmloop_305 : 3 - i_298 < Nloop_305) (H : Heap) (locs : List Loc) (ls : Array Slot), va_P D vwCl [(Mn, .inl (g 0, 1767, .inl F_288)), (Mr, .inl (g 0, 3, .inl F_299)), (Mh, .inl (g 0, 9, .inl fmh)), (Mt, .inl (g 0, 160, .inl fmt)), (Mrr, .inl (g 0, 3, .inl frrx_6)), (Mrc, .inl (g 0, 9, .inl frcx_8)), (Mm, .inr (7, [.int 0, .ref Mt, .int 0, .int zmax_2, .int (-1), .ref Mrr, .ref Mrh, .ref Mrc, .int 1, .int (nI rcx_5), .ref Mn, .ref Mf, .ref Mr, .ref Mh, .int 1, .int (nI rcx_5), .ref Ma, .ref Mas, .ref Msn, .ref Mac, .ref Mat])), (Mrh, .inl (g 0, 9, .inl frhx_281))] H → va_D A [(Mn, .inl (g 0, 1767, .inl F_288)), (Mr, .inl (g 0, 3, .inl F_299)), (Mh, .inl (g 0, 9, .inl fmh)), (Mt, .inl (g 0, 160, .inl fmt)), (Mrr, .inl (g 0, 3, .inl frrx_6)), (Mrc, .inl (g 0, 9, .inl frcx_8)), (Mm, .inr (7, [.int 0, .ref Mt, .int 0, .int zmax_2, .int (-1), .ref Mrr, .ref Mrh, .ref Mrc, .int 1, .int (nI rcx_5), .ref Mn, .ref Mf, .ref Mr, .ref Mh, .int 1, .int (nI rcx_5), .ref Ma, .ref Mas, .ref Msn, .ref Mac, .ref Mat])), (Mrh, .inl (g 0, 9, .inl frhx_281))] → va_S A s.heap H locs → lv_has ls 3 [(1, .int (nI i_298)), (0, .ref Mm)] → W p l e (headSpec wsX7_net ({ frames := 6, cells := 0, slots := 0, locals := 133 })).room s m ([.ref Mm] : List Value).toArray below meth c H locs 0 0 Q (F0 m 104 ls []) := by
                clear hP hD hS hl
                intro Nloop_305
                induction Nloop_305 with
                | zero => intro i_298 F_299 hF_299 hr_299 hbi_298 hm9; exact absurd hm9 (Nat.not_lt_zero _)
                | succ Nloop_305 loop_305_ih =>
                  intro i_298 F_299 hF_299 hr_299 hbi_298 hmloop_305 H locs ls hP hD hS hl
                  refine lv_iload_n hx hb dX7_net_104 rfl (lv_at hl 0 rfl) ?_
                  refine lv_iconst (v := 3) hx hb dX7_net_105 (by decide) ?_
                  refine lv_icmp_ge (tgt := 127) hx hb dX7_net_106 (by decide) (fun cb_306 => ?_) (fun cb_306 => ?_)
                  · skip
                    have cn_307 : 3 ≤ i_298 := (nI_leI (show 3 < 2 ^ 31 by omega) (show i_298 < 2 ^ 31 by omega)).mp cb_306
                    refine lv_iconst (v := 0) hx hb dX7_net_127 (by decide) ?_
                    refine lv_istore_n (lv' := [(1, .int 0), (0, .ref Mm)]) hx hb dX7_net_128 rfl hl (by decide) rfl (fun ls hl => ?_)
                    have loop_324 : ∀ (Nloop_324 : Nat) (i_313 : Nat) (F_314 : Nat → Int32) (F_315 : Nat → Int32) (hF_314 : mOK F_314 0 ub F_314) (hF_315 : n3 F_315) (hbi_313 : i_313 ≤ 1) (hmloop_324 : 1 - i_313 < Nloop_324) (H : Heap) (locs : List Loc) (ls : Array Slot), va_P D vwCl [(Mn, .inl (g 0, 1767, .inl F_314)), (Mr, .inl (g 0, 3, .inl F_299)), (Mh, .inl (g 0, 9, .inl F_315)), (Mt, .inl (g 0, 160, .inl fmt)), (Mrr, .inl (g 0, 3, .inl frrx_6)), (Mrc, .inl (g 0, 9, .inl frcx_8)), (Mm, .inr (7, [.int 0, .ref Mt, .int 0, .int zmax_2, .int (-1), .ref Mrr, .ref Mrh, .ref Mrc, .int 1, .int (nI rcx_5), .ref Mn, .ref Mf, .ref Mr, .ref Mh, .int 1, .int (nI rcx_5), .ref Ma, .ref Mas, .ref Msn, .ref Mac, .ref Mat])), (Mrh, .inl (g 0, 9, .inl frhx_281))] H → va_D A [(Mn, .inl (g 0, 1767, .inl F_314)), (Mr, .inl (g 0, 3, .inl F_299)), (Mh, .inl (g 0, 9, .inl F_315)), (Mt, .inl (g 0, 160, .inl fmt)), (Mrr, .inl (g 0, 3, .inl frrx_6)), (Mrc, .inl (g 0, 9, .inl frcx_8)), (Mm, .inr (7, [.int 0, .ref Mt, .int 0, .int zmax_2, .int (-1), .ref Mrr, .ref Mrh, .ref Mrc, .int 1, .int (nI rcx_5), .ref Mn, .ref Mf, .ref Mr, .ref Mh, .int 1, .int (nI rcx_5), .ref Ma, .ref Mas, .ref Msn, .ref Mac, .ref Mat])), (Mrh, .inl (g 0, 9, .inl frhx_281))] → va_S A s.heap H locs → lv_has ls 3 [(1, .int (nI i_313)), (0, .ref Mm)] → W p l e (headSpec wsX7_net ({ frames := 6, cells := 0, slots := 0, locals := 133 })).room s m ([.ref Mm] : List Value).toArray below meth c H locs 0 0 Q (F0 m 129 ls []) := by
                      clear hP hD hS hl
                      intro Nloop_324
                      induction Nloop_324 with
                      | zero => intro i_313 F_314 F_315 hF_314 hF_315 hbi_313 hm9; exact absurd hm9 (Nat.not_lt_zero _)
                      | succ Nloop_324 loop_324_ih =>
                        intro i_313 F_314 F_315 hF_314 hF_315 hbi_313 hmloop_324 H locs ls hP hD hS hl
                        refine lv_iload_n hx hb dX7_net_129 rfl (lv_at hl 0 rfl) ?_
                        refine lv_aload_n hx hb dX7_net_130 rfl (lv_at hl 1 rfl) ?_
                        refine va_get (D := D) (ci := 7) (v := .int 1) (C := RX7) (T := TX7) (N := 21) hx hb hts iX7 hown hK hP 6 rfl rfl 14 (by decide) f124 (fun _ h9 => h9) rfl dX7_net_131 ?_
                        refine lv_icmp_ge (tgt := 148) hx hb dX7_net_134 (by decide) (fun cb_325 => ?_) (fun cb_325 => ?_)
                        · skip
                          have cn_326 : 1 ≤ i_313 := (nI_leI (show 1 < 2 ^ 31 by omega) (show i_313 < 2 ^ 31 by omega)).mp cb_325
                          refine lv_iconst (v := 0) hx hb dX7_net_148 (by decide) ?_
                          refine lv_istore_n (lv' := [(1, .int 0), (0, .ref Mm)]) hx hb dX7_net_149 rfl hl (by decide) rfl (fun ls hl => ?_)
                          have loop_376 : ∀ (Nloop_376 : Nat) (i_349 : Nat) (F_350 : Nat → Int32) (hF_350 : mOK F_350 0 ub F_350) (hA_350 : gA i_349 F_350 frcx_8) (hbi_349 : i_349 ≤ rcx_5) (hmloop_376 : rcx_5 - i_349 < Nloop_376) (H : Heap) (locs : List Loc) (ls : Array Slot), va_P D vwCl [(Mn, .inl (g 0, 1767, .inl F_350)), (Mr, .inl (g 0, 3, .inl F_299)), (Mh, .inl (g 0, 9, .inl F_315)), (Mt, .inl (g 0, 160, .inl fmt)), (Mrr, .inl (g 0, 3, .inl frrx_6)), (Mrc, .inl (g 0, 9, .inl frcx_8)), (Mm, .inr (7, [.int 0, .ref Mt, .int 0, .int zmax_2, .int (-1), .ref Mrr, .ref Mrh, .ref Mrc, .int 1, .int (nI rcx_5), .ref Mn, .ref Mf, .ref Mr, .ref Mh, .int 1, .int (nI rcx_5), .ref Ma, .ref Mas, .ref Msn, .ref Mac, .ref Mat])), (Mrh, .inl (g 0, 9, .inl frhx_281))] H → va_D A [(Mn, .inl (g 0, 1767, .inl F_350)), (Mr, .inl (g 0, 3, .inl F_299)), (Mh, .inl (g 0, 9, .inl F_315)), (Mt, .inl (g 0, 160, .inl fmt)), (Mrr, .inl (g 0, 3, .inl frrx_6)), (Mrc, .inl (g 0, 9, .inl frcx_8)), (Mm, .inr (7, [.int 0, .ref Mt, .int 0, .int zmax_2, .int (-1), .ref Mrr, .ref Mrh, .ref Mrc, .int 1, .int (nI rcx_5), .ref Mn, .ref Mf, .ref Mr, .ref Mh, .int 1, .int (nI rcx_5), .ref Ma, .ref Mas, .ref Msn, .ref Mac, .ref Mat])), (Mrh, .inl (g 0, 9, .inl frhx_281))] → va_S A s.heap H locs → lv_has ls 3 [(1, .int (nI i_349)), (0, .ref Mm)] → W p l e (headSpec wsX7_net ({ frames := 6, cells := 0, slots := 0, locals := 133 })).room s m ([.ref Mm] : List Value).toArray below meth c H locs 0 0 Q (F0 m 150 ls []) := by
                            clear hP hD hS hl
                            intro Nloop_376
                            induction Nloop_376 with
                            | zero => intro i_349 F_350 hF_350 hA_350 hbi_349 hm9; exact absurd hm9 (Nat.not_lt_zero _)
                            | succ Nloop_376 loop_376_ih =>
                              intro i_349 F_350 hF_350 hA_350 hbi_349 hmloop_376 H locs ls hP hD hS hl
                              refine lv_iload_n hx hb dX7_net_150 rfl (lv_at hl 0 rfl) ?_
                              refine lv_aload_n hx hb dX7_net_151 rfl (lv_at hl 1 rfl) ?_
                              refine va_get (D := D) (ci := 7) (v := .int (nI rcx_5)) (C := RX7) (T := TX7) (N := 21) hx hb hts iX7 hown hK hP 6 rfl rfl 15 (by decide) f127 (fun _ h9 => h9) rfl dX7_net_152 ?_
                              refine lv_icmp_ge (tgt := 211) hx hb dX7_net_155 (by decide) (fun cb_377 => ?_) (fun cb_377 => ?_)
                              · skip
                                have cn_378 : rcx_5 ≤ i_349 := (nI_leI (show rcx_5 < 2 ^ 31 by omega) (show i_349 < 2 ^ 31 by omega)).mp cb_377
                                refine lv_aload_n hx hb dX7_net_211 rfl (lv_at hl 1 rfl) ?_
                                refine va_get (D := D) (ci := 7) (v := .int (nI rcx_5)) (C := RX7) (T := TX7) (N := 21) hx hb hts iX7 hown hK hP 6 rfl rfl 15 (by decide) f127 (fun _ h9 => h9) rfl dX7_net_212 ?_
                                have hPD9 : PD D A [(Mm, .inr (7, [.int 0, .ref Mt, .int 0, .int zmax_2, .int (-1), .ref Mrr, .ref Mrh, .ref Mrc, .int 1, .int (nI rcx_5), .ref Mn, .ref Mf, .ref Mr, .ref Mh, .int 1, .int (nI rcx_5), .ref Ma, .ref Mas, .ref Msn, .ref Mac, .ref Mat])), (Mt, .inl (g 0, 160, .inl fmt)), (Mrr, .inl (g 0, 3, .inl frrx_6)), (Mrh, .inl (g 0, 9, .inl frhx_281)), (Mrc, .inl (g 0, 9, .inl frcx_8)), (Mn, .inl (g 0, 1767, .inl F_350)), (Mr, .inl (g 0, 3, .inl F_299)), (Mh, .inl (g 0, 9, .inl F_315))] H := ⟨hP.sub [6, 3, 4, 7, 5, 0, 1, 2] rfl, hD.sub [6, 3, 4, 7, 5, 0, 1, 2] (by decide) rfl⟩
                                have hP9 := hPD9.1; have hD9 := hPD9.2
                                subst hQ
                                refine W.widen (k := 0) (n := 0) (Nat.le_of_ble_eq_true rfl) (Nat.le_of_ble_eq_true rfl) ?_
                                exact W.iret (v := (nI rcx_5)) hx hb hr (fun tS htS _ => ⟨⟨_, _, rfl, ⟨(lf2 [frrx_6, frhx_281, frcx_8, F_350, F_299, F_315]), 0, 0, zmax_2, (-1), 1, (nI rcx_5), 1, rcx_5, (nI rcx_5), 0, rfl, rfl, ⟨(hf_9.1), (hf_282), (hf_9.2.2.1), (hF_350), (hF_299), (hF_315), (show 1 ≤ 3 by omega), (show rcx_5 ≤ 3 by omega), (show (1 = 0 ∧ rcx_5 = 0) ∨ (1 ≤ 1 ∧ 1 ≤ rcx_5) by omega), (show 0 ≤ 160 by omega), nt_yes (cc := rcx_5) hf_9.2.2.2.2.2.1 rfl (by omega), ⟨fun q9 => absurd q9 (m1_ne (by omega)), fun _ => ⟨rfl, nk_c (hf_9.2.2.2.2.2.2 rfl) hf_9.2.2.2.2.2.1 (by omega) (by omega) (by omega) (ag_f hr_299 (by omega)) (gA_f hA_350 (by omega))⟩⟩⟩⟩, by rw [htS]; exact hP9, hD9⟩, hS.F htS⟩) hS.2.2 dX7_net_215
                              · skip
                                have cn_379 : i_349 < rcx_5 := Nat.lt_of_not_le (fun q9 => cb_377 ((nI_leI (show rcx_5 < 2 ^ 31 by omega) (show i_349 < 2 ^ 31 by omega)).mpr q9))
                                refine lv_iconst (v := 0) hx hb dX7_net_158 (by decide) ?_
                                refine lv_istore_n (lv' := [(2, .int 0), (1, .int (nI i_349)), (0, .ref Mm)]) hx hb dX7_net_159 rfl hl (by decide) rfl (fun ls hl => ?_)
                                have loop_393 : ∀ (Nloop_393 : Nat) (i_383 : Nat) (F_384 : Nat → Int32) (hF_384 : mOK F_384 0 ub F_384) (hA_384 : gA i_349 F_384 frcx_8) (hB_384 : gB i_349 i_383 F_384 frcx_8) (hbi_383 : i_383 ≤ 3) (hmloop_393 : 3 - i_383 < Nloop_393) (H : Heap) (locs : List Loc) (ls : Array Slot), va_P D vwCl [(Mn, .inl (g 0, 1767, .inl F_384)), (Mr, .inl (g 0, 3, .inl F_299)), (Mh, .inl (g 0, 9, .inl F_315)), (Mt, .inl (g 0, 160, .inl fmt)), (Mrr, .inl (g 0, 3, .inl frrx_6)), (Mrc, .inl (g 0, 9, .inl frcx_8)), (Mm, .inr (7, [.int 0, .ref Mt, .int 0, .int zmax_2, .int (-1), .ref Mrr, .ref Mrh, .ref Mrc, .int 1, .int (nI rcx_5), .ref Mn, .ref Mf, .ref Mr, .ref Mh, .int 1, .int (nI rcx_5), .ref Ma, .ref Mas, .ref Msn, .ref Mac, .ref Mat])), (Mrh, .inl (g 0, 9, .inl frhx_281))] H → va_D A [(Mn, .inl (g 0, 1767, .inl F_384)), (Mr, .inl (g 0, 3, .inl F_299)), (Mh, .inl (g 0, 9, .inl F_315)), (Mt, .inl (g 0, 160, .inl fmt)), (Mrr, .inl (g 0, 3, .inl frrx_6)), (Mrc, .inl (g 0, 9, .inl frcx_8)), (Mm, .inr (7, [.int 0, .ref Mt, .int 0, .int zmax_2, .int (-1), .ref Mrr, .ref Mrh, .ref Mrc, .int 1, .int (nI rcx_5), .ref Mn, .ref Mf, .ref Mr, .ref Mh, .int 1, .int (nI rcx_5), .ref Ma, .ref Mas, .ref Msn, .ref Mac, .ref Mat])), (Mrh, .inl (g 0, 9, .inl frhx_281))] → va_S A s.heap H locs → lv_has ls 3 [(2, .int (nI i_383)), (1, .int (nI i_349)), (0, .ref Mm)] → W p l e (headSpec wsX7_net ({ frames := 6, cells := 0, slots := 0, locals := 133 })).room s m ([.ref Mm] : List Value).toArray below meth c H locs 0 0 Q (F0 m 160 ls []) := by
                                  clear hP hD hS hl
                                  intro Nloop_393
                                  induction Nloop_393 with
                                  | zero => intro i_383 F_384 hF_384 hA_384 hB_384 hbi_383 hm9; exact absurd hm9 (Nat.not_lt_zero _)
                                  | succ Nloop_393 loop_393_ih =>
                                    intro i_383 F_384 hF_384 hA_384 hB_384 hbi_383 hmloop_393 H locs ls hP hD hS hl
                                    refine lv_iload_n hx hb dX7_net_160 rfl (lv_at hl 0 rfl) ?_
                                    refine lv_iconst (v := 3) hx hb dX7_net_161 (by decide) ?_
                                    refine lv_icmp_ge (tgt := 192) hx hb dX7_net_162 (by decide) (fun cb_394 => ?_) (fun cb_394 => ?_)
                                    · skip
                                      have cn_395 : 3 ≤ i_383 := (nI_leI (show 3 < 2 ^ 31 by omega) (show i_383 < 2 ^ 31 by omega)).mp cb_394
                                      refine lv_aload_n hx hb dX7_net_192 rfl (lv_at hl 2 rfl) ?_
                                      refine va_get (D := D) (ci := 7) (v := .ref Mn) (C := RX7) (T := TX7) (N := 21) hx hb hts iX7 hown hK hP 6 rfl rfl 10 (by decide) f22 (fun _ h9 => h9) rfl dX7_net_193 ?_
                                      refine lv_iload_n hx hb dX7_net_196 rfl (lv_at hl 1 rfl) ?_
                                      refine ky_Si (As := [.int (nI i_349)]) (rest := [.ref Mn]) ⟨hx, hb, hml, hown, hts⟩ ⟨hK, hN⟩ hZ hP hD hS hA [] [0, 1, 2, 3, 4, 5, 6, 7] (wc := []) (wr := [(Mn, .inl (g 0, 1767, .inl F_384)), (Mr, .inl (g 0, 3, .inl F_299)), (Mh, .inl (g 0, 9, .inl F_315)), (Mt, .inl (g 0, 160, .inl fmt)), (Mrr, .inl (g 0, 3, .inl frrx_6)), (Mrc, .inl (g 0, 9, .inl frcx_8)), (Mm, .inr (7, [.int 0, .ref Mt, .int 0, .int zmax_2, .int (-1), .ref Mrr, .ref Mrh, .ref Mrc, .int 1, .int (nI rcx_5), .ref Mn, .ref Mf, .ref Mr, .ref Mh, .int 1, .int (nI rcx_5), .ref Ma, .ref Mas, .ref Msn, .ref Mac, .ref Mat])), (Mrh, .inl (g 0, 9, .inl frhx_281))]) rfl rfl rfl rfl (by decide) (k_X7_circuitAt l D g H.size i_349 (show i_349 < 3 by omega)) (va_cwS 1 hts gX7_net_X7_circuitAt rfl rfl rfl (by decide +kernel) ⟨(Nat.le_of_ble_eq_true rfl), (Nat.le_of_ble_eq_true rfl)⟩) rfl hl.1 rfl (Nat.le_of_ble_eq_true rfl) dX7_net_197 ⟨(Nat.le_of_ble_eq_true rfl), (Nat.le_of_ble_eq_true rfl)⟩ (fun r_396 u H locs hw hP2 hD2 hS2 => ?_)
                                      clear hP hD hS
                                      obtain ⟨rfl, rfl⟩ := hw
                                      have hPD : PD D A [(Mn, .inl (g 0, 1767, .inl F_384)), (Mr, .inl (g 0, 3, .inl F_299)), (Mh, .inl (g 0, 9, .inl F_315)), (Mt, .inl (g 0, 160, .inl fmt)), (Mrr, .inl (g 0, 3, .inl frrx_6)), (Mrc, .inl (g 0, 9, .inl frcx_8)), (Mm, .inr (7, [.int 0, .ref Mt, .int 0, .int zmax_2, .int (-1), .ref Mrr, .ref Mrh, .ref Mrc, .int 1, .int (nI rcx_5), .ref Mn, .ref Mf, .ref Mr, .ref Mh, .int 1, .int (nI rcx_5), .ref Ma, .ref Mas, .ref Msn, .ref Mac, .ref Mat])), (Mrh, .inl (g 0, 9, .inl frhx_281))] H := ⟨hP2, hD2⟩
                                      have hS := hS2; clear hP2 hD2 hS2; have hP := hPD.1; have hD := hPD.2; clear hPD
                                      refine W.widen (k := 0) (n := 0) (Nat.le_of_ble_eq_true rfl) (Nat.le_of_ble_eq_true rfl) ?_
                                      refine lv_bipush (v := 6) hx hb dX7_net_200 (by decide) ?_
                                      refine lv_iadd hx hb dX7_net_202 ?_
                                      refine lv_eqi (y := (nI (201 + 9 * i_349 + 6))) (nI_add (201 + 9 * i_349) (6)) ?_
                                      refine lv_iconst (v := (-1)) hx hb dX7_net_203 (by decide) ?_
                                      refine va_iast hx hb hK hP hD hS 0 0 rfl rfl (vp_in_nI (show 201 + 9 * i_349 + 6 < 1767 by omega) (by decide)) dX7_net_204 (fun H locs hP2 hD2 hS2 => ?_)
                                      clear hP hD hS
                                      have hPD : PD D A [(Mn, .inl (g 0, 1767, .inl (upd F_384 (nI (201 + 9 * i_349 + 6)).toNatClampNeg (-1)))), (Mr, .inl (g 0, 3, .inl F_299)), (Mh, .inl (g 0, 9, .inl F_315)), (Mt, .inl (g 0, 160, .inl fmt)), (Mrr, .inl (g 0, 3, .inl frrx_6)), (Mrc, .inl (g 0, 9, .inl frcx_8)), (Mm, .inr (7, [.int 0, .ref Mt, .int 0, .int zmax_2, .int (-1), .ref Mrr, .ref Mrh, .ref Mrc, .int 1, .int (nI rcx_5), .ref Mn, .ref Mf, .ref Mr, .ref Mh, .int 1, .int (nI rcx_5), .ref Ma, .ref Mas, .ref Msn, .ref Mac, .ref Mat])), (Mrh, .inl (g 0, 9, .inl frhx_281))] H := ⟨hP2, hD2⟩
                                      have hS := hS2; clear hP2 hD2 hS2; have hP := hPD.1; have hD := hPD.2; clear hPD
                                      rw [nI_clamp (show 201 + 9 * i_349 + 6 < 2 ^ 31 by omega)] at hP hD
                                      have hPD : PD D A [(Mn, .inl (g 0, 1767, .inl (upd F_384 (201 + 9 * i_349 + 6) (-1)))), (Mr, .inl (g 0, 3, .inl F_299)), (Mh, .inl (g 0, 9, .inl F_315)), (Mt, .inl (g 0, 160, .inl fmt)), (Mrr, .inl (g 0, 3, .inl frrx_6)), (Mrc, .inl (g 0, 9, .inl frcx_8)), (Mm, .inr (7, [.int 0, .ref Mt, .int 0, .int zmax_2, .int (-1), .ref Mrr, .ref Mrh, .ref Mrc, .int 1, .int (nI rcx_5), .ref Mn, .ref Mf, .ref Mr, .ref Mh, .int 1, .int (nI rcx_5), .ref Ma, .ref Mas, .ref Msn, .ref Mac, .ref Mat])), (Mrh, .inl (g 0, 9, .inl frhx_281))] H := ⟨hP, hD⟩
                                      clear hP hD; have hP := hPD.1; have hD := hPD.2; clear hPD
                                      have hF_397 : mOK (upd F_384 (201 + 9 * i_349 + 6) (-1)) 0 ub (upd F_384 (201 + 9 * i_349 + 6) (-1)) := mOK_self (mOK_free hF_384 (show mfree (201 + 9 * i_349 + 6) by unfold mfree; omega))
                                      have hA_397 : gA (i_349 + 1) (upd F_384 (201 + 9 * i_349 + 6) (-1)) frcx_8 := gA_n hA_384 hB_384 (show 3 ≤ i_383 by omega)
                                      generalize upd F_384 (201 + 9 * i_349 + 6) (-1) = F_397 at hP hD hF_397 hA_397
                                      refine lv_iinc (v := (nI (i_349 + 1))) (lv' := [(1, .int (nI (i_349 + 1))), (2, .int (nI i_383)), (0, .ref Mm)]) hx hb dX7_net_205 hl (k := 1) rfl (nI_1 (i_349)) (by decide) rfl (fun ls hl => ?_)
                                      refine lv_goto (tgt := 150) hx hb dX7_net_208 (by decide) ?_
                                      exact loop_376_ih (i_349 + 1) F_397 (hF_397) (hA_397) (show (i_349 + 1) ≤ rcx_5 by omega) (show rcx_5 - (i_349 + 1) < Nloop_376 by omega) _ _ _ hP hD hS (lv_sub hl [0, 2] rfl)
                                    · skip
                                      have cn_398 : i_383 < 3 := Nat.lt_of_not_le (fun q9 => cb_394 ((nI_leI (show 3 < 2 ^ 31 by omega) (show i_383 < 2 ^ 31 by omega)).mpr q9))
                                      refine lv_aload_n hx hb dX7_net_165 rfl (lv_at hl 2 rfl) ?_
                                      refine va_get (D := D) (ci := 7) (v := .ref Mn) (C := RX7) (T := TX7) (N := 21) hx hb hts iX7 hown hK hP 6 rfl rfl 10 (by decide) f22 (fun _ h9 => h9) rfl dX7_net_166 ?_
                                      refine lv_iload_n hx hb dX7_net_169 rfl (lv_at hl 1 rfl) ?_
                                      refine ky_Si (As := [.int (nI i_349)]) (rest := [.ref Mn]) ⟨hx, hb, hml, hown, hts⟩ ⟨hK, hN⟩ hZ hP hD hS hA [] [0, 1, 2, 3, 4, 5, 6, 7] (wc := []) (wr := [(Mn, .inl (g 0, 1767, .inl F_384)), (Mr, .inl (g 0, 3, .inl F_299)), (Mh, .inl (g 0, 9, .inl F_315)), (Mt, .inl (g 0, 160, .inl fmt)), (Mrr, .inl (g 0, 3, .inl frrx_6)), (Mrc, .inl (g 0, 9, .inl frcx_8)), (Mm, .inr (7, [.int 0, .ref Mt, .int 0, .int zmax_2, .int (-1), .ref Mrr, .ref Mrh, .ref Mrc, .int 1, .int (nI rcx_5), .ref Mn, .ref Mf, .ref Mr, .ref Mh, .int 1, .int (nI rcx_5), .ref Ma, .ref Mas, .ref Msn, .ref Mac, .ref Mat])), (Mrh, .inl (g 0, 9, .inl frhx_281))]) rfl rfl rfl rfl (by decide) (k_X7_circuitAt l D g H.size i_349 (show i_349 < 3 by omega)) (va_cwS 1 hts gX7_net_X7_circuitAt rfl rfl rfl (by decide +kernel) ⟨(Nat.le_of_ble_eq_true rfl), (Nat.le_of_ble_eq_true rfl)⟩) rfl hl.1 rfl (Nat.le_of_ble_eq_true rfl) dX7_net_170 ⟨(Nat.le_of_ble_eq_true rfl), (Nat.le_of_ble_eq_true rfl)⟩ (fun r_399 u H locs hw hP2 hD2 hS2 => ?_)
                                      clear hP hD hS
                                      obtain ⟨rfl, rfl⟩ := hw
                                      have hPD : PD D A [(Mn, .inl (g 0, 1767, .inl F_384)), (Mr, .inl (g 0, 3, .inl F_299)), (Mh, .inl (g 0, 9, .inl F_315)), (Mt, .inl (g 0, 160, .inl fmt)), (Mrr, .inl (g 0, 3, .inl frrx_6)), (Mrc, .inl (g 0, 9, .inl frcx_8)), (Mm, .inr (7, [.int 0, .ref Mt, .int 0, .int zmax_2, .int (-1), .ref Mrr, .ref Mrh, .ref Mrc, .int 1, .int (nI rcx_5), .ref Mn, .ref Mf, .ref Mr, .ref Mh, .int 1, .int (nI rcx_5), .ref Ma, .ref Mas, .ref Msn, .ref Mac, .ref Mat])), (Mrh, .inl (g 0, 9, .inl frhx_281))] H := ⟨hP2, hD2⟩
                                      have hS := hS2; clear hP2 hD2 hS2; have hP := hPD.1; have hD := hPD.2; clear hPD
                                      refine W.widen (k := 0) (n := 0) (Nat.le_of_ble_eq_true rfl) (Nat.le_of_ble_eq_true rfl) ?_
                                      refine lv_iload_n hx hb dX7_net_173 rfl (lv_at hl 0 rfl) ?_
                                      refine lv_iadd hx hb dX7_net_174 ?_
                                      refine lv_eqi (y := (nI (201 + 9 * i_349 + i_383))) (nI_add (201 + 9 * i_349) (i_383)) ?_
                                      refine lv_aload_n hx hb dX7_net_175 rfl (lv_at hl 2 rfl) ?_
                                      refine va_get (D := D) (ci := 7) (v := .ref Mrc) (C := RX7) (T := TX7) (N := 21) hx hb hts iX7 hown hK hP 6 rfl rfl 7 (by decide) f19 (fun _ h9 => h9) rfl dX7_net_176 ?_
                                      refine lv_iconst (v := 3) hx hb dX7_net_179 (by decide) ?_
                                      refine lv_iload_n hx hb dX7_net_180 rfl (lv_at hl 1 rfl) ?_
                                      refine lv_imul hx hb dX7_net_181 ?_
                                      refine lv_eqi (y := (nI (3 * i_349))) (pk_mul (3) (i_349)) ?_
                                      refine lv_iload_n hx hb dX7_net_182 rfl (lv_at hl 0 rfl) ?_
                                      refine lv_iadd hx hb dX7_net_183 ?_
                                      refine lv_eqi (y := (nI (3 * i_349 + i_383))) (nI_add (3 * i_349) (i_383)) ?_
                                      refine va_iald hx hb hK hP 5 0 rfl rfl (vp_in_nI (show 3 * i_349 + i_383 < 9 by omega) (by decide)) dX7_net_184 ?_
                                      refine lv_eqi (y := (frcx_8 (3 * i_349 + i_383))) (congrArg frcx_8 (nI_clamp (show 3 * i_349 + i_383 < 2 ^ 31 by omega))) ?_
                                      obtain ⟨n_400, hn_400, q9⟩ := hf_9.2.2.1 (3 * i_349 + i_383)
                                      have qv_400 := q9
                                      refine lv_eqi (y := nI n_400) q9 ?_
                                      refine va_iast hx hb hK hP hD hS 0 0 rfl rfl (vp_in_nI (show 201 + 9 * i_349 + i_383 < 1767 by omega) (by decide)) dX7_net_185 (fun H locs hP2 hD2 hS2 => ?_)
                                      clear hP hD hS
                                      have hPD : PD D A [(Mn, .inl (g 0, 1767, .inl (upd F_384 (nI (201 + 9 * i_349 + i_383)).toNatClampNeg (nI n_400)))), (Mr, .inl (g 0, 3, .inl F_299)), (Mh, .inl (g 0, 9, .inl F_315)), (Mt, .inl (g 0, 160, .inl fmt)), (Mrr, .inl (g 0, 3, .inl frrx_6)), (Mrc, .inl (g 0, 9, .inl frcx_8)), (Mm, .inr (7, [.int 0, .ref Mt, .int 0, .int zmax_2, .int (-1), .ref Mrr, .ref Mrh, .ref Mrc, .int 1, .int (nI rcx_5), .ref Mn, .ref Mf, .ref Mr, .ref Mh, .int 1, .int (nI rcx_5), .ref Ma, .ref Mas, .ref Msn, .ref Mac, .ref Mat])), (Mrh, .inl (g 0, 9, .inl frhx_281))] H := ⟨hP2, hD2⟩
                                      have hS := hS2; clear hP2 hD2 hS2; have hP := hPD.1; have hD := hPD.2; clear hPD
                                      rw [nI_clamp (show 201 + 9 * i_349 + i_383 < 2 ^ 31 by omega)] at hP hD
                                      have hPD : PD D A [(Mn, .inl (g 0, 1767, .inl (upd F_384 (201 + 9 * i_349 + i_383) (nI n_400)))), (Mr, .inl (g 0, 3, .inl F_299)), (Mh, .inl (g 0, 9, .inl F_315)), (Mt, .inl (g 0, 160, .inl fmt)), (Mrr, .inl (g 0, 3, .inl frrx_6)), (Mrc, .inl (g 0, 9, .inl frcx_8)), (Mm, .inr (7, [.int 0, .ref Mt, .int 0, .int zmax_2, .int (-1), .ref Mrr, .ref Mrh, .ref Mrc, .int 1, .int (nI rcx_5), .ref Mn, .ref Mf, .ref Mr, .ref Mh, .int 1, .int (nI rcx_5), .ref Ma, .ref Mas, .ref Msn, .ref Mac, .ref Mat])), (Mrh, .inl (g 0, 9, .inl frhx_281))] H := ⟨hP, hD⟩
                                      clear hP hD; have hP := hPD.1; have hD := hPD.2; clear hPD
                                      have hF_401 : mOK (upd F_384 (201 + 9 * i_349 + i_383) (nI n_400)) 0 ub (upd F_384 (201 + 9 * i_349 + i_383) (nI n_400)) := mOK_g hF_384 (show gidx (201 + 9 * i_349 + i_383) by unfold gidx; omega)
                                      have hA_401 : gA i_349 (upd F_384 (201 + 9 * i_349 + i_383) (nI n_400)) frcx_8 := gA_s hA_384 (show i_383 < 3 by omega)
                                      have hB_401 : gB i_349 (i_383 + 1) (upd F_384 (201 + 9 * i_349 + i_383) (nI n_400)) frcx_8 := gB_s hB_384 qv_400
                                      generalize upd F_384 (201 + 9 * i_349 + i_383) (nI n_400) = F_401 at hP hD hF_401 hA_401 hB_401
                                      refine lv_iinc (v := (nI (i_383 + 1))) (lv' := [(2, .int (nI (i_383 + 1))), (1, .int (nI i_349)), (0, .ref Mm)]) hx hb dX7_net_186 hl (k := 0) rfl (nI_1 (i_383)) (by decide) rfl (fun ls hl => ?_)
                                      refine lv_goto (tgt := 160) hx hb dX7_net_189 (by decide) ?_
                                      exact loop_393_ih (i_383 + 1) F_401 (hF_401) (hA_401) (hB_401) (show (i_383 + 1) ≤ 3 by omega) (show 3 - (i_383 + 1) < Nloop_393 by omega) _ _ _ hP hD hS hl
                                exact loop_393 _ 0 F_350 (hF_350) (hA_350) (gB_0) (show 0 ≤ 3 by omega) (Nat.lt_succ_self _) _ _ _ hP hD hS hl
                          exact loop_376 _ 0 F_314 (hF_314) (gA_0) (show 0 ≤ rcx_5 by omega) (Nat.lt_succ_self _) _ _ _ hP hD hS hl
                        · skip
                          have cn_402 : i_313 < 1 := Nat.lt_of_not_le (fun q9 => cb_325 ((nI_leI (show 1 < 2 ^ 31 by omega) (show i_313 < 2 ^ 31 by omega)).mpr q9))
                          refine lv_aload_n hx hb dX7_net_137 rfl (lv_at hl 1 rfl) ?_
                          refine lv_iload_n hx hb dX7_net_138 rfl (lv_at hl 0 rfl) ?_
                          refine ky_Vv (As := [.int (nI i_313)]) (rest := []) ⟨hx, hb, hml, hown, hts⟩ ⟨hK, hN⟩ hZ hP hD hS hA [6, 0, 2, 1, 7] [3, 4, 5] (wc := [(Mm, .inr (7, [.int 0, .ref Mt, .int 0, .int zmax_2, .int (-1), .ref Mrr, .ref Mrh, .ref Mrc, .int 1, .int (nI rcx_5), .ref Mn, .ref Mf, .ref Mr, .ref Mh, .int 1, .int (nI rcx_5), .ref Ma, .ref Mas, .ref Msn, .ref Mac, .ref Mat])), (Mn, .inl (g 0, 1767, .inl F_314)), (Mh, .inl (g 0, 9, .inl F_315)), (Mr, .inl (g 0, 3, .inl F_299)), (Mrh, .inl (g 0, 9, .inl frhx_281))]) (wr := [(Mt, .inl (g 0, 160, .inl fmt)), (Mrr, .inl (g 0, 3, .inl frrx_6)), (Mrc, .inl (g 0, 9, .inl frcx_8))]) rfl rfl rfl rfl (by decide) (k_X7_laysHop l D g H.size Mm i_313 0 Mt 0 zmax_2 (-1) Mrr Mrh Mrc 1 (nI rcx_5) Mn Mf Mr Mh 1 rcx_5 Ma Mas Msn Mac Mat F_314 F_315 F_299 frhx_281 0 ub (show 0 < 2 ^ 29 by omega) (show ub < 2 ^ 29 by omega) (hF_314) (show 1 ≤ 1 by omega) (show 1 ≤ 3 by omega) (show 1 ≤ rcx_5 by omega) (show rcx_5 ≤ 3 by omega) (show i_313 < 3 by omega) (hF_315) (hf_282) (hF_299)) (cwV 1 hts gX7_net_X7_laysHop rfl rfl rfl (by decide +kernel) ⟨(Nat.le_of_ble_eq_true rfl), (Nat.le_of_ble_eq_true rfl)⟩) 6 7 rfl rfl rfl rfl hl.1 rfl (Nat.le_of_ble_eq_true rfl) dX7_net_139 ⟨(Nat.le_of_ble_eq_true rfl), (Nat.le_of_ble_eq_true rfl)⟩ (fun u H locs hw hP2 hD2 hS2 => ?_)
                          clear hP hD hS
                          obtain ⟨fnox_404, fmhx_405, rfl, hf_406, hf_407⟩ := hw
                          have hPD : PD D A [(Mt, .inl (g 0, 160, .inl fmt)), (Mrr, .inl (g 0, 3, .inl frrx_6)), (Mrc, .inl (g 0, 9, .inl frcx_8)), (Mm, .inr (7, [.int 0, .ref Mt, .int (nI 0), .int zmax_2, .int (-1), .ref Mrr, .ref Mrh, .ref Mrc, .int 1, .int (nI rcx_5), .ref Mn, .ref Mf, .ref Mr, .ref Mh, .int (nI 1), .int (nI rcx_5), .ref Ma, .ref Mas, .ref Msn, .ref Mac, .ref Mat])), (Mn, .inl (g 0, 1767, .inl fnox_404)), (Mh, .inl (g 0, 9, .inl fmhx_405)), (Mr, .inl (g 0, 3, .inl F_299)), (Mrh, .inl (g 0, 9, .inl frhx_281))] H := ⟨hP2, hD2⟩
                          have hS := hS2; clear hP2 hD2 hS2; have hP := hPD.1; have hD := hPD.2; clear hPD
                          refine W.widen (k := 0) (n := 0) (Nat.le_of_ble_eq_true rfl) (Nat.le_of_ble_eq_true rfl) ?_
                          refine lv_iinc (v := (nI (i_313 + 1))) (lv' := [(1, .int (nI (i_313 + 1))), (0, .ref Mm)]) hx hb dX7_net_142 hl (k := 0) rfl (nI_1 (i_313)) (by decide) rfl (fun ls hl => ?_)
                          refine lv_goto (tgt := 129) hx hb dX7_net_145 (by decide) ?_
                          exact loop_324_ih (i_313 + 1) fnox_404 fmhx_405 (mOK_self hf_406) (hf_407) (show (i_313 + 1) ≤ 1 by omega) (show 1 - (i_313 + 1) < Nloop_324 by omega) _ _ _ (hP.sub [4, 6, 5, 0, 1, 2, 3, 7] rfl) (hD.sub [4, 6, 5, 0, 1, 2, 3, 7] (by decide) rfl) hS hl
                    exact loop_324 _ 0 F_288 fmh (hF_288) (h8) (show 0 ≤ 1 by omega) (Nat.lt_succ_self _) _ _ _ hP hD hS hl
                  · skip
                    have cn_408 : i_298 < 3 := Nat.lt_of_not_le (fun q9 => cb_306 ((nI_leI (show 3 < 2 ^ 31 by omega) (show i_298 < 2 ^ 31 by omega)).mpr q9))
                    refine lv_aload_n hx hb dX7_net_109 rfl (lv_at hl 1 rfl) ?_
                    refine va_get (D := D) (ci := 7) (v := .ref Mr) (C := RX7) (T := TX7) (N := 21) hx hb hts iX7 hown hK hP 6 rfl rfl 12 (by decide) f28 (fun _ h9 => h9) rfl dX7_net_110 ?_
                    refine lv_iload_n hx hb dX7_net_113 rfl (lv_at hl 0 rfl) ?_
                    refine lv_aload_n hx hb dX7_net_114 rfl (lv_at hl 1 rfl) ?_
                    refine va_get (D := D) (ci := 7) (v := .ref Mrr) (C := RX7) (T := TX7) (N := 21) hx hb hts iX7 hown hK hP 6 rfl rfl 5 (by decide) f13 (fun _ h9 => h9) rfl dX7_net_115 ?_
                    refine lv_iload_n hx hb dX7_net_118 rfl (lv_at hl 0 rfl) ?_
                    refine va_iald hx hb hK hP 4 0 rfl rfl (vp_in_nI (show i_298 < 3 by omega) (by decide)) dX7_net_119 ?_
                    refine lv_eqi (y := (frrx_6 (i_298))) (congrArg frrx_6 (nI_clamp (show i_298 < 2 ^ 31 by omega))) ?_
                    obtain ⟨n_409, hn_409, q9⟩ := hf_9.1 (i_298)
                    have qv_409 := q9
                    refine lv_eqi (y := nI n_409) q9 ?_
                    refine va_iast hx hb hK hP hD hS 1 0 rfl rfl (vp_in_nI (show i_298 < 3 by omega) (by decide)) dX7_net_120 (fun H locs hP2 hD2 hS2 => ?_)
                    clear hP hD hS
                    have hPD : PD D A [(Mn, .inl (g 0, 1767, .inl F_288)), (Mr, .inl (g 0, 3, .inl (upd F_299 (nI i_298).toNatClampNeg (nI n_409)))), (Mh, .inl (g 0, 9, .inl fmh)), (Mt, .inl (g 0, 160, .inl fmt)), (Mrr, .inl (g 0, 3, .inl frrx_6)), (Mrc, .inl (g 0, 9, .inl frcx_8)), (Mm, .inr (7, [.int 0, .ref Mt, .int 0, .int zmax_2, .int (-1), .ref Mrr, .ref Mrh, .ref Mrc, .int 1, .int (nI rcx_5), .ref Mn, .ref Mf, .ref Mr, .ref Mh, .int 1, .int (nI rcx_5), .ref Ma, .ref Mas, .ref Msn, .ref Mac, .ref Mat])), (Mrh, .inl (g 0, 9, .inl frhx_281))] H := ⟨hP2, hD2⟩
                    have hS := hS2; clear hP2 hD2 hS2; have hP := hPD.1; have hD := hPD.2; clear hPD
                    rw [nI_clamp (show i_298 < 2 ^ 31 by omega)] at hP hD
                    have hPD : PD D A [(Mn, .inl (g 0, 1767, .inl F_288)), (Mr, .inl (g 0, 3, .inl (upd F_299 (i_298) (nI n_409)))), (Mh, .inl (g 0, 9, .inl fmh)), (Mt, .inl (g 0, 160, .inl fmt)), (Mrr, .inl (g 0, 3, .inl frrx_6)), (Mrc, .inl (g 0, 9, .inl frcx_8)), (Mm, .inr (7, [.int 0, .ref Mt, .int 0, .int zmax_2, .int (-1), .ref Mrr, .ref Mrh, .ref Mrc, .int 1, .int (nI rcx_5), .ref Mn, .ref Mf, .ref Mr, .ref Mh, .int 1, .int (nI rcx_5), .ref Ma, .ref Mas, .ref Msn, .ref Mac, .ref Mat])), (Mrh, .inl (g 0, 9, .inl frhx_281))] H := ⟨hP, hD⟩
                    clear hP hD; have hP := hPD.1; have hD := hPD.2; clear hPD
                    have hF_410 : n1 (upd F_299 (i_298) (nI n_409)) := n1_upd (hF_299) (n := n_409) (show n_409 ≤ 99 by omega)
                    have hr_410 : agr (i_298 + 1) frrx_6 (upd F_299 (i_298) (nI n_409)) := ag_s hr_299 qv_409
                    generalize upd F_299 (i_298) (nI n_409) = F_410 at hP hD hF_410 hr_410
                    refine lv_iinc (v := (nI (i_298 + 1))) (lv' := [(1, .int (nI (i_298 + 1))), (0, .ref Mm)]) hx hb dX7_net_121 hl (k := 0) rfl (nI_1 (i_298)) (by decide) rfl (fun ls hl => ?_)
                    refine lv_goto (tgt := 104) hx hb dX7_net_124 (by decide) ?_
                    exact loop_305_ih (i_298 + 1) F_410 (hF_410) (hr_410) (show (i_298 + 1) ≤ 3 by omega) (show 3 - (i_298 + 1) < Nloop_305 by omega) _ _ _ hP hD hS hl
              exact loop_305 _ 0 fmr (h7) (agr_0) (show 0 ≤ 3 by omega) (Nat.lt_succ_self _) _ _ _ hP hD hS hl
            · skip
              have cn_411 : i_287 < 1767 := Nat.lt_of_not_le (fun q9 => cb_294 ((nI_leI (show 1767 < 2 ^ 31 by omega) (show i_287 < 2 ^ 31 by omega)).mpr q9))
              refine lv_aload_n hx hb dX7_net_89 rfl (lv_at hl 1 rfl) ?_
              refine va_get (D := D) (ci := 7) (v := .ref Mn) (C := RX7) (T := TX7) (N := 21) hx hb hts iX7 hown hK hP 6 rfl rfl 10 (by decide) f22 (fun _ h9 => h9) rfl dX7_net_90 ?_
              refine lv_iload_n hx hb dX7_net_93 rfl (lv_at hl 0 rfl) ?_
              refine lv_iconst (v := 0) hx hb dX7_net_94 (by decide) ?_
              refine va_iast hx hb hK hP hD hS 0 0 rfl rfl (vp_in_nI (show i_287 < 1767 by omega) (by decide)) dX7_net_95 (fun H locs hP2 hD2 hS2 => ?_)
              clear hP hD hS
              have hPD : PD D A [(Mn, .inl (g 0, 1767, .inl (upd F_288 (nI i_287).toNatClampNeg 0))), (Mr, .inl (g 0, 3, .inl fmr)), (Mh, .inl (g 0, 9, .inl fmh)), (Mt, .inl (g 0, 160, .inl fmt)), (Mrr, .inl (g 0, 3, .inl frrx_6)), (Mrc, .inl (g 0, 9, .inl frcx_8)), (Mm, .inr (7, [.int 0, .ref Mt, .int 0, .int zmax_2, .int (-1), .ref Mrr, .ref Mrh, .ref Mrc, .int 1, .int (nI rcx_5), .ref Mn, .ref Mf, .ref Mr, .ref Mh, .int 1, .int (nI rcx_5), .ref Ma, .ref Mas, .ref Msn, .ref Mac, .ref Mat])), (Mrh, .inl (g 0, 9, .inl frhx_281))] H := ⟨hP2, hD2⟩
              have hS := hS2; clear hP2 hD2 hS2; have hP := hPD.1; have hD := hPD.2; clear hPD
              rw [nI_clamp (show i_287 < 2 ^ 31 by omega)] at hP hD
              have hPD : PD D A [(Mn, .inl (g 0, 1767, .inl (upd F_288 (i_287) 0))), (Mr, .inl (g 0, 3, .inl fmr)), (Mh, .inl (g 0, 9, .inl fmh)), (Mt, .inl (g 0, 160, .inl fmt)), (Mrr, .inl (g 0, 3, .inl frrx_6)), (Mrc, .inl (g 0, 9, .inl frcx_8)), (Mm, .inr (7, [.int 0, .ref Mt, .int 0, .int zmax_2, .int (-1), .ref Mrr, .ref Mrh, .ref Mrc, .int 1, .int (nI rcx_5), .ref Mn, .ref Mf, .ref Mr, .ref Mh, .int 1, .int (nI rcx_5), .ref Ma, .ref Mas, .ref Msn, .ref Mac, .ref Mat])), (Mrh, .inl (g 0, 9, .inl frhx_281))] H := ⟨hP, hD⟩
              clear hP hD; have hP := hPD.1; have hD := hPD.2; clear hPD
              have hF_412 : zer (i_287 + 1) (upd F_288 (i_287) 0) := zer_s hF_288
              generalize upd F_288 (i_287) 0 = F_412 at hP hD hF_412
              refine lv_iinc (v := (nI (i_287 + 1))) (lv' := [(1, .int (nI (i_287 + 1))), (0, .ref Mm)]) hx hb dX7_net_96 hl (k := 0) rfl (nI_1 (i_287)) (by decide) rfl (fun ls hl => ?_)
              refine lv_goto (tgt := 82) hx hb dX7_net_99 (by decide) ?_
              exact loop_293_ih (i_287 + 1) F_412 (hF_412) (show (i_287 + 1) ≤ 1767 by omega) (show 1767 - (i_287 + 1) < Nloop_293 by omega) _ _ _ hP hD hS hl
        exact loop_293 _ 0 fno (zer_0) (show 0 ≤ 1767 by omega) (Nat.lt_succ_self _) _ _ _ hP hD hS hl
      · skip
        have cn_413 : rcx_5 = 0 := (nI_eq (show rcx_5 < 2 ^ 31 by omega) (show 0 < 2 ^ 31 by omega)).mp cb_284
        refine lv_aload_n hx hb dX7_net_49 rfl (lv_at hl 0 rfl) ?_
        refine lv_iconst (v := 2) hx hb dX7_net_50 (by decide) ?_
        refine lv_aload_n hx hb dX7_net_51 rfl (lv_at hl 0 rfl) ?_
        refine va_get (D := D) (ci := 7) (v := .ref Mrc) (C := RX7) (T := TX7) (N := 21) hx hb hts iX7 hown hK hP 6 rfl rfl 7 (by decide) f19 (fun _ h9 => h9) rfl dX7_net_52 ?_
        refine lv_iconst (v := 0) hx hb dX7_net_55 (by decide) ?_
        refine ky_Vv (As := [.int 2, .ref Mrc, .int 0]) (rest := []) ⟨hx, hb, hml, hown, hts⟩ ⟨hK, hN⟩ hZ hP hD hS hA [6, 5] [0, 1, 2, 3, 4, 7] (wc := [(Mm, .inr (7, [.int 0, .ref Mt, .int 0, .int zmax_2, .int (-1), .ref Mrr, .ref Mrh, .ref Mrc, .int 1, .int (nI rcx_5), .ref Mn, .ref Mf, .ref Mr, .ref Mh, .int (nI hp), .int (nI cc), .ref Ma, .ref Mas, .ref Msn, .ref Mac, .ref Mat])), (Mrc, .inl (g 0, 9, .inl frcx_8))]) (wr := [(Mn, .inl (g 0, 1767, .inl fno)), (Mr, .inl (g 0, 3, .inl fmr)), (Mh, .inl (g 0, 9, .inl fmh)), (Mt, .inl (g 0, 160, .inl fmt)), (Mrr, .inl (g 0, 3, .inl frrx_6)), (Mrh, .inl (g 0, 9, .inl frhx_281))]) rfl rfl rfl rfl (by decide) (w_X7_laysUsual_2 l D g H.size Mm Mrc 0 0 Mt 0 zmax_2 (-1) Mrr Mrh 1 (nI rcx_5) Mn Mf Mr Mh (nI hp) (nI cc) Ma Mas Msn Mac Mat frcx_8 (show 0 ≤ 6 by omega) (hf_9.2.2.1)) (cwV 3 hts gX7_net_X7_laysUsual rfl rfl rfl (by decide +kernel) ⟨(Nat.le_of_ble_eq_true rfl), (Nat.le_of_ble_eq_true rfl)⟩) 6 7 rfl rfl rfl rfl hl.1 rfl (Nat.le_of_ble_eq_true rfl) dX7_net_56 ⟨(Nat.le_of_ble_eq_true rfl), (Nat.le_of_ble_eq_true rfl)⟩ (fun u H locs hw hP2 hD2 hS2 => ?_)
        clear hP hD hS
        obtain ⟨frcx_415, rfl, hf_416, hf_417⟩ := hw
        have hPD : PD D A [(Mn, .inl (g 0, 1767, .inl fno)), (Mr, .inl (g 0, 3, .inl fmr)), (Mh, .inl (g 0, 9, .inl fmh)), (Mt, .inl (g 0, 160, .inl fmt)), (Mrr, .inl (g 0, 3, .inl frrx_6)), (Mrh, .inl (g 0, 9, .inl frhx_281)), (Mm, .inr (7, [.int 0, .ref Mt, .int 0, .int zmax_2, .int (-1), .ref Mrr, .ref Mrh, .ref Mrc, .int 1, .int (nI rcx_5), .ref Mn, .ref Mf, .ref Mr, .ref Mh, .int (nI hp), .int (nI cc), .ref Ma, .ref Mas, .ref Msn, .ref Mac, .ref Mat])), (Mrc, .inl (g 0, 9, .inl frcx_415))] H := ⟨hP2, hD2⟩
        have hS := hS2; clear hP2 hD2 hS2; have hP := hPD.1; have hD := hPD.2; clear hPD
        refine W.widen (k := 0) (n := 0) (Nat.le_of_ble_eq_true rfl) (Nat.le_of_ble_eq_true rfl) ?_
        refine lv_aload_n hx hb dX7_net_59 rfl (lv_at hl 0 rfl) ?_
        refine lv_iconst (v := 1) hx hb dX7_net_60 (by decide) ?_
        refine va_put (D := D) (ci := 7) (v := .int 1) (ty := .int) (C := RX7) (T := TX7) (N := 21) hx hb hts iX7 tyX7 tyX7_ok nmX7 hown hK hP hD hS 6 rfl rfl 9 (by decide) f114 (fun _ h9 => h9) rfl (by decide +kernel) (rfl) (rfl) (Nat.le_of_ble_eq_true rfl) dX7_net_61 (fun H locs hP2 hD2 hS2 => ?_)
        clear hP hD hS
        have hPD : PD D A [(Mn, .inl (g 0, 1767, .inl fno)), (Mr, .inl (g 0, 3, .inl fmr)), (Mh, .inl (g 0, 9, .inl fmh)), (Mt, .inl (g 0, 160, .inl fmt)), (Mrr, .inl (g 0, 3, .inl frrx_6)), (Mrh, .inl (g 0, 9, .inl frhx_281)), (Mm, .inr (7, [.int 0, .ref Mt, .int 0, .int zmax_2, .int (-1), .ref Mrr, .ref Mrh, .ref Mrc, .int 1, .int 1, .ref Mn, .ref Mf, .ref Mr, .ref Mh, .int (nI hp), .int (nI cc), .ref Ma, .ref Mas, .ref Msn, .ref Mac, .ref Mat])), (Mrc, .inl (g 0, 9, .inl frcx_415))] H := ⟨hP2, hD2⟩
        have hS := hS2; clear hP2 hD2 hS2; have hP := hPD.1; have hD := hPD.2; clear hPD
        refine lv_aload_n hx hb dX7_net_64 rfl (lv_at hl 0 rfl) ?_
        refine lv_aload_n hx hb dX7_net_65 rfl (lv_at hl 0 rfl) ?_
        refine va_get (D := D) (ci := 7) (v := .int 1) (C := RX7) (T := TX7) (N := 21) hx hb hts iX7 hown hK hP 6 rfl rfl 8 (by decide) f111 (fun _ h9 => h9) rfl dX7_net_66 ?_
        refine va_put (D := D) (ci := 7) (v := .int 1) (ty := .int) (C := RX7) (T := TX7) (N := 21) hx hb hts iX7 tyX7 tyX7_ok nmX7 hown hK hP hD hS 6 rfl rfl 14 (by decide) f124 (fun _ h9 => h9) rfl (by decide +kernel) (rfl) (rfl) (Nat.le_of_ble_eq_true rfl) dX7_net_69 (fun H locs hP2 hD2 hS2 => ?_)
        clear hP hD hS
        have hPD : PD D A [(Mn, .inl (g 0, 1767, .inl fno)), (Mr, .inl (g 0, 3, .inl fmr)), (Mh, .inl (g 0, 9, .inl fmh)), (Mt, .inl (g 0, 160, .inl fmt)), (Mrr, .inl (g 0, 3, .inl frrx_6)), (Mrh, .inl (g 0, 9, .inl frhx_281)), (Mm, .inr (7, [.int 0, .ref Mt, .int 0, .int zmax_2, .int (-1), .ref Mrr, .ref Mrh, .ref Mrc, .int 1, .int 1, .ref Mn, .ref Mf, .ref Mr, .ref Mh, .int 1, .int (nI cc), .ref Ma, .ref Mas, .ref Msn, .ref Mac, .ref Mat])), (Mrc, .inl (g 0, 9, .inl frcx_415))] H := ⟨hP2, hD2⟩
        have hS := hS2; clear hP2 hD2 hS2; have hP := hPD.1; have hD := hPD.2; clear hPD
        refine lv_aload_n hx hb dX7_net_72 rfl (lv_at hl 0 rfl) ?_
        refine lv_aload_n hx hb dX7_net_73 rfl (lv_at hl 0 rfl) ?_
        refine va_get (D := D) (ci := 7) (v := .int 1) (C := RX7) (T := TX7) (N := 21) hx hb hts iX7 hown hK hP 6 rfl rfl 9 (by decide) f114 (fun _ h9 => h9) rfl dX7_net_74 ?_
        refine va_put (D := D) (ci := 7) (v := .int 1) (ty := .int) (C := RX7) (T := TX7) (N := 21) hx hb hts iX7 tyX7 tyX7_ok nmX7 hown hK hP hD hS 6 rfl rfl 15 (by decide) f127 (fun _ h9 => h9) rfl (by decide +kernel) (rfl) (rfl) (Nat.le_of_ble_eq_true rfl) dX7_net_77 (fun H locs hP2 hD2 hS2 => ?_)
        clear hP hD hS
        have hPD : PD D A [(Mn, .inl (g 0, 1767, .inl fno)), (Mr, .inl (g 0, 3, .inl fmr)), (Mh, .inl (g 0, 9, .inl fmh)), (Mt, .inl (g 0, 160, .inl fmt)), (Mrr, .inl (g 0, 3, .inl frrx_6)), (Mrh, .inl (g 0, 9, .inl frhx_281)), (Mm, .inr (7, [.int 0, .ref Mt, .int 0, .int zmax_2, .int (-1), .ref Mrr, .ref Mrh, .ref Mrc, .int 1, .int 1, .ref Mn, .ref Mf, .ref Mr, .ref Mh, .int 1, .int 1, .ref Ma, .ref Mas, .ref Msn, .ref Mac, .ref Mat])), (Mrc, .inl (g 0, 9, .inl frcx_415))] H := ⟨hP2, hD2⟩
        have hS := hS2; clear hP2 hD2 hS2; have hP := hPD.1; have hD := hPD.2; clear hPD
        refine lv_iconst (v := 0) hx hb dX7_net_80 (by decide) ?_
        refine lv_istore_n (lv' := [(1, .int 0), (0, .ref Mm)]) hx hb dX7_net_81 rfl hl (by decide) rfl (fun ls hl => ?_)
        have loop_425 : ∀ (Nloop_425 : Nat) (i_419 : Nat) (F_420 : Nat → Int32) (hF_420 : zer i_419 F_420) (hbi_419 : i_419 ≤ 1767) (hmloop_425 : 1767 - i_419 < Nloop_425) (H : Heap) (locs : List Loc) (ls : Array Slot), va_P D vwCl [(Mn, .inl (g 0, 1767, .inl F_420)), (Mr, .inl (g 0, 3, .inl fmr)), (Mh, .inl (g 0, 9, .inl fmh)), (Mt, .inl (g 0, 160, .inl fmt)), (Mrr, .inl (g 0, 3, .inl frrx_6)), (Mrh, .inl (g 0, 9, .inl frhx_281)), (Mm, .inr (7, [.int 0, .ref Mt, .int 0, .int zmax_2, .int (-1), .ref Mrr, .ref Mrh, .ref Mrc, .int 1, .int 1, .ref Mn, .ref Mf, .ref Mr, .ref Mh, .int 1, .int 1, .ref Ma, .ref Mas, .ref Msn, .ref Mac, .ref Mat])), (Mrc, .inl (g 0, 9, .inl frcx_415))] H → va_D A [(Mn, .inl (g 0, 1767, .inl F_420)), (Mr, .inl (g 0, 3, .inl fmr)), (Mh, .inl (g 0, 9, .inl fmh)), (Mt, .inl (g 0, 160, .inl fmt)), (Mrr, .inl (g 0, 3, .inl frrx_6)), (Mrh, .inl (g 0, 9, .inl frhx_281)), (Mm, .inr (7, [.int 0, .ref Mt, .int 0, .int zmax_2, .int (-1), .ref Mrr, .ref Mrh, .ref Mrc, .int 1, .int 1, .ref Mn, .ref Mf, .ref Mr, .ref Mh, .int 1, .int 1, .ref Ma, .ref Mas, .ref Msn, .ref Mac, .ref Mat])), (Mrc, .inl (g 0, 9, .inl frcx_415))] → va_S A s.heap H locs → lv_has ls 3 [(1, .int (nI i_419)), (0, .ref Mm)] → W p l e (headSpec wsX7_net ({ frames := 6, cells := 0, slots := 0, locals := 133 })).room s m ([.ref Mm] : List Value).toArray below meth c H locs 0 0 Q (F0 m 82 ls []) := by
          clear hP hD hS hl
          intro Nloop_425
          induction Nloop_425 with
          | zero => intro i_419 F_420 hF_420 hbi_419 hm9; exact absurd hm9 (Nat.not_lt_zero _)
          | succ Nloop_425 loop_425_ih =>
            intro i_419 F_420 hF_420 hbi_419 hmloop_425 H locs ls hP hD hS hl
            refine lv_iload_n hx hb dX7_net_82 rfl (lv_at hl 0 rfl) ?_
            refine lv_sipush (v := 1767) hx hb dX7_net_83 (by decide) ?_
            refine lv_icmp_ge (tgt := 102) hx hb dX7_net_86 (by decide) (fun cb_426 => ?_) (fun cb_426 => ?_)
            · skip
              have cn_427 : 1767 ≤ i_419 := (nI_leI (show 1767 < 2 ^ 31 by omega) (show i_419 < 2 ^ 31 by omega)).mp cb_426
              have hF_420 := zer_mOK (U := ub) hF_420 (show 1767 ≤ i_419 by omega)
              refine lv_iconst (v := 0) hx hb dX7_net_102 (by decide) ?_
              refine lv_istore_n (lv' := [(1, .int 0), (0, .ref Mm)]) hx hb dX7_net_103 rfl hl (by decide) rfl (fun ls hl => ?_)
              have loop_437 : ∀ (Nloop_437 : Nat) (i_430 : Nat) (F_431 : Nat → Int32) (hF_431 : n1 F_431) (hr_431 : agr i_430 frrx_6 F_431) (hbi_430 : i_430 ≤ 3) (hmloop_437 : 3 - i_430 < Nloop_437) (H : Heap) (locs : List Loc) (ls : Array Slot), va_P D vwCl [(Mn, .inl (g 0, 1767, .inl F_420)), (Mr, .inl (g 0, 3, .inl F_431)), (Mh, .inl (g 0, 9, .inl fmh)), (Mt, .inl (g 0, 160, .inl fmt)), (Mrr, .inl (g 0, 3, .inl frrx_6)), (Mrh, .inl (g 0, 9, .inl frhx_281)), (Mm, .inr (7, [.int 0, .ref Mt, .int 0, .int zmax_2, .int (-1), .ref Mrr, .ref Mrh, .ref Mrc, .int 1, .int 1, .ref Mn, .ref Mf, .ref Mr, .ref Mh, .int 1, .int 1, .ref Ma, .ref Mas, .ref Msn, .ref Mac, .ref Mat])), (Mrc, .inl (g 0, 9, .inl frcx_415))] H → va_D A [(Mn, .inl (g 0, 1767, .inl F_420)), (Mr, .inl (g 0, 3, .inl F_431)), (Mh, .inl (g 0, 9, .inl fmh)), (Mt, .inl (g 0, 160, .inl fmt)), (Mrr, .inl (g 0, 3, .inl frrx_6)), (Mrh, .inl (g 0, 9, .inl frhx_281)), (Mm, .inr (7, [.int 0, .ref Mt, .int 0, .int zmax_2, .int (-1), .ref Mrr, .ref Mrh, .ref Mrc, .int 1, .int 1, .ref Mn, .ref Mf, .ref Mr, .ref Mh, .int 1, .int 1, .ref Ma, .ref Mas, .ref Msn, .ref Mac, .ref Mat])), (Mrc, .inl (g 0, 9, .inl frcx_415))] → va_S A s.heap H locs → lv_has ls 3 [(1, .int (nI i_430)), (0, .ref Mm)] → W p l e (headSpec wsX7_net ({ frames := 6, cells := 0, slots := 0, locals := 133 })).room s m ([.ref Mm] : List Value).toArray below meth c H locs 0 0 Q (F0 m 104 ls []) := by
                clear hP hD hS hl
                intro Nloop_437
                induction Nloop_437 with
                | zero => intro i_430 F_431 hF_431 hr_431 hbi_430 hm9; exact absurd hm9 (Nat.not_lt_zero _)
                | succ Nloop_437 loop_437_ih =>
                  intro i_430 F_431 hF_431 hr_431 hbi_430 hmloop_437 H locs ls hP hD hS hl
                  refine lv_iload_n hx hb dX7_net_104 rfl (lv_at hl 0 rfl) ?_
                  refine lv_iconst (v := 3) hx hb dX7_net_105 (by decide) ?_
                  refine lv_icmp_ge (tgt := 127) hx hb dX7_net_106 (by decide) (fun cb_438 => ?_) (fun cb_438 => ?_)
                  · skip
                    have cn_439 : 3 ≤ i_430 := (nI_leI (show 3 < 2 ^ 31 by omega) (show i_430 < 2 ^ 31 by omega)).mp cb_438
                    refine lv_iconst (v := 0) hx hb dX7_net_127 (by decide) ?_
                    refine lv_istore_n (lv' := [(1, .int 0), (0, .ref Mm)]) hx hb dX7_net_128 rfl hl (by decide) rfl (fun ls hl => ?_)
                    have loop_456 : ∀ (Nloop_456 : Nat) (i_445 : Nat) (F_446 : Nat → Int32) (F_447 : Nat → Int32) (hF_446 : mOK F_446 0 ub F_446) (hF_447 : n3 F_447) (hbi_445 : i_445 ≤ 1) (hmloop_456 : 1 - i_445 < Nloop_456) (H : Heap) (locs : List Loc) (ls : Array Slot), va_P D vwCl [(Mn, .inl (g 0, 1767, .inl F_446)), (Mr, .inl (g 0, 3, .inl F_431)), (Mh, .inl (g 0, 9, .inl F_447)), (Mt, .inl (g 0, 160, .inl fmt)), (Mrr, .inl (g 0, 3, .inl frrx_6)), (Mrh, .inl (g 0, 9, .inl frhx_281)), (Mm, .inr (7, [.int 0, .ref Mt, .int 0, .int zmax_2, .int (-1), .ref Mrr, .ref Mrh, .ref Mrc, .int 1, .int 1, .ref Mn, .ref Mf, .ref Mr, .ref Mh, .int 1, .int 1, .ref Ma, .ref Mas, .ref Msn, .ref Mac, .ref Mat])), (Mrc, .inl (g 0, 9, .inl frcx_415))] H → va_D A [(Mn, .inl (g 0, 1767, .inl F_446)), (Mr, .inl (g 0, 3, .inl F_431)), (Mh, .inl (g 0, 9, .inl F_447)), (Mt, .inl (g 0, 160, .inl fmt)), (Mrr, .inl (g 0, 3, .inl frrx_6)), (Mrh, .inl (g 0, 9, .inl frhx_281)), (Mm, .inr (7, [.int 0, .ref Mt, .int 0, .int zmax_2, .int (-1), .ref Mrr, .ref Mrh, .ref Mrc, .int 1, .int 1, .ref Mn, .ref Mf, .ref Mr, .ref Mh, .int 1, .int 1, .ref Ma, .ref Mas, .ref Msn, .ref Mac, .ref Mat])), (Mrc, .inl (g 0, 9, .inl frcx_415))] → va_S A s.heap H locs → lv_has ls 3 [(1, .int (nI i_445)), (0, .ref Mm)] → W p l e (headSpec wsX7_net ({ frames := 6, cells := 0, slots := 0, locals := 133 })).room s m ([.ref Mm] : List Value).toArray below meth c H locs 0 0 Q (F0 m 129 ls []) := by
                      clear hP hD hS hl
                      intro Nloop_456
                      induction Nloop_456 with
                      | zero => intro i_445 F_446 F_447 hF_446 hF_447 hbi_445 hm9; exact absurd hm9 (Nat.not_lt_zero _)
                      | succ Nloop_456 loop_456_ih =>
                        intro i_445 F_446 F_447 hF_446 hF_447 hbi_445 hmloop_456 H locs ls hP hD hS hl
                        refine lv_iload_n hx hb dX7_net_129 rfl (lv_at hl 0 rfl) ?_
                        refine lv_aload_n hx hb dX7_net_130 rfl (lv_at hl 1 rfl) ?_
                        refine va_get (D := D) (ci := 7) (v := .int 1) (C := RX7) (T := TX7) (N := 21) hx hb hts iX7 hown hK hP 6 rfl rfl 14 (by decide) f124 (fun _ h9 => h9) rfl dX7_net_131 ?_
                        refine lv_icmp_ge (tgt := 148) hx hb dX7_net_134 (by decide) (fun cb_457 => ?_) (fun cb_457 => ?_)
                        · skip
                          have cn_458 : 1 ≤ i_445 := (nI_leI (show 1 < 2 ^ 31 by omega) (show i_445 < 2 ^ 31 by omega)).mp cb_457
                          refine lv_iconst (v := 0) hx hb dX7_net_148 (by decide) ?_
                          refine lv_istore_n (lv' := [(1, .int 0), (0, .ref Mm)]) hx hb dX7_net_149 rfl hl (by decide) rfl (fun ls hl => ?_)
                          have loop_508 : ∀ (Nloop_508 : Nat) (i_481 : Nat) (F_482 : Nat → Int32) (hF_482 : mOK F_482 0 ub F_482) (hA_482 : gA i_481 F_482 frcx_415) (hbi_481 : i_481 ≤ 1) (hmloop_508 : 1 - i_481 < Nloop_508) (H : Heap) (locs : List Loc) (ls : Array Slot), va_P D vwCl [(Mn, .inl (g 0, 1767, .inl F_482)), (Mr, .inl (g 0, 3, .inl F_431)), (Mh, .inl (g 0, 9, .inl F_447)), (Mt, .inl (g 0, 160, .inl fmt)), (Mrr, .inl (g 0, 3, .inl frrx_6)), (Mrh, .inl (g 0, 9, .inl frhx_281)), (Mm, .inr (7, [.int 0, .ref Mt, .int 0, .int zmax_2, .int (-1), .ref Mrr, .ref Mrh, .ref Mrc, .int 1, .int 1, .ref Mn, .ref Mf, .ref Mr, .ref Mh, .int 1, .int 1, .ref Ma, .ref Mas, .ref Msn, .ref Mac, .ref Mat])), (Mrc, .inl (g 0, 9, .inl frcx_415))] H → va_D A [(Mn, .inl (g 0, 1767, .inl F_482)), (Mr, .inl (g 0, 3, .inl F_431)), (Mh, .inl (g 0, 9, .inl F_447)), (Mt, .inl (g 0, 160, .inl fmt)), (Mrr, .inl (g 0, 3, .inl frrx_6)), (Mrh, .inl (g 0, 9, .inl frhx_281)), (Mm, .inr (7, [.int 0, .ref Mt, .int 0, .int zmax_2, .int (-1), .ref Mrr, .ref Mrh, .ref Mrc, .int 1, .int 1, .ref Mn, .ref Mf, .ref Mr, .ref Mh, .int 1, .int 1, .ref Ma, .ref Mas, .ref Msn, .ref Mac, .ref Mat])), (Mrc, .inl (g 0, 9, .inl frcx_415))] → va_S A s.heap H locs → lv_has ls 3 [(1, .int (nI i_481)), (0, .ref Mm)] → W p l e (headSpec wsX7_net ({ frames := 6, cells := 0, slots := 0, locals := 133 })).room s m ([.ref Mm] : List Value).toArray below meth c H locs 0 0 Q (F0 m 150 ls []) := by
                            clear hP hD hS hl
                            intro Nloop_508
                            induction Nloop_508 with
                            | zero => intro i_481 F_482 hF_482 hA_482 hbi_481 hm9; exact absurd hm9 (Nat.not_lt_zero _)
                            | succ Nloop_508 loop_508_ih =>
                              intro i_481 F_482 hF_482 hA_482 hbi_481 hmloop_508 H locs ls hP hD hS hl
                              refine lv_iload_n hx hb dX7_net_150 rfl (lv_at hl 0 rfl) ?_
                              refine lv_aload_n hx hb dX7_net_151 rfl (lv_at hl 1 rfl) ?_
                              refine va_get (D := D) (ci := 7) (v := .int 1) (C := RX7) (T := TX7) (N := 21) hx hb hts iX7 hown hK hP 6 rfl rfl 15 (by decide) f127 (fun _ h9 => h9) rfl dX7_net_152 ?_
                              refine lv_icmp_ge (tgt := 211) hx hb dX7_net_155 (by decide) (fun cb_509 => ?_) (fun cb_509 => ?_)
                              · skip
                                have cn_510 : 1 ≤ i_481 := (nI_leI (show 1 < 2 ^ 31 by omega) (show i_481 < 2 ^ 31 by omega)).mp cb_509
                                refine lv_aload_n hx hb dX7_net_211 rfl (lv_at hl 1 rfl) ?_
                                refine va_get (D := D) (ci := 7) (v := .int 1) (C := RX7) (T := TX7) (N := 21) hx hb hts iX7 hown hK hP 6 rfl rfl 15 (by decide) f127 (fun _ h9 => h9) rfl dX7_net_212 ?_
                                have hPD9 : PD D A [(Mm, .inr (7, [.int 0, .ref Mt, .int 0, .int zmax_2, .int (-1), .ref Mrr, .ref Mrh, .ref Mrc, .int 1, .int 1, .ref Mn, .ref Mf, .ref Mr, .ref Mh, .int 1, .int 1, .ref Ma, .ref Mas, .ref Msn, .ref Mac, .ref Mat])), (Mt, .inl (g 0, 160, .inl fmt)), (Mrr, .inl (g 0, 3, .inl frrx_6)), (Mrh, .inl (g 0, 9, .inl frhx_281)), (Mrc, .inl (g 0, 9, .inl frcx_415)), (Mn, .inl (g 0, 1767, .inl F_482)), (Mr, .inl (g 0, 3, .inl F_431)), (Mh, .inl (g 0, 9, .inl F_447))] H := ⟨hP.sub [6, 3, 4, 5, 7, 0, 1, 2] rfl, hD.sub [6, 3, 4, 5, 7, 0, 1, 2] (by decide) rfl⟩
                                have hP9 := hPD9.1; have hD9 := hPD9.2
                                subst hQ
                                refine W.widen (k := 0) (n := 0) (Nat.le_of_ble_eq_true rfl) (Nat.le_of_ble_eq_true rfl) ?_
                                exact W.iret (v := 1) hx hb hr (fun tS htS _ => ⟨⟨_, _, rfl, ⟨(lf2 [frrx_6, frhx_281, frcx_415, F_482, F_431, F_447]), 0, 0, zmax_2, (-1), 1, 1, 1, 1, 1, 0, rfl, rfl, ⟨(hf_9.1), (hf_282), (hf_416), (hF_482), (hF_431), (hF_447), (show 1 ≤ 3 by omega), (show 1 ≤ 3 by omega), (show (1 = 0 ∧ 1 = 0) ∨ (1 ≤ 1 ∧ 1 ≤ 1) by omega), (show 0 ≤ 160 by omega), nt_yes (cc := 1) hf_9.2.2.2.2.2.1 rfl (by omega), ⟨fun q9 => absurd q9 (show ¬ (1 : Int32) = -1 by decide), fun _ => ⟨rfl, nk_0 (hf_9.2.2.2.2.2.2 rfl) hf_9.2.2.2.2.2.1 (by omega) (by omega) hf_417 (by omega) (ag_f hr_431 (by omega)) (gA_f hA_482 (by omega))⟩⟩⟩⟩, by rw [htS]; exact hP9, hD9⟩, hS.F htS⟩) hS.2.2 dX7_net_215
                              · skip
                                have cn_511 : i_481 < 1 := Nat.lt_of_not_le (fun q9 => cb_509 ((nI_leI (show 1 < 2 ^ 31 by omega) (show i_481 < 2 ^ 31 by omega)).mpr q9))
                                refine lv_iconst (v := 0) hx hb dX7_net_158 (by decide) ?_
                                refine lv_istore_n (lv' := [(2, .int 0), (1, .int (nI i_481)), (0, .ref Mm)]) hx hb dX7_net_159 rfl hl (by decide) rfl (fun ls hl => ?_)
                                have loop_525 : ∀ (Nloop_525 : Nat) (i_515 : Nat) (F_516 : Nat → Int32) (hF_516 : mOK F_516 0 ub F_516) (hA_516 : gA i_481 F_516 frcx_415) (hB_516 : gB i_481 i_515 F_516 frcx_415) (hbi_515 : i_515 ≤ 3) (hmloop_525 : 3 - i_515 < Nloop_525) (H : Heap) (locs : List Loc) (ls : Array Slot), va_P D vwCl [(Mn, .inl (g 0, 1767, .inl F_516)), (Mr, .inl (g 0, 3, .inl F_431)), (Mh, .inl (g 0, 9, .inl F_447)), (Mt, .inl (g 0, 160, .inl fmt)), (Mrr, .inl (g 0, 3, .inl frrx_6)), (Mrh, .inl (g 0, 9, .inl frhx_281)), (Mm, .inr (7, [.int 0, .ref Mt, .int 0, .int zmax_2, .int (-1), .ref Mrr, .ref Mrh, .ref Mrc, .int 1, .int 1, .ref Mn, .ref Mf, .ref Mr, .ref Mh, .int 1, .int 1, .ref Ma, .ref Mas, .ref Msn, .ref Mac, .ref Mat])), (Mrc, .inl (g 0, 9, .inl frcx_415))] H → va_D A [(Mn, .inl (g 0, 1767, .inl F_516)), (Mr, .inl (g 0, 3, .inl F_431)), (Mh, .inl (g 0, 9, .inl F_447)), (Mt, .inl (g 0, 160, .inl fmt)), (Mrr, .inl (g 0, 3, .inl frrx_6)), (Mrh, .inl (g 0, 9, .inl frhx_281)), (Mm, .inr (7, [.int 0, .ref Mt, .int 0, .int zmax_2, .int (-1), .ref Mrr, .ref Mrh, .ref Mrc, .int 1, .int 1, .ref Mn, .ref Mf, .ref Mr, .ref Mh, .int 1, .int 1, .ref Ma, .ref Mas, .ref Msn, .ref Mac, .ref Mat])), (Mrc, .inl (g 0, 9, .inl frcx_415))] → va_S A s.heap H locs → lv_has ls 3 [(2, .int (nI i_515)), (1, .int (nI i_481)), (0, .ref Mm)] → W p l e (headSpec wsX7_net ({ frames := 6, cells := 0, slots := 0, locals := 133 })).room s m ([.ref Mm] : List Value).toArray below meth c H locs 0 0 Q (F0 m 160 ls []) := by
                                  clear hP hD hS hl
                                  intro Nloop_525
                                  induction Nloop_525 with
                                  | zero => intro i_515 F_516 hF_516 hA_516 hB_516 hbi_515 hm9; exact absurd hm9 (Nat.not_lt_zero _)
                                  | succ Nloop_525 loop_525_ih =>
                                    intro i_515 F_516 hF_516 hA_516 hB_516 hbi_515 hmloop_525 H locs ls hP hD hS hl
                                    refine lv_iload_n hx hb dX7_net_160 rfl (lv_at hl 0 rfl) ?_
                                    refine lv_iconst (v := 3) hx hb dX7_net_161 (by decide) ?_
                                    refine lv_icmp_ge (tgt := 192) hx hb dX7_net_162 (by decide) (fun cb_526 => ?_) (fun cb_526 => ?_)
                                    · skip
                                      have cn_527 : 3 ≤ i_515 := (nI_leI (show 3 < 2 ^ 31 by omega) (show i_515 < 2 ^ 31 by omega)).mp cb_526
                                      refine lv_aload_n hx hb dX7_net_192 rfl (lv_at hl 2 rfl) ?_
                                      refine va_get (D := D) (ci := 7) (v := .ref Mn) (C := RX7) (T := TX7) (N := 21) hx hb hts iX7 hown hK hP 6 rfl rfl 10 (by decide) f22 (fun _ h9 => h9) rfl dX7_net_193 ?_
                                      refine lv_iload_n hx hb dX7_net_196 rfl (lv_at hl 1 rfl) ?_
                                      refine ky_Si (As := [.int (nI i_481)]) (rest := [.ref Mn]) ⟨hx, hb, hml, hown, hts⟩ ⟨hK, hN⟩ hZ hP hD hS hA [] [0, 1, 2, 3, 4, 5, 6, 7] (wc := []) (wr := [(Mn, .inl (g 0, 1767, .inl F_516)), (Mr, .inl (g 0, 3, .inl F_431)), (Mh, .inl (g 0, 9, .inl F_447)), (Mt, .inl (g 0, 160, .inl fmt)), (Mrr, .inl (g 0, 3, .inl frrx_6)), (Mrh, .inl (g 0, 9, .inl frhx_281)), (Mm, .inr (7, [.int 0, .ref Mt, .int 0, .int zmax_2, .int (-1), .ref Mrr, .ref Mrh, .ref Mrc, .int 1, .int 1, .ref Mn, .ref Mf, .ref Mr, .ref Mh, .int 1, .int 1, .ref Ma, .ref Mas, .ref Msn, .ref Mac, .ref Mat])), (Mrc, .inl (g 0, 9, .inl frcx_415))]) rfl rfl rfl rfl (by decide) (k_X7_circuitAt l D g H.size i_481 (show i_481 < 3 by omega)) (va_cwS 1 hts gX7_net_X7_circuitAt rfl rfl rfl (by decide +kernel) ⟨(Nat.le_of_ble_eq_true rfl), (Nat.le_of_ble_eq_true rfl)⟩) rfl hl.1 rfl (Nat.le_of_ble_eq_true rfl) dX7_net_197 ⟨(Nat.le_of_ble_eq_true rfl), (Nat.le_of_ble_eq_true rfl)⟩ (fun r_528 u H locs hw hP2 hD2 hS2 => ?_)
                                      clear hP hD hS
                                      obtain ⟨rfl, rfl⟩ := hw
                                      have hPD : PD D A [(Mn, .inl (g 0, 1767, .inl F_516)), (Mr, .inl (g 0, 3, .inl F_431)), (Mh, .inl (g 0, 9, .inl F_447)), (Mt, .inl (g 0, 160, .inl fmt)), (Mrr, .inl (g 0, 3, .inl frrx_6)), (Mrh, .inl (g 0, 9, .inl frhx_281)), (Mm, .inr (7, [.int 0, .ref Mt, .int 0, .int zmax_2, .int (-1), .ref Mrr, .ref Mrh, .ref Mrc, .int 1, .int 1, .ref Mn, .ref Mf, .ref Mr, .ref Mh, .int 1, .int 1, .ref Ma, .ref Mas, .ref Msn, .ref Mac, .ref Mat])), (Mrc, .inl (g 0, 9, .inl frcx_415))] H := ⟨hP2, hD2⟩
                                      have hS := hS2; clear hP2 hD2 hS2; have hP := hPD.1; have hD := hPD.2; clear hPD
                                      refine W.widen (k := 0) (n := 0) (Nat.le_of_ble_eq_true rfl) (Nat.le_of_ble_eq_true rfl) ?_
                                      refine lv_bipush (v := 6) hx hb dX7_net_200 (by decide) ?_
                                      refine lv_iadd hx hb dX7_net_202 ?_
                                      refine lv_eqi (y := (nI (201 + 9 * i_481 + 6))) (nI_add (201 + 9 * i_481) (6)) ?_
                                      refine lv_iconst (v := (-1)) hx hb dX7_net_203 (by decide) ?_
                                      refine va_iast hx hb hK hP hD hS 0 0 rfl rfl (vp_in_nI (show 201 + 9 * i_481 + 6 < 1767 by omega) (by decide)) dX7_net_204 (fun H locs hP2 hD2 hS2 => ?_)
                                      clear hP hD hS
                                      have hPD : PD D A [(Mn, .inl (g 0, 1767, .inl (upd F_516 (nI (201 + 9 * i_481 + 6)).toNatClampNeg (-1)))), (Mr, .inl (g 0, 3, .inl F_431)), (Mh, .inl (g 0, 9, .inl F_447)), (Mt, .inl (g 0, 160, .inl fmt)), (Mrr, .inl (g 0, 3, .inl frrx_6)), (Mrh, .inl (g 0, 9, .inl frhx_281)), (Mm, .inr (7, [.int 0, .ref Mt, .int 0, .int zmax_2, .int (-1), .ref Mrr, .ref Mrh, .ref Mrc, .int 1, .int 1, .ref Mn, .ref Mf, .ref Mr, .ref Mh, .int 1, .int 1, .ref Ma, .ref Mas, .ref Msn, .ref Mac, .ref Mat])), (Mrc, .inl (g 0, 9, .inl frcx_415))] H := ⟨hP2, hD2⟩
                                      have hS := hS2; clear hP2 hD2 hS2; have hP := hPD.1; have hD := hPD.2; clear hPD
                                      rw [nI_clamp (show 201 + 9 * i_481 + 6 < 2 ^ 31 by omega)] at hP hD
                                      have hPD : PD D A [(Mn, .inl (g 0, 1767, .inl (upd F_516 (201 + 9 * i_481 + 6) (-1)))), (Mr, .inl (g 0, 3, .inl F_431)), (Mh, .inl (g 0, 9, .inl F_447)), (Mt, .inl (g 0, 160, .inl fmt)), (Mrr, .inl (g 0, 3, .inl frrx_6)), (Mrh, .inl (g 0, 9, .inl frhx_281)), (Mm, .inr (7, [.int 0, .ref Mt, .int 0, .int zmax_2, .int (-1), .ref Mrr, .ref Mrh, .ref Mrc, .int 1, .int 1, .ref Mn, .ref Mf, .ref Mr, .ref Mh, .int 1, .int 1, .ref Ma, .ref Mas, .ref Msn, .ref Mac, .ref Mat])), (Mrc, .inl (g 0, 9, .inl frcx_415))] H := ⟨hP, hD⟩
                                      clear hP hD; have hP := hPD.1; have hD := hPD.2; clear hPD
                                      have hF_529 : mOK (upd F_516 (201 + 9 * i_481 + 6) (-1)) 0 ub (upd F_516 (201 + 9 * i_481 + 6) (-1)) := mOK_self (mOK_free hF_516 (show mfree (201 + 9 * i_481 + 6) by unfold mfree; omega))
                                      have hA_529 : gA (i_481 + 1) (upd F_516 (201 + 9 * i_481 + 6) (-1)) frcx_415 := gA_n hA_516 hB_516 (show 3 ≤ i_515 by omega)
                                      generalize upd F_516 (201 + 9 * i_481 + 6) (-1) = F_529 at hP hD hF_529 hA_529
                                      refine lv_iinc (v := (nI (i_481 + 1))) (lv' := [(1, .int (nI (i_481 + 1))), (2, .int (nI i_515)), (0, .ref Mm)]) hx hb dX7_net_205 hl (k := 1) rfl (nI_1 (i_481)) (by decide) rfl (fun ls hl => ?_)
                                      refine lv_goto (tgt := 150) hx hb dX7_net_208 (by decide) ?_
                                      exact loop_508_ih (i_481 + 1) F_529 (hF_529) (hA_529) (show (i_481 + 1) ≤ 1 by omega) (show 1 - (i_481 + 1) < Nloop_508 by omega) _ _ _ hP hD hS (lv_sub hl [0, 2] rfl)
                                    · skip
                                      have cn_530 : i_515 < 3 := Nat.lt_of_not_le (fun q9 => cb_526 ((nI_leI (show 3 < 2 ^ 31 by omega) (show i_515 < 2 ^ 31 by omega)).mpr q9))
                                      refine lv_aload_n hx hb dX7_net_165 rfl (lv_at hl 2 rfl) ?_
                                      refine va_get (D := D) (ci := 7) (v := .ref Mn) (C := RX7) (T := TX7) (N := 21) hx hb hts iX7 hown hK hP 6 rfl rfl 10 (by decide) f22 (fun _ h9 => h9) rfl dX7_net_166 ?_
                                      refine lv_iload_n hx hb dX7_net_169 rfl (lv_at hl 1 rfl) ?_
                                      refine ky_Si (As := [.int (nI i_481)]) (rest := [.ref Mn]) ⟨hx, hb, hml, hown, hts⟩ ⟨hK, hN⟩ hZ hP hD hS hA [] [0, 1, 2, 3, 4, 5, 6, 7] (wc := []) (wr := [(Mn, .inl (g 0, 1767, .inl F_516)), (Mr, .inl (g 0, 3, .inl F_431)), (Mh, .inl (g 0, 9, .inl F_447)), (Mt, .inl (g 0, 160, .inl fmt)), (Mrr, .inl (g 0, 3, .inl frrx_6)), (Mrh, .inl (g 0, 9, .inl frhx_281)), (Mm, .inr (7, [.int 0, .ref Mt, .int 0, .int zmax_2, .int (-1), .ref Mrr, .ref Mrh, .ref Mrc, .int 1, .int 1, .ref Mn, .ref Mf, .ref Mr, .ref Mh, .int 1, .int 1, .ref Ma, .ref Mas, .ref Msn, .ref Mac, .ref Mat])), (Mrc, .inl (g 0, 9, .inl frcx_415))]) rfl rfl rfl rfl (by decide) (k_X7_circuitAt l D g H.size i_481 (show i_481 < 3 by omega)) (va_cwS 1 hts gX7_net_X7_circuitAt rfl rfl rfl (by decide +kernel) ⟨(Nat.le_of_ble_eq_true rfl), (Nat.le_of_ble_eq_true rfl)⟩) rfl hl.1 rfl (Nat.le_of_ble_eq_true rfl) dX7_net_170 ⟨(Nat.le_of_ble_eq_true rfl), (Nat.le_of_ble_eq_true rfl)⟩ (fun r_531 u H locs hw hP2 hD2 hS2 => ?_)
                                      clear hP hD hS
                                      obtain ⟨rfl, rfl⟩ := hw
                                      have hPD : PD D A [(Mn, .inl (g 0, 1767, .inl F_516)), (Mr, .inl (g 0, 3, .inl F_431)), (Mh, .inl (g 0, 9, .inl F_447)), (Mt, .inl (g 0, 160, .inl fmt)), (Mrr, .inl (g 0, 3, .inl frrx_6)), (Mrh, .inl (g 0, 9, .inl frhx_281)), (Mm, .inr (7, [.int 0, .ref Mt, .int 0, .int zmax_2, .int (-1), .ref Mrr, .ref Mrh, .ref Mrc, .int 1, .int 1, .ref Mn, .ref Mf, .ref Mr, .ref Mh, .int 1, .int 1, .ref Ma, .ref Mas, .ref Msn, .ref Mac, .ref Mat])), (Mrc, .inl (g 0, 9, .inl frcx_415))] H := ⟨hP2, hD2⟩
                                      have hS := hS2; clear hP2 hD2 hS2; have hP := hPD.1; have hD := hPD.2; clear hPD
                                      refine W.widen (k := 0) (n := 0) (Nat.le_of_ble_eq_true rfl) (Nat.le_of_ble_eq_true rfl) ?_
                                      refine lv_iload_n hx hb dX7_net_173 rfl (lv_at hl 0 rfl) ?_
                                      refine lv_iadd hx hb dX7_net_174 ?_
                                      refine lv_eqi (y := (nI (201 + 9 * i_481 + i_515))) (nI_add (201 + 9 * i_481) (i_515)) ?_
                                      refine lv_aload_n hx hb dX7_net_175 rfl (lv_at hl 2 rfl) ?_
                                      refine va_get (D := D) (ci := 7) (v := .ref Mrc) (C := RX7) (T := TX7) (N := 21) hx hb hts iX7 hown hK hP 6 rfl rfl 7 (by decide) f19 (fun _ h9 => h9) rfl dX7_net_176 ?_
                                      refine lv_iconst (v := 3) hx hb dX7_net_179 (by decide) ?_
                                      refine lv_iload_n hx hb dX7_net_180 rfl (lv_at hl 1 rfl) ?_
                                      refine lv_imul hx hb dX7_net_181 ?_
                                      refine lv_eqi (y := (nI (3 * i_481))) (pk_mul (3) (i_481)) ?_
                                      refine lv_iload_n hx hb dX7_net_182 rfl (lv_at hl 0 rfl) ?_
                                      refine lv_iadd hx hb dX7_net_183 ?_
                                      refine lv_eqi (y := (nI (3 * i_481 + i_515))) (nI_add (3 * i_481) (i_515)) ?_
                                      refine va_iald hx hb hK hP 7 0 rfl rfl (vp_in_nI (show 3 * i_481 + i_515 < 9 by omega) (by decide)) dX7_net_184 ?_
                                      refine lv_eqi (y := (frcx_415 (3 * i_481 + i_515))) (congrArg frcx_415 (nI_clamp (show 3 * i_481 + i_515 < 2 ^ 31 by omega))) ?_
                                      obtain ⟨n_532, hn_532, q9⟩ := hf_416 (3 * i_481 + i_515)
                                      have qv_532 := q9
                                      refine lv_eqi (y := nI n_532) q9 ?_
                                      refine va_iast hx hb hK hP hD hS 0 0 rfl rfl (vp_in_nI (show 201 + 9 * i_481 + i_515 < 1767 by omega) (by decide)) dX7_net_185 (fun H locs hP2 hD2 hS2 => ?_)
                                      clear hP hD hS
                                      have hPD : PD D A [(Mn, .inl (g 0, 1767, .inl (upd F_516 (nI (201 + 9 * i_481 + i_515)).toNatClampNeg (nI n_532)))), (Mr, .inl (g 0, 3, .inl F_431)), (Mh, .inl (g 0, 9, .inl F_447)), (Mt, .inl (g 0, 160, .inl fmt)), (Mrr, .inl (g 0, 3, .inl frrx_6)), (Mrh, .inl (g 0, 9, .inl frhx_281)), (Mm, .inr (7, [.int 0, .ref Mt, .int 0, .int zmax_2, .int (-1), .ref Mrr, .ref Mrh, .ref Mrc, .int 1, .int 1, .ref Mn, .ref Mf, .ref Mr, .ref Mh, .int 1, .int 1, .ref Ma, .ref Mas, .ref Msn, .ref Mac, .ref Mat])), (Mrc, .inl (g 0, 9, .inl frcx_415))] H := ⟨hP2, hD2⟩
                                      have hS := hS2; clear hP2 hD2 hS2; have hP := hPD.1; have hD := hPD.2; clear hPD
                                      rw [nI_clamp (show 201 + 9 * i_481 + i_515 < 2 ^ 31 by omega)] at hP hD
                                      have hPD : PD D A [(Mn, .inl (g 0, 1767, .inl (upd F_516 (201 + 9 * i_481 + i_515) (nI n_532)))), (Mr, .inl (g 0, 3, .inl F_431)), (Mh, .inl (g 0, 9, .inl F_447)), (Mt, .inl (g 0, 160, .inl fmt)), (Mrr, .inl (g 0, 3, .inl frrx_6)), (Mrh, .inl (g 0, 9, .inl frhx_281)), (Mm, .inr (7, [.int 0, .ref Mt, .int 0, .int zmax_2, .int (-1), .ref Mrr, .ref Mrh, .ref Mrc, .int 1, .int 1, .ref Mn, .ref Mf, .ref Mr, .ref Mh, .int 1, .int 1, .ref Ma, .ref Mas, .ref Msn, .ref Mac, .ref Mat])), (Mrc, .inl (g 0, 9, .inl frcx_415))] H := ⟨hP, hD⟩
                                      clear hP hD; have hP := hPD.1; have hD := hPD.2; clear hPD
                                      have hF_533 : mOK (upd F_516 (201 + 9 * i_481 + i_515) (nI n_532)) 0 ub (upd F_516 (201 + 9 * i_481 + i_515) (nI n_532)) := mOK_g hF_516 (show gidx (201 + 9 * i_481 + i_515) by unfold gidx; omega)
                                      have hA_533 : gA i_481 (upd F_516 (201 + 9 * i_481 + i_515) (nI n_532)) frcx_415 := gA_s hA_516 (show i_515 < 3 by omega)
                                      have hB_533 : gB i_481 (i_515 + 1) (upd F_516 (201 + 9 * i_481 + i_515) (nI n_532)) frcx_415 := gB_s hB_516 qv_532
                                      generalize upd F_516 (201 + 9 * i_481 + i_515) (nI n_532) = F_533 at hP hD hF_533 hA_533 hB_533
                                      refine lv_iinc (v := (nI (i_515 + 1))) (lv' := [(2, .int (nI (i_515 + 1))), (1, .int (nI i_481)), (0, .ref Mm)]) hx hb dX7_net_186 hl (k := 0) rfl (nI_1 (i_515)) (by decide) rfl (fun ls hl => ?_)
                                      refine lv_goto (tgt := 160) hx hb dX7_net_189 (by decide) ?_
                                      exact loop_525_ih (i_515 + 1) F_533 (hF_533) (hA_533) (hB_533) (show (i_515 + 1) ≤ 3 by omega) (show 3 - (i_515 + 1) < Nloop_525 by omega) _ _ _ hP hD hS hl
                                exact loop_525 _ 0 F_482 (hF_482) (hA_482) (gB_0) (show 0 ≤ 3 by omega) (Nat.lt_succ_self _) _ _ _ hP hD hS hl
                          exact loop_508 _ 0 F_446 (hF_446) (gA_0) (show 0 ≤ 1 by omega) (Nat.lt_succ_self _) _ _ _ hP hD hS hl
                        · skip
                          have cn_534 : i_445 < 1 := Nat.lt_of_not_le (fun q9 => cb_457 ((nI_leI (show 1 < 2 ^ 31 by omega) (show i_445 < 2 ^ 31 by omega)).mpr q9))
                          refine lv_aload_n hx hb dX7_net_137 rfl (lv_at hl 1 rfl) ?_
                          refine lv_iload_n hx hb dX7_net_138 rfl (lv_at hl 0 rfl) ?_
                          refine ky_Vv (As := [.int (nI i_445)]) (rest := []) ⟨hx, hb, hml, hown, hts⟩ ⟨hK, hN⟩ hZ hP hD hS hA [6, 0, 2, 1, 5] [3, 4, 7] (wc := [(Mm, .inr (7, [.int 0, .ref Mt, .int 0, .int zmax_2, .int (-1), .ref Mrr, .ref Mrh, .ref Mrc, .int 1, .int 1, .ref Mn, .ref Mf, .ref Mr, .ref Mh, .int 1, .int 1, .ref Ma, .ref Mas, .ref Msn, .ref Mac, .ref Mat])), (Mn, .inl (g 0, 1767, .inl F_446)), (Mh, .inl (g 0, 9, .inl F_447)), (Mr, .inl (g 0, 3, .inl F_431)), (Mrh, .inl (g 0, 9, .inl frhx_281))]) (wr := [(Mt, .inl (g 0, 160, .inl fmt)), (Mrr, .inl (g 0, 3, .inl frrx_6)), (Mrc, .inl (g 0, 9, .inl frcx_415))]) rfl rfl rfl rfl (by decide) (k_X7_laysHop l D g H.size Mm i_445 0 Mt 0 zmax_2 (-1) Mrr Mrh Mrc 1 1 Mn Mf Mr Mh 1 1 Ma Mas Msn Mac Mat F_446 F_447 F_431 frhx_281 0 ub (show 0 < 2 ^ 29 by omega) (show ub < 2 ^ 29 by omega) (hF_446) (show 1 ≤ 1 by omega) (show 1 ≤ 3 by omega) (show 1 ≤ 1 by omega) (show 1 ≤ 3 by omega) (show i_445 < 3 by omega) (hF_447) (hf_282) (hF_431)) (cwV 1 hts gX7_net_X7_laysHop rfl rfl rfl (by decide +kernel) ⟨(Nat.le_of_ble_eq_true rfl), (Nat.le_of_ble_eq_true rfl)⟩) 6 7 rfl rfl rfl rfl hl.1 rfl (Nat.le_of_ble_eq_true rfl) dX7_net_139 ⟨(Nat.le_of_ble_eq_true rfl), (Nat.le_of_ble_eq_true rfl)⟩ (fun u H locs hw hP2 hD2 hS2 => ?_)
                          clear hP hD hS
                          obtain ⟨fnox_536, fmhx_537, rfl, hf_538, hf_539⟩ := hw
                          have hPD : PD D A [(Mt, .inl (g 0, 160, .inl fmt)), (Mrr, .inl (g 0, 3, .inl frrx_6)), (Mrc, .inl (g 0, 9, .inl frcx_415)), (Mm, .inr (7, [.int 0, .ref Mt, .int (nI 0), .int zmax_2, .int (-1), .ref Mrr, .ref Mrh, .ref Mrc, .int 1, .int 1, .ref Mn, .ref Mf, .ref Mr, .ref Mh, .int (nI 1), .int (nI 1), .ref Ma, .ref Mas, .ref Msn, .ref Mac, .ref Mat])), (Mn, .inl (g 0, 1767, .inl fnox_536)), (Mh, .inl (g 0, 9, .inl fmhx_537)), (Mr, .inl (g 0, 3, .inl F_431)), (Mrh, .inl (g 0, 9, .inl frhx_281))] H := ⟨hP2, hD2⟩
                          have hS := hS2; clear hP2 hD2 hS2; have hP := hPD.1; have hD := hPD.2; clear hPD
                          refine W.widen (k := 0) (n := 0) (Nat.le_of_ble_eq_true rfl) (Nat.le_of_ble_eq_true rfl) ?_
                          refine lv_iinc (v := (nI (i_445 + 1))) (lv' := [(1, .int (nI (i_445 + 1))), (0, .ref Mm)]) hx hb dX7_net_142 hl (k := 0) rfl (nI_1 (i_445)) (by decide) rfl (fun ls hl => ?_)
                          refine lv_goto (tgt := 129) hx hb dX7_net_145 (by decide) ?_
                          exact loop_456_ih (i_445 + 1) fnox_536 fmhx_537 (mOK_self hf_538) (hf_539) (show (i_445 + 1) ≤ 1 by omega) (show 1 - (i_445 + 1) < Nloop_456 by omega) _ _ _ (hP.sub [4, 6, 5, 0, 1, 7, 3, 2] rfl) (hD.sub [4, 6, 5, 0, 1, 7, 3, 2] (by decide) rfl) hS hl
                    exact loop_456 _ 0 F_420 fmh (hF_420) (h8) (show 0 ≤ 1 by omega) (Nat.lt_succ_self _) _ _ _ hP hD hS hl
                  · skip
                    have cn_540 : i_430 < 3 := Nat.lt_of_not_le (fun q9 => cb_438 ((nI_leI (show 3 < 2 ^ 31 by omega) (show i_430 < 2 ^ 31 by omega)).mpr q9))
                    refine lv_aload_n hx hb dX7_net_109 rfl (lv_at hl 1 rfl) ?_
                    refine va_get (D := D) (ci := 7) (v := .ref Mr) (C := RX7) (T := TX7) (N := 21) hx hb hts iX7 hown hK hP 6 rfl rfl 12 (by decide) f28 (fun _ h9 => h9) rfl dX7_net_110 ?_
                    refine lv_iload_n hx hb dX7_net_113 rfl (lv_at hl 0 rfl) ?_
                    refine lv_aload_n hx hb dX7_net_114 rfl (lv_at hl 1 rfl) ?_
                    refine va_get (D := D) (ci := 7) (v := .ref Mrr) (C := RX7) (T := TX7) (N := 21) hx hb hts iX7 hown hK hP 6 rfl rfl 5 (by decide) f13 (fun _ h9 => h9) rfl dX7_net_115 ?_
                    refine lv_iload_n hx hb dX7_net_118 rfl (lv_at hl 0 rfl) ?_
                    refine va_iald hx hb hK hP 4 0 rfl rfl (vp_in_nI (show i_430 < 3 by omega) (by decide)) dX7_net_119 ?_
                    refine lv_eqi (y := (frrx_6 (i_430))) (congrArg frrx_6 (nI_clamp (show i_430 < 2 ^ 31 by omega))) ?_
                    obtain ⟨n_541, hn_541, q9⟩ := hf_9.1 (i_430)
                    have qv_541 := q9
                    refine lv_eqi (y := nI n_541) q9 ?_
                    refine va_iast hx hb hK hP hD hS 1 0 rfl rfl (vp_in_nI (show i_430 < 3 by omega) (by decide)) dX7_net_120 (fun H locs hP2 hD2 hS2 => ?_)
                    clear hP hD hS
                    have hPD : PD D A [(Mn, .inl (g 0, 1767, .inl F_420)), (Mr, .inl (g 0, 3, .inl (upd F_431 (nI i_430).toNatClampNeg (nI n_541)))), (Mh, .inl (g 0, 9, .inl fmh)), (Mt, .inl (g 0, 160, .inl fmt)), (Mrr, .inl (g 0, 3, .inl frrx_6)), (Mrh, .inl (g 0, 9, .inl frhx_281)), (Mm, .inr (7, [.int 0, .ref Mt, .int 0, .int zmax_2, .int (-1), .ref Mrr, .ref Mrh, .ref Mrc, .int 1, .int 1, .ref Mn, .ref Mf, .ref Mr, .ref Mh, .int 1, .int 1, .ref Ma, .ref Mas, .ref Msn, .ref Mac, .ref Mat])), (Mrc, .inl (g 0, 9, .inl frcx_415))] H := ⟨hP2, hD2⟩
                    have hS := hS2; clear hP2 hD2 hS2; have hP := hPD.1; have hD := hPD.2; clear hPD
                    rw [nI_clamp (show i_430 < 2 ^ 31 by omega)] at hP hD
                    have hPD : PD D A [(Mn, .inl (g 0, 1767, .inl F_420)), (Mr, .inl (g 0, 3, .inl (upd F_431 (i_430) (nI n_541)))), (Mh, .inl (g 0, 9, .inl fmh)), (Mt, .inl (g 0, 160, .inl fmt)), (Mrr, .inl (g 0, 3, .inl frrx_6)), (Mrh, .inl (g 0, 9, .inl frhx_281)), (Mm, .inr (7, [.int 0, .ref Mt, .int 0, .int zmax_2, .int (-1), .ref Mrr, .ref Mrh, .ref Mrc, .int 1, .int 1, .ref Mn, .ref Mf, .ref Mr, .ref Mh, .int 1, .int 1, .ref Ma, .ref Mas, .ref Msn, .ref Mac, .ref Mat])), (Mrc, .inl (g 0, 9, .inl frcx_415))] H := ⟨hP, hD⟩
                    clear hP hD; have hP := hPD.1; have hD := hPD.2; clear hPD
                    have hF_542 : n1 (upd F_431 (i_430) (nI n_541)) := n1_upd (hF_431) (n := n_541) (show n_541 ≤ 99 by omega)
                    have hr_542 : agr (i_430 + 1) frrx_6 (upd F_431 (i_430) (nI n_541)) := ag_s hr_431 qv_541
                    generalize upd F_431 (i_430) (nI n_541) = F_542 at hP hD hF_542 hr_542
                    refine lv_iinc (v := (nI (i_430 + 1))) (lv' := [(1, .int (nI (i_430 + 1))), (0, .ref Mm)]) hx hb dX7_net_121 hl (k := 0) rfl (nI_1 (i_430)) (by decide) rfl (fun ls hl => ?_)
                    refine lv_goto (tgt := 104) hx hb dX7_net_124 (by decide) ?_
                    exact loop_437_ih (i_430 + 1) F_542 (hF_542) (hr_542) (show (i_430 + 1) ≤ 3 by omega) (show 3 - (i_430 + 1) < Nloop_437 by omega) _ _ _ hP hD hS hl
              exact loop_437 _ 0 fmr (h7) (agr_0) (show 0 ≤ 3 by omega) (Nat.lt_succ_self _) _ _ _ hP hD hS hl
            · skip
              have cn_543 : i_419 < 1767 := Nat.lt_of_not_le (fun q9 => cb_426 ((nI_leI (show 1767 < 2 ^ 31 by omega) (show i_419 < 2 ^ 31 by omega)).mpr q9))
              refine lv_aload_n hx hb dX7_net_89 rfl (lv_at hl 1 rfl) ?_
              refine va_get (D := D) (ci := 7) (v := .ref Mn) (C := RX7) (T := TX7) (N := 21) hx hb hts iX7 hown hK hP 6 rfl rfl 10 (by decide) f22 (fun _ h9 => h9) rfl dX7_net_90 ?_
              refine lv_iload_n hx hb dX7_net_93 rfl (lv_at hl 0 rfl) ?_
              refine lv_iconst (v := 0) hx hb dX7_net_94 (by decide) ?_
              refine va_iast hx hb hK hP hD hS 0 0 rfl rfl (vp_in_nI (show i_419 < 1767 by omega) (by decide)) dX7_net_95 (fun H locs hP2 hD2 hS2 => ?_)
              clear hP hD hS
              have hPD : PD D A [(Mn, .inl (g 0, 1767, .inl (upd F_420 (nI i_419).toNatClampNeg 0))), (Mr, .inl (g 0, 3, .inl fmr)), (Mh, .inl (g 0, 9, .inl fmh)), (Mt, .inl (g 0, 160, .inl fmt)), (Mrr, .inl (g 0, 3, .inl frrx_6)), (Mrh, .inl (g 0, 9, .inl frhx_281)), (Mm, .inr (7, [.int 0, .ref Mt, .int 0, .int zmax_2, .int (-1), .ref Mrr, .ref Mrh, .ref Mrc, .int 1, .int 1, .ref Mn, .ref Mf, .ref Mr, .ref Mh, .int 1, .int 1, .ref Ma, .ref Mas, .ref Msn, .ref Mac, .ref Mat])), (Mrc, .inl (g 0, 9, .inl frcx_415))] H := ⟨hP2, hD2⟩
              have hS := hS2; clear hP2 hD2 hS2; have hP := hPD.1; have hD := hPD.2; clear hPD
              rw [nI_clamp (show i_419 < 2 ^ 31 by omega)] at hP hD
              have hPD : PD D A [(Mn, .inl (g 0, 1767, .inl (upd F_420 (i_419) 0))), (Mr, .inl (g 0, 3, .inl fmr)), (Mh, .inl (g 0, 9, .inl fmh)), (Mt, .inl (g 0, 160, .inl fmt)), (Mrr, .inl (g 0, 3, .inl frrx_6)), (Mrh, .inl (g 0, 9, .inl frhx_281)), (Mm, .inr (7, [.int 0, .ref Mt, .int 0, .int zmax_2, .int (-1), .ref Mrr, .ref Mrh, .ref Mrc, .int 1, .int 1, .ref Mn, .ref Mf, .ref Mr, .ref Mh, .int 1, .int 1, .ref Ma, .ref Mas, .ref Msn, .ref Mac, .ref Mat])), (Mrc, .inl (g 0, 9, .inl frcx_415))] H := ⟨hP, hD⟩
              clear hP hD; have hP := hPD.1; have hD := hPD.2; clear hPD
              have hF_544 : zer (i_419 + 1) (upd F_420 (i_419) 0) := zer_s hF_420
              generalize upd F_420 (i_419) 0 = F_544 at hP hD hF_544
              refine lv_iinc (v := (nI (i_419 + 1))) (lv' := [(1, .int (nI (i_419 + 1))), (0, .ref Mm)]) hx hb dX7_net_96 hl (k := 0) rfl (nI_1 (i_419)) (by decide) rfl (fun ls hl => ?_)
              refine lv_goto (tgt := 82) hx hb dX7_net_99 (by decide) ?_
              exact loop_425_ih (i_419 + 1) F_544 (hF_544) (show (i_419 + 1) ≤ 1767 by omega) (show 1767 - (i_419 + 1) < Nloop_425 by omega) _ _ _ hP hD hS hl
        exact loop_425 _ 0 fno (zer_0) (show 0 ≤ 1767 by omega) (Nat.lt_succ_self _) _ _ _ hP hD hS hl
  · skip
    refine lv_iconst (v := (-1)) hx hb dX7_net_13 (by decide) ?_
    have hPD9 : PD D A [(Mm, .inr (7, [.int 0, .ref Mt, .int (nI tp), .int zmax_2, .int r_1, .ref Mrr, .ref Mrh, .ref Mrc, .int (nI rhx_4), .int (nI rcx_5), .ref Mn, .ref Mf, .ref Mr, .ref Mh, .int (nI hp), .int (nI cc), .ref Ma, .ref Mas, .ref Msn, .ref Mac, .ref Mat])), (Mt, .inl (g 0, 160, .inl fmt)), (Mrr, .inl (g 0, 3, .inl frrx_6)), (Mrh, .inl (g 0, 9, .inl frhx_7)), (Mrc, .inl (g 0, 9, .inl frcx_8)), (Mn, .inl (g 0, 1767, .inl fno)), (Mr, .inl (g 0, 3, .inl fmr)), (Mh, .inl (g 0, 9, .inl fmh))] H := ⟨hP.sub [3, 4, 5, 6, 7, 0, 1, 2] rfl, hD.sub [3, 4, 5, 6, 7, 0, 1, 2] (by decide) rfl⟩
    have hP9 := hPD9.1; have hD9 := hPD9.2
    subst hQ
    refine W.widen (k := 0) (n := 0) (Nat.le_of_ble_eq_true rfl) (Nat.le_of_ble_eq_true rfl) ?_
    exact W.iret (v := (-1)) hx hb hr (fun tS htS _ => ⟨⟨_, _, rfl, ⟨(lf2 [frrx_6, frhx_7, frcx_8, fno, fmr, fmh]), 0, tp, zmax_2, r_1, (nI rhx_4), (nI rcx_5), hp, cc, (-1), tb, rfl, rfl, ⟨(hf_9.1), (hf_9.2.1), (hf_9.2.2.1), (mOK_self h6), (h7), (h8), (show hp ≤ 3 by omega), (show cc ≤ 3 by omega), (show (hp = 0 ∧ cc = 0) ∨ (1 ≤ hp ∧ 1 ≤ cc) by omega), (show tp ≤ 160 by omega), nt_no hf_9.2.2.2.2.2.1 cb_14, ⟨fun _ => ⟨rfl, rfl, rfl, rfl, rfl⟩, fun q9 => absurd rfl q9⟩⟩⟩, by rw [htS]; exact hP9, hD9⟩, hS.F htS⟩) hS.2.2 dX7_net_14

