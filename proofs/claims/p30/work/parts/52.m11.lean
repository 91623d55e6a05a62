set_option maxHeartbeats 4000000 in
set_option maxRecDepth 100000 in
theorem k_X7_net (l : Launch) (D : va_G) (g : Nat → ClassId) (sz : Nat) (Mm : Nat) (zth : Int32) (Mt : Nat) (tp : Nat) (zma : Int32) (zwr : Int32) (Mrr : Nat) (Mrh : Nat) (Mrc : Nat) (zrh : Int32) (zrc : Int32) (Mn : Nat) (Mf : Nat) (Mr : Nat) (Mh : Nat) (hp : Nat) (cc : Nat) (Ma : Nat) (Mas : Nat) (Msn : Nat) (Mac : Nat) (Mat : Nat) (fmt : Nat → Int32) (frr : Nat → Int32) (frh : Nat → Int32) (frc : Nat → Int32) (fno : Nat → Int32) (fmr : Nat → Int32) (fmh : Nat → Int32) (h0 : tp ≤ 160) (h1 : n1 frr) (h2 : n1 frh) (h3 : n1 frc) (h4 : tb < 2 ^ 29) (h5 : ub < 2 ^ 29) (h6 : mOK tb ub fno) (h7 : n1 fmr) (h8 : n3 fmh) (h9 : hp ≤ 3) (h10 : cc ≤ 3) (h11 : (hp = 0 ∧ cc = 0) ∨ (1 ≤ hp ∧ 1 ≤ cc)) : Met l yX7_net wsX7_net ({ frames := 6, cells := 0, slots := 0, locals := 133 }) (va_Pc [.ref Mm] (pre D g sz [(Mm, .inr (7, [.int zth, .ref Mt, .int (nI tp), .int zma, .int zwr, .ref Mrr, .ref Mrh, .ref Mrc, .int zrh, .int zrc, .ref Mn, .ref Mf, .ref Mr, .ref Mh, .int (nI hp), .int (nI cc), .ref Ma, .ref Mas, .ref Msn, .ref Mac, .ref Mat])), (Mt, .inl (g 0, 160, .inl fmt)), (Mrr, .inl (g 0, 3, .inl frr)), (Mrh, .inl (g 0, 9, .inl frh)), (Mrc, .inl (g 0, 9, .inl frc)), (Mn, .inl (g 0, 1767, .inl fno)), (Mr, .inl (g 0, 3, .inl fmr)), (Mh, .inl (g 0, 9, .inl fmh))])) (va_Qi (fun (r : Int32) (u : va_W) => ∃ (zthx : Int32) (tpx : Nat) (zmax : Int32) (zwrx : Int32) (zrhx : Int32) (zrcx : Int32) (hpx : Nat) (ccx : Nat) (frrx : Nat → Int32) (frhx : Nat → Int32) (frcx : Nat → Int32) (fnox : Nat → Int32) (fmrx : Nat → Int32) (fmhx : Nat → Int32), u = [(Mm, .inr (7, [.int zthx, .ref Mt, .int (nI tpx), .int zmax, .int zwrx, .ref Mrr, .ref Mrh, .ref Mrc, .int zrhx, .int zrcx, .ref Mn, .ref Mf, .ref Mr, .ref Mh, .int (nI hpx), .int (nI ccx), .ref Ma, .ref Mas, .ref Msn, .ref Mac, .ref Mat])), (Mt, .inl (g 0, 160, .inl fmt)), (Mrr, .inl (g 0, 3, .inl frrx)), (Mrh, .inl (g 0, 9, .inl frhx)), (Mrc, .inl (g 0, 9, .inl frcx)), (Mn, .inl (g 0, 1767, .inl fnox)), (Mr, .inl (g 0, 3, .inl fmrx)), (Mh, .inl (g 0, 9, .inl fmhx))] ∧ (n1 frrx) ∧ (n1 frhx) ∧ (n1 frcx) ∧ (mOK tb ub fnox) ∧ (n1 fmrx) ∧ (n3 fmhx) ∧ (hpx ≤ 3) ∧ (ccx ≤ 3) ∧ ((hpx = 0 ∧ ccx = 0) ∨ (1 ≤ hpx ∧ 1 ≤ ccx)) ∧ (tpx ≤ 160)) (wd D (va_A [(Mm, .inr (7, [.int zth, .ref Mt, .int (nI tp), .int zma, .int zwr, .ref Mrr, .ref Mrh, .ref Mrc, .int zrh, .int zrc, .ref Mn, .ref Mf, .ref Mr, .ref Mh, .int (nI hp), .int (nI cc), .ref Ma, .ref Mas, .ref Msn, .ref Mac, .ref Mat])), (Mt, .inl (g 0, 160, .inl fmt)), (Mrr, .inl (g 0, 3, .inl frr)), (Mrh, .inl (g 0, 9, .inl frh)), (Mrc, .inl (g 0, 9, .inl frc)), (Mn, .inl (g 0, 1767, .inl fno)), (Mr, .inl (g 0, 3, .inl fmr)), (Mh, .inl (g 0, 9, .inl fmh))] sz)) (va_A [(Mm, .inr (7, [.int zth, .ref Mt, .int (nI tp), .int zma, .int zwr, .ref Mrr, .ref Mrh, .ref Mrc, .int zrh, .int zrc, .ref Mn, .ref Mf, .ref Mr, .ref Mh, .int (nI hp), .int (nI cc), .ref Ma, .ref Mas, .ref Msn, .ref Mac, .ref Mat])), (Mt, .inl (g 0, 160, .inl fmt)), (Mrr, .inl (g 0, 3, .inl frr)), (Mrh, .inl (g 0, 9, .inl frh)), (Mrc, .inl (g 0, 9, .inl frc)), (Mn, .inl (g 0, 1767, .inl fno)), (Mr, .inl (g 0, 3, .inl fmr)), (Mh, .inl (g 0, 9, .inl fmh))] sz)) 0 0 (va_A [(Mm, .inr (7, [.int zth, .ref Mt, .int (nI tp), .int zma, .int zwr, .ref Mrr, .ref Mrh, .ref Mrc, .int zrh, .int zrc, .ref Mn, .ref Mf, .ref Mr, .ref Mh, .int (nI hp), .int (nI cc), .ref Ma, .ref Mas, .ref Msn, .ref Mac, .ref Mat])), (Mt, .inl (g 0, 160, .inl fmt)), (Mrr, .inl (g 0, 3, .inl frr)), (Mrh, .inl (g 0, 9, .inl frh)), (Mrc, .inl (g 0, 9, .inl frc)), (Mn, .inl (g 0, 1767, .inl fno)), (Mr, .inl (g 0, 3, .inl fmr)), (Mh, .inl (g 0, 9, .inl fmh))] sz) := by
  refine Met.ofW (cc := cX7_net) (maxL := 3) (ret := (some .int)) (by decide) rfl ?_
  intro p e s m args below meth c s₁ B hml hv
  obtain ⟨rfl, hsz, hP, ⟨hK, hN⟩, hD0, hZ⟩ := hv
  have hx := B.exec
  have hb := B.bytes
  have hr := B.returns
  have hts := atoms_spec (ws := wsX7_net) B.pre
  have hown : s.vm.findClass RX7 = some m.cls := findClass_of_methodNamed B.named
  have hlocks := B.notSynchronized
  clear B
  subst hsz
  have hD := hD0.self (sz := s.heap.size)
  clear hD0
  generalize hAe : va_A [(Mm, .inr (7, [.int zth, .ref Mt, .int (nI tp), .int zma, .int zwr, .ref Mrr, .ref Mrh, .ref Mrc, .int zrh, .int zrc, .ref Mn, .ref Mf, .ref Mr, .ref Mh, .int (nI hp), .int (nI cc), .ref Ma, .ref Mas, .ref Msn, .ref Mac, .ref Mat])), (Mt, .inl (g 0, 160, .inl fmt)), (Mrr, .inl (g 0, 3, .inl frr)), (Mrh, .inl (g 0, 9, .inl frh)), (Mrc, .inl (g 0, 9, .inl frc)), (Mn, .inl (g 0, 1767, .inl fno)), (Mr, .inl (g 0, 3, .inl fmr)), (Mh, .inl (g 0, 9, .inl fmh))] s.heap.size = A at hD hZ ⊢
  have hA : ∀ q : Nat, s.heap.size ≤ q → A q := fun q h => by rw [← hAe]; exact Or.inr h
  have hS : va_S A s.heap s.heap [] := va_S.rf
  have f111 := hts (.fieldLink RX7 111 "HopCreditsModel" "readHops" "I") (by decide +kernel)
  have f114 := hts (.fieldLink RX7 114 "HopCreditsModel" "readCircuits" "I") (by decide +kernel)
  have f124 := hts (.fieldLink RX7 124 "HopCreditsModel" "hops" "I") (by decide +kernel)
  have f127 := hts (.fieldLink RX7 127 "HopCreditsModel" "circuits" "I") (by decide +kernel)
  have f13 := hts (.fieldLink RX7 13 "HopCreditsModel" "readRule" "[I") (by decide +kernel)
  have f16 := hts (.fieldLink RX7 16 "HopCreditsModel" "readHop" "[I") (by decide +kernel)
  have f19 := hts (.fieldLink RX7 19 "HopCreditsModel" "readCircuit" "[I") (by decide +kernel)
  have f22 := hts (.fieldLink RX7 22 "HopCreditsModel" "now" "[I") (by decide +kernel)
  have f28 := hts (.fieldLink RX7 28 "HopCreditsModel" "rule" "[I") (by decide +kernel)
  have f49 := hts (.fieldLink RX7 49 "HopCreditsModel" "thrown" "I") (by decide +kernel)
  have f57 := hts (.fieldLink RX7 57 "HopCreditsModel" "taped" "I") (by decide +kernel)
  have iX7 : ∀ w ∈ u_ws RX7 TX7 21, w ∈ wsX7_net := by decide +kernel
  have hl := lv_entry ([.ref Mm]) (n := 3) (Nat.le_of_ble_eq_true rfl)
  rw [lg_entry_eq]
  generalize (lg_sl ([.ref Mm]) ++ List.replicate (3 - (lg_sl ([.ref Mm])).length) Slot.unset).toArray = ls at hl ⊢
  have hl : lv_has ls 3 [(0, .ref Mm)] := hl
  generalize hQ : MQ below _ _ s _ _ _ = Q
  generalize hH : s.heap = H at hP ⊢
  have hS : va_S A s.heap H [] := by rw [← hH]; exact hS
  clear hH
  refine lv_aload_n hx hb dX7_net_0 rfl (lv_at hl 0 rfl) ?_
  refine lv_iconst (v := 0) hx hb dX7_net_1 (by decide) ?_
  refine va_put (D := D) (ci := 7) (v := .int 0) (ty := .int) (C := RX7) (T := TX7) (N := 21) hx hb hts iX7 tyX7 tyX7_ok nmX7 hown hK hP hD hS 0 rfl rfl 0 (by decide) f49 (fun _ h9 => h9) rfl (by decide +kernel) (rfl) (rfl) (Nat.le_of_ble_eq_true rfl) dX7_net_2 (fun H locs hP2 hD2 hS2 => ?_)
  clear hP hD hS
  have hPD : PD D A [(Mm, .inr (7, [.int 0, .ref Mt, .int (nI tp), .int zma, .int zwr, .ref Mrr, .ref Mrh, .ref Mrc, .int zrh, .int zrc, .ref Mn, .ref Mf, .ref Mr, .ref Mh, .int (nI hp), .int (nI cc), .ref Ma, .ref Mas, .ref Msn, .ref Mac, .ref Mat])), (Mt, .inl (g 0, 160, .inl fmt)), (Mrr, .inl (g 0, 3, .inl frr)), (Mrh, .inl (g 0, 9, .inl frh)), (Mrc, .inl (g 0, 9, .inl frc)), (Mn, .inl (g 0, 1767, .inl fno)), (Mr, .inl (g 0, 3, .inl fmr)), (Mh, .inl (g 0, 9, .inl fmh))] H := ⟨hP2, hD2⟩
  have hS := hS2; clear hP2 hD2 hS2; have hP := hPD.1; have hD := hPD.2; clear hPD
  refine lv_aload_n hx hb dX7_net_5 rfl (lv_at hl 0 rfl) ?_
  refine ky_Vi (As := []) (rest := []) ⟨hx, hb, hml, hown, hts⟩ ⟨hK, hN⟩ hZ hP hD hS hA [0, 1, 2, 3, 4] [5, 6, 7] (wc := [(Mm, .inr (7, [.int 0, .ref Mt, .int (nI tp), .int zma, .int zwr, .ref Mrr, .ref Mrh, .ref Mrc, .int zrh, .int zrc, .ref Mn, .ref Mf, .ref Mr, .ref Mh, .int (nI hp), .int (nI cc), .ref Ma, .ref Mas, .ref Msn, .ref Mac, .ref Mat])), (Mt, .inl (g 0, 160, .inl fmt)), (Mrr, .inl (g 0, 3, .inl frr)), (Mrh, .inl (g 0, 9, .inl frh)), (Mrc, .inl (g 0, 9, .inl frc))]) (wr := [(Mn, .inl (g 0, 1767, .inl fno)), (Mr, .inl (g 0, 3, .inl fmr)), (Mh, .inl (g 0, 9, .inl fmh))]) rfl rfl rfl rfl (by decide) (k_X7_readNet l D g H.size Mm 0 Mt tp zma zwr Mrr Mrh Mrc zrh zrc Mn Mf Mr Mh (nI hp) (nI cc) Ma Mas Msn Mac Mat fmt frr frh frc (show tp ≤ 160 by omega) (h1) (h2) (h3)) (cwV 0 hts gX7_net_X7_readNet rfl rfl rfl (by decide +kernel) ⟨(Nat.le_of_ble_eq_true rfl), (Nat.le_of_ble_eq_true rfl)⟩) 0 7 rfl rfl rfl rfl hl.1 rfl (Nat.le_of_ble_eq_true rfl) dX7_net_6 ⟨(Nat.le_of_ble_eq_true rfl), (Nat.le_of_ble_eq_true rfl)⟩ (fun r_1 u H locs hw hP2 hD2 hS2 => ?_)
  clear hP hD hS
  obtain ⟨zmax_2, zwrx_3, rhx_4, rcx_5, frrx_6, frhx_7, frcx_8, rfl, hf_9, hf_10, hf_11, hf_12, hf_13⟩ := hw
  have hPD : PD D A [(Mn, .inl (g 0, 1767, .inl fno)), (Mr, .inl (g 0, 3, .inl fmr)), (Mh, .inl (g 0, 9, .inl fmh)), (Mm, .inr (7, [.int 0, .ref Mt, .int (nI tp), .int zmax_2, .int zwrx_3, .ref Mrr, .ref Mrh, .ref Mrc, .int (nI rhx_4), .int (nI rcx_5), .ref Mn, .ref Mf, .ref Mr, .ref Mh, .int (nI hp), .int (nI cc), .ref Ma, .ref Mas, .ref Msn, .ref Mac, .ref Mat])), (Mt, .inl (g 0, 160, .inl fmt)), (Mrr, .inl (g 0, 3, .inl frrx_6)), (Mrh, .inl (g 0, 9, .inl frhx_7)), (Mrc, .inl (g 0, 9, .inl frcx_8))] H := ⟨hP2, hD2⟩
  have hS := hS2; clear hP2 hD2 hS2; have hP := hPD.1; have hD := hPD.2; clear hPD
  refine W.widen (k := 0) (n := 0) (Nat.le_of_ble_eq_true rfl) (Nat.le_of_ble_eq_true rfl) ?_
  refine lv_iconst (v := (-1)) hx hb dX7_net_9 (by decide) ?_
  refine lv_icmp_eq (tgt := 15) hx hb dX7_net_10 (by decide) (fun cb_14 => ?_) (fun cb_14 => ?_)
  · skip
    have hPq_15 := hP; have hDq_15 := hD; have hSq_15 := hS; have hlq_15 := hl; clear hP hD hS hl
    subst cb_14
    have hP := hPq_15; have hD := hDq_15; have hS := hSq_15; have hl := hlq_15; clear hPq_15 hDq_15 hSq_15 hlq_15
    refine lv_aload_n hx hb dX7_net_15 rfl (lv_at hl 0 rfl) ?_
    refine lv_iconst (v := 0) hx hb dX7_net_16 (by decide) ?_
    refine va_put (D := D) (ci := 7) (v := .int 0) (ty := .int) (C := RX7) (T := TX7) (N := 21) hx hb hts iX7 tyX7 tyX7_ok nmX7 hown hK hP hD hS 3 rfl rfl 2 (by decide) f57 (fun _ h9 => h9) rfl (by decide +kernel) (rfl) (rfl) (Nat.le_of_ble_eq_true rfl) dX7_net_17 (fun H locs hP2 hD2 hS2 => ?_)
    clear hP hD hS
    have hPD : PD D A [(Mn, .inl (g 0, 1767, .inl fno)), (Mr, .inl (g 0, 3, .inl fmr)), (Mh, .inl (g 0, 9, .inl fmh)), (Mm, .inr (7, [.int 0, .ref Mt, .int 0, .int zmax_2, .int zwrx_3, .ref Mrr, .ref Mrh, .ref Mrc, .int (nI rhx_4), .int (nI rcx_5), .ref Mn, .ref Mf, .ref Mr, .ref Mh, .int (nI hp), .int (nI cc), .ref Ma, .ref Mas, .ref Msn, .ref Mac, .ref Mat])), (Mt, .inl (g 0, 160, .inl fmt)), (Mrr, .inl (g 0, 3, .inl frrx_6)), (Mrh, .inl (g 0, 9, .inl frhx_7)), (Mrc, .inl (g 0, 9, .inl frcx_8))] H := ⟨hP2, hD2⟩
    have hS := hS2; clear hP2 hD2 hS2; have hP := hPD.1; have hD := hPD.2; clear hPD
    refine lv_aload_n hx hb dX7_net_20 rfl (lv_at hl 0 rfl) ?_
    refine va_get (D := D) (ci := 7) (v := .int (nI rhx_4)) (C := RX7) (T := TX7) (N := 21) hx hb hts iX7 hown hK hP 3 rfl rfl 8 (by decide) f111 (fun _ h9 => h9) rfl dX7_net_21 ?_
    refine lv_if_ne (tgt := 42) hx hb dX7_net_24 (by decide) (fun cb_16 => ?_) (fun cb_16 => ?_)
    · skip
      have cn_17 : ¬ rhx_4 = 0 := fun q9 => cb_16 (congrArg nI q9)
      refine lv_aload_n hx hb dX7_net_42 rfl (lv_at hl 0 rfl) ?_
      refine va_get (D := D) (ci := 7) (v := .int (nI rcx_5)) (C := RX7) (T := TX7) (N := 21) hx hb hts iX7 hown hK hP 3 rfl rfl 9 (by decide) f114 (fun _ h9 => h9) rfl dX7_net_43 ?_
      refine lv_if_ne (tgt := 64) hx hb dX7_net_46 (by decide) (fun cb_18 => ?_) (fun cb_18 => ?_)
      · skip
        have cn_19 : ¬ rcx_5 = 0 := fun q9 => cb_18 (congrArg nI q9)
        refine lv_aload_n hx hb dX7_net_64 rfl (lv_at hl 0 rfl) ?_
        refine lv_aload_n hx hb dX7_net_65 rfl (lv_at hl 0 rfl) ?_
        refine va_get (D := D) (ci := 7) (v := .int (nI rhx_4)) (C := RX7) (T := TX7) (N := 21) hx hb hts iX7 hown hK hP 3 rfl rfl 8 (by decide) f111 (fun _ h9 => h9) rfl dX7_net_66 ?_
        refine va_put (D := D) (ci := 7) (v := .int (nI rhx_4)) (ty := .int) (C := RX7) (T := TX7) (N := 21) hx hb hts iX7 tyX7 tyX7_ok nmX7 hown hK hP hD hS 3 rfl rfl 14 (by decide) f124 (fun _ h9 => h9) rfl (by decide +kernel) (rfl) (rfl) (Nat.le_of_ble_eq_true rfl) dX7_net_69 (fun H locs hP2 hD2 hS2 => ?_)
        clear hP hD hS
        have hPD : PD D A [(Mn, .inl (g 0, 1767, .inl fno)), (Mr, .inl (g 0, 3, .inl fmr)), (Mh, .inl (g 0, 9, .inl fmh)), (Mm, .inr (7, [.int 0, .ref Mt, .int 0, .int zmax_2, .int zwrx_3, .ref Mrr, .ref Mrh, .ref Mrc, .int (nI rhx_4), .int (nI rcx_5), .ref Mn, .ref Mf, .ref Mr, .ref Mh, .int (nI rhx_4), .int (nI cc), .ref Ma, .ref Mas, .ref Msn, .ref Mac, .ref Mat])), (Mt, .inl (g 0, 160, .inl fmt)), (Mrr, .inl (g 0, 3, .inl frrx_6)), (Mrh, .inl (g 0, 9, .inl frhx_7)), (Mrc, .inl (g 0, 9, .inl frcx_8))] H := ⟨hP2, hD2⟩
        have hS := hS2; clear hP2 hD2 hS2; have hP := hPD.1; have hD := hPD.2; clear hPD
        refine lv_aload_n hx hb dX7_net_72 rfl (lv_at hl 0 rfl) ?_
        refine lv_aload_n hx hb dX7_net_73 rfl (lv_at hl 0 rfl) ?_
        refine va_get (D := D) (ci := 7) (v := .int (nI rcx_5)) (C := RX7) (T := TX7) (N := 21) hx hb hts iX7 hown hK hP 3 rfl rfl 9 (by decide) f114 (fun _ h9 => h9) rfl dX7_net_74 ?_
        refine va_put (D := D) (ci := 7) (v := .int (nI rcx_5)) (ty := .int) (C := RX7) (T := TX7) (N := 21) hx hb hts iX7 tyX7 tyX7_ok nmX7 hown hK hP hD hS 3 rfl rfl 15 (by decide) f127 (fun _ h9 => h9) rfl (by decide +kernel) (rfl) (rfl) (Nat.le_of_ble_eq_true rfl) dX7_net_77 (fun H locs hP2 hD2 hS2 => ?_)
        clear hP hD hS
        have hPD : PD D A [(Mn, .inl (g 0, 1767, .inl fno)), (Mr, .inl (g 0, 3, .inl fmr)), (Mh, .inl (g 0, 9, .inl fmh)), (Mm, .inr (7, [.int 0, .ref Mt, .int 0, .int zmax_2, .int zwrx_3, .ref Mrr, .ref Mrh, .ref Mrc, .int (nI rhx_4), .int (nI rcx_5), .ref Mn, .ref Mf, .ref Mr, .ref Mh, .int (nI rhx_4), .int (nI rcx_5), .ref Ma, .ref Mas, .ref Msn, .ref Mac, .ref Mat])), (Mt, .inl (g 0, 160, .inl fmt)), (Mrr, .inl (g 0, 3, .inl frrx_6)), (Mrh, .inl (g 0, 9, .inl frhx_7)), (Mrc, .inl (g 0, 9, .inl frcx_8))] H := ⟨hP2, hD2⟩
        have hS := hS2; clear hP2 hD2 hS2; have hP := hPD.1; have hD := hPD.2; clear hPD
        refine lv_iconst (v := 0) hx hb dX7_net_80 (by decide) ?_
        refine lv_istore_n (lv' := [(1, .int 0), (0, .ref Mm)]) hx hb dX7_net_81 rfl hl (by decide) rfl (fun ls hl => ?_)
        have loop_27 : ∀ (Nloop_27 : Nat) (i_21 : Nat) (F_22 : Nat → Int32) (hF_22 : mOK tb ub F_22) (hbi_21 : i_21 ≤ 1767) (hmloop_27 : 1767 - i_21 < Nloop_27) (H : Heap) (locs : List Loc) (ls : Array Slot), va_P D vwCl [(Mn, .inl (g 0, 1767, .inl F_22)), (Mr, .inl (g 0, 3, .inl fmr)), (Mh, .inl (g 0, 9, .inl fmh)), (Mm, .inr (7, [.int 0, .ref Mt, .int 0, .int zmax_2, .int zwrx_3, .ref Mrr, .ref Mrh, .ref Mrc, .int (nI rhx_4), .int (nI rcx_5), .ref Mn, .ref Mf, .ref Mr, .ref Mh, .int (nI rhx_4), .int (nI rcx_5), .ref Ma, .ref Mas, .ref Msn, .ref Mac, .ref Mat])), (Mt, .inl (g 0, 160, .inl fmt)), (Mrr, .inl (g 0, 3, .inl frrx_6)), (Mrh, .inl (g 0, 9, .inl frhx_7)), (Mrc, .inl (g 0, 9, .inl frcx_8))] H → va_D A [(Mn, .inl (g 0, 1767, .inl F_22)), (Mr, .inl (g 0, 3, .inl fmr)), (Mh, .inl (g 0, 9, .inl fmh)), (Mm, .inr (7, [.int 0, .ref Mt, .int 0, .int zmax_2, .int zwrx_3, .ref Mrr, .ref Mrh, .ref Mrc, .int (nI rhx_4), .int (nI rcx_5), .ref Mn, .ref Mf, .ref Mr, .ref Mh, .int (nI rhx_4), .int (nI rcx_5), .ref Ma, .ref Mas, .ref Msn, .ref Mac, .ref Mat])), (Mt, .inl (g 0, 160, .inl fmt)), (Mrr, .inl (g 0, 3, .inl frrx_6)), (Mrh, .inl (g 0, 9, .inl frhx_7)), (Mrc, .inl (g 0, 9, .inl frcx_8))] → va_S A s.heap H locs → lv_has ls 3 [(1, .int (nI i_21)), (0, .ref Mm)] → W p l e (headSpec wsX7_net ({ frames := 6, cells := 0, slots := 0, locals := 133 })).room s m ([.ref Mm] : List Value).toArray below meth c H locs 0 0 Q (F0 m 82 ls []) := by
          clear hP hD hS hl
          intro Nloop_27
          induction Nloop_27 with
          | zero => intro i_21 F_22 hF_22 hbi_21 hm9; exact absurd hm9 (Nat.not_lt_zero _)
          | succ Nloop_27 loop_27_ih =>
            intro i_21 F_22 hF_22 hbi_21 hmloop_27 H locs ls hP hD hS hl
            refine lv_iload_n hx hb dX7_net_82 rfl (lv_at hl 0 rfl) ?_
            refine lv_sipush (v := 1767) hx hb dX7_net_83 (by decide) ?_
            refine lv_icmp_ge (tgt := 102) hx hb dX7_net_86 (by decide) (fun cb_28 => ?_) (fun cb_28 => ?_)
            · skip
              have cn_29 : 1767 ≤ i_21 := (nI_leI (show 1767 < 2 ^ 31 by omega) (show i_21 < 2 ^ 31 by omega)).mp cb_28
              refine lv_iconst (v := 0) hx hb dX7_net_102 (by decide) ?_
              refine lv_istore_n (lv' := [(1, .int 0), (0, .ref Mm)]) hx hb dX7_net_103 rfl hl (by decide) rfl (fun ls hl => ?_)
              have loop_39 : ∀ (Nloop_39 : Nat) (i_32 : Nat) (F_33 : Nat → Int32) (hF_33 : n1 F_33) (hbi_32 : i_32 ≤ 3) (hmloop_39 : 3 - i_32 < Nloop_39) (H : Heap) (locs : List Loc) (ls : Array Slot), va_P D vwCl [(Mn, .inl (g 0, 1767, .inl F_22)), (Mr, .inl (g 0, 3, .inl F_33)), (Mh, .inl (g 0, 9, .inl fmh)), (Mm, .inr (7, [.int 0, .ref Mt, .int 0, .int zmax_2, .int zwrx_3, .ref Mrr, .ref Mrh, .ref Mrc, .int (nI rhx_4), .int (nI rcx_5), .ref Mn, .ref Mf, .ref Mr, .ref Mh, .int (nI rhx_4), .int (nI rcx_5), .ref Ma, .ref Mas, .ref Msn, .ref Mac, .ref Mat])), (Mt, .inl (g 0, 160, .inl fmt)), (Mrr, .inl (g 0, 3, .inl frrx_6)), (Mrh, .inl (g 0, 9, .inl frhx_7)), (Mrc, .inl (g 0, 9, .inl frcx_8))] H → va_D A [(Mn, .inl (g 0, 1767, .inl F_22)), (Mr, .inl (g 0, 3, .inl F_33)), (Mh, .inl (g 0, 9, .inl fmh)), (Mm, .inr (7, [.int 0, .ref Mt, .int 0, .int zmax_2, .int zwrx_3, .ref Mrr, .ref Mrh, .ref Mrc, .int (nI rhx_4), .int (nI rcx_5), .ref Mn, .ref Mf, .ref Mr, .ref Mh, .int (nI rhx_4), .int (nI rcx_5), .ref Ma, .ref Mas, .ref Msn, .ref Mac, .ref Mat])), (Mt, .inl (g 0, 160, .inl fmt)), (Mrr, .inl (g 0, 3, .inl frrx_6)), (Mrh, .inl (g 0, 9, .inl frhx_7)), (Mrc, .inl (g 0, 9, .inl frcx_8))] → va_S A s.heap H locs → lv_has ls 3 [(1, .int (nI i_32)), (0, .ref Mm)] → W p l e (headSpec wsX7_net ({ frames := 6, cells := 0, slots := 0, locals := 133 })).room s m ([.ref Mm] : List Value).toArray below meth c H locs 0 0 Q (F0 m 104 ls []) := by
                clear hP hD hS hl
                intro Nloop_39
                induction Nloop_39 with
                | zero => intro i_32 F_33 hF_33 hbi_32 hm9; exact absurd hm9 (Nat.not_lt_zero _)
                | succ Nloop_39 loop_39_ih =>
                  intro i_32 F_33 hF_33 hbi_32 hmloop_39 H locs ls hP hD hS hl
                  refine lv_iload_n hx hb dX7_net_104 rfl (lv_at hl 0 rfl) ?_
                  refine lv_iconst (v := 3) hx hb dX7_net_105 (by decide) ?_
                  refine lv_icmp_ge (tgt := 127) hx hb dX7_net_106 (by decide) (fun cb_40 => ?_) (fun cb_40 => ?_)
                  · skip
                    have cn_41 : 3 ≤ i_32 := (nI_leI (show 3 < 2 ^ 31 by omega) (show i_32 < 2 ^ 31 by omega)).mp cb_40
                    refine lv_iconst (v := 0) hx hb dX7_net_127 (by decide) ?_
                    refine lv_istore_n (lv' := [(1, .int 0), (0, .ref Mm)]) hx hb dX7_net_128 rfl hl (by decide) rfl (fun ls hl => ?_)
                    have loop_58 : ∀ (Nloop_58 : Nat) (i_47 : Nat) (F_48 : Nat → Int32) (F_49 : Nat → Int32) (hF_48 : mOK tb ub F_48) (hF_49 : n3 F_49) (hbi_47 : i_47 ≤ rhx_4) (hmloop_58 : rhx_4 - i_47 < Nloop_58) (H : Heap) (locs : List Loc) (ls : Array Slot), va_P D vwCl [(Mn, .inl (g 0, 1767, .inl F_48)), (Mr, .inl (g 0, 3, .inl F_33)), (Mh, .inl (g 0, 9, .inl F_49)), (Mm, .inr (7, [.int 0, .ref Mt, .int 0, .int zmax_2, .int zwrx_3, .ref Mrr, .ref Mrh, .ref Mrc, .int (nI rhx_4), .int (nI rcx_5), .ref Mn, .ref Mf, .ref Mr, .ref Mh, .int (nI rhx_4), .int (nI rcx_5), .ref Ma, .ref Mas, .ref Msn, .ref Mac, .ref Mat])), (Mt, .inl (g 0, 160, .inl fmt)), (Mrr, .inl (g 0, 3, .inl frrx_6)), (Mrh, .inl (g 0, 9, .inl frhx_7)), (Mrc, .inl (g 0, 9, .inl frcx_8))] H → va_D A [(Mn, .inl (g 0, 1767, .inl F_48)), (Mr, .inl (g 0, 3, .inl F_33)), (Mh, .inl (g 0, 9, .inl F_49)), (Mm, .inr (7, [.int 0, .ref Mt, .int 0, .int zmax_2, .int zwrx_3, .ref Mrr, .ref Mrh, .ref Mrc, .int (nI rhx_4), .int (nI rcx_5), .ref Mn, .ref Mf, .ref Mr, .ref Mh, .int (nI rhx_4), .int (nI rcx_5), .ref Ma, .ref Mas, .ref Msn, .ref Mac, .ref Mat])), (Mt, .inl (g 0, 160, .inl fmt)), (Mrr, .inl (g 0, 3, .inl frrx_6)), (Mrh, .inl (g 0, 9, .inl frhx_7)), (Mrc, .inl (g 0, 9, .inl frcx_8))] → va_S A s.heap H locs → lv_has ls 3 [(1, .int (nI i_47)), (0, .ref Mm)] → W p l e (headSpec wsX7_net ({ frames := 6, cells := 0, slots := 0, locals := 133 })).room s m ([.ref Mm] : List Value).toArray below meth c H locs 0 0 Q (F0 m 129 ls []) := by
                      clear hP hD hS hl
                      intro Nloop_58
                      induction Nloop_58 with
                      | zero => intro i_47 F_48 F_49 hF_48 hF_49 hbi_47 hm9; exact absurd hm9 (Nat.not_lt_zero _)
                      | succ Nloop_58 loop_58_ih =>
                        intro i_47 F_48 F_49 hF_48 hF_49 hbi_47 hmloop_58 H locs ls hP hD hS hl
                        refine lv_iload_n hx hb dX7_net_129 rfl (lv_at hl 0 rfl) ?_
                        refine lv_aload_n hx hb dX7_net_130 rfl (lv_at hl 1 rfl) ?_
                        refine va_get (D := D) (ci := 7) (v := .int (nI rhx_4)) (C := RX7) (T := TX7) (N := 21) hx hb hts iX7 hown hK hP 3 rfl rfl 14 (by decide) f124 (fun _ h9 => h9) rfl dX7_net_131 ?_
                        refine lv_icmp_ge (tgt := 148) hx hb dX7_net_134 (by decide) (fun cb_59 => ?_) (fun cb_59 => ?_)
                        · skip
                          have cn_60 : rhx_4 ≤ i_47 := (nI_leI (show rhx_4 < 2 ^ 31 by omega) (show i_47 < 2 ^ 31 by omega)).mp cb_59
                          refine lv_iconst (v := 0) hx hb dX7_net_148 (by decide) ?_
                          refine lv_istore_n (lv' := [(1, .int 0), (0, .ref Mm)]) hx hb dX7_net_149 rfl hl (by decide) rfl (fun ls hl => ?_)
                          have loop_110 : ∀ (Nloop_110 : Nat) (i_83 : Nat) (F_84 : Nat → Int32) (hF_84 : mOK tb ub F_84) (hbi_83 : i_83 ≤ rcx_5) (hmloop_110 : rcx_5 - i_83 < Nloop_110) (H : Heap) (locs : List Loc) (ls : Array Slot), va_P D vwCl [(Mn, .inl (g 0, 1767, .inl F_84)), (Mr, .inl (g 0, 3, .inl F_33)), (Mh, .inl (g 0, 9, .inl F_49)), (Mm, .inr (7, [.int 0, .ref Mt, .int 0, .int zmax_2, .int zwrx_3, .ref Mrr, .ref Mrh, .ref Mrc, .int (nI rhx_4), .int (nI rcx_5), .ref Mn, .ref Mf, .ref Mr, .ref Mh, .int (nI rhx_4), .int (nI rcx_5), .ref Ma, .ref Mas, .ref Msn, .ref Mac, .ref Mat])), (Mt, .inl (g 0, 160, .inl fmt)), (Mrr, .inl (g 0, 3, .inl frrx_6)), (Mrh, .inl (g 0, 9, .inl frhx_7)), (Mrc, .inl (g 0, 9, .inl frcx_8))] H → va_D A [(Mn, .inl (g 0, 1767, .inl F_84)), (Mr, .inl (g 0, 3, .inl F_33)), (Mh, .inl (g 0, 9, .inl F_49)), (Mm, .inr (7, [.int 0, .ref Mt, .int 0, .int zmax_2, .int zwrx_3, .ref Mrr, .ref Mrh, .ref Mrc, .int (nI rhx_4), .int (nI rcx_5), .ref Mn, .ref Mf, .ref Mr, .ref Mh, .int (nI rhx_4), .int (nI rcx_5), .ref Ma, .ref Mas, .ref Msn, .ref Mac, .ref Mat])), (Mt, .inl (g 0, 160, .inl fmt)), (Mrr, .inl (g 0, 3, .inl frrx_6)), (Mrh, .inl (g 0, 9, .inl frhx_7)), (Mrc, .inl (g 0, 9, .inl frcx_8))] → va_S A s.heap H locs → lv_has ls 3 [(1, .int (nI i_83)), (0, .ref Mm)] → W p l e (headSpec wsX7_net ({ frames := 6, cells := 0, slots := 0, locals := 133 })).room s m ([.ref Mm] : List Value).toArray below meth c H locs 0 0 Q (F0 m 150 ls []) := by
                            clear hP hD hS hl
                            intro Nloop_110
                            induction Nloop_110 with
                            | zero => intro i_83 F_84 hF_84 hbi_83 hm9; exact absurd hm9 (Nat.not_lt_zero _)
                            | succ Nloop_110 loop_110_ih =>
                              intro i_83 F_84 hF_84 hbi_83 hmloop_110 H locs ls hP hD hS hl
                              refine lv_iload_n hx hb dX7_net_150 rfl (lv_at hl 0 rfl) ?_
                              refine lv_aload_n hx hb dX7_net_151 rfl (lv_at hl 1 rfl) ?_
                              refine va_get (D := D) (ci := 7) (v := .int (nI rcx_5)) (C := RX7) (T := TX7) (N := 21) hx hb hts iX7 hown hK hP 3 rfl rfl 15 (by decide) f127 (fun _ h9 => h9) rfl dX7_net_152 ?_
                              refine lv_icmp_ge (tgt := 211) hx hb dX7_net_155 (by decide) (fun cb_111 => ?_) (fun cb_111 => ?_)
                              · skip
                                have cn_112 : rcx_5 ≤ i_83 := (nI_leI (show rcx_5 < 2 ^ 31 by omega) (show i_83 < 2 ^ 31 by omega)).mp cb_111
                                refine lv_aload_n hx hb dX7_net_211 rfl (lv_at hl 1 rfl) ?_
                                refine va_get (D := D) (ci := 7) (v := .int (nI rcx_5)) (C := RX7) (T := TX7) (N := 21) hx hb hts iX7 hown hK hP 3 rfl rfl 15 (by decide) f127 (fun _ h9 => h9) rfl dX7_net_212 ?_
                                have hPD9 : PD D A [(Mm, .inr (7, [.int 0, .ref Mt, .int 0, .int zmax_2, .int zwrx_3, .ref Mrr, .ref Mrh, .ref Mrc, .int (nI rhx_4), .int (nI rcx_5), .ref Mn, .ref Mf, .ref Mr, .ref Mh, .int (nI rhx_4), .int (nI rcx_5), .ref Ma, .ref Mas, .ref Msn, .ref Mac, .ref Mat])), (Mt, .inl (g 0, 160, .inl fmt)), (Mrr, .inl (g 0, 3, .inl frrx_6)), (Mrh, .inl (g 0, 9, .inl frhx_7)), (Mrc, .inl (g 0, 9, .inl frcx_8)), (Mn, .inl (g 0, 1767, .inl F_84)), (Mr, .inl (g 0, 3, .inl F_33)), (Mh, .inl (g 0, 9, .inl F_49))] H := ⟨hP.sub [3, 4, 5, 6, 7, 0, 1, 2] rfl, hD.sub [3, 4, 5, 6, 7, 0, 1, 2] (by decide) rfl⟩
                                have hP9 := hPD9.1; have hD9 := hPD9.2
                                subst hQ
                                refine W.widen (k := 0) (n := 0) (Nat.le_of_ble_eq_true rfl) (Nat.le_of_ble_eq_true rfl) ?_
                                exact W.iret (v := (nI rcx_5)) hx hb hr (fun tS htS _ => ⟨⟨_, _, rfl, ⟨0, 0, zmax_2, zwrx_3, (nI rhx_4), (nI rcx_5), rhx_4, rcx_5, frrx_6, frhx_7, frcx_8, F_84, F_33, F_49, rfl, (hf_9), (hf_10), (hf_11), (hF_84), (hF_33), (hF_49), (show rhx_4 ≤ 3 by omega), (show rcx_5 ≤ 3 by omega), (show (rhx_4 = 0 ∧ rcx_5 = 0) ∨ (1 ≤ rhx_4 ∧ 1 ≤ rcx_5) by omega), (show 0 ≤ 160 by omega)⟩, by rw [htS]; exact hP9, hD9⟩, hS.F htS⟩) hS.2.2 dX7_net_215
                              · skip
                                have cn_113 : i_83 < rcx_5 := Nat.lt_of_not_le (fun q9 => cb_111 ((nI_leI (show rcx_5 < 2 ^ 31 by omega) (show i_83 < 2 ^ 31 by omega)).mpr q9))
                                refine lv_iconst (v := 0) hx hb dX7_net_158 (by decide) ?_
                                refine lv_istore_n (lv' := [(2, .int 0), (1, .int (nI i_83)), (0, .ref Mm)]) hx hb dX7_net_159 rfl hl (by decide) rfl (fun ls hl => ?_)
                                have loop_127 : ∀ (Nloop_127 : Nat) (i_117 : Nat) (F_118 : Nat → Int32) (hF_118 : mOK tb ub F_118) (hbi_117 : i_117 ≤ 3) (hmloop_127 : 3 - i_117 < Nloop_127) (H : Heap) (locs : List Loc) (ls : Array Slot), va_P D vwCl [(Mn, .inl (g 0, 1767, .inl F_118)), (Mr, .inl (g 0, 3, .inl F_33)), (Mh, .inl (g 0, 9, .inl F_49)), (Mm, .inr (7, [.int 0, .ref Mt, .int 0, .int zmax_2, .int zwrx_3, .ref Mrr, .ref Mrh, .ref Mrc, .int (nI rhx_4), .int (nI rcx_5), .ref Mn, .ref Mf, .ref Mr, .ref Mh, .int (nI rhx_4), .int (nI rcx_5), .ref Ma, .ref Mas, .ref Msn, .ref Mac, .ref Mat])), (Mt, .inl (g 0, 160, .inl fmt)), (Mrr, .inl (g 0, 3, .inl frrx_6)), (Mrh, .inl (g 0, 9, .inl frhx_7)), (Mrc, .inl (g 0, 9, .inl frcx_8))] H → va_D A [(Mn, .inl (g 0, 1767, .inl F_118)), (Mr, .inl (g 0, 3, .inl F_33)), (Mh, .inl (g 0, 9, .inl F_49)), (Mm, .inr (7, [.int 0, .ref Mt, .int 0, .int zmax_2, .int zwrx_3, .ref Mrr, .ref Mrh, .ref Mrc, .int (nI rhx_4), .int (nI rcx_5), .ref Mn, .ref Mf, .ref Mr, .ref Mh, .int (nI rhx_4), .int (nI rcx_5), .ref Ma, .ref Mas, .ref Msn, .ref Mac, .ref Mat])), (Mt, .inl (g 0, 160, .inl fmt)), (Mrr, .inl (g 0, 3, .inl frrx_6)), (Mrh, .inl (g 0, 9, .inl frhx_7)), (Mrc, .inl (g 0, 9, .inl frcx_8))] → va_S A s.heap H locs → lv_has ls 3 [(2, .int (nI i_117)), (1, .int (nI i_83)), (0, .ref Mm)] → W p l e (headSpec wsX7_net ({ frames := 6, cells := 0, slots := 0, locals := 133 })).room s m ([.ref Mm] : List Value).toArray below meth c H locs 0 0 Q (F0 m 160 ls []) := by
                                  clear hP hD hS hl
                                  intro Nloop_127
                                  induction Nloop_127 with
                                  | zero => intro i_117 F_118 hF_118 hbi_117 hm9; exact absurd hm9 (Nat.not_lt_zero _)
                                  | succ Nloop_127 loop_127_ih =>
                                    intro i_117 F_118 hF_118 hbi_117 hmloop_127 H locs ls hP hD hS hl
                                    refine lv_iload_n hx hb dX7_net_160 rfl (lv_at hl 0 rfl) ?_
                                    refine lv_iconst (v := 3) hx hb dX7_net_161 (by decide) ?_
                                    refine lv_icmp_ge (tgt := 192) hx hb dX7_net_162 (by decide) (fun cb_128 => ?_) (fun cb_128 => ?_)
                                    · skip
                                      have cn_129 : 3 ≤ i_117 := (nI_leI (show 3 < 2 ^ 31 by omega) (show i_117 < 2 ^ 31 by omega)).mp cb_128
                                      refine lv_aload_n hx hb dX7_net_192 rfl (lv_at hl 2 rfl) ?_
                                      refine va_get (D := D) (ci := 7) (v := .ref Mn) (C := RX7) (T := TX7) (N := 21) hx hb hts iX7 hown hK hP 3 rfl rfl 10 (by decide) f22 (fun _ h9 => h9) rfl dX7_net_193 ?_
                                      refine lv_iload_n hx hb dX7_net_196 rfl (lv_at hl 1 rfl) ?_
                                      refine ky_Si (As := [.int (nI i_83)]) (rest := [.ref Mn]) ⟨hx, hb, hml, hown, hts⟩ ⟨hK, hN⟩ hZ hP hD hS hA [] [0, 1, 2, 3, 4, 5, 6, 7] (wc := []) (wr := [(Mn, .inl (g 0, 1767, .inl F_118)), (Mr, .inl (g 0, 3, .inl F_33)), (Mh, .inl (g 0, 9, .inl F_49)), (Mm, .inr (7, [.int 0, .ref Mt, .int 0, .int zmax_2, .int zwrx_3, .ref Mrr, .ref Mrh, .ref Mrc, .int (nI rhx_4), .int (nI rcx_5), .ref Mn, .ref Mf, .ref Mr, .ref Mh, .int (nI rhx_4), .int (nI rcx_5), .ref Ma, .ref Mas, .ref Msn, .ref Mac, .ref Mat])), (Mt, .inl (g 0, 160, .inl fmt)), (Mrr, .inl (g 0, 3, .inl frrx_6)), (Mrh, .inl (g 0, 9, .inl frhx_7)), (Mrc, .inl (g 0, 9, .inl frcx_8))]) rfl rfl rfl rfl (by decide) (k_X7_circuitAt l D g H.size i_83 (show i_83 < 3 by omega)) (va_cwS 1 hts gX7_net_X7_circuitAt rfl rfl rfl (by decide +kernel) ⟨(Nat.le_of_ble_eq_true rfl), (Nat.le_of_ble_eq_true rfl)⟩) rfl hl.1 rfl (Nat.le_of_ble_eq_true rfl) dX7_net_197 ⟨(Nat.le_of_ble_eq_true rfl), (Nat.le_of_ble_eq_true rfl)⟩ (fun r_130 u H locs hw hP2 hD2 hS2 => ?_)
                                      clear hP hD hS
                                      obtain ⟨rfl, rfl⟩ := hw
                                      have hPD : PD D A [(Mn, .inl (g 0, 1767, .inl F_118)), (Mr, .inl (g 0, 3, .inl F_33)), (Mh, .inl (g 0, 9, .inl F_49)), (Mm, .inr (7, [.int 0, .ref Mt, .int 0, .int zmax_2, .int zwrx_3, .ref Mrr, .ref Mrh, .ref Mrc, .int (nI rhx_4), .int (nI rcx_5), .ref Mn, .ref Mf, .ref Mr, .ref Mh, .int (nI rhx_4), .int (nI rcx_5), .ref Ma, .ref Mas, .ref Msn, .ref Mac, .ref Mat])), (Mt, .inl (g 0, 160, .inl fmt)), (Mrr, .inl (g 0, 3, .inl frrx_6)), (Mrh, .inl (g 0, 9, .inl frhx_7)), (Mrc, .inl (g 0, 9, .inl frcx_8))] H := ⟨hP2, hD2⟩
                                      have hS := hS2; clear hP2 hD2 hS2; have hP := hPD.1; have hD := hPD.2; clear hPD
                                      refine W.widen (k := 0) (n := 0) (Nat.le_of_ble_eq_true rfl) (Nat.le_of_ble_eq_true rfl) ?_
                                      refine lv_bipush (v := 6) hx hb dX7_net_200 (by decide) ?_
                                      refine lv_iadd hx hb dX7_net_202 ?_
                                      refine lv_eqi (y := (nI (201 + 9 * i_83 + 6))) (nI_add (201 + 9 * i_83) (6)) ?_
                                      refine lv_iconst (v := (-1)) hx hb dX7_net_203 (by decide) ?_
                                      refine va_iast hx hb hK hP hD hS 0 0 rfl rfl (vp_in_nI (show 201 + 9 * i_83 + 6 < 1767 by omega) (by decide)) dX7_net_204 (fun H locs hP2 hD2 hS2 => ?_)
                                      clear hP hD hS
                                      have hPD : PD D A [(Mn, .inl (g 0, 1767, .inl (upd F_118 (nI (201 + 9 * i_83 + 6)).toNatClampNeg (-1)))), (Mr, .inl (g 0, 3, .inl F_33)), (Mh, .inl (g 0, 9, .inl F_49)), (Mm, .inr (7, [.int 0, .ref Mt, .int 0, .int zmax_2, .int zwrx_3, .ref Mrr, .ref Mrh, .ref Mrc, .int (nI rhx_4), .int (nI rcx_5), .ref Mn, .ref Mf, .ref Mr, .ref Mh, .int (nI rhx_4), .int (nI rcx_5), .ref Ma, .ref Mas, .ref Msn, .ref Mac, .ref Mat])), (Mt, .inl (g 0, 160, .inl fmt)), (Mrr, .inl (g 0, 3, .inl frrx_6)), (Mrh, .inl (g 0, 9, .inl frhx_7)), (Mrc, .inl (g 0, 9, .inl frcx_8))] H := ⟨hP2, hD2⟩
                                      have hS := hS2; clear hP2 hD2 hS2; have hP := hPD.1; have hD := hPD.2; clear hPD
                                      rw [nI_clamp (show 201 + 9 * i_83 + 6 < 2 ^ 31 by omega)] at hP hD
                                      have hPD : PD D A [(Mn, .inl (g 0, 1767, .inl (upd F_118 (201 + 9 * i_83 + 6) (-1)))), (Mr, .inl (g 0, 3, .inl F_33)), (Mh, .inl (g 0, 9, .inl F_49)), (Mm, .inr (7, [.int 0, .ref Mt, .int 0, .int zmax_2, .int zwrx_3, .ref Mrr, .ref Mrh, .ref Mrc, .int (nI rhx_4), .int (nI rcx_5), .ref Mn, .ref Mf, .ref Mr, .ref Mh, .int (nI rhx_4), .int (nI rcx_5), .ref Ma, .ref Mas, .ref Msn, .ref Mac, .ref Mat])), (Mt, .inl (g 0, 160, .inl fmt)), (Mrr, .inl (g 0, 3, .inl frrx_6)), (Mrh, .inl (g 0, 9, .inl frhx_7)), (Mrc, .inl (g 0, 9, .inl frcx_8))] H := ⟨hP, hD⟩
                                      clear hP hD; have hP := hPD.1; have hD := hPD.2; clear hPD
                                      have hF_131 : mOK tb ub (upd F_118 (201 + 9 * i_83 + 6) (-1)) := mOK_free hF_118 (show mfree (201 + 9 * i_83 + 6) by unfold mfree; omega)
                                      generalize upd F_118 (201 + 9 * i_83 + 6) (-1) = F_131 at hP hD hF_131
                                      refine lv_iinc (v := (nI (i_83 + 1))) (lv' := [(1, .int (nI (i_83 + 1))), (2, .int (nI i_117)), (0, .ref Mm)]) hx hb dX7_net_205 hl (k := 1) rfl (nI_1 (i_83)) (by decide) rfl (fun ls hl => ?_)
                                      refine lv_goto (tgt := 150) hx hb dX7_net_208 (by decide) ?_
                                      exact loop_110_ih (i_83 + 1) F_131 (hF_131) (show (i_83 + 1) ≤ rcx_5 by omega) (show rcx_5 - (i_83 + 1) < Nloop_110 by omega) _ _ _ hP hD hS (lv_sub hl [0, 2] rfl)
                                    · skip
                                      have cn_132 : i_117 < 3 := Nat.lt_of_not_le (fun q9 => cb_128 ((nI_leI (show 3 < 2 ^ 31 by omega) (show i_117 < 2 ^ 31 by omega)).mpr q9))
                                      refine lv_aload_n hx hb dX7_net_165 rfl (lv_at hl 2 rfl) ?_
                                      refine va_get (D := D) (ci := 7) (v := .ref Mn) (C := RX7) (T := TX7) (N := 21) hx hb hts iX7 hown hK hP 3 rfl rfl 10 (by decide) f22 (fun _ h9 => h9) rfl dX7_net_166 ?_
                                      refine lv_iload_n hx hb dX7_net_169 rfl (lv_at hl 1 rfl) ?_
                                      refine ky_Si (As := [.int (nI i_83)]) (rest := [.ref Mn]) ⟨hx, hb, hml, hown, hts⟩ ⟨hK, hN⟩ hZ hP hD hS hA [] [0, 1, 2, 3, 4, 5, 6, 7] (wc := []) (wr := [(Mn, .inl (g 0, 1767, .inl F_118)), (Mr, .inl (g 0, 3, .inl F_33)), (Mh, .inl (g 0, 9, .inl F_49)), (Mm, .inr (7, [.int 0, .ref Mt, .int 0, .int zmax_2, .int zwrx_3, .ref Mrr, .ref Mrh, .ref Mrc, .int (nI rhx_4), .int (nI rcx_5), .ref Mn, .ref Mf, .ref Mr, .ref Mh, .int (nI rhx_4), .int (nI rcx_5), .ref Ma, .ref Mas, .ref Msn, .ref Mac, .ref Mat])), (Mt, .inl (g 0, 160, .inl fmt)), (Mrr, .inl (g 0, 3, .inl frrx_6)), (Mrh, .inl (g 0, 9, .inl frhx_7)), (Mrc, .inl (g 0, 9, .inl frcx_8))]) rfl rfl rfl rfl (by decide) (k_X7_circuitAt l D g H.size i_83 (show i_83 < 3 by omega)) (va_cwS 1 hts gX7_net_X7_circuitAt rfl rfl rfl (by decide +kernel) ⟨(Nat.le_of_ble_eq_true rfl), (Nat.le_of_ble_eq_true rfl)⟩) rfl hl.1 rfl (Nat.le_of_ble_eq_true rfl) dX7_net_170 ⟨(Nat.le_of_ble_eq_true rfl), (Nat.le_of_ble_eq_true rfl)⟩ (fun r_133 u H locs hw hP2 hD2 hS2 => ?_)
                                      clear hP hD hS
                                      obtain ⟨rfl, rfl⟩ := hw
                                      have hPD : PD D A [(Mn, .inl (g 0, 1767, .inl F_118)), (Mr, .inl (g 0, 3, .inl F_33)), (Mh, .inl (g 0, 9, .inl F_49)), (Mm, .inr (7, [.int 0, .ref Mt, .int 0, .int zmax_2, .int zwrx_3, .ref Mrr, .ref Mrh, .ref Mrc, .int (nI rhx_4), .int (nI rcx_5), .ref Mn, .ref Mf, .ref Mr, .ref Mh, .int (nI rhx_4), .int (nI rcx_5), .ref Ma, .ref Mas, .ref Msn, .ref Mac, .ref Mat])), (Mt, .inl (g 0, 160, .inl fmt)), (Mrr, .inl (g 0, 3, .inl frrx_6)), (Mrh, .inl (g 0, 9, .inl frhx_7)), (Mrc, .inl (g 0, 9, .inl frcx_8))] H := ⟨hP2, hD2⟩
                                      have hS := hS2; clear hP2 hD2 hS2; have hP := hPD.1; have hD := hPD.2; clear hPD
                                      refine W.widen (k := 0) (n := 0) (Nat.le_of_ble_eq_true rfl) (Nat.le_of_ble_eq_true rfl) ?_
                                      refine lv_iload_n hx hb dX7_net_173 rfl (lv_at hl 0 rfl) ?_
                                      refine lv_iadd hx hb dX7_net_174 ?_
                                      refine lv_eqi (y := (nI (201 + 9 * i_83 + i_117))) (nI_add (201 + 9 * i_83) (i_117)) ?_
                                      refine lv_aload_n hx hb dX7_net_175 rfl (lv_at hl 2 rfl) ?_
                                      refine va_get (D := D) (ci := 7) (v := .ref Mrc) (C := RX7) (T := TX7) (N := 21) hx hb hts iX7 hown hK hP 3 rfl rfl 7 (by decide) f19 (fun _ h9 => h9) rfl dX7_net_176 ?_
                                      refine lv_iconst (v := 3) hx hb dX7_net_179 (by decide) ?_
                                      refine lv_iload_n hx hb dX7_net_180 rfl (lv_at hl 1 rfl) ?_
                                      refine lv_imul hx hb dX7_net_181 ?_
                                      refine lv_eqi (y := (nI (3 * i_83))) (pk_mul (3) (i_83)) ?_
                                      refine lv_iload_n hx hb dX7_net_182 rfl (lv_at hl 0 rfl) ?_
                                      refine lv_iadd hx hb dX7_net_183 ?_
                                      refine lv_eqi (y := (nI (3 * i_83 + i_117))) (nI_add (3 * i_83) (i_117)) ?_
                                      refine va_iald hx hb hK hP 7 0 rfl rfl (vp_in_nI (show 3 * i_83 + i_117 < 9 by omega) (by decide)) dX7_net_184 ?_
                                      refine lv_eqi (y := (frcx_8 (3 * i_83 + i_117))) (congrArg frcx_8 (nI_clamp (show 3 * i_83 + i_117 < 2 ^ 31 by omega))) ?_
                                      obtain ⟨n_134, hn_134, q9⟩ := hf_11 (3 * i_83 + i_117)
                                      refine lv_eqi (y := nI n_134) q9 ?_
                                      refine va_iast hx hb hK hP hD hS 0 0 rfl rfl (vp_in_nI (show 201 + 9 * i_83 + i_117 < 1767 by omega) (by decide)) dX7_net_185 (fun H locs hP2 hD2 hS2 => ?_)
                                      clear hP hD hS
                                      have hPD : PD D A [(Mn, .inl (g 0, 1767, .inl (upd F_118 (nI (201 + 9 * i_83 + i_117)).toNatClampNeg (nI n_134)))), (Mr, .inl (g 0, 3, .inl F_33)), (Mh, .inl (g 0, 9, .inl F_49)), (Mm, .inr (7, [.int 0, .ref Mt, .int 0, .int zmax_2, .int zwrx_3, .ref Mrr, .ref Mrh, .ref Mrc, .int (nI rhx_4), .int (nI rcx_5), .ref Mn, .ref Mf, .ref Mr, .ref Mh, .int (nI rhx_4), .int (nI rcx_5), .ref Ma, .ref Mas, .ref Msn, .ref Mac, .ref Mat])), (Mt, .inl (g 0, 160, .inl fmt)), (Mrr, .inl (g 0, 3, .inl frrx_6)), (Mrh, .inl (g 0, 9, .inl frhx_7)), (Mrc, .inl (g 0, 9, .inl frcx_8))] H := ⟨hP2, hD2⟩
                                      have hS := hS2; clear hP2 hD2 hS2; have hP := hPD.1; have hD := hPD.2; clear hPD
                                      rw [nI_clamp (show 201 + 9 * i_83 + i_117 < 2 ^ 31 by omega)] at hP hD
                                      have hPD : PD D A [(Mn, .inl (g 0, 1767, .inl (upd F_118 (201 + 9 * i_83 + i_117) (nI n_134)))), (Mr, .inl (g 0, 3, .inl F_33)), (Mh, .inl (g 0, 9, .inl F_49)), (Mm, .inr (7, [.int 0, .ref Mt, .int 0, .int zmax_2, .int zwrx_3, .ref Mrr, .ref Mrh, .ref Mrc, .int (nI rhx_4), .int (nI rcx_5), .ref Mn, .ref Mf, .ref Mr, .ref Mh, .int (nI rhx_4), .int (nI rcx_5), .ref Ma, .ref Mas, .ref Msn, .ref Mac, .ref Mat])), (Mt, .inl (g 0, 160, .inl fmt)), (Mrr, .inl (g 0, 3, .inl frrx_6)), (Mrh, .inl (g 0, 9, .inl frhx_7)), (Mrc, .inl (g 0, 9, .inl frcx_8))] H := ⟨hP, hD⟩
                                      clear hP hD; have hP := hPD.1; have hD := hPD.2; clear hPD
                                      have hF_135 : mOK tb ub (upd F_118 (201 + 9 * i_83 + i_117) (nI n_134)) := mOK_free hF_118 (show mfree (201 + 9 * i_83 + i_117) by unfold mfree; omega)
                                      generalize upd F_118 (201 + 9 * i_83 + i_117) (nI n_134) = F_135 at hP hD hF_135
                                      refine lv_iinc (v := (nI (i_117 + 1))) (lv' := [(2, .int (nI (i_117 + 1))), (1, .int (nI i_83)), (0, .ref Mm)]) hx hb dX7_net_186 hl (k := 0) rfl (nI_1 (i_117)) (by decide) rfl (fun ls hl => ?_)
                                      refine lv_goto (tgt := 160) hx hb dX7_net_189 (by decide) ?_
                                      exact loop_127_ih (i_117 + 1) F_135 (hF_135) (show (i_117 + 1) ≤ 3 by omega) (show 3 - (i_117 + 1) < Nloop_127 by omega) _ _ _ hP hD hS hl
                                exact loop_127 _ 0 F_84 (hF_84) (show 0 ≤ 3 by omega) (Nat.lt_succ_self _) _ _ _ hP hD hS hl
                          exact loop_110 _ 0 F_48 (hF_48) (show 0 ≤ rcx_5 by omega) (Nat.lt_succ_self _) _ _ _ hP hD hS hl
                        · skip
                          have cn_136 : i_47 < rhx_4 := Nat.lt_of_not_le (fun q9 => cb_59 ((nI_leI (show rhx_4 < 2 ^ 31 by omega) (show i_47 < 2 ^ 31 by omega)).mpr q9))
                          refine lv_aload_n hx hb dX7_net_137 rfl (lv_at hl 1 rfl) ?_
                          refine lv_iload_n hx hb dX7_net_138 rfl (lv_at hl 0 rfl) ?_
                          refine ky_Vv (As := [.int (nI i_47)]) (rest := []) ⟨hx, hb, hml, hown, hts⟩ ⟨hK, hN⟩ hZ hP hD hS hA [3, 0, 2, 1, 6] [4, 5, 7] (wc := [(Mm, .inr (7, [.int 0, .ref Mt, .int 0, .int zmax_2, .int zwrx_3, .ref Mrr, .ref Mrh, .ref Mrc, .int (nI rhx_4), .int (nI rcx_5), .ref Mn, .ref Mf, .ref Mr, .ref Mh, .int (nI rhx_4), .int (nI rcx_5), .ref Ma, .ref Mas, .ref Msn, .ref Mac, .ref Mat])), (Mn, .inl (g 0, 1767, .inl F_48)), (Mh, .inl (g 0, 9, .inl F_49)), (Mr, .inl (g 0, 3, .inl F_33)), (Mrh, .inl (g 0, 9, .inl frhx_7))]) (wr := [(Mt, .inl (g 0, 160, .inl fmt)), (Mrr, .inl (g 0, 3, .inl frrx_6)), (Mrc, .inl (g 0, 9, .inl frcx_8))]) rfl rfl rfl rfl (by decide) (k_X7_laysHop l D g H.size Mm i_47 0 Mt 0 zmax_2 zwrx_3 Mrr Mrh Mrc (nI rhx_4) (nI rcx_5) Mn Mf Mr Mh rhx_4 rcx_5 Ma Mas Msn Mac Mat F_48 F_49 F_33 frhx_7 (show tb < 2 ^ 29 by omega) (show ub < 2 ^ 29 by omega) (hF_48) (show 1 ≤ rhx_4 by omega) (show rhx_4 ≤ 3 by omega) (show 1 ≤ rcx_5 by omega) (show rcx_5 ≤ 3 by omega) (show i_47 < 3 by omega) (hF_49) (hf_10) (hF_33)) (cwV 1 hts gX7_net_X7_laysHop rfl rfl rfl (by decide +kernel) ⟨(Nat.le_of_ble_eq_true rfl), (Nat.le_of_ble_eq_true rfl)⟩) 3 7 rfl rfl rfl rfl hl.1 rfl (Nat.le_of_ble_eq_true rfl) dX7_net_139 ⟨(Nat.le_of_ble_eq_true rfl), (Nat.le_of_ble_eq_true rfl)⟩ (fun u H locs hw hP2 hD2 hS2 => ?_)
                          clear hP hD hS
                          obtain ⟨fnox_138, fmhx_139, rfl, hf_140, hf_141⟩ := hw
                          have hPD : PD D A [(Mt, .inl (g 0, 160, .inl fmt)), (Mrr, .inl (g 0, 3, .inl frrx_6)), (Mrc, .inl (g 0, 9, .inl frcx_8)), (Mm, .inr (7, [.int 0, .ref Mt, .int (nI 0), .int zmax_2, .int zwrx_3, .ref Mrr, .ref Mrh, .ref Mrc, .int (nI rhx_4), .int (nI rcx_5), .ref Mn, .ref Mf, .ref Mr, .ref Mh, .int (nI rhx_4), .int (nI rcx_5), .ref Ma, .ref Mas, .ref Msn, .ref Mac, .ref Mat])), (Mn, .inl (g 0, 1767, .inl fnox_138)), (Mh, .inl (g 0, 9, .inl fmhx_139)), (Mr, .inl (g 0, 3, .inl F_33)), (Mrh, .inl (g 0, 9, .inl frhx_7))] H := ⟨hP2, hD2⟩
                          have hS := hS2; clear hP2 hD2 hS2; have hP := hPD.1; have hD := hPD.2; clear hPD
                          refine W.widen (k := 0) (n := 0) (Nat.le_of_ble_eq_true rfl) (Nat.le_of_ble_eq_true rfl) ?_
                          refine lv_iinc (v := (nI (i_47 + 1))) (lv' := [(1, .int (nI (i_47 + 1))), (0, .ref Mm)]) hx hb dX7_net_142 hl (k := 0) rfl (nI_1 (i_47)) (by decide) rfl (fun ls hl => ?_)
                          refine lv_goto (tgt := 129) hx hb dX7_net_145 (by decide) ?_
                          exact loop_58_ih (i_47 + 1) fnox_138 fmhx_139 (hf_140) (hf_141) (show (i_47 + 1) ≤ rhx_4 by omega) (show rhx_4 - (i_47 + 1) < Nloop_58 by omega) _ _ _ (hP.sub [4, 6, 5, 3, 0, 1, 7, 2] rfl) (hD.sub [4, 6, 5, 3, 0, 1, 7, 2] (by decide) rfl) hS hl
                    exact loop_58 _ 0 F_22 fmh (hF_22) (h8) (show 0 ≤ rhx_4 by omega) (Nat.lt_succ_self _) _ _ _ hP hD hS hl
                  · skip
                    have cn_142 : i_32 < 3 := Nat.lt_of_not_le (fun q9 => cb_40 ((nI_leI (show 3 < 2 ^ 31 by omega) (show i_32 < 2 ^ 31 by omega)).mpr q9))
                    refine lv_aload_n hx hb dX7_net_109 rfl (lv_at hl 1 rfl) ?_
                    refine va_get (D := D) (ci := 7) (v := .ref Mr) (C := RX7) (T := TX7) (N := 21) hx hb hts iX7 hown hK hP 3 rfl rfl 12 (by decide) f28 (fun _ h9 => h9) rfl dX7_net_110 ?_
                    refine lv_iload_n hx hb dX7_net_113 rfl (lv_at hl 0 rfl) ?_
                    refine lv_aload_n hx hb dX7_net_114 rfl (lv_at hl 1 rfl) ?_
                    refine va_get (D := D) (ci := 7) (v := .ref Mrr) (C := RX7) (T := TX7) (N := 21) hx hb hts iX7 hown hK hP 3 rfl rfl 5 (by decide) f13 (fun _ h9 => h9) rfl dX7_net_115 ?_
                    refine lv_iload_n hx hb dX7_net_118 rfl (lv_at hl 0 rfl) ?_
                    refine va_iald hx hb hK hP 5 0 rfl rfl (vp_in_nI (show i_32 < 3 by omega) (by decide)) dX7_net_119 ?_
                    refine lv_eqi (y := (frrx_6 (i_32))) (congrArg frrx_6 (nI_clamp (show i_32 < 2 ^ 31 by omega))) ?_
                    obtain ⟨n_143, hn_143, q9⟩ := hf_9 (i_32)
                    refine lv_eqi (y := nI n_143) q9 ?_
                    refine va_iast hx hb hK hP hD hS 1 0 rfl rfl (vp_in_nI (show i_32 < 3 by omega) (by decide)) dX7_net_120 (fun H locs hP2 hD2 hS2 => ?_)
                    clear hP hD hS
                    have hPD : PD D A [(Mn, .inl (g 0, 1767, .inl F_22)), (Mr, .inl (g 0, 3, .inl (upd F_33 (nI i_32).toNatClampNeg (nI n_143)))), (Mh, .inl (g 0, 9, .inl fmh)), (Mm, .inr (7, [.int 0, .ref Mt, .int 0, .int zmax_2, .int zwrx_3, .ref Mrr, .ref Mrh, .ref Mrc, .int (nI rhx_4), .int (nI rcx_5), .ref Mn, .ref Mf, .ref Mr, .ref Mh, .int (nI rhx_4), .int (nI rcx_5), .ref Ma, .ref Mas, .ref Msn, .ref Mac, .ref Mat])), (Mt, .inl (g 0, 160, .inl fmt)), (Mrr, .inl (g 0, 3, .inl frrx_6)), (Mrh, .inl (g 0, 9, .inl frhx_7)), (Mrc, .inl (g 0, 9, .inl frcx_8))] H := ⟨hP2, hD2⟩
                    have hS := hS2; clear hP2 hD2 hS2; have hP := hPD.1; have hD := hPD.2; clear hPD
                    rw [nI_clamp (show i_32 < 2 ^ 31 by omega)] at hP hD
                    have hPD : PD D A [(Mn, .inl (g 0, 1767, .inl F_22)), (Mr, .inl (g 0, 3, .inl (upd F_33 (i_32) (nI n_143)))), (Mh, .inl (g 0, 9, .inl fmh)), (Mm, .inr (7, [.int 0, .ref Mt, .int 0, .int zmax_2, .int zwrx_3, .ref Mrr, .ref Mrh, .ref Mrc, .int (nI rhx_4), .int (nI rcx_5), .ref Mn, .ref Mf, .ref Mr, .ref Mh, .int (nI rhx_4), .int (nI rcx_5), .ref Ma, .ref Mas, .ref Msn, .ref Mac, .ref Mat])), (Mt, .inl (g 0, 160, .inl fmt)), (Mrr, .inl (g 0, 3, .inl frrx_6)), (Mrh, .inl (g 0, 9, .inl frhx_7)), (Mrc, .inl (g 0, 9, .inl frcx_8))] H := ⟨hP, hD⟩
                    clear hP hD; have hP := hPD.1; have hD := hPD.2; clear hPD
                    have hF_144 : n1 (upd F_33 (i_32) (nI n_143)) := n1_upd (hF_33) (n := n_143) (show n_143 ≤ 99 by omega)
                    generalize upd F_33 (i_32) (nI n_143) = F_144 at hP hD hF_144
                    refine lv_iinc (v := (nI (i_32 + 1))) (lv' := [(1, .int (nI (i_32 + 1))), (0, .ref Mm)]) hx hb dX7_net_121 hl (k := 0) rfl (nI_1 (i_32)) (by decide) rfl (fun ls hl => ?_)
                    refine lv_goto (tgt := 104) hx hb dX7_net_124 (by decide) ?_
                    exact loop_39_ih (i_32 + 1) F_144 (hF_144) (show (i_32 + 1) ≤ 3 by omega) (show 3 - (i_32 + 1) < Nloop_39 by omega) _ _ _ hP hD hS hl
              exact loop_39 _ 0 fmr (h7) (show 0 ≤ 3 by omega) (Nat.lt_succ_self _) _ _ _ hP hD hS hl
            · skip
              have cn_145 : i_21 < 1767 := Nat.lt_of_not_le (fun q9 => cb_28 ((nI_leI (show 1767 < 2 ^ 31 by omega) (show i_21 < 2 ^ 31 by omega)).mpr q9))
              refine lv_aload_n hx hb dX7_net_89 rfl (lv_at hl 1 rfl) ?_
              refine va_get (D := D) (ci := 7) (v := .ref Mn) (C := RX7) (T := TX7) (N := 21) hx hb hts iX7 hown hK hP 3 rfl rfl 10 (by decide) f22 (fun _ h9 => h9) rfl dX7_net_90 ?_
              refine lv_iload_n hx hb dX7_net_93 rfl (lv_at hl 0 rfl) ?_
              refine lv_iconst (v := 0) hx hb dX7_net_94 (by decide) ?_
              refine va_iast hx hb hK hP hD hS 0 0 rfl rfl (vp_in_nI (show i_21 < 1767 by omega) (by decide)) dX7_net_95 (fun H locs hP2 hD2 hS2 => ?_)
              clear hP hD hS
              have hPD : PD D A [(Mn, .inl (g 0, 1767, .inl (upd F_22 (nI i_21).toNatClampNeg 0))), (Mr, .inl (g 0, 3, .inl fmr)), (Mh, .inl (g 0, 9, .inl fmh)), (Mm, .inr (7, [.int 0, .ref Mt, .int 0, .int zmax_2, .int zwrx_3, .ref Mrr, .ref Mrh, .ref Mrc, .int (nI rhx_4), .int (nI rcx_5), .ref Mn, .ref Mf, .ref Mr, .ref Mh, .int (nI rhx_4), .int (nI rcx_5), .ref Ma, .ref Mas, .ref Msn, .ref Mac, .ref Mat])), (Mt, .inl (g 0, 160, .inl fmt)), (Mrr, .inl (g 0, 3, .inl frrx_6)), (Mrh, .inl (g 0, 9, .inl frhx_7)), (Mrc, .inl (g 0, 9, .inl frcx_8))] H := ⟨hP2, hD2⟩
              have hS := hS2; clear hP2 hD2 hS2; have hP := hPD.1; have hD := hPD.2; clear hPD
              rw [nI_clamp (show i_21 < 2 ^ 31 by omega)] at hP hD
              have hPD : PD D A [(Mn, .inl (g 0, 1767, .inl (upd F_22 (i_21) 0))), (Mr, .inl (g 0, 3, .inl fmr)), (Mh, .inl (g 0, 9, .inl fmh)), (Mm, .inr (7, [.int 0, .ref Mt, .int 0, .int zmax_2, .int zwrx_3, .ref Mrr, .ref Mrh, .ref Mrc, .int (nI rhx_4), .int (nI rcx_5), .ref Mn, .ref Mf, .ref Mr, .ref Mh, .int (nI rhx_4), .int (nI rcx_5), .ref Ma, .ref Mas, .ref Msn, .ref Mac, .ref Mat])), (Mt, .inl (g 0, 160, .inl fmt)), (Mrr, .inl (g 0, 3, .inl frrx_6)), (Mrh, .inl (g 0, 9, .inl frhx_7)), (Mrc, .inl (g 0, 9, .inl frcx_8))] H := ⟨hP, hD⟩
              clear hP hD; have hP := hPD.1; have hD := hPD.2; clear hPD
              have hF_146 : mOK tb ub (upd F_22 (i_21) 0) := mOK_zero hF_22
              generalize upd F_22 (i_21) 0 = F_146 at hP hD hF_146
              refine lv_iinc (v := (nI (i_21 + 1))) (lv' := [(1, .int (nI (i_21 + 1))), (0, .ref Mm)]) hx hb dX7_net_96 hl (k := 0) rfl (nI_1 (i_21)) (by decide) rfl (fun ls hl => ?_)
              refine lv_goto (tgt := 82) hx hb dX7_net_99 (by decide) ?_
              exact loop_27_ih (i_21 + 1) F_146 (hF_146) (show (i_21 + 1) ≤ 1767 by omega) (show 1767 - (i_21 + 1) < Nloop_27 by omega) _ _ _ hP hD hS hl
        exact loop_27 _ 0 fno (h6) (show 0 ≤ 1767 by omega) (Nat.lt_succ_self _) _ _ _ hP hD hS hl
      · skip
        have cn_147 : rcx_5 = 0 := (nI_eq (show rcx_5 < 2 ^ 31 by omega) (show 0 < 2 ^ 31 by omega)).mp cb_18
        refine lv_aload_n hx hb dX7_net_49 rfl (lv_at hl 0 rfl) ?_
        refine lv_iconst (v := 2) hx hb dX7_net_50 (by decide) ?_
        refine lv_aload_n hx hb dX7_net_51 rfl (lv_at hl 0 rfl) ?_
        refine va_get (D := D) (ci := 7) (v := .ref Mrc) (C := RX7) (T := TX7) (N := 21) hx hb hts iX7 hown hK hP 3 rfl rfl 7 (by decide) f19 (fun _ h9 => h9) rfl dX7_net_52 ?_
        refine lv_iconst (v := 0) hx hb dX7_net_55 (by decide) ?_
        refine ky_Vv (As := [.int 2, .ref Mrc, .int 0]) (rest := []) ⟨hx, hb, hml, hown, hts⟩ ⟨hK, hN⟩ hZ hP hD hS hA [3, 7] [0, 1, 2, 4, 5, 6] (wc := [(Mm, .inr (7, [.int 0, .ref Mt, .int 0, .int zmax_2, .int zwrx_3, .ref Mrr, .ref Mrh, .ref Mrc, .int (nI rhx_4), .int (nI rcx_5), .ref Mn, .ref Mf, .ref Mr, .ref Mh, .int (nI hp), .int (nI cc), .ref Ma, .ref Mas, .ref Msn, .ref Mac, .ref Mat])), (Mrc, .inl (g 0, 9, .inl frcx_8))]) (wr := [(Mn, .inl (g 0, 1767, .inl fno)), (Mr, .inl (g 0, 3, .inl fmr)), (Mh, .inl (g 0, 9, .inl fmh)), (Mt, .inl (g 0, 160, .inl fmt)), (Mrr, .inl (g 0, 3, .inl frrx_6)), (Mrh, .inl (g 0, 9, .inl frhx_7))]) rfl rfl rfl rfl (by decide) (k_X7_laysUsual_2 l D g H.size Mm Mrc 0 0 Mt 0 zmax_2 zwrx_3 Mrr Mrh (nI rhx_4) (nI rcx_5) Mn Mf Mr Mh (nI hp) (nI cc) Ma Mas Msn Mac Mat frcx_8 (show 0 ≤ 6 by omega) (hf_11)) (cwV 3 hts gX7_net_X7_laysUsual rfl rfl rfl (by decide +kernel) ⟨(Nat.le_of_ble_eq_true rfl), (Nat.le_of_ble_eq_true rfl)⟩) 3 7 rfl rfl rfl rfl hl.1 rfl (Nat.le_of_ble_eq_true rfl) dX7_net_56 ⟨(Nat.le_of_ble_eq_true rfl), (Nat.le_of_ble_eq_true rfl)⟩ (fun u H locs hw hP2 hD2 hS2 => ?_)
        clear hP hD hS
        obtain ⟨frcx_149, rfl, hf_150⟩ := hw
        have hPD : PD D A [(Mn, .inl (g 0, 1767, .inl fno)), (Mr, .inl (g 0, 3, .inl fmr)), (Mh, .inl (g 0, 9, .inl fmh)), (Mt, .inl (g 0, 160, .inl fmt)), (Mrr, .inl (g 0, 3, .inl frrx_6)), (Mrh, .inl (g 0, 9, .inl frhx_7)), (Mm, .inr (7, [.int 0, .ref Mt, .int 0, .int zmax_2, .int zwrx_3, .ref Mrr, .ref Mrh, .ref Mrc, .int (nI rhx_4), .int (nI rcx_5), .ref Mn, .ref Mf, .ref Mr, .ref Mh, .int (nI hp), .int (nI cc), .ref Ma, .ref Mas, .ref Msn, .ref Mac, .ref Mat])), (Mrc, .inl (g 0, 9, .inl frcx_149))] H := ⟨hP2, hD2⟩
        have hS := hS2; clear hP2 hD2 hS2; have hP := hPD.1; have hD := hPD.2; clear hPD
        refine W.widen (k := 0) (n := 0) (Nat.le_of_ble_eq_true rfl) (Nat.le_of_ble_eq_true rfl) ?_
        refine lv_aload_n hx hb dX7_net_59 rfl (lv_at hl 0 rfl) ?_
        refine lv_iconst (v := 1) hx hb dX7_net_60 (by decide) ?_
        refine va_put (D := D) (ci := 7) (v := .int 1) (ty := .int) (C := RX7) (T := TX7) (N := 21) hx hb hts iX7 tyX7 tyX7_ok nmX7 hown hK hP hD hS 6 rfl rfl 9 (by decide) f114 (fun _ h9 => h9) rfl (by decide +kernel) (rfl) (rfl) (Nat.le_of_ble_eq_true rfl) dX7_net_61 (fun H locs hP2 hD2 hS2 => ?_)
        clear hP hD hS
        have hPD : PD D A [(Mn, .inl (g 0, 1767, .inl fno)), (Mr, .inl (g 0, 3, .inl fmr)), (Mh, .inl (g 0, 9, .inl fmh)), (Mt, .inl (g 0, 160, .inl fmt)), (Mrr, .inl (g 0, 3, .inl frrx_6)), (Mrh, .inl (g 0, 9, .inl frhx_7)), (Mm, .inr (7, [.int 0, .ref Mt, .int 0, .int zmax_2, .int zwrx_3, .ref Mrr, .ref Mrh, .ref Mrc, .int (nI rhx_4), .int 1, .ref Mn, .ref Mf, .ref Mr, .ref Mh, .int (nI hp), .int (nI cc), .ref Ma, .ref Mas, .ref Msn, .ref Mac, .ref Mat])), (Mrc, .inl (g 0, 9, .inl frcx_149))] H := ⟨hP2, hD2⟩
        have hS := hS2; clear hP2 hD2 hS2; have hP := hPD.1; have hD := hPD.2; clear hPD
        refine lv_aload_n hx hb dX7_net_64 rfl (lv_at hl 0 rfl) ?_
        refine lv_aload_n hx hb dX7_net_65 rfl (lv_at hl 0 rfl) ?_
        refine va_get (D := D) (ci := 7) (v := .int (nI rhx_4)) (C := RX7) (T := TX7) (N := 21) hx hb hts iX7 hown hK hP 6 rfl rfl 8 (by decide) f111 (fun _ h9 => h9) rfl dX7_net_66 ?_
        refine va_put (D := D) (ci := 7) (v := .int (nI rhx_4)) (ty := .int) (C := RX7) (T := TX7) (N := 21) hx hb hts iX7 tyX7 tyX7_ok nmX7 hown hK hP hD hS 6 rfl rfl 14 (by decide) f124 (fun _ h9 => h9) rfl (by decide +kernel) (rfl) (rfl) (Nat.le_of_ble_eq_true rfl) dX7_net_69 (fun H locs hP2 hD2 hS2 => ?_)
        clear hP hD hS
        have hPD : PD D A [(Mn, .inl (g 0, 1767, .inl fno)), (Mr, .inl (g 0, 3, .inl fmr)), (Mh, .inl (g 0, 9, .inl fmh)), (Mt, .inl (g 0, 160, .inl fmt)), (Mrr, .inl (g 0, 3, .inl frrx_6)), (Mrh, .inl (g 0, 9, .inl frhx_7)), (Mm, .inr (7, [.int 0, .ref Mt, .int 0, .int zmax_2, .int zwrx_3, .ref Mrr, .ref Mrh, .ref Mrc, .int (nI rhx_4), .int 1, .ref Mn, .ref Mf, .ref Mr, .ref Mh, .int (nI rhx_4), .int (nI cc), .ref Ma, .ref Mas, .ref Msn, .ref Mac, .ref Mat])), (Mrc, .inl (g 0, 9, .inl frcx_149))] H := ⟨hP2, hD2⟩
        have hS := hS2; clear hP2 hD2 hS2; have hP := hPD.1; have hD := hPD.2; clear hPD
        refine lv_aload_n hx hb dX7_net_72 rfl (lv_at hl 0 rfl) ?_
        refine lv_aload_n hx hb dX7_net_73 rfl (lv_at hl 0 rfl) ?_
        refine va_get (D := D) (ci := 7) (v := .int 1) (C := RX7) (T := TX7) (N := 21) hx hb hts iX7 hown hK hP 6 rfl rfl 9 (by decide) f114 (fun _ h9 => h9) rfl dX7_net_74 ?_
        refine va_put (D := D) (ci := 7) (v := .int 1) (ty := .int) (C := RX7) (T := TX7) (N := 21) hx hb hts iX7 tyX7 tyX7_ok nmX7 hown hK hP hD hS 6 rfl rfl 15 (by decide) f127 (fun _ h9 => h9) rfl (by decide +kernel) (rfl) (rfl) (Nat.le_of_ble_eq_true rfl) dX7_net_77 (fun H locs hP2 hD2 hS2 => ?_)
        clear hP hD hS
        have hPD : PD D A [(Mn, .inl (g 0, 1767, .inl fno)), (Mr, .inl (g 0, 3, .inl fmr)), (Mh, .inl (g 0, 9, .inl fmh)), (Mt, .inl (g 0, 160, .inl fmt)), (Mrr, .inl (g 0, 3, .inl frrx_6)), (Mrh, .inl (g 0, 9, .inl frhx_7)), (Mm, .inr (7, [.int 0, .ref Mt, .int 0, .int zmax_2, .int zwrx_3, .ref Mrr, .ref Mrh, .ref Mrc, .int (nI rhx_4), .int 1, .ref Mn, .ref Mf, .ref Mr, .ref Mh, .int (nI rhx_4), .int 1, .ref Ma, .ref Mas, .ref Msn, .ref Mac, .ref Mat])), (Mrc, .inl (g 0, 9, .inl frcx_149))] H := ⟨hP2, hD2⟩
        have hS := hS2; clear hP2 hD2 hS2; have hP := hPD.1; have hD := hPD.2; clear hPD
        refine lv_iconst (v := 0) hx hb dX7_net_80 (by decide) ?_
        refine lv_istore_n (lv' := [(1, .int 0), (0, .ref Mm)]) hx hb dX7_net_81 rfl hl (by decide) rfl (fun ls hl => ?_)
        have loop_158 : ∀ (Nloop_158 : Nat) (i_152 : Nat) (F_153 : Nat → Int32) (hF_153 : mOK tb ub F_153) (hbi_152 : i_152 ≤ 1767) (hmloop_158 : 1767 - i_152 < Nloop_158) (H : Heap) (locs : List Loc) (ls : Array Slot), va_P D vwCl [(Mn, .inl (g 0, 1767, .inl F_153)), (Mr, .inl (g 0, 3, .inl fmr)), (Mh, .inl (g 0, 9, .inl fmh)), (Mt, .inl (g 0, 160, .inl fmt)), (Mrr, .inl (g 0, 3, .inl frrx_6)), (Mrh, .inl (g 0, 9, .inl frhx_7)), (Mm, .inr (7, [.int 0, .ref Mt, .int 0, .int zmax_2, .int zwrx_3, .ref Mrr, .ref Mrh, .ref Mrc, .int (nI rhx_4), .int 1, .ref Mn, .ref Mf, .ref Mr, .ref Mh, .int (nI rhx_4), .int 1, .ref Ma, .ref Mas, .ref Msn, .ref Mac, .ref Mat])), (Mrc, .inl (g 0, 9, .inl frcx_149))] H → va_D A [(Mn, .inl (g 0, 1767, .inl F_153)), (Mr, .inl (g 0, 3, .inl fmr)), (Mh, .inl (g 0, 9, .inl fmh)), (Mt, .inl (g 0, 160, .inl fmt)), (Mrr, .inl (g 0, 3, .inl frrx_6)), (Mrh, .inl (g 0, 9, .inl frhx_7)), (Mm, .inr (7, [.int 0, .ref Mt, .int 0, .int zmax_2, .int zwrx_3, .ref Mrr, .ref Mrh, .ref Mrc, .int (nI rhx_4), .int 1, .ref Mn, .ref Mf, .ref Mr, .ref Mh, .int (nI rhx_4), .int 1, .ref Ma, .ref Mas, .ref Msn, .ref Mac, .ref Mat])), (Mrc, .inl (g 0, 9, .inl frcx_149))] → va_S A s.heap H locs → lv_has ls 3 [(1, .int (nI i_152)), (0, .ref Mm)] → W p l e (headSpec wsX7_net ({ frames := 6, cells := 0, slots := 0, locals := 133 })).room s m ([.ref Mm] : List Value).toArray below meth c H locs 0 0 Q (F0 m 82 ls []) := by
          clear hP hD hS hl
          intro Nloop_158
          induction Nloop_158 with
          | zero => intro i_152 F_153 hF_153 hbi_152 hm9; exact absurd hm9 (Nat.not_lt_zero _)
          | succ Nloop_158 loop_158_ih =>
            intro i_152 F_153 hF_153 hbi_152 hmloop_158 H locs ls hP hD hS hl
            refine lv_iload_n hx hb dX7_net_82 rfl (lv_at hl 0 rfl) ?_
            refine lv_sipush (v := 1767) hx hb dX7_net_83 (by decide) ?_
            refine lv_icmp_ge (tgt := 102) hx hb dX7_net_86 (by decide) (fun cb_159 => ?_) (fun cb_159 => ?_)
            · skip
              have cn_160 : 1767 ≤ i_152 := (nI_leI (show 1767 < 2 ^ 31 by omega) (show i_152 < 2 ^ 31 by omega)).mp cb_159
              refine lv_iconst (v := 0) hx hb dX7_net_102 (by decide) ?_
              refine lv_istore_n (lv' := [(1, .int 0), (0, .ref Mm)]) hx hb dX7_net_103 rfl hl (by decide) rfl (fun ls hl => ?_)
              have loop_170 : ∀ (Nloop_170 : Nat) (i_163 : Nat) (F_164 : Nat → Int32) (hF_164 : n1 F_164) (hbi_163 : i_163 ≤ 3) (hmloop_170 : 3 - i_163 < Nloop_170) (H : Heap) (locs : List Loc) (ls : Array Slot), va_P D vwCl [(Mn, .inl (g 0, 1767, .inl F_153)), (Mr, .inl (g 0, 3, .inl F_164)), (Mh, .inl (g 0, 9, .inl fmh)), (Mt, .inl (g 0, 160, .inl fmt)), (Mrr, .inl (g 0, 3, .inl frrx_6)), (Mrh, .inl (g 0, 9, .inl frhx_7)), (Mm, .inr (7, [.int 0, .ref Mt, .int 0, .int zmax_2, .int zwrx_3, .ref Mrr, .ref Mrh, .ref Mrc, .int (nI rhx_4), .int 1, .ref Mn, .ref Mf, .ref Mr, .ref Mh, .int (nI rhx_4), .int 1, .ref Ma, .ref Mas, .ref Msn, .ref Mac, .ref Mat])), (Mrc, .inl (g 0, 9, .inl frcx_149))] H → va_D A [(Mn, .inl (g 0, 1767, .inl F_153)), (Mr, .inl (g 0, 3, .inl F_164)), (Mh, .inl (g 0, 9, .inl fmh)), (Mt, .inl (g 0, 160, .inl fmt)), (Mrr, .inl (g 0, 3, .inl frrx_6)), (Mrh, .inl (g 0, 9, .inl frhx_7)), (Mm, .inr (7, [.int 0, .ref Mt, .int 0, .int zmax_2, .int zwrx_3, .ref Mrr, .ref Mrh, .ref Mrc, .int (nI rhx_4), .int 1, .ref Mn, .ref Mf, .ref Mr, .ref Mh, .int (nI rhx_4), .int 1, .ref Ma, .ref Mas, .ref Msn, .ref Mac, .ref Mat])), (Mrc, .inl (g 0, 9, .inl frcx_149))] → va_S A s.heap H locs → lv_has ls 3 [(1, .int (nI i_163)), (0, .ref Mm)] → W p l e (headSpec wsX7_net ({ frames := 6, cells := 0, slots := 0, locals := 133 })).room s m ([.ref Mm] : List Value).toArray below meth c H locs 0 0 Q (F0 m 104 ls []) := by
                clear hP hD hS hl
                intro Nloop_170
                induction Nloop_170 with
                | zero => intro i_163 F_164 hF_164 hbi_163 hm9; exact absurd hm9 (Nat.not_lt_zero _)
                | succ Nloop_170 loop_170_ih =>
                  intro i_163 F_164 hF_164 hbi_163 hmloop_170 H locs ls hP hD hS hl
                  refine lv_iload_n hx hb dX7_net_104 rfl (lv_at hl 0 rfl) ?_
                  refine lv_iconst (v := 3) hx hb dX7_net_105 (by decide) ?_
                  refine lv_icmp_ge (tgt := 127) hx hb dX7_net_106 (by decide) (fun cb_171 => ?_) (fun cb_171 => ?_)
                  · skip
                    have cn_172 : 3 ≤ i_163 := (nI_leI (show 3 < 2 ^ 31 by omega) (show i_163 < 2 ^ 31 by omega)).mp cb_171
                    refine lv_iconst (v := 0) hx hb dX7_net_127 (by decide) ?_
                    refine lv_istore_n (lv' := [(1, .int 0), (0, .ref Mm)]) hx hb dX7_net_128 rfl hl (by decide) rfl (fun ls hl => ?_)
                    have loop_189 : ∀ (Nloop_189 : Nat) (i_178 : Nat) (F_179 : Nat → Int32) (F_180 : Nat → Int32) (hF_179 : mOK tb ub F_179) (hF_180 : n3 F_180) (hbi_178 : i_178 ≤ rhx_4) (hmloop_189 : rhx_4 - i_178 < Nloop_189) (H : Heap) (locs : List Loc) (ls : Array Slot), va_P D vwCl [(Mn, .inl (g 0, 1767, .inl F_179)), (Mr, .inl (g 0, 3, .inl F_164)), (Mh, .inl (g 0, 9, .inl F_180)), (Mt, .inl (g 0, 160, .inl fmt)), (Mrr, .inl (g 0, 3, .inl frrx_6)), (Mrh, .inl (g 0, 9, .inl frhx_7)), (Mm, .inr (7, [.int 0, .ref Mt, .int 0, .int zmax_2, .int zwrx_3, .ref Mrr, .ref Mrh, .ref Mrc, .int (nI rhx_4), .int 1, .ref Mn, .ref Mf, .ref Mr, .ref Mh, .int (nI rhx_4), .int 1, .ref Ma, .ref Mas, .ref Msn, .ref Mac, .ref Mat])), (Mrc, .inl (g 0, 9, .inl frcx_149))] H → va_D A [(Mn, .inl (g 0, 1767, .inl F_179)), (Mr, .inl (g 0, 3, .inl F_164)), (Mh, .inl (g 0, 9, .inl F_180)), (Mt, .inl (g 0, 160, .inl fmt)), (Mrr, .inl (g 0, 3, .inl frrx_6)), (Mrh, .inl (g 0, 9, .inl frhx_7)), (Mm, .inr (7, [.int 0, .ref Mt, .int 0, .int zmax_2, .int zwrx_3, .ref Mrr, .ref Mrh, .ref Mrc, .int (nI rhx_4), .int 1, .ref Mn, .ref Mf, .ref Mr, .ref Mh, .int (nI rhx_4), .int 1, .ref Ma, .ref Mas, .ref Msn, .ref Mac, .ref Mat])), (Mrc, .inl (g 0, 9, .inl frcx_149))] → va_S A s.heap H locs → lv_has ls 3 [(1, .int (nI i_178)), (0, .ref Mm)] → W p l e (headSpec wsX7_net ({ frames := 6, cells := 0, slots := 0, locals := 133 })).room s m ([.ref Mm] : List Value).toArray below meth c H locs 0 0 Q (F0 m 129 ls []) := by
                      clear hP hD hS hl
                      intro Nloop_189
                      induction Nloop_189 with
                      | zero => intro i_178 F_179 F_180 hF_179 hF_180 hbi_178 hm9; exact absurd hm9 (Nat.not_lt_zero _)
                      | succ Nloop_189 loop_189_ih =>
                        intro i_178 F_179 F_180 hF_179 hF_180 hbi_178 hmloop_189 H locs ls hP hD hS hl
                        refine lv_iload_n hx hb dX7_net_129 rfl (lv_at hl 0 rfl) ?_
                        refine lv_aload_n hx hb dX7_net_130 rfl (lv_at hl 1 rfl) ?_
                        refine va_get (D := D) (ci := 7) (v := .int (nI rhx_4)) (C := RX7) (T := TX7) (N := 21) hx hb hts iX7 hown hK hP 6 rfl rfl 14 (by decide) f124 (fun _ h9 => h9) rfl dX7_net_131 ?_
                        refine lv_icmp_ge (tgt := 148) hx hb dX7_net_134 (by decide) (fun cb_190 => ?_) (fun cb_190 => ?_)
                        · skip
                          have cn_191 : rhx_4 ≤ i_178 := (nI_leI (show rhx_4 < 2 ^ 31 by omega) (show i_178 < 2 ^ 31 by omega)).mp cb_190
                          refine lv_iconst (v := 0) hx hb dX7_net_148 (by decide) ?_
                          refine lv_istore_n (lv' := [(1, .int 0), (0, .ref Mm)]) hx hb dX7_net_149 rfl hl (by decide) rfl (fun ls hl => ?_)
                          have loop_241 : ∀ (Nloop_241 : Nat) (i_214 : Nat) (F_215 : Nat → Int32) (hF_215 : mOK tb ub F_215) (hbi_214 : i_214 ≤ 1) (hmloop_241 : 1 - i_214 < Nloop_241) (H : Heap) (locs : List Loc) (ls : Array Slot), va_P D vwCl [(Mn, .inl (g 0, 1767, .inl F_215)), (Mr, .inl (g 0, 3, .inl F_164)), (Mh, .inl (g 0, 9, .inl F_180)), (Mt, .inl (g 0, 160, .inl fmt)), (Mrr, .inl (g 0, 3, .inl frrx_6)), (Mrh, .inl (g 0, 9, .inl frhx_7)), (Mm, .inr (7, [.int 0, .ref Mt, .int 0, .int zmax_2, .int zwrx_3, .ref Mrr, .ref Mrh, .ref Mrc, .int (nI rhx_4), .int 1, .ref Mn, .ref Mf, .ref Mr, .ref Mh, .int (nI rhx_4), .int 1, .ref Ma, .ref Mas, .ref Msn, .ref Mac, .ref Mat])), (Mrc, .inl (g 0, 9, .inl frcx_149))] H → va_D A [(Mn, .inl (g 0, 1767, .inl F_215)), (Mr, .inl (g 0, 3, .inl F_164)), (Mh, .inl (g 0, 9, .inl F_180)), (Mt, .inl (g 0, 160, .inl fmt)), (Mrr, .inl (g 0, 3, .inl frrx_6)), (Mrh, .inl (g 0, 9, .inl frhx_7)), (Mm, .inr (7, [.int 0, .ref Mt, .int 0, .int zmax_2, .int zwrx_3, .ref Mrr, .ref Mrh, .ref Mrc, .int (nI rhx_4), .int 1, .ref Mn, .ref Mf, .ref Mr, .ref Mh, .int (nI rhx_4), .int 1, .ref Ma, .ref Mas, .ref Msn, .ref Mac, .ref Mat])), (Mrc, .inl (g 0, 9, .inl frcx_149))] → va_S A s.heap H locs → lv_has ls 3 [(1, .int (nI i_214)), (0, .ref Mm)] → W p l e (headSpec wsX7_net ({ frames := 6, cells := 0, slots := 0, locals := 133 })).room s m ([.ref Mm] : List Value).toArray below meth c H locs 0 0 Q (F0 m 150 ls []) := by
                            clear hP hD hS hl
                            intro Nloop_241
                            induction Nloop_241 with
                            | zero => intro i_214 F_215 hF_215 hbi_214 hm9; exact absurd hm9 (Nat.not_lt_zero _)
                            | succ Nloop_241 loop_241_ih =>
                              intro i_214 F_215 hF_215 hbi_214 hmloop_241 H locs ls hP hD hS hl
                              refine lv_iload_n hx hb dX7_net_150 rfl (lv_at hl 0 rfl) ?_
                              refine lv_aload_n hx hb dX7_net_151 rfl (lv_at hl 1 rfl) ?_
                              refine va_get (D := D) (ci := 7) (v := .int 1) (C := RX7) (T := TX7) (N := 21) hx hb hts iX7 hown hK hP 6 rfl rfl 15 (by decide) f127 (fun _ h9 => h9) rfl dX7_net_152 ?_
                              refine lv_icmp_ge (tgt := 211) hx hb dX7_net_155 (by decide) (fun cb_242 => ?_) (fun cb_242 => ?_)
                              · skip
                                have cn_243 : 1 ≤ i_214 := (nI_leI (show 1 < 2 ^ 31 by omega) (show i_214 < 2 ^ 31 by omega)).mp cb_242
                                refine lv_aload_n hx hb dX7_net_211 rfl (lv_at hl 1 rfl) ?_
                                refine va_get (D := D) (ci := 7) (v := .int 1) (C := RX7) (T := TX7) (N := 21) hx hb hts iX7 hown hK hP 6 rfl rfl 15 (by decide) f127 (fun _ h9 => h9) rfl dX7_net_212 ?_
                                have hPD9 : PD D A [(Mm, .inr (7, [.int 0, .ref Mt, .int 0, .int zmax_2, .int zwrx_3, .ref Mrr, .ref Mrh, .ref Mrc, .int (nI rhx_4), .int 1, .ref Mn, .ref Mf, .ref Mr, .ref Mh, .int (nI rhx_4), .int 1, .ref Ma, .ref Mas, .ref Msn, .ref Mac, .ref Mat])), (Mt, .inl (g 0, 160, .inl fmt)), (Mrr, .inl (g 0, 3, .inl frrx_6)), (Mrh, .inl (g 0, 9, .inl frhx_7)), (Mrc, .inl (g 0, 9, .inl frcx_149)), (Mn, .inl (g 0, 1767, .inl F_215)), (Mr, .inl (g 0, 3, .inl F_164)), (Mh, .inl (g 0, 9, .inl F_180))] H := ⟨hP.sub [6, 3, 4, 5, 7, 0, 1, 2] rfl, hD.sub [6, 3, 4, 5, 7, 0, 1, 2] (by decide) rfl⟩
                                have hP9 := hPD9.1; have hD9 := hPD9.2
                                subst hQ
                                refine W.widen (k := 0) (n := 0) (Nat.le_of_ble_eq_true rfl) (Nat.le_of_ble_eq_true rfl) ?_
                                exact W.iret (v := 1) hx hb hr (fun tS htS _ => ⟨⟨_, _, rfl, ⟨0, 0, zmax_2, zwrx_3, (nI rhx_4), 1, rhx_4, 1, frrx_6, frhx_7, frcx_149, F_215, F_164, F_180, rfl, (hf_9), (hf_10), (hf_150), (hF_215), (hF_164), (hF_180), (show rhx_4 ≤ 3 by omega), (show 1 ≤ 3 by omega), (show (rhx_4 = 0 ∧ 1 = 0) ∨ (1 ≤ rhx_4 ∧ 1 ≤ 1) by omega), (show 0 ≤ 160 by omega)⟩, by rw [htS]; exact hP9, hD9⟩, hS.F htS⟩) hS.2.2 dX7_net_215
                              · skip
                                have cn_244 : i_214 < 1 := Nat.lt_of_not_le (fun q9 => cb_242 ((nI_leI (show 1 < 2 ^ 31 by omega) (show i_214 < 2 ^ 31 by omega)).mpr q9))
                                refine lv_iconst (v := 0) hx hb dX7_net_158 (by decide) ?_
                                refine lv_istore_n (lv' := [(2, .int 0), (1, .int (nI i_214)), (0, .ref Mm)]) hx hb dX7_net_159 rfl hl (by decide) rfl (fun ls hl => ?_)
                                have loop_258 : ∀ (Nloop_258 : Nat) (i_248 : Nat) (F_249 : Nat → Int32) (hF_249 : mOK tb ub F_249) (hbi_248 : i_248 ≤ 3) (hmloop_258 : 3 - i_248 < Nloop_258) (H : Heap) (locs : List Loc) (ls : Array Slot), va_P D vwCl [(Mn, .inl (g 0, 1767, .inl F_249)), (Mr, .inl (g 0, 3, .inl F_164)), (Mh, .inl (g 0, 9, .inl F_180)), (Mt, .inl (g 0, 160, .inl fmt)), (Mrr, .inl (g 0, 3, .inl frrx_6)), (Mrh, .inl (g 0, 9, .inl frhx_7)), (Mm, .inr (7, [.int 0, .ref Mt, .int 0, .int zmax_2, .int zwrx_3, .ref Mrr, .ref Mrh, .ref Mrc, .int (nI rhx_4), .int 1, .ref Mn, .ref Mf, .ref Mr, .ref Mh, .int (nI rhx_4), .int 1, .ref Ma, .ref Mas, .ref Msn, .ref Mac, .ref Mat])), (Mrc, .inl (g 0, 9, .inl frcx_149))] H → va_D A [(Mn, .inl (g 0, 1767, .inl F_249)), (Mr, .inl (g 0, 3, .inl F_164)), (Mh, .inl (g 0, 9, .inl F_180)), (Mt, .inl (g 0, 160, .inl fmt)), (Mrr, .inl (g 0, 3, .inl frrx_6)), (Mrh, .inl (g 0, 9, .inl frhx_7)), (Mm, .inr (7, [.int 0, .ref Mt, .int 0, .int zmax_2, .int zwrx_3, .ref Mrr, .ref Mrh, .ref Mrc, .int (nI rhx_4), .int 1, .ref Mn, .ref Mf, .ref Mr, .ref Mh, .int (nI rhx_4), .int 1, .ref Ma, .ref Mas, .ref Msn, .ref Mac, .ref Mat])), (Mrc, .inl (g 0, 9, .inl frcx_149))] → va_S A s.heap H locs → lv_has ls 3 [(2, .int (nI i_248)), (1, .int (nI i_214)), (0, .ref Mm)] → W p l e (headSpec wsX7_net ({ frames := 6, cells := 0, slots := 0, locals := 133 })).room s m ([.ref Mm] : List Value).toArray below meth c H locs 0 0 Q (F0 m 160 ls []) := by
                                  clear hP hD hS hl
                                  intro Nloop_258
                                  induction Nloop_258 with
                                  | zero => intro i_248 F_249 hF_249 hbi_248 hm9; exact absurd hm9 (Nat.not_lt_zero _)
                                  | succ Nloop_258 loop_258_ih =>
                                    intro i_248 F_249 hF_249 hbi_248 hmloop_258 H locs ls hP hD hS hl
                                    refine lv_iload_n hx hb dX7_net_160 rfl (lv_at hl 0 rfl) ?_
                                    refine lv_iconst (v := 3) hx hb dX7_net_161 (by decide) ?_
                                    refine lv_icmp_ge (tgt := 192) hx hb dX7_net_162 (by decide) (fun cb_259 => ?_) (fun cb_259 => ?_)
                                    · skip
                                      have cn_260 : 3 ≤ i_248 := (nI_leI (show 3 < 2 ^ 31 by omega) (show i_248 < 2 ^ 31 by omega)).mp cb_259
                                      refine lv_aload_n hx hb dX7_net_192 rfl (lv_at hl 2 rfl) ?_
                                      refine va_get (D := D) (ci := 7) (v := .ref Mn) (C := RX7) (T := TX7) (N := 21) hx hb hts iX7 hown hK hP 6 rfl rfl 10 (by decide) f22 (fun _ h9 => h9) rfl dX7_net_193 ?_
                                      refine lv_iload_n hx hb dX7_net_196 rfl (lv_at hl 1 rfl) ?_
                                      refine ky_Si (As := [.int (nI i_214)]) (rest := [.ref Mn]) ⟨hx, hb, hml, hown, hts⟩ ⟨hK, hN⟩ hZ hP hD hS hA [] [0, 1, 2, 3, 4, 5, 6, 7] (wc := []) (wr := [(Mn, .inl (g 0, 1767, .inl F_249)), (Mr, .inl (g 0, 3, .inl F_164)), (Mh, .inl (g 0, 9, .inl F_180)), (Mt, .inl (g 0, 160, .inl fmt)), (Mrr, .inl (g 0, 3, .inl frrx_6)), (Mrh, .inl (g 0, 9, .inl frhx_7)), (Mm, .inr (7, [.int 0, .ref Mt, .int 0, .int zmax_2, .int zwrx_3, .ref Mrr, .ref Mrh, .ref Mrc, .int (nI rhx_4), .int 1, .ref Mn, .ref Mf, .ref Mr, .ref Mh, .int (nI rhx_4), .int 1, .ref Ma, .ref Mas, .ref Msn, .ref Mac, .ref Mat])), (Mrc, .inl (g 0, 9, .inl frcx_149))]) rfl rfl rfl rfl (by decide) (k_X7_circuitAt l D g H.size i_214 (show i_214 < 3 by omega)) (va_cwS 1 hts gX7_net_X7_circuitAt rfl rfl rfl (by decide +kernel) ⟨(Nat.le_of_ble_eq_true rfl), (Nat.le_of_ble_eq_true rfl)⟩) rfl hl.1 rfl (Nat.le_of_ble_eq_true rfl) dX7_net_197 ⟨(Nat.le_of_ble_eq_true rfl), (Nat.le_of_ble_eq_true rfl)⟩ (fun r_261 u H locs hw hP2 hD2 hS2 => ?_)
                                      clear hP hD hS
                                      obtain ⟨rfl, rfl⟩ := hw
                                      have hPD : PD D A [(Mn, .inl (g 0, 1767, .inl F_249)), (Mr, .inl (g 0, 3, .inl F_164)), (Mh, .inl (g 0, 9, .inl F_180)), (Mt, .inl (g 0, 160, .inl fmt)), (Mrr, .inl (g 0, 3, .inl frrx_6)), (Mrh, .inl (g 0, 9, .inl frhx_7)), (Mm, .inr (7, [.int 0, .ref Mt, .int 0, .int zmax_2, .int zwrx_3, .ref Mrr, .ref Mrh, .ref Mrc, .int (nI rhx_4), .int 1, .ref Mn, .ref Mf, .ref Mr, .ref Mh, .int (nI rhx_4), .int 1, .ref Ma, .ref Mas, .ref Msn, .ref Mac, .ref Mat])), (Mrc, .inl (g 0, 9, .inl frcx_149))] H := ⟨hP2, hD2⟩
                                      have hS := hS2; clear hP2 hD2 hS2; have hP := hPD.1; have hD := hPD.2; clear hPD
                                      refine W.widen (k := 0) (n := 0) (Nat.le_of_ble_eq_true rfl) (Nat.le_of_ble_eq_true rfl) ?_
                                      refine lv_bipush (v := 6) hx hb dX7_net_200 (by decide) ?_
                                      refine lv_iadd hx hb dX7_net_202 ?_
                                      refine lv_eqi (y := (nI (201 + 9 * i_214 + 6))) (nI_add (201 + 9 * i_214) (6)) ?_
                                      refine lv_iconst (v := (-1)) hx hb dX7_net_203 (by decide) ?_
                                      refine va_iast hx hb hK hP hD hS 0 0 rfl rfl (vp_in_nI (show 201 + 9 * i_214 + 6 < 1767 by omega) (by decide)) dX7_net_204 (fun H locs hP2 hD2 hS2 => ?_)
                                      clear hP hD hS
                                      have hPD : PD D A [(Mn, .inl (g 0, 1767, .inl (upd F_249 (nI (201 + 9 * i_214 + 6)).toNatClampNeg (-1)))), (Mr, .inl (g 0, 3, .inl F_164)), (Mh, .inl (g 0, 9, .inl F_180)), (Mt, .inl (g 0, 160, .inl fmt)), (Mrr, .inl (g 0, 3, .inl frrx_6)), (Mrh, .inl (g 0, 9, .inl frhx_7)), (Mm, .inr (7, [.int 0, .ref Mt, .int 0, .int zmax_2, .int zwrx_3, .ref Mrr, .ref Mrh, .ref Mrc, .int (nI rhx_4), .int 1, .ref Mn, .ref Mf, .ref Mr, .ref Mh, .int (nI rhx_4), .int 1, .ref Ma, .ref Mas, .ref Msn, .ref Mac, .ref Mat])), (Mrc, .inl (g 0, 9, .inl frcx_149))] H := ⟨hP2, hD2⟩
                                      have hS := hS2; clear hP2 hD2 hS2; have hP := hPD.1; have hD := hPD.2; clear hPD
                                      rw [nI_clamp (show 201 + 9 * i_214 + 6 < 2 ^ 31 by omega)] at hP hD
                                      have hPD : PD D A [(Mn, .inl (g 0, 1767, .inl (upd F_249 (201 + 9 * i_214 + 6) (-1)))), (Mr, .inl (g 0, 3, .inl F_164)), (Mh, .inl (g 0, 9, .inl F_180)), (Mt, .inl (g 0, 160, .inl fmt)), (Mrr, .inl (g 0, 3, .inl frrx_6)), (Mrh, .inl (g 0, 9, .inl frhx_7)), (Mm, .inr (7, [.int 0, .ref Mt, .int 0, .int zmax_2, .int zwrx_3, .ref Mrr, .ref Mrh, .ref Mrc, .int (nI rhx_4), .int 1, .ref Mn, .ref Mf, .ref Mr, .ref Mh, .int (nI rhx_4), .int 1, .ref Ma, .ref Mas, .ref Msn, .ref Mac, .ref Mat])), (Mrc, .inl (g 0, 9, .inl frcx_149))] H := ⟨hP, hD⟩
                                      clear hP hD; have hP := hPD.1; have hD := hPD.2; clear hPD
                                      have hF_262 : mOK tb ub (upd F_249 (201 + 9 * i_214 + 6) (-1)) := mOK_free hF_249 (show mfree (201 + 9 * i_214 + 6) by unfold mfree; omega)
                                      generalize upd F_249 (201 + 9 * i_214 + 6) (-1) = F_262 at hP hD hF_262
                                      refine lv_iinc (v := (nI (i_214 + 1))) (lv' := [(1, .int (nI (i_214 + 1))), (2, .int (nI i_248)), (0, .ref Mm)]) hx hb dX7_net_205 hl (k := 1) rfl (nI_1 (i_214)) (by decide) rfl (fun ls hl => ?_)
                                      refine lv_goto (tgt := 150) hx hb dX7_net_208 (by decide) ?_
                                      exact loop_241_ih (i_214 + 1) F_262 (hF_262) (show (i_214 + 1) ≤ 1 by omega) (show 1 - (i_214 + 1) < Nloop_241 by omega) _ _ _ hP hD hS (lv_sub hl [0, 2] rfl)
                                    · skip
                                      have cn_263 : i_248 < 3 := Nat.lt_of_not_le (fun q9 => cb_259 ((nI_leI (show 3 < 2 ^ 31 by omega) (show i_248 < 2 ^ 31 by omega)).mpr q9))
                                      refine lv_aload_n hx hb dX7_net_165 rfl (lv_at hl 2 rfl) ?_
                                      refine va_get (D := D) (ci := 7) (v := .ref Mn) (C := RX7) (T := TX7) (N := 21) hx hb hts iX7 hown hK hP 6 rfl rfl 10 (by decide) f22 (fun _ h9 => h9) rfl dX7_net_166 ?_
                                      refine lv_iload_n hx hb dX7_net_169 rfl (lv_at hl 1 rfl) ?_
                                      refine ky_Si (As := [.int (nI i_214)]) (rest := [.ref Mn]) ⟨hx, hb, hml, hown, hts⟩ ⟨hK, hN⟩ hZ hP hD hS hA [] [0, 1, 2, 3, 4, 5, 6, 7] (wc := []) (wr := [(Mn, .inl (g 0, 1767, .inl F_249)), (Mr, .inl (g 0, 3, .inl F_164)), (Mh, .inl (g 0, 9, .inl F_180)), (Mt, .inl (g 0, 160, .inl fmt)), (Mrr, .inl (g 0, 3, .inl frrx_6)), (Mrh, .inl (g 0, 9, .inl frhx_7)), (Mm, .inr (7, [.int 0, .ref Mt, .int 0, .int zmax_2, .int zwrx_3, .ref Mrr, .ref Mrh, .ref Mrc, .int (nI rhx_4), .int 1, .ref Mn, .ref Mf, .ref Mr, .ref Mh, .int (nI rhx_4), .int 1, .ref Ma, .ref Mas, .ref Msn, .ref Mac, .ref Mat])), (Mrc, .inl (g 0, 9, .inl frcx_149))]) rfl rfl rfl rfl (by decide) (k_X7_circuitAt l D g H.size i_214 (show i_214 < 3 by omega)) (va_cwS 1 hts gX7_net_X7_circuitAt rfl rfl rfl (by decide +kernel) ⟨(Nat.le_of_ble_eq_true rfl), (Nat.le_of_ble_eq_true rfl)⟩) rfl hl.1 rfl (Nat.le_of_ble_eq_true rfl) dX7_net_170 ⟨(Nat.le_of_ble_eq_true rfl), (Nat.le_of_ble_eq_true rfl)⟩ (fun r_264 u H locs hw hP2 hD2 hS2 => ?_)
                                      clear hP hD hS
                                      obtain ⟨rfl, rfl⟩ := hw
                                      have hPD : PD D A [(Mn, .inl (g 0, 1767, .inl F_249)), (Mr, .inl (g 0, 3, .inl F_164)), (Mh, .inl (g 0, 9, .inl F_180)), (Mt, .inl (g 0, 160, .inl fmt)), (Mrr, .inl (g 0, 3, .inl frrx_6)), (Mrh, .inl (g 0, 9, .inl frhx_7)), (Mm, .inr (7, [.int 0, .ref Mt, .int 0, .int zmax_2, .int zwrx_3, .ref Mrr, .ref Mrh, .ref Mrc, .int (nI rhx_4), .int 1, .ref Mn, .ref Mf, .ref Mr, .ref Mh, .int (nI rhx_4), .int 1, .ref Ma, .ref Mas, .ref Msn, .ref Mac, .ref Mat])), (Mrc, .inl (g 0, 9, .inl frcx_149))] H := ⟨hP2, hD2⟩
                                      have hS := hS2; clear hP2 hD2 hS2; have hP := hPD.1; have hD := hPD.2; clear hPD
                                      refine W.widen (k := 0) (n := 0) (Nat.le_of_ble_eq_true rfl) (Nat.le_of_ble_eq_true rfl) ?_
                                      refine lv_iload_n hx hb dX7_net_173 rfl (lv_at hl 0 rfl) ?_
                                      refine lv_iadd hx hb dX7_net_174 ?_
                                      refine lv_eqi (y := (nI (201 + 9 * i_214 + i_248))) (nI_add (201 + 9 * i_214) (i_248)) ?_
                                      refine lv_aload_n hx hb dX7_net_175 rfl (lv_at hl 2 rfl) ?_
                                      refine va_get (D := D) (ci := 7) (v := .ref Mrc) (C := RX7) (T := TX7) (N := 21) hx hb hts iX7 hown hK hP 6 rfl rfl 7 (by decide) f19 (fun _ h9 => h9) rfl dX7_net_176 ?_
                                      refine lv_iconst (v := 3) hx hb dX7_net_179 (by decide) ?_
                                      refine lv_iload_n hx hb dX7_net_180 rfl (lv_at hl 1 rfl) ?_
                                      refine lv_imul hx hb dX7_net_181 ?_
                                      refine lv_eqi (y := (nI (3 * i_214))) (pk_mul (3) (i_214)) ?_
                                      refine lv_iload_n hx hb dX7_net_182 rfl (lv_at hl 0 rfl) ?_
                                      refine lv_iadd hx hb dX7_net_183 ?_
                                      refine lv_eqi (y := (nI (3 * i_214 + i_248))) (nI_add (3 * i_214) (i_248)) ?_
                                      refine va_iald hx hb hK hP 7 0 rfl rfl (vp_in_nI (show 3 * i_214 + i_248 < 9 by omega) (by decide)) dX7_net_184 ?_
                                      refine lv_eqi (y := (frcx_149 (3 * i_214 + i_248))) (congrArg frcx_149 (nI_clamp (show 3 * i_214 + i_248 < 2 ^ 31 by omega))) ?_
                                      obtain ⟨n_265, hn_265, q9⟩ := hf_150 (3 * i_214 + i_248)
                                      refine lv_eqi (y := nI n_265) q9 ?_
                                      refine va_iast hx hb hK hP hD hS 0 0 rfl rfl (vp_in_nI (show 201 + 9 * i_214 + i_248 < 1767 by omega) (by decide)) dX7_net_185 (fun H locs hP2 hD2 hS2 => ?_)
                                      clear hP hD hS
                                      have hPD : PD D A [(Mn, .inl (g 0, 1767, .inl (upd F_249 (nI (201 + 9 * i_214 + i_248)).toNatClampNeg (nI n_265)))), (Mr, .inl (g 0, 3, .inl F_164)), (Mh, .inl (g 0, 9, .inl F_180)), (Mt, .inl (g 0, 160, .inl fmt)), (Mrr, .inl (g 0, 3, .inl frrx_6)), (Mrh, .inl (g 0, 9, .inl frhx_7)), (Mm, .inr (7, [.int 0, .ref Mt, .int 0, .int zmax_2, .int zwrx_3, .ref Mrr, .ref Mrh, .ref Mrc, .int (nI rhx_4), .int 1, .ref Mn, .ref Mf, .ref Mr, .ref Mh, .int (nI rhx_4), .int 1, .ref Ma, .ref Mas, .ref Msn, .ref Mac, .ref Mat])), (Mrc, .inl (g 0, 9, .inl frcx_149))] H := ⟨hP2, hD2⟩
                                      have hS := hS2; clear hP2 hD2 hS2; have hP := hPD.1; have hD := hPD.2; clear hPD
                                      rw [nI_clamp (show 201 + 9 * i_214 + i_248 < 2 ^ 31 by omega)] at hP hD
                                      have hPD : PD D A [(Mn, .inl (g 0, 1767, .inl (upd F_249 (201 + 9 * i_214 + i_248) (nI n_265)))), (Mr, .inl (g 0, 3, .inl F_164)), (Mh, .inl (g 0, 9, .inl F_180)), (Mt, .inl (g 0, 160, .inl fmt)), (Mrr, .inl (g 0, 3, .inl frrx_6)), (Mrh, .inl (g 0, 9, .inl frhx_7)), (Mm, .inr (7, [.int 0, .ref Mt, .int 0, .int zmax_2, .int zwrx_3, .ref Mrr, .ref Mrh, .ref Mrc, .int (nI rhx_4), .int 1, .ref Mn, .ref Mf, .ref Mr, .ref Mh, .int (nI rhx_4), .int 1, .ref Ma, .ref Mas, .ref Msn, .ref Mac, .ref Mat])), (Mrc, .inl (g 0, 9, .inl frcx_149))] H := ⟨hP, hD⟩
                                      clear hP hD; have hP := hPD.1; have hD := hPD.2; clear hPD
                                      have hF_266 : mOK tb ub (upd F_249 (201 + 9 * i_214 + i_248) (nI n_265)) := mOK_free hF_249 (show mfree (201 + 9 * i_214 + i_248) by unfold mfree; omega)
                                      generalize upd F_249 (201 + 9 * i_214 + i_248) (nI n_265) = F_266 at hP hD hF_266
                                      refine lv_iinc (v := (nI (i_248 + 1))) (lv' := [(2, .int (nI (i_248 + 1))), (1, .int (nI i_214)), (0, .ref Mm)]) hx hb dX7_net_186 hl (k := 0) rfl (nI_1 (i_248)) (by decide) rfl (fun ls hl => ?_)
                                      refine lv_goto (tgt := 160) hx hb dX7_net_189 (by decide) ?_
                                      exact loop_258_ih (i_248 + 1) F_266 (hF_266) (show (i_248 + 1) ≤ 3 by omega) (show 3 - (i_248 + 1) < Nloop_258 by omega) _ _ _ hP hD hS hl
                                exact loop_258 _ 0 F_215 (hF_215) (show 0 ≤ 3 by omega) (Nat.lt_succ_self _) _ _ _ hP hD hS hl
                          exact loop_241 _ 0 F_179 (hF_179) (show 0 ≤ 1 by omega) (Nat.lt_succ_self _) _ _ _ hP hD hS hl
                        · skip
                          have cn_267 : i_178 < rhx_4 := Nat.lt_of_not_le (fun q9 => cb_190 ((nI_leI (show rhx_4 < 2 ^ 31 by omega) (show i_178 < 2 ^ 31 by omega)).mpr q9))
                          refine lv_aload_n hx hb dX7_net_137 rfl (lv_at hl 1 rfl) ?_
                          refine lv_iload_n hx hb dX7_net_138 rfl (lv_at hl 0 rfl) ?_
                          refine ky_Vv (As := [.int (nI i_178)]) (rest := []) ⟨hx, hb, hml, hown, hts⟩ ⟨hK, hN⟩ hZ hP hD hS hA [6, 0, 2, 1, 5] [3, 4, 7] (wc := [(Mm, .inr (7, [.int 0, .ref Mt, .int 0, .int zmax_2, .int zwrx_3, .ref Mrr, .ref Mrh, .ref Mrc, .int (nI rhx_4), .int 1, .ref Mn, .ref Mf, .ref Mr, .ref Mh, .int (nI rhx_4), .int 1, .ref Ma, .ref Mas, .ref Msn, .ref Mac, .ref Mat])), (Mn, .inl (g 0, 1767, .inl F_179)), (Mh, .inl (g 0, 9, .inl F_180)), (Mr, .inl (g 0, 3, .inl F_164)), (Mrh, .inl (g 0, 9, .inl frhx_7))]) (wr := [(Mt, .inl (g 0, 160, .inl fmt)), (Mrr, .inl (g 0, 3, .inl frrx_6)), (Mrc, .inl (g 0, 9, .inl frcx_149))]) rfl rfl rfl rfl (by decide) (k_X7_laysHop l D g H.size Mm i_178 0 Mt 0 zmax_2 zwrx_3 Mrr Mrh Mrc (nI rhx_4) 1 Mn Mf Mr Mh rhx_4 1 Ma Mas Msn Mac Mat F_179 F_180 F_164 frhx_7 (show tb < 2 ^ 29 by omega) (show ub < 2 ^ 29 by omega) (hF_179) (show 1 ≤ rhx_4 by omega) (show rhx_4 ≤ 3 by omega) (show 1 ≤ 1 by omega) (show 1 ≤ 3 by omega) (show i_178 < 3 by omega) (hF_180) (hf_10) (hF_164)) (cwV 1 hts gX7_net_X7_laysHop rfl rfl rfl (by decide +kernel) ⟨(Nat.le_of_ble_eq_true rfl), (Nat.le_of_ble_eq_true rfl)⟩) 6 7 rfl rfl rfl rfl hl.1 rfl (Nat.le_of_ble_eq_true rfl) dX7_net_139 ⟨(Nat.le_of_ble_eq_true rfl), (Nat.le_of_ble_eq_true rfl)⟩ (fun u H locs hw hP2 hD2 hS2 => ?_)
                          clear hP hD hS
                          obtain ⟨fnox_269, fmhx_270, rfl, hf_271, hf_272⟩ := hw
                          have hPD : PD D A [(Mt, .inl (g 0, 160, .inl fmt)), (Mrr, .inl (g 0, 3, .inl frrx_6)), (Mrc, .inl (g 0, 9, .inl frcx_149)), (Mm, .inr (7, [.int 0, .ref Mt, .int (nI 0), .int zmax_2, .int zwrx_3, .ref Mrr, .ref Mrh, .ref Mrc, .int (nI rhx_4), .int 1, .ref Mn, .ref Mf, .ref Mr, .ref Mh, .int (nI rhx_4), .int (nI 1), .ref Ma, .ref Mas, .ref Msn, .ref Mac, .ref Mat])), (Mn, .inl (g 0, 1767, .inl fnox_269)), (Mh, .inl (g 0, 9, .inl fmhx_270)), (Mr, .inl (g 0, 3, .inl F_164)), (Mrh, .inl (g 0, 9, .inl frhx_7))] H := ⟨hP2, hD2⟩
                          have hS := hS2; clear hP2 hD2 hS2; have hP := hPD.1; have hD := hPD.2; clear hPD
                          refine W.widen (k := 0) (n := 0) (Nat.le_of_ble_eq_true rfl) (Nat.le_of_ble_eq_true rfl) ?_
                          refine lv_iinc (v := (nI (i_178 + 1))) (lv' := [(1, .int (nI (i_178 + 1))), (0, .ref Mm)]) hx hb dX7_net_142 hl (k := 0) rfl (nI_1 (i_178)) (by decide) rfl (fun ls hl => ?_)
                          refine lv_goto (tgt := 129) hx hb dX7_net_145 (by decide) ?_
                          exact loop_189_ih (i_178 + 1) fnox_269 fmhx_270 (hf_271) (hf_272) (show (i_178 + 1) ≤ rhx_4 by omega) (show rhx_4 - (i_178 + 1) < Nloop_189 by omega) _ _ _ (hP.sub [4, 6, 5, 0, 1, 7, 3, 2] rfl) (hD.sub [4, 6, 5, 0, 1, 7, 3, 2] (by decide) rfl) hS hl
                    exact loop_189 _ 0 F_153 fmh (hF_153) (h8) (show 0 ≤ rhx_4 by omega) (Nat.lt_succ_self _) _ _ _ hP hD hS hl
                  · skip
                    have cn_273 : i_163 < 3 := Nat.lt_of_not_le (fun q9 => cb_171 ((nI_leI (show 3 < 2 ^ 31 by omega) (show i_163 < 2 ^ 31 by omega)).mpr q9))
                    refine lv_aload_n hx hb dX7_net_109 rfl (lv_at hl 1 rfl) ?_
                    refine va_get (D := D) (ci := 7) (v := .ref Mr) (C := RX7) (T := TX7) (N := 21) hx hb hts iX7 hown hK hP 6 rfl rfl 12 (by decide) f28 (fun _ h9 => h9) rfl dX7_net_110 ?_
                    refine lv_iload_n hx hb dX7_net_113 rfl (lv_at hl 0 rfl) ?_
                    refine lv_aload_n hx hb dX7_net_114 rfl (lv_at hl 1 rfl) ?_
                    refine va_get (D := D) (ci := 7) (v := .ref Mrr) (C := RX7) (T := TX7) (N := 21) hx hb hts iX7 hown hK hP 6 rfl rfl 5 (by decide) f13 (fun _ h9 => h9) rfl dX7_net_115 ?_
                    refine lv_iload_n hx hb dX7_net_118 rfl (lv_at hl 0 rfl) ?_
                    refine va_iald hx hb hK hP 4 0 rfl rfl (vp_in_nI (show i_163 < 3 by omega) (by decide)) dX7_net_119 ?_
                    refine lv_eqi (y := (frrx_6 (i_163))) (congrArg frrx_6 (nI_clamp (show i_163 < 2 ^ 31 by omega))) ?_
                    obtain ⟨n_274, hn_274, q9⟩ := hf_9 (i_163)
                    refine lv_eqi (y := nI n_274) q9 ?_
                    refine va_iast hx hb hK hP hD hS 1 0 rfl rfl (vp_in_nI (show i_163 < 3 by omega) (by decide)) dX7_net_120 (fun H locs hP2 hD2 hS2 => ?_)
                    clear hP hD hS
                    have hPD : PD D A [(Mn, .inl (g 0, 1767, .inl F_153)), (Mr, .inl (g 0, 3, .inl (upd F_164 (nI i_163).toNatClampNeg (nI n_274)))), (Mh, .inl (g 0, 9, .inl fmh)), (Mt, .inl (g 0, 160, .inl fmt)), (Mrr, .inl (g 0, 3, .inl frrx_6)), (Mrh, .inl (g 0, 9, .inl frhx_7)), (Mm, .inr (7, [.int 0, .ref Mt, .int 0, .int zmax_2, .int zwrx_3, .ref Mrr, .ref Mrh, .ref Mrc, .int (nI rhx_4), .int 1, .ref Mn, .ref Mf, .ref Mr, .ref Mh, .int (nI rhx_4), .int 1, .ref Ma, .ref Mas, .ref Msn, .ref Mac, .ref Mat])), (Mrc, .inl (g 0, 9, .inl frcx_149))] H := ⟨hP2, hD2⟩
                    have hS := hS2; clear hP2 hD2 hS2; have hP := hPD.1; have hD := hPD.2; clear hPD
                    rw [nI_clamp (show i_163 < 2 ^ 31 by omega)] at hP hD
                    have hPD : PD D A [(Mn, .inl (g 0, 1767, .inl F_153)), (Mr, .inl (g 0, 3, .inl (upd F_164 (i_163) (nI n_274)))), (Mh, .inl (g 0, 9, .inl fmh)), (Mt, .inl (g 0, 160, .inl fmt)), (Mrr, .inl (g 0, 3, .inl frrx_6)), (Mrh, .inl (g 0, 9, .inl frhx_7)), (Mm, .inr (7, [.int 0, .ref Mt, .int 0, .int zmax_2, .int zwrx_3, .ref Mrr, .ref Mrh, .ref Mrc, .int (nI rhx_4), .int 1, .ref Mn, .ref Mf, .ref Mr, .ref Mh, .int (nI rhx_4), .int 1, .ref Ma, .ref Mas, .ref Msn, .ref Mac, .ref Mat])), (Mrc, .inl (g 0, 9, .inl frcx_149))] H := ⟨hP, hD⟩
                    clear hP hD; have hP := hPD.1; have hD := hPD.2; clear hPD
                    have hF_275 : n1 (upd F_164 (i_163) (nI n_274)) := n1_upd (hF_164) (n := n_274) (show n_274 ≤ 99 by omega)
                    generalize upd F_164 (i_163) (nI n_274) = F_275 at hP hD hF_275
                    refine lv_iinc (v := (nI (i_163 + 1))) (lv' := [(1, .int (nI (i_163 + 1))), (0, .ref Mm)]) hx hb dX7_net_121 hl (k := 0) rfl (nI_1 (i_163)) (by decide) rfl (fun ls hl => ?_)
                    refine lv_goto (tgt := 104) hx hb dX7_net_124 (by decide) ?_
                    exact loop_170_ih (i_163 + 1) F_275 (hF_275) (show (i_163 + 1) ≤ 3 by omega) (show 3 - (i_163 + 1) < Nloop_170 by omega) _ _ _ hP hD hS hl
              exact loop_170 _ 0 fmr (h7) (show 0 ≤ 3 by omega) (Nat.lt_succ_self _) _ _ _ hP hD hS hl
            · skip
              have cn_276 : i_152 < 1767 := Nat.lt_of_not_le (fun q9 => cb_159 ((nI_leI (show 1767 < 2 ^ 31 by omega) (show i_152 < 2 ^ 31 by omega)).mpr q9))
              refine lv_aload_n hx hb dX7_net_89 rfl (lv_at hl 1 rfl) ?_
              refine va_get (D := D) (ci := 7) (v := .ref Mn) (C := RX7) (T := TX7) (N := 21) hx hb hts iX7 hown hK hP 6 rfl rfl 10 (by decide) f22 (fun _ h9 => h9) rfl dX7_net_90 ?_
              refine lv_iload_n hx hb dX7_net_93 rfl (lv_at hl 0 rfl) ?_
              refine lv_iconst (v := 0) hx hb dX7_net_94 (by decide) ?_
              refine va_iast hx hb hK hP hD hS 0 0 rfl rfl (vp_in_nI (show i_152 < 1767 by omega) (by decide)) dX7_net_95 (fun H locs hP2 hD2 hS2 => ?_)
              clear hP hD hS
              have hPD : PD D A [(Mn, .inl (g 0, 1767, .inl (upd F_153 (nI i_152).toNatClampNeg 0))), (Mr, .inl (g 0, 3, .inl fmr)), (Mh, .inl (g 0, 9, .inl fmh)), (Mt, .inl (g 0, 160, .inl fmt)), (Mrr, .inl (g 0, 3, .inl frrx_6)), (Mrh, .inl (g 0, 9, .inl frhx_7)), (Mm, .inr (7, [.int 0, .ref Mt, .int 0, .int zmax_2, .int zwrx_3, .ref Mrr, .ref Mrh, .ref Mrc, .int (nI rhx_4), .int 1, .ref Mn, .ref Mf, .ref Mr, .ref Mh, .int (nI rhx_4), .int 1, .ref Ma, .ref Mas, .ref Msn, .ref Mac, .ref Mat])), (Mrc, .inl (g 0, 9, .inl frcx_149))] H := ⟨hP2, hD2⟩
              have hS := hS2; clear hP2 hD2 hS2; have hP := hPD.1; have hD := hPD.2; clear hPD
              rw [nI_clamp (show i_152 < 2 ^ 31 by omega)] at hP hD
              have hPD : PD D A [(Mn, .inl (g 0, 1767, .inl (upd F_153 (i_152) 0))), (Mr, .inl (g 0, 3, .inl fmr)), (Mh, .inl (g 0, 9, .inl fmh)), (Mt, .inl (g 0, 160, .inl fmt)), (Mrr, .inl (g 0, 3, .inl frrx_6)), (Mrh, .inl (g 0, 9, .inl frhx_7)), (Mm, .inr (7, [.int 0, .ref Mt, .int 0, .int zmax_2, .int zwrx_3, .ref Mrr, .ref Mrh, .ref Mrc, .int (nI rhx_4), .int 1, .ref Mn, .ref Mf, .ref Mr, .ref Mh, .int (nI rhx_4), .int 1, .ref Ma, .ref Mas, .ref Msn, .ref Mac, .ref Mat])), (Mrc, .inl (g 0, 9, .inl frcx_149))] H := ⟨hP, hD⟩
              clear hP hD; have hP := hPD.1; have hD := hPD.2; clear hPD
              have hF_277 : mOK tb ub (upd F_153 (i_152) 0) := mOK_zero hF_153
              generalize upd F_153 (i_152) 0 = F_277 at hP hD hF_277
              refine lv_iinc (v := (nI (i_152 + 1))) (lv' := [(1, .int (nI (i_152 + 1))), (0, .ref Mm)]) hx hb dX7_net_96 hl (k := 0) rfl (nI_1 (i_152)) (by decide) rfl (fun ls hl => ?_)
              refine lv_goto (tgt := 82) hx hb dX7_net_99 (by decide) ?_
              exact loop_158_ih (i_152 + 1) F_277 (hF_277) (show (i_152 + 1) ≤ 1767 by omega) (show 1767 - (i_152 + 1) < Nloop_158 by omega) _ _ _ hP hD hS hl
        exact loop_158 _ 0 fno (h6) (show 0 ≤ 1767 by omega) (Nat.lt_succ_self _) _ _ _ hP hD hS hl
    · skip
      have cn_278 : rhx_4 = 0 := (nI_eq (show rhx_4 < 2 ^ 31 by omega) (show 0 < 2 ^ 31 by omega)).mp cb_16
      refine lv_aload_n hx hb dX7_net_27 rfl (lv_at hl 0 rfl) ?_
      refine lv_iconst (v := 1) hx hb dX7_net_28 (by decide) ?_
      refine lv_aload_n hx hb dX7_net_29 rfl (lv_at hl 0 rfl) ?_
      refine va_get (D := D) (ci := 7) (v := .ref Mrh) (C := RX7) (T := TX7) (N := 21) hx hb hts iX7 hown hK hP 3 rfl rfl 6 (by decide) f16 (fun _ h9 => h9) rfl dX7_net_30 ?_
      refine lv_iconst (v := 0) hx hb dX7_net_33 (by decide) ?_
      refine ky_Vv (As := [.int 1, .ref Mrh, .int 0]) (rest := []) ⟨hx, hb, hml, hown, hts⟩ ⟨hK, hN⟩ hZ hP hD hS hA [3, 6] [0, 1, 2, 4, 5, 7] (wc := [(Mm, .inr (7, [.int 0, .ref Mt, .int 0, .int zmax_2, .int zwrx_3, .ref Mrr, .ref Mrh, .ref Mrc, .int (nI rhx_4), .int (nI rcx_5), .ref Mn, .ref Mf, .ref Mr, .ref Mh, .int (nI hp), .int (nI cc), .ref Ma, .ref Mas, .ref Msn, .ref Mac, .ref Mat])), (Mrh, .inl (g 0, 9, .inl frhx_7))]) (wr := [(Mn, .inl (g 0, 1767, .inl fno)), (Mr, .inl (g 0, 3, .inl fmr)), (Mh, .inl (g 0, 9, .inl fmh)), (Mt, .inl (g 0, 160, .inl fmt)), (Mrr, .inl (g 0, 3, .inl frrx_6)), (Mrc, .inl (g 0, 9, .inl frcx_8))]) rfl rfl rfl rfl (by decide) (k_X7_laysUsual_1 l D g H.size Mm Mrh 0 0 Mt 0 zmax_2 zwrx_3 Mrr Mrc (nI rhx_4) (nI rcx_5) Mn Mf Mr Mh (nI hp) (nI cc) Ma Mas Msn Mac Mat frhx_7 (show 0 ≤ 6 by omega) (hf_10)) (cwV 3 hts gX7_net_X7_laysUsual rfl rfl rfl (by decide +kernel) ⟨(Nat.le_of_ble_eq_true rfl), (Nat.le_of_ble_eq_true rfl)⟩) 3 7 rfl rfl rfl rfl hl.1 rfl (Nat.le_of_ble_eq_true rfl) dX7_net_34 ⟨(Nat.le_of_ble_eq_true rfl), (Nat.le_of_ble_eq_true rfl)⟩ (fun u H locs hw hP2 hD2 hS2 => ?_)
      clear hP hD hS
      obtain ⟨frhx_280, rfl, hf_281⟩ := hw
      have hPD : PD D A [(Mn, .inl (g 0, 1767, .inl fno)), (Mr, .inl (g 0, 3, .inl fmr)), (Mh, .inl (g 0, 9, .inl fmh)), (Mt, .inl (g 0, 160, .inl fmt)), (Mrr, .inl (g 0, 3, .inl frrx_6)), (Mrc, .inl (g 0, 9, .inl frcx_8)), (Mm, .inr (7, [.int 0, .ref Mt, .int 0, .int zmax_2, .int zwrx_3, .ref Mrr, .ref Mrh, .ref Mrc, .int (nI rhx_4), .int (nI rcx_5), .ref Mn, .ref Mf, .ref Mr, .ref Mh, .int (nI hp), .int (nI cc), .ref Ma, .ref Mas, .ref Msn, .ref Mac, .ref Mat])), (Mrh, .inl (g 0, 9, .inl frhx_280))] H := ⟨hP2, hD2⟩
      have hS := hS2; clear hP2 hD2 hS2; have hP := hPD.1; have hD := hPD.2; clear hPD
      refine W.widen (k := 0) (n := 0) (Nat.le_of_ble_eq_true rfl) (Nat.le_of_ble_eq_true rfl) ?_
      refine lv_aload_n hx hb dX7_net_37 rfl (lv_at hl 0 rfl) ?_
      refine lv_iconst (v := 1) hx hb dX7_net_38 (by decide) ?_
      refine va_put (D := D) (ci := 7) (v := .int 1) (ty := .int) (C := RX7) (T := TX7) (N := 21) hx hb hts iX7 tyX7 tyX7_ok nmX7 hown hK hP hD hS 6 rfl rfl 8 (by decide) f111 (fun _ h9 => h9) rfl (by decide +kernel) (rfl) (rfl) (Nat.le_of_ble_eq_true rfl) dX7_net_39 (fun H locs hP2 hD2 hS2 => ?_)
      clear hP hD hS
      have hPD : PD D A [(Mn, .inl (g 0, 1767, .inl fno)), (Mr, .inl (g 0, 3, .inl fmr)), (Mh, .inl (g 0, 9, .inl fmh)), (Mt, .inl (g 0, 160, .inl fmt)), (Mrr, .inl (g 0, 3, .inl frrx_6)), (Mrc, .inl (g 0, 9, .inl frcx_8)), (Mm, .inr (7, [.int 0, .ref Mt, .int 0, .int zmax_2, .int zwrx_3, .ref Mrr, .ref Mrh, .ref Mrc, .int 1, .int (nI rcx_5), .ref Mn, .ref Mf, .ref Mr, .ref Mh, .int (nI hp), .int (nI cc), .ref Ma, .ref Mas, .ref Msn, .ref Mac, .ref Mat])), (Mrh, .inl (g 0, 9, .inl frhx_280))] H := ⟨hP2, hD2⟩
      have hS := hS2; clear hP2 hD2 hS2; have hP := hPD.1; have hD := hPD.2; clear hPD
      refine lv_aload_n hx hb dX7_net_42 rfl (lv_at hl 0 rfl) ?_
      refine va_get (D := D) (ci := 7) (v := .int (nI rcx_5)) (C := RX7) (T := TX7) (N := 21) hx hb hts iX7 hown hK hP 6 rfl rfl 9 (by decide) f114 (fun _ h9 => h9) rfl dX7_net_43 ?_
      refine lv_if_ne (tgt := 64) hx hb dX7_net_46 (by decide) (fun cb_282 => ?_) (fun cb_282 => ?_)
      · skip
        have cn_283 : ¬ rcx_5 = 0 := fun q9 => cb_282 (congrArg nI q9)
        refine lv_aload_n hx hb dX7_net_64 rfl (lv_at hl 0 rfl) ?_
        refine lv_aload_n hx hb dX7_net_65 rfl (lv_at hl 0 rfl) ?_
        refine va_get (D := D) (ci := 7) (v := .int 1) (C := RX7) (T := TX7) (N := 21) hx hb hts iX7 hown hK hP 6 rfl rfl 8 (by decide) f111 (fun _ h9 => h9) rfl dX7_net_66 ?_
        refine va_put (D := D) (ci := 7) (v := .int 1) (ty := .int) (C := RX7) (T := TX7) (N := 21) hx hb hts iX7 tyX7 tyX7_ok nmX7 hown hK hP hD hS 6 rfl rfl 14 (by decide) f124 (fun _ h9 => h9) rfl (by decide +kernel) (rfl) (rfl) (Nat.le_of_ble_eq_true rfl) dX7_net_69 (fun H locs hP2 hD2 hS2 => ?_)
        clear hP hD hS
        have hPD : PD D A [(Mn, .inl (g 0, 1767, .inl fno)), (Mr, .inl (g 0, 3, .inl fmr)), (Mh, .inl (g 0, 9, .inl fmh)), (Mt, .inl (g 0, 160, .inl fmt)), (Mrr, .inl (g 0, 3, .inl frrx_6)), (Mrc, .inl (g 0, 9, .inl frcx_8)), (Mm, .inr (7, [.int 0, .ref Mt, .int 0, .int zmax_2, .int zwrx_3, .ref Mrr, .ref Mrh, .ref Mrc, .int 1, .int (nI rcx_5), .ref Mn, .ref Mf, .ref Mr, .ref Mh, .int 1, .int (nI cc), .ref Ma, .ref Mas, .ref Msn, .ref Mac, .ref Mat])), (Mrh, .inl (g 0, 9, .inl frhx_280))] H := ⟨hP2, hD2⟩
        have hS := hS2; clear hP2 hD2 hS2; have hP := hPD.1; have hD := hPD.2; clear hPD
        refine lv_aload_n hx hb dX7_net_72 rfl (lv_at hl 0 rfl) ?_
        refine lv_aload_n hx hb dX7_net_73 rfl (lv_at hl 0 rfl) ?_
        refine va_get (D := D) (ci := 7) (v := .int (nI rcx_5)) (C := RX7) (T := TX7) (N := 21) hx hb hts iX7 hown hK hP 6 rfl rfl 9 (by decide) f114 (fun _ h9 => h9) rfl dX7_net_74 ?_
        refine va_put (D := D) (ci := 7) (v := .int (nI rcx_5)) (ty := .int) (C := RX7) (T := TX7) (N := 21) hx hb hts iX7 tyX7 tyX7_ok nmX7 hown hK hP hD hS 6 rfl rfl 15 (by decide) f127 (fun _ h9 => h9) rfl (by decide +kernel) (rfl) (rfl) (Nat.le_of_ble_eq_true rfl) dX7_net_77 (fun H locs hP2 hD2 hS2 => ?_)
        clear hP hD hS
        have hPD : PD D A [(Mn, .inl (g 0, 1767, .inl fno)), (Mr, .inl (g 0, 3, .inl fmr)), (Mh, .inl (g 0, 9, .inl fmh)), (Mt, .inl (g 0, 160, .inl fmt)), (Mrr, .inl (g 0, 3, .inl frrx_6)), (Mrc, .inl (g 0, 9, .inl frcx_8)), (Mm, .inr (7, [.int 0, .ref Mt, .int 0, .int zmax_2, .int zwrx_3, .ref Mrr, .ref Mrh, .ref Mrc, .int 1, .int (nI rcx_5), .ref Mn, .ref Mf, .ref Mr, .ref Mh, .int 1, .int (nI rcx_5), .ref Ma, .ref Mas, .ref Msn, .ref Mac, .ref Mat])), (Mrh, .inl (g 0, 9, .inl frhx_280))] H := ⟨hP2, hD2⟩
        have hS := hS2; clear hP2 hD2 hS2; have hP := hPD.1; have hD := hPD.2; clear hPD
        refine lv_iconst (v := 0) hx hb dX7_net_80 (by decide) ?_
        refine lv_istore_n (lv' := [(1, .int 0), (0, .ref Mm)]) hx hb dX7_net_81 rfl hl (by decide) rfl (fun ls hl => ?_)
        have loop_291 : ∀ (Nloop_291 : Nat) (i_285 : Nat) (F_286 : Nat → Int32) (hF_286 : mOK tb ub F_286) (hbi_285 : i_285 ≤ 1767) (hmloop_291 : 1767 - i_285 < Nloop_291) (H : Heap) (locs : List Loc) (ls : Array Slot), va_P D vwCl [(Mn, .inl (g 0, 1767, .inl F_286)), (Mr, .inl (g 0, 3, .inl fmr)), (Mh, .inl (g 0, 9, .inl fmh)), (Mt, .inl (g 0, 160, .inl fmt)), (Mrr, .inl (g 0, 3, .inl frrx_6)), (Mrc, .inl (g 0, 9, .inl frcx_8)), (Mm, .inr (7, [.int 0, .ref Mt, .int 0, .int zmax_2, .int zwrx_3, .ref Mrr, .ref Mrh, .ref Mrc, .int 1, .int (nI rcx_5), .ref Mn, .ref Mf, .ref Mr, .ref Mh, .int 1, .int (nI rcx_5), .ref Ma, .ref Mas, .ref Msn, .ref Mac, .ref Mat])), (Mrh, .inl (g 0, 9, .inl frhx_280))] H → va_D A [(Mn, .inl (g 0, 1767, .inl F_286)), (Mr, .inl (g 0, 3, .inl fmr)), (Mh, .inl (g 0, 9, .inl fmh)), (Mt, .inl (g 0, 160, .inl fmt)), (Mrr, .inl (g 0, 3, .inl frrx_6)), (Mrc, .inl (g 0, 9, .inl frcx_8)), (Mm, .inr (7, [.int 0, .ref Mt, .int 0, .int zmax_2, .int zwrx_3, .ref Mrr, .ref Mrh, .ref Mrc, .int 1, .int (nI rcx_5), .ref Mn, .ref Mf, .ref Mr, .ref Mh, .int 1, .int (nI rcx_5), .ref Ma, .ref Mas, .ref Msn, .ref Mac, .ref Mat])), (Mrh, .inl (g 0, 9, .inl frhx_280))] → va_S A s.heap H locs → lv_has ls 3 [(1, .int (nI i_285)), (0, .ref Mm)] → W p l e (headSpec wsX7_net ({ frames := 6, cells := 0, slots := 0, locals := 133 })).room s m ([.ref Mm] : List Value).toArray below meth c H locs 0 0 Q (F0 m 82 ls []) := by
          clear hP hD hS hl
          intro Nloop_291
          induction Nloop_291 with
          | zero => intro i_285 F_286 hF_286 hbi_285 hm9; exact absurd hm9 (Nat.not_lt_zero _)
          | succ Nloop_291 loop_291_ih =>
            intro i_285 F_286 hF_286 hbi_285 hmloop_291 H locs ls hP hD hS hl
            refine lv_iload_n hx hb dX7_net_82 rfl (lv_at hl 0 rfl) ?_
            refine lv_sipush (v := 1767) hx hb dX7_net_83 (by decide) ?_
            refine lv_icmp_ge (tgt := 102) hx hb dX7_net_86 (by decide) (fun cb_292 => ?_) (fun cb_292 => ?_)
            · skip
              have cn_293 : 1767 ≤ i_285 := (nI_leI (show 1767 < 2 ^ 31 by omega) (show i_285 < 2 ^ 31 by omega)).mp cb_292
              refine lv_iconst (v := 0) hx hb dX7_net_102 (by decide) ?_
              refine lv_istore_n (lv' := [(1, .int 0), (0, .ref Mm)]) hx hb dX7_net_103 rfl hl (by decide) rfl (fun ls hl => ?_)
              have loop_303 : ∀ (Nloop_303 : Nat) (i_296 : Nat) (F_297 : Nat → Int32) (hF_297 : n1 F_297) (hbi_296 : i_296 ≤ 3) (hmloop_303 : 3 - i_296 < Nloop_303) (H : Heap) (locs : List Loc) (ls : Array Slot), va_P D vwCl [(Mn, .inl (g 0, 1767, .inl F_286)), (Mr, .inl (g 0, 3, .inl F_297)), (Mh, .inl (g 0, 9, .inl fmh)), (Mt, .inl (g 0, 160, .inl fmt)), (Mrr, .inl (g 0, 3, .inl frrx_6)), (Mrc, .inl (g 0, 9, .inl frcx_8)), (Mm, .inr (7, [.int 0, .ref Mt, .int 0, .int zmax_2, .int zwrx_3, .ref Mrr, .ref Mrh, .ref Mrc, .int 1, .int (nI rcx_5), .ref Mn, .ref Mf, .ref Mr, .ref Mh, .int 1, .int (nI rcx_5), .ref Ma, .ref Mas, .ref Msn, .ref Mac, .ref Mat])), (Mrh, .inl (g 0, 9, .inl frhx_280))] H → va_D A [(Mn, .inl (g 0, 1767, .inl F_286)), (Mr, .inl (g 0, 3, .inl F_297)), (Mh, .inl (g 0, 9, .inl fmh)), (Mt, .inl (g 0, 160, .inl fmt)), (Mrr, .inl (g 0, 3, .inl frrx_6)), (Mrc, .inl (g 0, 9, .inl frcx_8)), (Mm, .inr (7, [.int 0, .ref Mt, .int 0, .int zmax_2, .int zwrx_3, .ref Mrr, .ref Mrh, .ref Mrc, .int 1, .int (nI rcx_5), .ref Mn, .ref Mf, .ref Mr, .ref Mh, .int 1, .int (nI rcx_5), .ref Ma, .ref Mas, .ref Msn, .ref Mac, .ref Mat])), (Mrh, .inl (g 0, 9, .inl frhx_280))] → va_S A s.heap H locs → lv_has ls 3 [(1, .int (nI i_296)), (0, .ref Mm)] → W p l e (headSpec wsX7_net ({ frames := 6, cells := 0, slots := 0, locals := 133 })).room s m ([.ref Mm] : List Value).toArray below meth c H locs 0 0 Q (F0 m 104 ls []) := by
                clear hP hD hS hl
                intro Nloop_303
                induction Nloop_303 with
                | zero => intro i_296 F_297 hF_297 hbi_296 hm9; exact absurd hm9 (Nat.not_lt_zero _)
                | succ Nloop_303 loop_303_ih =>
                  intro i_296 F_297 hF_297 hbi_296 hmloop_303 H locs ls hP hD hS hl
                  refine lv_iload_n hx hb dX7_net_104 rfl (lv_at hl 0 rfl) ?_
                  refine lv_iconst (v := 3) hx hb dX7_net_105 (by decide) ?_
                  refine lv_icmp_ge (tgt := 127) hx hb dX7_net_106 (by decide) (fun cb_304 => ?_) (fun cb_304 => ?_)
                  · skip
                    have cn_305 : 3 ≤ i_296 := (nI_leI (show 3 < 2 ^ 31 by omega) (show i_296 < 2 ^ 31 by omega)).mp cb_304
                    refine lv_iconst (v := 0) hx hb dX7_net_127 (by decide) ?_
                    refine lv_istore_n (lv' := [(1, .int 0), (0, .ref Mm)]) hx hb dX7_net_128 rfl hl (by decide) rfl (fun ls hl => ?_)
                    have loop_322 : ∀ (Nloop_322 : Nat) (i_311 : Nat) (F_312 : Nat → Int32) (F_313 : Nat → Int32) (hF_312 : mOK tb ub F_312) (hF_313 : n3 F_313) (hbi_311 : i_311 ≤ 1) (hmloop_322 : 1 - i_311 < Nloop_322) (H : Heap) (locs : List Loc) (ls : Array Slot), va_P D vwCl [(Mn, .inl (g 0, 1767, .inl F_312)), (Mr, .inl (g 0, 3, .inl F_297)), (Mh, .inl (g 0, 9, .inl F_313)), (Mt, .inl (g 0, 160, .inl fmt)), (Mrr, .inl (g 0, 3, .inl frrx_6)), (Mrc, .inl (g 0, 9, .inl frcx_8)), (Mm, .inr (7, [.int 0, .ref Mt, .int 0, .int zmax_2, .int zwrx_3, .ref Mrr, .ref Mrh, .ref Mrc, .int 1, .int (nI rcx_5), .ref Mn, .ref Mf, .ref Mr, .ref Mh, .int 1, .int (nI rcx_5), .ref Ma, .ref Mas, .ref Msn, .ref Mac, .ref Mat])), (Mrh, .inl (g 0, 9, .inl frhx_280))] H → va_D A [(Mn, .inl (g 0, 1767, .inl F_312)), (Mr, .inl (g 0, 3, .inl F_297)), (Mh, .inl (g 0, 9, .inl F_313)), (Mt, .inl (g 0, 160, .inl fmt)), (Mrr, .inl (g 0, 3, .inl frrx_6)), (Mrc, .inl (g 0, 9, .inl frcx_8)), (Mm, .inr (7, [.int 0, .ref Mt, .int 0, .int zmax_2, .int zwrx_3, .ref Mrr, .ref Mrh, .ref Mrc, .int 1, .int (nI rcx_5), .ref Mn, .ref Mf, .ref Mr, .ref Mh, .int 1, .int (nI rcx_5), .ref Ma, .ref Mas, .ref Msn, .ref Mac, .ref Mat])), (Mrh, .inl (g 0, 9, .inl frhx_280))] → va_S A s.heap H locs → lv_has ls 3 [(1, .int (nI i_311)), (0, .ref Mm)] → W p l e (headSpec wsX7_net ({ frames := 6, cells := 0, slots := 0, locals := 133 })).room s m ([.ref Mm] : List Value).toArray below meth c H locs 0 0 Q (F0 m 129 ls []) := by
                      clear hP hD hS hl
                      intro Nloop_322
                      induction Nloop_322 with
                      | zero => intro i_311 F_312 F_313 hF_312 hF_313 hbi_311 hm9; exact absurd hm9 (Nat.not_lt_zero _)
                      | succ Nloop_322 loop_322_ih =>
                        intro i_311 F_312 F_313 hF_312 hF_313 hbi_311 hmloop_322 H locs ls hP hD hS hl
                        refine lv_iload_n hx hb dX7_net_129 rfl (lv_at hl 0 rfl) ?_
                        refine lv_aload_n hx hb dX7_net_130 rfl (lv_at hl 1 rfl) ?_
                        refine va_get (D := D) (ci := 7) (v := .int 1) (C := RX7) (T := TX7) (N := 21) hx hb hts iX7 hown hK hP 6 rfl rfl 14 (by decide) f124 (fun _ h9 => h9) rfl dX7_net_131 ?_
                        refine lv_icmp_ge (tgt := 148) hx hb dX7_net_134 (by decide) (fun cb_323 => ?_) (fun cb_323 => ?_)
                        · skip
                          have cn_324 : 1 ≤ i_311 := (nI_leI (show 1 < 2 ^ 31 by omega) (show i_311 < 2 ^ 31 by omega)).mp cb_323
                          refine lv_iconst (v := 0) hx hb dX7_net_148 (by decide) ?_
                          refine lv_istore_n (lv' := [(1, .int 0), (0, .ref Mm)]) hx hb dX7_net_149 rfl hl (by decide) rfl (fun ls hl => ?_)
                          have loop_374 : ∀ (Nloop_374 : Nat) (i_347 : Nat) (F_348 : Nat → Int32) (hF_348 : mOK tb ub F_348) (hbi_347 : i_347 ≤ rcx_5) (hmloop_374 : rcx_5 - i_347 < Nloop_374) (H : Heap) (locs : List Loc) (ls : Array Slot), va_P D vwCl [(Mn, .inl (g 0, 1767, .inl F_348)), (Mr, .inl (g 0, 3, .inl F_297)), (Mh, .inl (g 0, 9, .inl F_313)), (Mt, .inl (g 0, 160, .inl fmt)), (Mrr, .inl (g 0, 3, .inl frrx_6)), (Mrc, .inl (g 0, 9, .inl frcx_8)), (Mm, .inr (7, [.int 0, .ref Mt, .int 0, .int zmax_2, .int zwrx_3, .ref Mrr, .ref Mrh, .ref Mrc, .int 1, .int (nI rcx_5), .ref Mn, .ref Mf, .ref Mr, .ref Mh, .int 1, .int (nI rcx_5), .ref Ma, .ref Mas, .ref Msn, .ref Mac, .ref Mat])), (Mrh, .inl (g 0, 9, .inl frhx_280))] H → va_D A [(Mn, .inl (g 0, 1767, .inl F_348)), (Mr, .inl (g 0, 3, .inl F_297)), (Mh, .inl (g 0, 9, .inl F_313)), (Mt, .inl (g 0, 160, .inl fmt)), (Mrr, .inl (g 0, 3, .inl frrx_6)), (Mrc, .inl (g 0, 9, .inl frcx_8)), (Mm, .inr (7, [.int 0, .ref Mt, .int 0, .int zmax_2, .int zwrx_3, .ref Mrr, .ref Mrh, .ref Mrc, .int 1, .int (nI rcx_5), .ref Mn, .ref Mf, .ref Mr, .ref Mh, .int 1, .int (nI rcx_5), .ref Ma, .ref Mas, .ref Msn, .ref Mac, .ref Mat])), (Mrh, .inl (g 0, 9, .inl frhx_280))] → va_S A s.heap H locs → lv_has ls 3 [(1, .int (nI i_347)), (0, .ref Mm)] → W p l e (headSpec wsX7_net ({ frames := 6, cells := 0, slots := 0, locals := 133 })).room s m ([.ref Mm] : List Value).toArray below meth c H locs 0 0 Q (F0 m 150 ls []) := by
                            clear hP hD hS hl
                            intro Nloop_374
                            induction Nloop_374 with
                            | zero => intro i_347 F_348 hF_348 hbi_347 hm9; exact absurd hm9 (Nat.not_lt_zero _)
                            | succ Nloop_374 loop_374_ih =>
                              intro i_347 F_348 hF_348 hbi_347 hmloop_374 H locs ls hP hD hS hl
                              refine lv_iload_n hx hb dX7_net_150 rfl (lv_at hl 0 rfl) ?_
                              refine lv_aload_n hx hb dX7_net_151 rfl (lv_at hl 1 rfl) ?_
                              refine va_get (D := D) (ci := 7) (v := .int (nI rcx_5)) (C := RX7) (T := TX7) (N := 21) hx hb hts iX7 hown hK hP 6 rfl rfl 15 (by decide) f127 (fun _ h9 => h9) rfl dX7_net_152 ?_
                              refine lv_icmp_ge (tgt := 211) hx hb dX7_net_155 (by decide) (fun cb_375 => ?_) (fun cb_375 => ?_)
                              · skip
                                have cn_376 : rcx_5 ≤ i_347 := (nI_leI (show rcx_5 < 2 ^ 31 by omega) (show i_347 < 2 ^ 31 by omega)).mp cb_375
                                refine lv_aload_n hx hb dX7_net_211 rfl (lv_at hl 1 rfl) ?_
                                refine va_get (D := D) (ci := 7) (v := .int (nI rcx_5)) (C := RX7) (T := TX7) (N := 21) hx hb hts iX7 hown hK hP 6 rfl rfl 15 (by decide) f127 (fun _ h9 => h9) rfl dX7_net_212 ?_
                                have hPD9 : PD D A [(Mm, .inr (7, [.int 0, .ref Mt, .int 0, .int zmax_2, .int zwrx_3, .ref Mrr, .ref Mrh, .ref Mrc, .int 1, .int (nI rcx_5), .ref Mn, .ref Mf, .ref Mr, .ref Mh, .int 1, .int (nI rcx_5), .ref Ma, .ref Mas, .ref Msn, .ref Mac, .ref Mat])), (Mt, .inl (g 0, 160, .inl fmt)), (Mrr, .inl (g 0, 3, .inl frrx_6)), (Mrh, .inl (g 0, 9, .inl frhx_280)), (Mrc, .inl (g 0, 9, .inl frcx_8)), (Mn, .inl (g 0, 1767, .inl F_348)), (Mr, .inl (g 0, 3, .inl F_297)), (Mh, .inl (g 0, 9, .inl F_313))] H := ⟨hP.sub [6, 3, 4, 7, 5, 0, 1, 2] rfl, hD.sub [6, 3, 4, 7, 5, 0, 1, 2] (by decide) rfl⟩
                                have hP9 := hPD9.1; have hD9 := hPD9.2
                                subst hQ
                                refine W.widen (k := 0) (n := 0) (Nat.le_of_ble_eq_true rfl) (Nat.le_of_ble_eq_true rfl) ?_
                                exact W.iret (v := (nI rcx_5)) hx hb hr (fun tS htS _ => ⟨⟨_, _, rfl, ⟨0, 0, zmax_2, zwrx_3, 1, (nI rcx_5), 1, rcx_5, frrx_6, frhx_280, frcx_8, F_348, F_297, F_313, rfl, (hf_9), (hf_281), (hf_11), (hF_348), (hF_297), (hF_313), (show 1 ≤ 3 by omega), (show rcx_5 ≤ 3 by omega), (show (1 = 0 ∧ rcx_5 = 0) ∨ (1 ≤ 1 ∧ 1 ≤ rcx_5) by omega), (show 0 ≤ 160 by omega)⟩, by rw [htS]; exact hP9, hD9⟩, hS.F htS⟩) hS.2.2 dX7_net_215
                              · skip
                                have cn_377 : i_347 < rcx_5 := Nat.lt_of_not_le (fun q9 => cb_375 ((nI_leI (show rcx_5 < 2 ^ 31 by omega) (show i_347 < 2 ^ 31 by omega)).mpr q9))
                                refine lv_iconst (v := 0) hx hb dX7_net_158 (by decide) ?_
                                refine lv_istore_n (lv' := [(2, .int 0), (1, .int (nI i_347)), (0, .ref Mm)]) hx hb dX7_net_159 rfl hl (by decide) rfl (fun ls hl => ?_)
                                have loop_391 : ∀ (Nloop_391 : Nat) (i_381 : Nat) (F_382 : Nat → Int32) (hF_382 : mOK tb ub F_382) (hbi_381 : i_381 ≤ 3) (hmloop_391 : 3 - i_381 < Nloop_391) (H : Heap) (locs : List Loc) (ls : Array Slot), va_P D vwCl [(Mn, .inl (g 0, 1767, .inl F_382)), (Mr, .inl (g 0, 3, .inl F_297)), (Mh, .inl (g 0, 9, .inl F_313)), (Mt, .inl (g 0, 160, .inl fmt)), (Mrr, .inl (g 0, 3, .inl frrx_6)), (Mrc, .inl (g 0, 9, .inl frcx_8)), (Mm, .inr (7, [.int 0, .ref Mt, .int 0, .int zmax_2, .int zwrx_3, .ref Mrr, .ref Mrh, .ref Mrc, .int 1, .int (nI rcx_5), .ref Mn, .ref Mf, .ref Mr, .ref Mh, .int 1, .int (nI rcx_5), .ref Ma, .ref Mas, .ref Msn, .ref Mac, .ref Mat])), (Mrh, .inl (g 0, 9, .inl frhx_280))] H → va_D A [(Mn, .inl (g 0, 1767, .inl F_382)), (Mr, .inl (g 0, 3, .inl F_297)), (Mh, .inl (g 0, 9, .inl F_313)), (Mt, .inl (g 0, 160, .inl fmt)), (Mrr, .inl (g 0, 3, .inl frrx_6)), (Mrc, .inl (g 0, 9, .inl frcx_8)), (Mm, .inr (7, [.int 0, .ref Mt, .int 0, .int zmax_2, .int zwrx_3, .ref Mrr, .ref Mrh, .ref Mrc, .int 1, .int (nI rcx_5), .ref Mn, .ref Mf, .ref Mr, .ref Mh, .int 1, .int (nI rcx_5), .ref Ma, .ref Mas, .ref Msn, .ref Mac, .ref Mat])), (Mrh, .inl (g 0, 9, .inl frhx_280))] → va_S A s.heap H locs → lv_has ls 3 [(2, .int (nI i_381)), (1, .int (nI i_347)), (0, .ref Mm)] → W p l e (headSpec wsX7_net ({ frames := 6, cells := 0, slots := 0, locals := 133 })).room s m ([.ref Mm] : List Value).toArray below meth c H locs 0 0 Q (F0 m 160 ls []) := by
                                  clear hP hD hS hl
                                  intro Nloop_391
                                  induction Nloop_391 with
                                  | zero => intro i_381 F_382 hF_382 hbi_381 hm9; exact absurd hm9 (Nat.not_lt_zero _)
                                  | succ Nloop_391 loop_391_ih =>
                                    intro i_381 F_382 hF_382 hbi_381 hmloop_391 H locs ls hP hD hS hl
                                    refine lv_iload_n hx hb dX7_net_160 rfl (lv_at hl 0 rfl) ?_
                                    refine lv_iconst (v := 3) hx hb dX7_net_161 (by decide) ?_
                                    refine lv_icmp_ge (tgt := 192) hx hb dX7_net_162 (by decide) (fun cb_392 => ?_) (fun cb_392 => ?_)
                                    · skip
                                      have cn_393 : 3 ≤ i_381 := (nI_leI (show 3 < 2 ^ 31 by omega) (show i_381 < 2 ^ 31 by omega)).mp cb_392
                                      refine lv_aload_n hx hb dX7_net_192 rfl (lv_at hl 2 rfl) ?_
                                      refine va_get (D := D) (ci := 7) (v := .ref Mn) (C := RX7) (T := TX7) (N := 21) hx hb hts iX7 hown hK hP 6 rfl rfl 10 (by decide) f22 (fun _ h9 => h9) rfl dX7_net_193 ?_
                                      refine lv_iload_n hx hb dX7_net_196 rfl (lv_at hl 1 rfl) ?_
                                      refine ky_Si (As := [.int (nI i_347)]) (rest := [.ref Mn]) ⟨hx, hb, hml, hown, hts⟩ ⟨hK, hN⟩ hZ hP hD hS hA [] [0, 1, 2, 3, 4, 5, 6, 7] (wc := []) (wr := [(Mn, .inl (g 0, 1767, .inl F_382)), (Mr, .inl (g 0, 3, .inl F_297)), (Mh, .inl (g 0, 9, .inl F_313)), (Mt, .inl (g 0, 160, .inl fmt)), (Mrr, .inl (g 0, 3, .inl frrx_6)), (Mrc, .inl (g 0, 9, .inl frcx_8)), (Mm, .inr (7, [.int 0, .ref Mt, .int 0, .int zmax_2, .int zwrx_3, .ref Mrr, .ref Mrh, .ref Mrc, .int 1, .int (nI rcx_5), .ref Mn, .ref Mf, .ref Mr, .ref Mh, .int 1, .int (nI rcx_5), .ref Ma, .ref Mas, .ref Msn, .ref Mac, .ref Mat])), (Mrh, .inl (g 0, 9, .inl frhx_280))]) rfl rfl rfl rfl (by decide) (k_X7_circuitAt l D g H.size i_347 (show i_347 < 3 by omega)) (va_cwS 1 hts gX7_net_X7_circuitAt rfl rfl rfl (by decide +kernel) ⟨(Nat.le_of_ble_eq_true rfl), (Nat.le_of_ble_eq_true rfl)⟩) rfl hl.1 rfl (Nat.le_of_ble_eq_true rfl) dX7_net_197 ⟨(Nat.le_of_ble_eq_true rfl), (Nat.le_of_ble_eq_true rfl)⟩ (fun r_394 u H locs hw hP2 hD2 hS2 => ?_)
                                      clear hP hD hS
                                      obtain ⟨rfl, rfl⟩ := hw
                                      have hPD : PD D A [(Mn, .inl (g 0, 1767, .inl F_382)), (Mr, .inl (g 0, 3, .inl F_297)), (Mh, .inl (g 0, 9, .inl F_313)), (Mt, .inl (g 0, 160, .inl fmt)), (Mrr, .inl (g 0, 3, .inl frrx_6)), (Mrc, .inl (g 0, 9, .inl frcx_8)), (Mm, .inr (7, [.int 0, .ref Mt, .int 0, .int zmax_2, .int zwrx_3, .ref Mrr, .ref Mrh, .ref Mrc, .int 1, .int (nI rcx_5), .ref Mn, .ref Mf, .ref Mr, .ref Mh, .int 1, .int (nI rcx_5), .ref Ma, .ref Mas, .ref Msn, .ref Mac, .ref Mat])), (Mrh, .inl (g 0, 9, .inl frhx_280))] H := ⟨hP2, hD2⟩
                                      have hS := hS2; clear hP2 hD2 hS2; have hP := hPD.1; have hD := hPD.2; clear hPD
                                      refine W.widen (k := 0) (n := 0) (Nat.le_of_ble_eq_true rfl) (Nat.le_of_ble_eq_true rfl) ?_
                                      refine lv_bipush (v := 6) hx hb dX7_net_200 (by decide) ?_
                                      refine lv_iadd hx hb dX7_net_202 ?_
                                      refine lv_eqi (y := (nI (201 + 9 * i_347 + 6))) (nI_add (201 + 9 * i_347) (6)) ?_
                                      refine lv_iconst (v := (-1)) hx hb dX7_net_203 (by decide) ?_
                                      refine va_iast hx hb hK hP hD hS 0 0 rfl rfl (vp_in_nI (show 201 + 9 * i_347 + 6 < 1767 by omega) (by decide)) dX7_net_204 (fun H locs hP2 hD2 hS2 => ?_)
                                      clear hP hD hS
                                      have hPD : PD D A [(Mn, .inl (g 0, 1767, .inl (upd F_382 (nI (201 + 9 * i_347 + 6)).toNatClampNeg (-1)))), (Mr, .inl (g 0, 3, .inl F_297)), (Mh, .inl (g 0, 9, .inl F_313)), (Mt, .inl (g 0, 160, .inl fmt)), (Mrr, .inl (g 0, 3, .inl frrx_6)), (Mrc, .inl (g 0, 9, .inl frcx_8)), (Mm, .inr (7, [.int 0, .ref Mt, .int 0, .int zmax_2, .int zwrx_3, .ref Mrr, .ref Mrh, .ref Mrc, .int 1, .int (nI rcx_5), .ref Mn, .ref Mf, .ref Mr, .ref Mh, .int 1, .int (nI rcx_5), .ref Ma, .ref Mas, .ref Msn, .ref Mac, .ref Mat])), (Mrh, .inl (g 0, 9, .inl frhx_280))] H := ⟨hP2, hD2⟩
                                      have hS := hS2; clear hP2 hD2 hS2; have hP := hPD.1; have hD := hPD.2; clear hPD
                                      rw [nI_clamp (show 201 + 9 * i_347 + 6 < 2 ^ 31 by omega)] at hP hD
                                      have hPD : PD D A [(Mn, .inl (g 0, 1767, .inl (upd F_382 (201 + 9 * i_347 + 6) (-1)))), (Mr, .inl (g 0, 3, .inl F_297)), (Mh, .inl (g 0, 9, .inl F_313)), (Mt, .inl (g 0, 160, .inl fmt)), (Mrr, .inl (g 0, 3, .inl frrx_6)), (Mrc, .inl (g 0, 9, .inl frcx_8)), (Mm, .inr (7, [.int 0, .ref Mt, .int 0, .int zmax_2, .int zwrx_3, .ref Mrr, .ref Mrh, .ref Mrc, .int 1, .int (nI rcx_5), .ref Mn, .ref Mf, .ref Mr, .ref Mh, .int 1, .int (nI rcx_5), .ref Ma, .ref Mas, .ref Msn, .ref Mac, .ref Mat])), (Mrh, .inl (g 0, 9, .inl frhx_280))] H := ⟨hP, hD⟩
                                      clear hP hD; have hP := hPD.1; have hD := hPD.2; clear hPD
                                      have hF_395 : mOK tb ub (upd F_382 (201 + 9 * i_347 + 6) (-1)) := mOK_free hF_382 (show mfree (201 + 9 * i_347 + 6) by unfold mfree; omega)
                                      generalize upd F_382 (201 + 9 * i_347 + 6) (-1) = F_395 at hP hD hF_395
                                      refine lv_iinc (v := (nI (i_347 + 1))) (lv' := [(1, .int (nI (i_347 + 1))), (2, .int (nI i_381)), (0, .ref Mm)]) hx hb dX7_net_205 hl (k := 1) rfl (nI_1 (i_347)) (by decide) rfl (fun ls hl => ?_)
                                      refine lv_goto (tgt := 150) hx hb dX7_net_208 (by decide) ?_
                                      exact loop_374_ih (i_347 + 1) F_395 (hF_395) (show (i_347 + 1) ≤ rcx_5 by omega) (show rcx_5 - (i_347 + 1) < Nloop_374 by omega) _ _ _ hP hD hS (lv_sub hl [0, 2] rfl)
                                    · skip
                                      have cn_396 : i_381 < 3 := Nat.lt_of_not_le (fun q9 => cb_392 ((nI_leI (show 3 < 2 ^ 31 by omega) (show i_381 < 2 ^ 31 by omega)).mpr q9))
                                      refine lv_aload_n hx hb dX7_net_165 rfl (lv_at hl 2 rfl) ?_
                                      refine va_get (D := D) (ci := 7) (v := .ref Mn) (C := RX7) (T := TX7) (N := 21) hx hb hts iX7 hown hK hP 6 rfl rfl 10 (by decide) f22 (fun _ h9 => h9) rfl dX7_net_166 ?_
                                      refine lv_iload_n hx hb dX7_net_169 rfl (lv_at hl 1 rfl) ?_
                                      refine ky_Si (As := [.int (nI i_347)]) (rest := [.ref Mn]) ⟨hx, hb, hml, hown, hts⟩ ⟨hK, hN⟩ hZ hP hD hS hA [] [0, 1, 2, 3, 4, 5, 6, 7] (wc := []) (wr := [(Mn, .inl (g 0, 1767, .inl F_382)), (Mr, .inl (g 0, 3, .inl F_297)), (Mh, .inl (g 0, 9, .inl F_313)), (Mt, .inl (g 0, 160, .inl fmt)), (Mrr, .inl (g 0, 3, .inl frrx_6)), (Mrc, .inl (g 0, 9, .inl frcx_8)), (Mm, .inr (7, [.int 0, .ref Mt, .int 0, .int zmax_2, .int zwrx_3, .ref Mrr, .ref Mrh, .ref Mrc, .int 1, .int (nI rcx_5), .ref Mn, .ref Mf, .ref Mr, .ref Mh, .int 1, .int (nI rcx_5), .ref Ma, .ref Mas, .ref Msn, .ref Mac, .ref Mat])), (Mrh, .inl (g 0, 9, .inl frhx_280))]) rfl rfl rfl rfl (by decide) (k_X7_circuitAt l D g H.size i_347 (show i_347 < 3 by omega)) (va_cwS 1 hts gX7_net_X7_circuitAt rfl rfl rfl (by decide +kernel) ⟨(Nat.le_of_ble_eq_true rfl), (Nat.le_of_ble_eq_true rfl)⟩) rfl hl.1 rfl (Nat.le_of_ble_eq_true rfl) dX7_net_170 ⟨(Nat.le_of_ble_eq_true rfl), (Nat.le_of_ble_eq_true rfl)⟩ (fun r_397 u H locs hw hP2 hD2 hS2 => ?_)
                                      clear hP hD hS
                                      obtain ⟨rfl, rfl⟩ := hw
                                      have hPD : PD D A [(Mn, .inl (g 0, 1767, .inl F_382)), (Mr, .inl (g 0, 3, .inl F_297)), (Mh, .inl (g 0, 9, .inl F_313)), (Mt, .inl (g 0, 160, .inl fmt)), (Mrr, .inl (g 0, 3, .inl frrx_6)), (Mrc, .inl (g 0, 9, .inl frcx_8)), (Mm, .inr (7, [.int 0, .ref Mt, .int 0, .int zmax_2, .int zwrx_3, .ref Mrr, .ref Mrh, .ref Mrc, .int 1, .int (nI rcx_5), .ref Mn, .ref Mf, .ref Mr, .ref Mh, .int 1, .int (nI rcx_5), .ref Ma, .ref Mas, .ref Msn, .ref Mac, .ref Mat])), (Mrh, .inl (g 0, 9, .inl frhx_280))] H := ⟨hP2, hD2⟩
                                      have hS := hS2; clear hP2 hD2 hS2; have hP := hPD.1; have hD := hPD.2; clear hPD
                                      refine W.widen (k := 0) (n := 0) (Nat.le_of_ble_eq_true rfl) (Nat.le_of_ble_eq_true rfl) ?_
                                      refine lv_iload_n hx hb dX7_net_173 rfl (lv_at hl 0 rfl) ?_
                                      refine lv_iadd hx hb dX7_net_174 ?_
                                      refine lv_eqi (y := (nI (201 + 9 * i_347 + i_381))) (nI_add (201 + 9 * i_347) (i_381)) ?_
                                      refine lv_aload_n hx hb dX7_net_175 rfl (lv_at hl 2 rfl) ?_
                                      refine va_get (D := D) (ci := 7) (v := .ref Mrc) (C := RX7) (T := TX7) (N := 21) hx hb hts iX7 hown hK hP 6 rfl rfl 7 (by decide) f19 (fun _ h9 => h9) rfl dX7_net_176 ?_
                                      refine lv_iconst (v := 3) hx hb dX7_net_179 (by decide) ?_
                                      refine lv_iload_n hx hb dX7_net_180 rfl (lv_at hl 1 rfl) ?_
                                      refine lv_imul hx hb dX7_net_181 ?_
                                      refine lv_eqi (y := (nI (3 * i_347))) (pk_mul (3) (i_347)) ?_
                                      refine lv_iload_n hx hb dX7_net_182 rfl (lv_at hl 0 rfl) ?_
                                      refine lv_iadd hx hb dX7_net_183 ?_
                                      refine lv_eqi (y := (nI (3 * i_347 + i_381))) (nI_add (3 * i_347) (i_381)) ?_
                                      refine va_iald hx hb hK hP 5 0 rfl rfl (vp_in_nI (show 3 * i_347 + i_381 < 9 by omega) (by decide)) dX7_net_184 ?_
                                      refine lv_eqi (y := (frcx_8 (3 * i_347 + i_381))) (congrArg frcx_8 (nI_clamp (show 3 * i_347 + i_381 < 2 ^ 31 by omega))) ?_
                                      obtain ⟨n_398, hn_398, q9⟩ := hf_11 (3 * i_347 + i_381)
                                      refine lv_eqi (y := nI n_398) q9 ?_
                                      refine va_iast hx hb hK hP hD hS 0 0 rfl rfl (vp_in_nI (show 201 + 9 * i_347 + i_381 < 1767 by omega) (by decide)) dX7_net_185 (fun H locs hP2 hD2 hS2 => ?_)
                                      clear hP hD hS
                                      have hPD : PD D A [(Mn, .inl (g 0, 1767, .inl (upd F_382 (nI (201 + 9 * i_347 + i_381)).toNatClampNeg (nI n_398)))), (Mr, .inl (g 0, 3, .inl F_297)), (Mh, .inl (g 0, 9, .inl F_313)), (Mt, .inl (g 0, 160, .inl fmt)), (Mrr, .inl (g 0, 3, .inl frrx_6)), (Mrc, .inl (g 0, 9, .inl frcx_8)), (Mm, .inr (7, [.int 0, .ref Mt, .int 0, .int zmax_2, .int zwrx_3, .ref Mrr, .ref Mrh, .ref Mrc, .int 1, .int (nI rcx_5), .ref Mn, .ref Mf, .ref Mr, .ref Mh, .int 1, .int (nI rcx_5), .ref Ma, .ref Mas, .ref Msn, .ref Mac, .ref Mat])), (Mrh, .inl (g 0, 9, .inl frhx_280))] H := ⟨hP2, hD2⟩
                                      have hS := hS2; clear hP2 hD2 hS2; have hP := hPD.1; have hD := hPD.2; clear hPD
                                      rw [nI_clamp (show 201 + 9 * i_347 + i_381 < 2 ^ 31 by omega)] at hP hD
                                      have hPD : PD D A [(Mn, .inl (g 0, 1767, .inl (upd F_382 (201 + 9 * i_347 + i_381) (nI n_398)))), (Mr, .inl (g 0, 3, .inl F_297)), (Mh, .inl (g 0, 9, .inl F_313)), (Mt, .inl (g 0, 160, .inl fmt)), (Mrr, .inl (g 0, 3, .inl frrx_6)), (Mrc, .inl (g 0, 9, .inl frcx_8)), (Mm, .inr (7, [.int 0, .ref Mt, .int 0, .int zmax_2, .int zwrx_3, .ref Mrr, .ref Mrh, .ref Mrc, .int 1, .int (nI rcx_5), .ref Mn, .ref Mf, .ref Mr, .ref Mh, .int 1, .int (nI rcx_5), .ref Ma, .ref Mas, .ref Msn, .ref Mac, .ref Mat])), (Mrh, .inl (g 0, 9, .inl frhx_280))] H := ⟨hP, hD⟩
                                      clear hP hD; have hP := hPD.1; have hD := hPD.2; clear hPD
                                      have hF_399 : mOK tb ub (upd F_382 (201 + 9 * i_347 + i_381) (nI n_398)) := mOK_free hF_382 (show mfree (201 + 9 * i_347 + i_381) by unfold mfree; omega)
                                      generalize upd F_382 (201 + 9 * i_347 + i_381) (nI n_398) = F_399 at hP hD hF_399
                                      refine lv_iinc (v := (nI (i_381 + 1))) (lv' := [(2, .int (nI (i_381 + 1))), (1, .int (nI i_347)), (0, .ref Mm)]) hx hb dX7_net_186 hl (k := 0) rfl (nI_1 (i_381)) (by decide) rfl (fun ls hl => ?_)
                                      refine lv_goto (tgt := 160) hx hb dX7_net_189 (by decide) ?_
                                      exact loop_391_ih (i_381 + 1) F_399 (hF_399) (show (i_381 + 1) ≤ 3 by omega) (show 3 - (i_381 + 1) < Nloop_391 by omega) _ _ _ hP hD hS hl
                                exact loop_391 _ 0 F_348 (hF_348) (show 0 ≤ 3 by omega) (Nat.lt_succ_self _) _ _ _ hP hD hS hl
                          exact loop_374 _ 0 F_312 (hF_312) (show 0 ≤ rcx_5 by omega) (Nat.lt_succ_self _) _ _ _ hP hD hS hl
                        · skip
                          have cn_400 : i_311 < 1 := Nat.lt_of_not_le (fun q9 => cb_323 ((nI_leI (show 1 < 2 ^ 31 by omega) (show i_311 < 2 ^ 31 by omega)).mpr q9))
                          refine lv_aload_n hx hb dX7_net_137 rfl (lv_at hl 1 rfl) ?_
                          refine lv_iload_n hx hb dX7_net_138 rfl (lv_at hl 0 rfl) ?_
                          refine ky_Vv (As := [.int (nI i_311)]) (rest := []) ⟨hx, hb, hml, hown, hts⟩ ⟨hK, hN⟩ hZ hP hD hS hA [6, 0, 2, 1, 7] [3, 4, 5] (wc := [(Mm, .inr (7, [.int 0, .ref Mt, .int 0, .int zmax_2, .int zwrx_3, .ref Mrr, .ref Mrh, .ref Mrc, .int 1, .int (nI rcx_5), .ref Mn, .ref Mf, .ref Mr, .ref Mh, .int 1, .int (nI rcx_5), .ref Ma, .ref Mas, .ref Msn, .ref Mac, .ref Mat])), (Mn, .inl (g 0, 1767, .inl F_312)), (Mh, .inl (g 0, 9, .inl F_313)), (Mr, .inl (g 0, 3, .inl F_297)), (Mrh, .inl (g 0, 9, .inl frhx_280))]) (wr := [(Mt, .inl (g 0, 160, .inl fmt)), (Mrr, .inl (g 0, 3, .inl frrx_6)), (Mrc, .inl (g 0, 9, .inl frcx_8))]) rfl rfl rfl rfl (by decide) (k_X7_laysHop l D g H.size Mm i_311 0 Mt 0 zmax_2 zwrx_3 Mrr Mrh Mrc 1 (nI rcx_5) Mn Mf Mr Mh 1 rcx_5 Ma Mas Msn Mac Mat F_312 F_313 F_297 frhx_280 (show tb < 2 ^ 29 by omega) (show ub < 2 ^ 29 by omega) (hF_312) (show 1 ≤ 1 by omega) (show 1 ≤ 3 by omega) (show 1 ≤ rcx_5 by omega) (show rcx_5 ≤ 3 by omega) (show i_311 < 3 by omega) (hF_313) (hf_281) (hF_297)) (cwV 1 hts gX7_net_X7_laysHop rfl rfl rfl (by decide +kernel) ⟨(Nat.le_of_ble_eq_true rfl), (Nat.le_of_ble_eq_true rfl)⟩) 6 7 rfl rfl rfl rfl hl.1 rfl (Nat.le_of_ble_eq_true rfl) dX7_net_139 ⟨(Nat.le_of_ble_eq_true rfl), (Nat.le_of_ble_eq_true rfl)⟩ (fun u H locs hw hP2 hD2 hS2 => ?_)
                          clear hP hD hS
                          obtain ⟨fnox_402, fmhx_403, rfl, hf_404, hf_405⟩ := hw
                          have hPD : PD D A [(Mt, .inl (g 0, 160, .inl fmt)), (Mrr, .inl (g 0, 3, .inl frrx_6)), (Mrc, .inl (g 0, 9, .inl frcx_8)), (Mm, .inr (7, [.int 0, .ref Mt, .int (nI 0), .int zmax_2, .int zwrx_3, .ref Mrr, .ref Mrh, .ref Mrc, .int 1, .int (nI rcx_5), .ref Mn, .ref Mf, .ref Mr, .ref Mh, .int (nI 1), .int (nI rcx_5), .ref Ma, .ref Mas, .ref Msn, .ref Mac, .ref Mat])), (Mn, .inl (g 0, 1767, .inl fnox_402)), (Mh, .inl (g 0, 9, .inl fmhx_403)), (Mr, .inl (g 0, 3, .inl F_297)), (Mrh, .inl (g 0, 9, .inl frhx_280))] H := ⟨hP2, hD2⟩
                          have hS := hS2; clear hP2 hD2 hS2; have hP := hPD.1; have hD := hPD.2; clear hPD
                          refine W.widen (k := 0) (n := 0) (Nat.le_of_ble_eq_true rfl) (Nat.le_of_ble_eq_true rfl) ?_
                          refine lv_iinc (v := (nI (i_311 + 1))) (lv' := [(1, .int (nI (i_311 + 1))), (0, .ref Mm)]) hx hb dX7_net_142 hl (k := 0) rfl (nI_1 (i_311)) (by decide) rfl (fun ls hl => ?_)
                          refine lv_goto (tgt := 129) hx hb dX7_net_145 (by decide) ?_
                          exact loop_322_ih (i_311 + 1) fnox_402 fmhx_403 (hf_404) (hf_405) (show (i_311 + 1) ≤ 1 by omega) (show 1 - (i_311 + 1) < Nloop_322 by omega) _ _ _ (hP.sub [4, 6, 5, 0, 1, 2, 3, 7] rfl) (hD.sub [4, 6, 5, 0, 1, 2, 3, 7] (by decide) rfl) hS hl
                    exact loop_322 _ 0 F_286 fmh (hF_286) (h8) (show 0 ≤ 1 by omega) (Nat.lt_succ_self _) _ _ _ hP hD hS hl
                  · skip
                    have cn_406 : i_296 < 3 := Nat.lt_of_not_le (fun q9 => cb_304 ((nI_leI (show 3 < 2 ^ 31 by omega) (show i_296 < 2 ^ 31 by omega)).mpr q9))
                    refine lv_aload_n hx hb dX7_net_109 rfl (lv_at hl 1 rfl) ?_
                    refine va_get (D := D) (ci := 7) (v := .ref Mr) (C := RX7) (T := TX7) (N := 21) hx hb hts iX7 hown hK hP 6 rfl rfl 12 (by decide) f28 (fun _ h9 => h9) rfl dX7_net_110 ?_
                    refine lv_iload_n hx hb dX7_net_113 rfl (lv_at hl 0 rfl) ?_
                    refine lv_aload_n hx hb dX7_net_114 rfl (lv_at hl 1 rfl) ?_
                    refine va_get (D := D) (ci := 7) (v := .ref Mrr) (C := RX7) (T := TX7) (N := 21) hx hb hts iX7 hown hK hP 6 rfl rfl 5 (by decide) f13 (fun _ h9 => h9) rfl dX7_net_115 ?_
                    refine lv_iload_n hx hb dX7_net_118 rfl (lv_at hl 0 rfl) ?_
                    refine va_iald hx hb hK hP 4 0 rfl rfl (vp_in_nI (show i_296 < 3 by omega) (by decide)) dX7_net_119 ?_
                    refine lv_eqi (y := (frrx_6 (i_296))) (congrArg frrx_6 (nI_clamp (show i_296 < 2 ^ 31 by omega))) ?_
                    obtain ⟨n_407, hn_407, q9⟩ := hf_9 (i_296)
                    refine lv_eqi (y := nI n_407) q9 ?_
                    refine va_iast hx hb hK hP hD hS 1 0 rfl rfl (vp_in_nI (show i_296 < 3 by omega) (by decide)) dX7_net_120 (fun H locs hP2 hD2 hS2 => ?_)
                    clear hP hD hS
                    have hPD : PD D A [(Mn, .inl (g 0, 1767, .inl F_286)), (Mr, .inl (g 0, 3, .inl (upd F_297 (nI i_296).toNatClampNeg (nI n_407)))), (Mh, .inl (g 0, 9, .inl fmh)), (Mt, .inl (g 0, 160, .inl fmt)), (Mrr, .inl (g 0, 3, .inl frrx_6)), (Mrc, .inl (g 0, 9, .inl frcx_8)), (Mm, .inr (7, [.int 0, .ref Mt, .int 0, .int zmax_2, .int zwrx_3, .ref Mrr, .ref Mrh, .ref Mrc, .int 1, .int (nI rcx_5), .ref Mn, .ref Mf, .ref Mr, .ref Mh, .int 1, .int (nI rcx_5), .ref Ma, .ref Mas, .ref Msn, .ref Mac, .ref Mat])), (Mrh, .inl (g 0, 9, .inl frhx_280))] H := ⟨hP2, hD2⟩
                    have hS := hS2; clear hP2 hD2 hS2; have hP := hPD.1; have hD := hPD.2; clear hPD
                    rw [nI_clamp (show i_296 < 2 ^ 31 by omega)] at hP hD
                    have hPD : PD D A [(Mn, .inl (g 0, 1767, .inl F_286)), (Mr, .inl (g 0, 3, .inl (upd F_297 (i_296) (nI n_407)))), (Mh, .inl (g 0, 9, .inl fmh)), (Mt, .inl (g 0, 160, .inl fmt)), (Mrr, .inl (g 0, 3, .inl frrx_6)), (Mrc, .inl (g 0, 9, .inl frcx_8)), (Mm, .inr (7, [.int 0, .ref Mt, .int 0, .int zmax_2, .int zwrx_3, .ref Mrr, .ref Mrh, .ref Mrc, .int 1, .int (nI rcx_5), .ref Mn, .ref Mf, .ref Mr, .ref Mh, .int 1, .int (nI rcx_5), .ref Ma, .ref Mas, .ref Msn, .ref Mac, .ref Mat])), (Mrh, .inl (g 0, 9, .inl frhx_280))] H := ⟨hP, hD⟩
                    clear hP hD; have hP := hPD.1; have hD := hPD.2; clear hPD
                    have hF_408 : n1 (upd F_297 (i_296) (nI n_407)) := n1_upd (hF_297) (n := n_407) (show n_407 ≤ 99 by omega)
                    generalize upd F_297 (i_296) (nI n_407) = F_408 at hP hD hF_408
                    refine lv_iinc (v := (nI (i_296 + 1))) (lv' := [(1, .int (nI (i_296 + 1))), (0, .ref Mm)]) hx hb dX7_net_121 hl (k := 0) rfl (nI_1 (i_296)) (by decide) rfl (fun ls hl => ?_)
                    refine lv_goto (tgt := 104) hx hb dX7_net_124 (by decide) ?_
                    exact loop_303_ih (i_296 + 1) F_408 (hF_408) (show (i_296 + 1) ≤ 3 by omega) (show 3 - (i_296 + 1) < Nloop_303 by omega) _ _ _ hP hD hS hl
              exact loop_303 _ 0 fmr (h7) (show 0 ≤ 3 by omega) (Nat.lt_succ_self _) _ _ _ hP hD hS hl
            · skip
              have cn_409 : i_285 < 1767 := Nat.lt_of_not_le (fun q9 => cb_292 ((nI_leI (show 1767 < 2 ^ 31 by omega) (show i_285 < 2 ^ 31 by omega)).mpr q9))
              refine lv_aload_n hx hb dX7_net_89 rfl (lv_at hl 1 rfl) ?_
              refine va_get (D := D) (ci := 7) (v := .ref Mn) (C := RX7) (T := TX7) (N := 21) hx hb hts iX7 hown hK hP 6 rfl rfl 10 (by decide) f22 (fun _ h9 => h9) rfl dX7_net_90 ?_
              refine lv_iload_n hx hb dX7_net_93 rfl (lv_at hl 0 rfl) ?_
              refine lv_iconst (v := 0) hx hb dX7_net_94 (by decide) ?_
              refine va_iast hx hb hK hP hD hS 0 0 rfl rfl (vp_in_nI (show i_285 < 1767 by omega) (by decide)) dX7_net_95 (fun H locs hP2 hD2 hS2 => ?_)
              clear hP hD hS
              have hPD : PD D A [(Mn, .inl (g 0, 1767, .inl (upd F_286 (nI i_285).toNatClampNeg 0))), (Mr, .inl (g 0, 3, .inl fmr)), (Mh, .inl (g 0, 9, .inl fmh)), (Mt, .inl (g 0, 160, .inl fmt)), (Mrr, .inl (g 0, 3, .inl frrx_6)), (Mrc, .inl (g 0, 9, .inl frcx_8)), (Mm, .inr (7, [.int 0, .ref Mt, .int 0, .int zmax_2, .int zwrx_3, .ref Mrr, .ref Mrh, .ref Mrc, .int 1, .int (nI rcx_5), .ref Mn, .ref Mf, .ref Mr, .ref Mh, .int 1, .int (nI rcx_5), .ref Ma, .ref Mas, .ref Msn, .ref Mac, .ref Mat])), (Mrh, .inl (g 0, 9, .inl frhx_280))] H := ⟨hP2, hD2⟩
              have hS := hS2; clear hP2 hD2 hS2; have hP := hPD.1; have hD := hPD.2; clear hPD
              rw [nI_clamp (show i_285 < 2 ^ 31 by omega)] at hP hD
              have hPD : PD D A [(Mn, .inl (g 0, 1767, .inl (upd F_286 (i_285) 0))), (Mr, .inl (g 0, 3, .inl fmr)), (Mh, .inl (g 0, 9, .inl fmh)), (Mt, .inl (g 0, 160, .inl fmt)), (Mrr, .inl (g 0, 3, .inl frrx_6)), (Mrc, .inl (g 0, 9, .inl frcx_8)), (Mm, .inr (7, [.int 0, .ref Mt, .int 0, .int zmax_2, .int zwrx_3, .ref Mrr, .ref Mrh, .ref Mrc, .int 1, .int (nI rcx_5), .ref Mn, .ref Mf, .ref Mr, .ref Mh, .int 1, .int (nI rcx_5), .ref Ma, .ref Mas, .ref Msn, .ref Mac, .ref Mat])), (Mrh, .inl (g 0, 9, .inl frhx_280))] H := ⟨hP, hD⟩
              clear hP hD; have hP := hPD.1; have hD := hPD.2; clear hPD
              have hF_410 : mOK tb ub (upd F_286 (i_285) 0) := mOK_zero hF_286
              generalize upd F_286 (i_285) 0 = F_410 at hP hD hF_410
              refine lv_iinc (v := (nI (i_285 + 1))) (lv' := [(1, .int (nI (i_285 + 1))), (0, .ref Mm)]) hx hb dX7_net_96 hl (k := 0) rfl (nI_1 (i_285)) (by decide) rfl (fun ls hl => ?_)
              refine lv_goto (tgt := 82) hx hb dX7_net_99 (by decide) ?_
              exact loop_291_ih (i_285 + 1) F_410 (hF_410) (show (i_285 + 1) ≤ 1767 by omega) (show 1767 - (i_285 + 1) < Nloop_291 by omega) _ _ _ hP hD hS hl
        exact loop_291 _ 0 fno (h6) (show 0 ≤ 1767 by omega) (Nat.lt_succ_self _) _ _ _ hP hD hS hl
      · skip
        have cn_411 : rcx_5 = 0 := (nI_eq (show rcx_5 < 2 ^ 31 by omega) (show 0 < 2 ^ 31 by omega)).mp cb_282
        refine lv_aload_n hx hb dX7_net_49 rfl (lv_at hl 0 rfl) ?_
        refine lv_iconst (v := 2) hx hb dX7_net_50 (by decide) ?_
        refine lv_aload_n hx hb dX7_net_51 rfl (lv_at hl 0 rfl) ?_
        refine va_get (D := D) (ci := 7) (v := .ref Mrc) (C := RX7) (T := TX7) (N := 21) hx hb hts iX7 hown hK hP 6 rfl rfl 7 (by decide) f19 (fun _ h9 => h9) rfl dX7_net_52 ?_
        refine lv_iconst (v := 0) hx hb dX7_net_55 (by decide) ?_
        refine ky_Vv (As := [.int 2, .ref Mrc, .int 0]) (rest := []) ⟨hx, hb, hml, hown, hts⟩ ⟨hK, hN⟩ hZ hP hD hS hA [6, 5] [0, 1, 2, 3, 4, 7] (wc := [(Mm, .inr (7, [.int 0, .ref Mt, .int 0, .int zmax_2, .int zwrx_3, .ref Mrr, .ref Mrh, .ref Mrc, .int 1, .int (nI rcx_5), .ref Mn, .ref Mf, .ref Mr, .ref Mh, .int (nI hp), .int (nI cc), .ref Ma, .ref Mas, .ref Msn, .ref Mac, .ref Mat])), (Mrc, .inl (g 0, 9, .inl frcx_8))]) (wr := [(Mn, .inl (g 0, 1767, .inl fno)), (Mr, .inl (g 0, 3, .inl fmr)), (Mh, .inl (g 0, 9, .inl fmh)), (Mt, .inl (g 0, 160, .inl fmt)), (Mrr, .inl (g 0, 3, .inl frrx_6)), (Mrh, .inl (g 0, 9, .inl frhx_280))]) rfl rfl rfl rfl (by decide) (k_X7_laysUsual_2 l D g H.size Mm Mrc 0 0 Mt 0 zmax_2 zwrx_3 Mrr Mrh 1 (nI rcx_5) Mn Mf Mr Mh (nI hp) (nI cc) Ma Mas Msn Mac Mat frcx_8 (show 0 ≤ 6 by omega) (hf_11)) (cwV 3 hts gX7_net_X7_laysUsual rfl rfl rfl (by decide +kernel) ⟨(Nat.le_of_ble_eq_true rfl), (Nat.le_of_ble_eq_true rfl)⟩) 6 7 rfl rfl rfl rfl hl.1 rfl (Nat.le_of_ble_eq_true rfl) dX7_net_56 ⟨(Nat.le_of_ble_eq_true rfl), (Nat.le_of_ble_eq_true rfl)⟩ (fun u H locs hw hP2 hD2 hS2 => ?_)
        clear hP hD hS
        obtain ⟨frcx_413, rfl, hf_414⟩ := hw
        have hPD : PD D A [(Mn, .inl (g 0, 1767, .inl fno)), (Mr, .inl (g 0, 3, .inl fmr)), (Mh, .inl (g 0, 9, .inl fmh)), (Mt, .inl (g 0, 160, .inl fmt)), (Mrr, .inl (g 0, 3, .inl frrx_6)), (Mrh, .inl (g 0, 9, .inl frhx_280)), (Mm, .inr (7, [.int 0, .ref Mt, .int 0, .int zmax_2, .int zwrx_3, .ref Mrr, .ref Mrh, .ref Mrc, .int 1, .int (nI rcx_5), .ref Mn, .ref Mf, .ref Mr, .ref Mh, .int (nI hp), .int (nI cc), .ref Ma, .ref Mas, .ref Msn, .ref Mac, .ref Mat])), (Mrc, .inl (g 0, 9, .inl frcx_413))] H := ⟨hP2, hD2⟩
        have hS := hS2; clear hP2 hD2 hS2; have hP := hPD.1; have hD := hPD.2; clear hPD
        refine W.widen (k := 0) (n := 0) (Nat.le_of_ble_eq_true rfl) (Nat.le_of_ble_eq_true rfl) ?_
        refine lv_aload_n hx hb dX7_net_59 rfl (lv_at hl 0 rfl) ?_
        refine lv_iconst (v := 1) hx hb dX7_net_60 (by decide) ?_
        refine va_put (D := D) (ci := 7) (v := .int 1) (ty := .int) (C := RX7) (T := TX7) (N := 21) hx hb hts iX7 tyX7 tyX7_ok nmX7 hown hK hP hD hS 6 rfl rfl 9 (by decide) f114 (fun _ h9 => h9) rfl (by decide +kernel) (rfl) (rfl) (Nat.le_of_ble_eq_true rfl) dX7_net_61 (fun H locs hP2 hD2 hS2 => ?_)
        clear hP hD hS
        have hPD : PD D A [(Mn, .inl (g 0, 1767, .inl fno)), (Mr, .inl (g 0, 3, .inl fmr)), (Mh, .inl (g 0, 9, .inl fmh)), (Mt, .inl (g 0, 160, .inl fmt)), (Mrr, .inl (g 0, 3, .inl frrx_6)), (Mrh, .inl (g 0, 9, .inl frhx_280)), (Mm, .inr (7, [.int 0, .ref Mt, .int 0, .int zmax_2, .int zwrx_3, .ref Mrr, .ref Mrh, .ref Mrc, .int 1, .int 1, .ref Mn, .ref Mf, .ref Mr, .ref Mh, .int (nI hp), .int (nI cc), .ref Ma, .ref Mas, .ref Msn, .ref Mac, .ref Mat])), (Mrc, .inl (g 0, 9, .inl frcx_413))] H := ⟨hP2, hD2⟩
        have hS := hS2; clear hP2 hD2 hS2; have hP := hPD.1; have hD := hPD.2; clear hPD
        refine lv_aload_n hx hb dX7_net_64 rfl (lv_at hl 0 rfl) ?_
        refine lv_aload_n hx hb dX7_net_65 rfl (lv_at hl 0 rfl) ?_
        refine va_get (D := D) (ci := 7) (v := .int 1) (C := RX7) (T := TX7) (N := 21) hx hb hts iX7 hown hK hP 6 rfl rfl 8 (by decide) f111 (fun _ h9 => h9) rfl dX7_net_66 ?_
        refine va_put (D := D) (ci := 7) (v := .int 1) (ty := .int) (C := RX7) (T := TX7) (N := 21) hx hb hts iX7 tyX7 tyX7_ok nmX7 hown hK hP hD hS 6 rfl rfl 14 (by decide) f124 (fun _ h9 => h9) rfl (by decide +kernel) (rfl) (rfl) (Nat.le_of_ble_eq_true rfl) dX7_net_69 (fun H locs hP2 hD2 hS2 => ?_)
        clear hP hD hS
        have hPD : PD D A [(Mn, .inl (g 0, 1767, .inl fno)), (Mr, .inl (g 0, 3, .inl fmr)), (Mh, .inl (g 0, 9, .inl fmh)), (Mt, .inl (g 0, 160, .inl fmt)), (Mrr, .inl (g 0, 3, .inl frrx_6)), (Mrh, .inl (g 0, 9, .inl frhx_280)), (Mm, .inr (7, [.int 0, .ref Mt, .int 0, .int zmax_2, .int zwrx_3, .ref Mrr, .ref Mrh, .ref Mrc, .int 1, .int 1, .ref Mn, .ref Mf, .ref Mr, .ref Mh, .int 1, .int (nI cc), .ref Ma, .ref Mas, .ref Msn, .ref Mac, .ref Mat])), (Mrc, .inl (g 0, 9, .inl frcx_413))] H := ⟨hP2, hD2⟩
        have hS := hS2; clear hP2 hD2 hS2; have hP := hPD.1; have hD := hPD.2; clear hPD
        refine lv_aload_n hx hb dX7_net_72 rfl (lv_at hl 0 rfl) ?_
        refine lv_aload_n hx hb dX7_net_73 rfl (lv_at hl 0 rfl) ?_
        refine va_get (D := D) (ci := 7) (v := .int 1) (C := RX7) (T := TX7) (N := 21) hx hb hts iX7 hown hK hP 6 rfl rfl 9 (by decide) f114 (fun _ h9 => h9) rfl dX7_net_74 ?_
        refine va_put (D := D) (ci := 7) (v := .int 1) (ty := .int) (C := RX7) (T := TX7) (N := 21) hx hb hts iX7 tyX7 tyX7_ok nmX7 hown hK hP hD hS 6 rfl rfl 15 (by decide) f127 (fun _ h9 => h9) rfl (by decide +kernel) (rfl) (rfl) (Nat.le_of_ble_eq_true rfl) dX7_net_77 (fun H locs hP2 hD2 hS2 => ?_)
        clear hP hD hS
        have hPD : PD D A [(Mn, .inl (g 0, 1767, .inl fno)), (Mr, .inl (g 0, 3, .inl fmr)), (Mh, .inl (g 0, 9, .inl fmh)), (Mt, .inl (g 0, 160, .inl fmt)), (Mrr, .inl (g 0, 3, .inl frrx_6)), (Mrh, .inl (g 0, 9, .inl frhx_280)), (Mm, .inr (7, [.int 0, .ref Mt, .int 0, .int zmax_2, .int zwrx_3, .ref Mrr, .ref Mrh, .ref Mrc, .int 1, .int 1, .ref Mn, .ref Mf, .ref Mr, .ref Mh, .int 1, .int 1, .ref Ma, .ref Mas, .ref Msn, .ref Mac, .ref Mat])), (Mrc, .inl (g 0, 9, .inl frcx_413))] H := ⟨hP2, hD2⟩
        have hS := hS2; clear hP2 hD2 hS2; have hP := hPD.1; have hD := hPD.2; clear hPD
        refine lv_iconst (v := 0) hx hb dX7_net_80 (by decide) ?_
        refine lv_istore_n (lv' := [(1, .int 0), (0, .ref Mm)]) hx hb dX7_net_81 rfl hl (by decide) rfl (fun ls hl => ?_)
        have loop_422 : ∀ (Nloop_422 : Nat) (i_416 : Nat) (F_417 : Nat → Int32) (hF_417 : mOK tb ub F_417) (hbi_416 : i_416 ≤ 1767) (hmloop_422 : 1767 - i_416 < Nloop_422) (H : Heap) (locs : List Loc) (ls : Array Slot), va_P D vwCl [(Mn, .inl (g 0, 1767, .inl F_417)), (Mr, .inl (g 0, 3, .inl fmr)), (Mh, .inl (g 0, 9, .inl fmh)), (Mt, .inl (g 0, 160, .inl fmt)), (Mrr, .inl (g 0, 3, .inl frrx_6)), (Mrh, .inl (g 0, 9, .inl frhx_280)), (Mm, .inr (7, [.int 0, .ref Mt, .int 0, .int zmax_2, .int zwrx_3, .ref Mrr, .ref Mrh, .ref Mrc, .int 1, .int 1, .ref Mn, .ref Mf, .ref Mr, .ref Mh, .int 1, .int 1, .ref Ma, .ref Mas, .ref Msn, .ref Mac, .ref Mat])), (Mrc, .inl (g 0, 9, .inl frcx_413))] H → va_D A [(Mn, .inl (g 0, 1767, .inl F_417)), (Mr, .inl (g 0, 3, .inl fmr)), (Mh, .inl (g 0, 9, .inl fmh)), (Mt, .inl (g 0, 160, .inl fmt)), (Mrr, .inl (g 0, 3, .inl frrx_6)), (Mrh, .inl (g 0, 9, .inl frhx_280)), (Mm, .inr (7, [.int 0, .ref Mt, .int 0, .int zmax_2, .int zwrx_3, .ref Mrr, .ref Mrh, .ref Mrc, .int 1, .int 1, .ref Mn, .ref Mf, .ref Mr, .ref Mh, .int 1, .int 1, .ref Ma, .ref Mas, .ref Msn, .ref Mac, .ref Mat])), (Mrc, .inl (g 0, 9, .inl frcx_413))] → va_S A s.heap H locs → lv_has ls 3 [(1, .int (nI i_416)), (0, .ref Mm)] → W p l e (headSpec wsX7_net ({ frames := 6, cells := 0, slots := 0, locals := 133 })).room s m ([.ref Mm] : List Value).toArray below meth c H locs 0 0 Q (F0 m 82 ls []) := by
          clear hP hD hS hl
          intro Nloop_422
          induction Nloop_422 with
          | zero => intro i_416 F_417 hF_417 hbi_416 hm9; exact absurd hm9 (Nat.not_lt_zero _)
          | succ Nloop_422 loop_422_ih =>
            intro i_416 F_417 hF_417 hbi_416 hmloop_422 H locs ls hP hD hS hl
            refine lv_iload_n hx hb dX7_net_82 rfl (lv_at hl 0 rfl) ?_
            refine lv_sipush (v := 1767) hx hb dX7_net_83 (by decide) ?_
            refine lv_icmp_ge (tgt := 102) hx hb dX7_net_86 (by decide) (fun cb_423 => ?_) (fun cb_423 => ?_)
            · skip
              have cn_424 : 1767 ≤ i_416 := (nI_leI (show 1767 < 2 ^ 31 by omega) (show i_416 < 2 ^ 31 by omega)).mp cb_423
              refine lv_iconst (v := 0) hx hb dX7_net_102 (by decide) ?_
              refine lv_istore_n (lv' := [(1, .int 0), (0, .ref Mm)]) hx hb dX7_net_103 rfl hl (by decide) rfl (fun ls hl => ?_)
              have loop_434 : ∀ (Nloop_434 : Nat) (i_427 : Nat) (F_428 : Nat → Int32) (hF_428 : n1 F_428) (hbi_427 : i_427 ≤ 3) (hmloop_434 : 3 - i_427 < Nloop_434) (H : Heap) (locs : List Loc) (ls : Array Slot), va_P D vwCl [(Mn, .inl (g 0, 1767, .inl F_417)), (Mr, .inl (g 0, 3, .inl F_428)), (Mh, .inl (g 0, 9, .inl fmh)), (Mt, .inl (g 0, 160, .inl fmt)), (Mrr, .inl (g 0, 3, .inl frrx_6)), (Mrh, .inl (g 0, 9, .inl frhx_280)), (Mm, .inr (7, [.int 0, .ref Mt, .int 0, .int zmax_2, .int zwrx_3, .ref Mrr, .ref Mrh, .ref Mrc, .int 1, .int 1, .ref Mn, .ref Mf, .ref Mr, .ref Mh, .int 1, .int 1, .ref Ma, .ref Mas, .ref Msn, .ref Mac, .ref Mat])), (Mrc, .inl (g 0, 9, .inl frcx_413))] H → va_D A [(Mn, .inl (g 0, 1767, .inl F_417)), (Mr, .inl (g 0, 3, .inl F_428)), (Mh, .inl (g 0, 9, .inl fmh)), (Mt, .inl (g 0, 160, .inl fmt)), (Mrr, .inl (g 0, 3, .inl frrx_6)), (Mrh, .inl (g 0, 9, .inl frhx_280)), (Mm, .inr (7, [.int 0, .ref Mt, .int 0, .int zmax_2, .int zwrx_3, .ref Mrr, .ref Mrh, .ref Mrc, .int 1, .int 1, .ref Mn, .ref Mf, .ref Mr, .ref Mh, .int 1, .int 1, .ref Ma, .ref Mas, .ref Msn, .ref Mac, .ref Mat])), (Mrc, .inl (g 0, 9, .inl frcx_413))] → va_S A s.heap H locs → lv_has ls 3 [(1, .int (nI i_427)), (0, .ref Mm)] → W p l e (headSpec wsX7_net ({ frames := 6, cells := 0, slots := 0, locals := 133 })).room s m ([.ref Mm] : List Value).toArray below meth c H locs 0 0 Q (F0 m 104 ls []) := by
                clear hP hD hS hl
                intro Nloop_434
                induction Nloop_434 with
                | zero => intro i_427 F_428 hF_428 hbi_427 hm9; exact absurd hm9 (Nat.not_lt_zero _)
                | succ Nloop_434 loop_434_ih =>
                  intro i_427 F_428 hF_428 hbi_427 hmloop_434 H locs ls hP hD hS hl
                  refine lv_iload_n hx hb dX7_net_104 rfl (lv_at hl 0 rfl) ?_
                  refine lv_iconst (v := 3) hx hb dX7_net_105 (by decide) ?_
                  refine lv_icmp_ge (tgt := 127) hx hb dX7_net_106 (by decide) (fun cb_435 => ?_) (fun cb_435 => ?_)
                  · skip
                    have cn_436 : 3 ≤ i_427 := (nI_leI (show 3 < 2 ^ 31 by omega) (show i_427 < 2 ^ 31 by omega)).mp cb_435
                    refine lv_iconst (v := 0) hx hb dX7_net_127 (by decide) ?_
                    refine lv_istore_n (lv' := [(1, .int 0), (0, .ref Mm)]) hx hb dX7_net_128 rfl hl (by decide) rfl (fun ls hl => ?_)
                    have loop_453 : ∀ (Nloop_453 : Nat) (i_442 : Nat) (F_443 : Nat → Int32) (F_444 : Nat → Int32) (hF_443 : mOK tb ub F_443) (hF_444 : n3 F_444) (hbi_442 : i_442 ≤ 1) (hmloop_453 : 1 - i_442 < Nloop_453) (H : Heap) (locs : List Loc) (ls : Array Slot), va_P D vwCl [(Mn, .inl (g 0, 1767, .inl F_443)), (Mr, .inl (g 0, 3, .inl F_428)), (Mh, .inl (g 0, 9, .inl F_444)), (Mt, .inl (g 0, 160, .inl fmt)), (Mrr, .inl (g 0, 3, .inl frrx_6)), (Mrh, .inl (g 0, 9, .inl frhx_280)), (Mm, .inr (7, [.int 0, .ref Mt, .int 0, .int zmax_2, .int zwrx_3, .ref Mrr, .ref Mrh, .ref Mrc, .int 1, .int 1, .ref Mn, .ref Mf, .ref Mr, .ref Mh, .int 1, .int 1, .ref Ma, .ref Mas, .ref Msn, .ref Mac, .ref Mat])), (Mrc, .inl (g 0, 9, .inl frcx_413))] H → va_D A [(Mn, .inl (g 0, 1767, .inl F_443)), (Mr, .inl (g 0, 3, .inl F_428)), (Mh, .inl (g 0, 9, .inl F_444)), (Mt, .inl (g 0, 160, .inl fmt)), (Mrr, .inl (g 0, 3, .inl frrx_6)), (Mrh, .inl (g 0, 9, .inl frhx_280)), (Mm, .inr (7, [.int 0, .ref Mt, .int 0, .int zmax_2, .int zwrx_3, .ref Mrr, .ref Mrh, .ref Mrc, .int 1, .int 1, .ref Mn, .ref Mf, .ref Mr, .ref Mh, .int 1, .int 1, .ref Ma, .ref Mas, .ref Msn, .ref Mac, .ref Mat])), (Mrc, .inl (g 0, 9, .inl frcx_413))] → va_S A s.heap H locs → lv_has ls 3 [(1, .int (nI i_442)), (0, .ref Mm)] → W p l e (headSpec wsX7_net ({ frames := 6, cells := 0, slots := 0, locals := 133 })).room s m ([.ref Mm] : List Value).toArray below meth c H locs 0 0 Q (F0 m 129 ls []) := by
                      clear hP hD hS hl
                      intro Nloop_453
                      induction Nloop_453 with
                      | zero => intro i_442 F_443 F_444 hF_443 hF_444 hbi_442 hm9; exact absurd hm9 (Nat.not_lt_zero _)
                      | succ Nloop_453 loop_453_ih =>
                        intro i_442 F_443 F_444 hF_443 hF_444 hbi_442 hmloop_453 H locs ls hP hD hS hl
                        refine lv_iload_n hx hb dX7_net_129 rfl (lv_at hl 0 rfl) ?_
                        refine lv_aload_n hx hb dX7_net_130 rfl (lv_at hl 1 rfl) ?_
                        refine va_get (D := D) (ci := 7) (v := .int 1) (C := RX7) (T := TX7) (N := 21) hx hb hts iX7 hown hK hP 6 rfl rfl 14 (by decide) f124 (fun _ h9 => h9) rfl dX7_net_131 ?_
                        refine lv_icmp_ge (tgt := 148) hx hb dX7_net_134 (by decide) (fun cb_454 => ?_) (fun cb_454 => ?_)
                        · skip
                          have cn_455 : 1 ≤ i_442 := (nI_leI (show 1 < 2 ^ 31 by omega) (show i_442 < 2 ^ 31 by omega)).mp cb_454
                          refine lv_iconst (v := 0) hx hb dX7_net_148 (by decide) ?_
                          refine lv_istore_n (lv' := [(1, .int 0), (0, .ref Mm)]) hx hb dX7_net_149 rfl hl (by decide) rfl (fun ls hl => ?_)
                          have loop_505 : ∀ (Nloop_505 : Nat) (i_478 : Nat) (F_479 : Nat → Int32) (hF_479 : mOK tb ub F_479) (hbi_478 : i_478 ≤ 1) (hmloop_505 : 1 - i_478 < Nloop_505) (H : Heap) (locs : List Loc) (ls : Array Slot), va_P D vwCl [(Mn, .inl (g 0, 1767, .inl F_479)), (Mr, .inl (g 0, 3, .inl F_428)), (Mh, .inl (g 0, 9, .inl F_444)), (Mt, .inl (g 0, 160, .inl fmt)), (Mrr, .inl (g 0, 3, .inl frrx_6)), (Mrh, .inl (g 0, 9, .inl frhx_280)), (Mm, .inr (7, [.int 0, .ref Mt, .int 0, .int zmax_2, .int zwrx_3, .ref Mrr, .ref Mrh, .ref Mrc, .int 1, .int 1, .ref Mn, .ref Mf, .ref Mr, .ref Mh, .int 1, .int 1, .ref Ma, .ref Mas, .ref Msn, .ref Mac, .ref Mat])), (Mrc, .inl (g 0, 9, .inl frcx_413))] H → va_D A [(Mn, .inl (g 0, 1767, .inl F_479)), (Mr, .inl (g 0, 3, .inl F_428)), (Mh, .inl (g 0, 9, .inl F_444)), (Mt, .inl (g 0, 160, .inl fmt)), (Mrr, .inl (g 0, 3, .inl frrx_6)), (Mrh, .inl (g 0, 9, .inl frhx_280)), (Mm, .inr (7, [.int 0, .ref Mt, .int 0, .int zmax_2, .int zwrx_3, .ref Mrr, .ref Mrh, .ref Mrc, .int 1, .int 1, .ref Mn, .ref Mf, .ref Mr, .ref Mh, .int 1, .int 1, .ref Ma, .ref Mas, .ref Msn, .ref Mac, .ref Mat])), (Mrc, .inl (g 0, 9, .inl frcx_413))] → va_S A s.heap H locs → lv_has ls 3 [(1, .int (nI i_478)), (0, .ref Mm)] → W p l e (headSpec wsX7_net ({ frames := 6, cells := 0, slots := 0, locals := 133 })).room s m ([.ref Mm] : List Value).toArray below meth c H locs 0 0 Q (F0 m 150 ls []) := by
                            clear hP hD hS hl
                            intro Nloop_505
                            induction Nloop_505 with
                            | zero => intro i_478 F_479 hF_479 hbi_478 hm9; exact absurd hm9 (Nat.not_lt_zero _)
                            | succ Nloop_505 loop_505_ih =>
                              intro i_478 F_479 hF_479 hbi_478 hmloop_505 H locs ls hP hD hS hl
                              refine lv_iload_n hx hb dX7_net_150 rfl (lv_at hl 0 rfl) ?_
                              refine lv_aload_n hx hb dX7_net_151 rfl (lv_at hl 1 rfl) ?_
                              refine va_get (D := D) (ci := 7) (v := .int 1) (C := RX7) (T := TX7) (N := 21) hx hb hts iX7 hown hK hP 6 rfl rfl 15 (by decide) f127 (fun _ h9 => h9) rfl dX7_net_152 ?_
                              refine lv_icmp_ge (tgt := 211) hx hb dX7_net_155 (by decide) (fun cb_506 => ?_) (fun cb_506 => ?_)
                              · skip
                                have cn_507 : 1 ≤ i_478 := (nI_leI (show 1 < 2 ^ 31 by omega) (show i_478 < 2 ^ 31 by omega)).mp cb_506
                                refine lv_aload_n hx hb dX7_net_211 rfl (lv_at hl 1 rfl) ?_
                                refine va_get (D := D) (ci := 7) (v := .int 1) (C := RX7) (T := TX7) (N := 21) hx hb hts iX7 hown hK hP 6 rfl rfl 15 (by decide) f127 (fun _ h9 => h9) rfl dX7_net_212 ?_
                                have hPD9 : PD D A [(Mm, .inr (7, [.int 0, .ref Mt, .int 0, .int zmax_2, .int zwrx_3, .ref Mrr, .ref Mrh, .ref Mrc, .int 1, .int 1, .ref Mn, .ref Mf, .ref Mr, .ref Mh, .int 1, .int 1, .ref Ma, .ref Mas, .ref Msn, .ref Mac, .ref Mat])), (Mt, .inl (g 0, 160, .inl fmt)), (Mrr, .inl (g 0, 3, .inl frrx_6)), (Mrh, .inl (g 0, 9, .inl frhx_280)), (Mrc, .inl (g 0, 9, .inl frcx_413)), (Mn, .inl (g 0, 1767, .inl F_479)), (Mr, .inl (g 0, 3, .inl F_428)), (Mh, .inl (g 0, 9, .inl F_444))] H := ⟨hP.sub [6, 3, 4, 5, 7, 0, 1, 2] rfl, hD.sub [6, 3, 4, 5, 7, 0, 1, 2] (by decide) rfl⟩
                                have hP9 := hPD9.1; have hD9 := hPD9.2
                                subst hQ
                                refine W.widen (k := 0) (n := 0) (Nat.le_of_ble_eq_true rfl) (Nat.le_of_ble_eq_true rfl) ?_
                                exact W.iret (v := 1) hx hb hr (fun tS htS _ => ⟨⟨_, _, rfl, ⟨0, 0, zmax_2, zwrx_3, 1, 1, 1, 1, frrx_6, frhx_280, frcx_413, F_479, F_428, F_444, rfl, (hf_9), (hf_281), (hf_414), (hF_479), (hF_428), (hF_444), (show 1 ≤ 3 by omega), (show 1 ≤ 3 by omega), (show (1 = 0 ∧ 1 = 0) ∨ (1 ≤ 1 ∧ 1 ≤ 1) by omega), (show 0 ≤ 160 by omega)⟩, by rw [htS]; exact hP9, hD9⟩, hS.F htS⟩) hS.2.2 dX7_net_215
                              · skip
                                have cn_508 : i_478 < 1 := Nat.lt_of_not_le (fun q9 => cb_506 ((nI_leI (show 1 < 2 ^ 31 by omega) (show i_478 < 2 ^ 31 by omega)).mpr q9))
                                refine lv_iconst (v := 0) hx hb dX7_net_158 (by decide) ?_
                                refine lv_istore_n (lv' := [(2, .int 0), (1, .int (nI i_478)), (0, .ref Mm)]) hx hb dX7_net_159 rfl hl (by decide) rfl (fun ls hl => ?_)
                                have loop_522 : ∀ (Nloop_522 : Nat) (i_512 : Nat) (F_513 : Nat → Int32) (hF_513 : mOK tb ub F_513) (hbi_512 : i_512 ≤ 3) (hmloop_522 : 3 - i_512 < Nloop_522) (H : Heap) (locs : List Loc) (ls : Array Slot), va_P D vwCl [(Mn, .inl (g 0, 1767, .inl F_513)), (Mr, .inl (g 0, 3, .inl F_428)), (Mh, .inl (g 0, 9, .inl F_444)), (Mt, .inl (g 0, 160, .inl fmt)), (Mrr, .inl (g 0, 3, .inl frrx_6)), (Mrh, .inl (g 0, 9, .inl frhx_280)), (Mm, .inr (7, [.int 0, .ref Mt, .int 0, .int zmax_2, .int zwrx_3, .ref Mrr, .ref Mrh, .ref Mrc, .int 1, .int 1, .ref Mn, .ref Mf, .ref Mr, .ref Mh, .int 1, .int 1, .ref Ma, .ref Mas, .ref Msn, .ref Mac, .ref Mat])), (Mrc, .inl (g 0, 9, .inl frcx_413))] H → va_D A [(Mn, .inl (g 0, 1767, .inl F_513)), (Mr, .inl (g 0, 3, .inl F_428)), (Mh, .inl (g 0, 9, .inl F_444)), (Mt, .inl (g 0, 160, .inl fmt)), (Mrr, .inl (g 0, 3, .inl frrx_6)), (Mrh, .inl (g 0, 9, .inl frhx_280)), (Mm, .inr (7, [.int 0, .ref Mt, .int 0, .int zmax_2, .int zwrx_3, .ref Mrr, .ref Mrh, .ref Mrc, .int 1, .int 1, .ref Mn, .ref Mf, .ref Mr, .ref Mh, .int 1, .int 1, .ref Ma, .ref Mas, .ref Msn, .ref Mac, .ref Mat])), (Mrc, .inl (g 0, 9, .inl frcx_413))] → va_S A s.heap H locs → lv_has ls 3 [(2, .int (nI i_512)), (1, .int (nI i_478)), (0, .ref Mm)] → W p l e (headSpec wsX7_net ({ frames := 6, cells := 0, slots := 0, locals := 133 })).room s m ([.ref Mm] : List Value).toArray below meth c H locs 0 0 Q (F0 m 160 ls []) := by
                                  clear hP hD hS hl
                                  intro Nloop_522
                                  induction Nloop_522 with
                                  | zero => intro i_512 F_513 hF_513 hbi_512 hm9; exact absurd hm9 (Nat.not_lt_zero _)
                                  | succ Nloop_522 loop_522_ih =>
                                    intro i_512 F_513 hF_513 hbi_512 hmloop_522 H locs ls hP hD hS hl
                                    refine lv_iload_n hx hb dX7_net_160 rfl (lv_at hl 0 rfl) ?_
                                    refine lv_iconst (v := 3) hx hb dX7_net_161 (by decide) ?_
                                    refine lv_icmp_ge (tgt := 192) hx hb dX7_net_162 (by decide) (fun cb_523 => ?_) (fun cb_523 => ?_)
                                    · skip
                                      have cn_524 : 3 ≤ i_512 := (nI_leI (show 3 < 2 ^ 31 by omega) (show i_512 < 2 ^ 31 by omega)).mp cb_523
                                      refine lv_aload_n hx hb dX7_net_192 rfl (lv_at hl 2 rfl) ?_
                                      refine va_get (D := D) (ci := 7) (v := .ref Mn) (C := RX7) (T := TX7) (N := 21) hx hb hts iX7 hown hK hP 6 rfl rfl 10 (by decide) f22 (fun _ h9 => h9) rfl dX7_net_193 ?_
                                      refine lv_iload_n hx hb dX7_net_196 rfl (lv_at hl 1 rfl) ?_
                                      refine ky_Si (As := [.int (nI i_478)]) (rest := [.ref Mn]) ⟨hx, hb, hml, hown, hts⟩ ⟨hK, hN⟩ hZ hP hD hS hA [] [0, 1, 2, 3, 4, 5, 6, 7] (wc := []) (wr := [(Mn, .inl (g 0, 1767, .inl F_513)), (Mr, .inl (g 0, 3, .inl F_428)), (Mh, .inl (g 0, 9, .inl F_444)), (Mt, .inl (g 0, 160, .inl fmt)), (Mrr, .inl (g 0, 3, .inl frrx_6)), (Mrh, .inl (g 0, 9, .inl frhx_280)), (Mm, .inr (7, [.int 0, .ref Mt, .int 0, .int zmax_2, .int zwrx_3, .ref Mrr, .ref Mrh, .ref Mrc, .int 1, .int 1, .ref Mn, .ref Mf, .ref Mr, .ref Mh, .int 1, .int 1, .ref Ma, .ref Mas, .ref Msn, .ref Mac, .ref Mat])), (Mrc, .inl (g 0, 9, .inl frcx_413))]) rfl rfl rfl rfl (by decide) (k_X7_circuitAt l D g H.size i_478 (show i_478 < 3 by omega)) (va_cwS 1 hts gX7_net_X7_circuitAt rfl rfl rfl (by decide +kernel) ⟨(Nat.le_of_ble_eq_true rfl), (Nat.le_of_ble_eq_true rfl)⟩) rfl hl.1 rfl (Nat.le_of_ble_eq_true rfl) dX7_net_197 ⟨(Nat.le_of_ble_eq_true rfl), (Nat.le_of_ble_eq_true rfl)⟩ (fun r_525 u H locs hw hP2 hD2 hS2 => ?_)
                                      clear hP hD hS
                                      obtain ⟨rfl, rfl⟩ := hw
                                      have hPD : PD D A [(Mn, .inl (g 0, 1767, .inl F_513)), (Mr, .inl (g 0, 3, .inl F_428)), (Mh, .inl (g 0, 9, .inl F_444)), (Mt, .inl (g 0, 160, .inl fmt)), (Mrr, .inl (g 0, 3, .inl frrx_6)), (Mrh, .inl (g 0, 9, .inl frhx_280)), (Mm, .inr (7, [.int 0, .ref Mt, .int 0, .int zmax_2, .int zwrx_3, .ref Mrr, .ref Mrh, .ref Mrc, .int 1, .int 1, .ref Mn, .ref Mf, .ref Mr, .ref Mh, .int 1, .int 1, .ref Ma, .ref Mas, .ref Msn, .ref Mac, .ref Mat])), (Mrc, .inl (g 0, 9, .inl frcx_413))] H := ⟨hP2, hD2⟩
                                      have hS := hS2; clear hP2 hD2 hS2; have hP := hPD.1; have hD := hPD.2; clear hPD
                                      refine W.widen (k := 0) (n := 0) (Nat.le_of_ble_eq_true rfl) (Nat.le_of_ble_eq_true rfl) ?_
                                      refine lv_bipush (v := 6) hx hb dX7_net_200 (by decide) ?_
                                      refine lv_iadd hx hb dX7_net_202 ?_
                                      refine lv_eqi (y := (nI (201 + 9 * i_478 + 6))) (nI_add (201 + 9 * i_478) (6)) ?_
                                      refine lv_iconst (v := (-1)) hx hb dX7_net_203 (by decide) ?_
                                      refine va_iast hx hb hK hP hD hS 0 0 rfl rfl (vp_in_nI (show 201 + 9 * i_478 + 6 < 1767 by omega) (by decide)) dX7_net_204 (fun H locs hP2 hD2 hS2 => ?_)
                                      clear hP hD hS
                                      have hPD : PD D A [(Mn, .inl (g 0, 1767, .inl (upd F_513 (nI (201 + 9 * i_478 + 6)).toNatClampNeg (-1)))), (Mr, .inl (g 0, 3, .inl F_428)), (Mh, .inl (g 0, 9, .inl F_444)), (Mt, .inl (g 0, 160, .inl fmt)), (Mrr, .inl (g 0, 3, .inl frrx_6)), (Mrh, .inl (g 0, 9, .inl frhx_280)), (Mm, .inr (7, [.int 0, .ref Mt, .int 0, .int zmax_2, .int zwrx_3, .ref Mrr, .ref Mrh, .ref Mrc, .int 1, .int 1, .ref Mn, .ref Mf, .ref Mr, .ref Mh, .int 1, .int 1, .ref Ma, .ref Mas, .ref Msn, .ref Mac, .ref Mat])), (Mrc, .inl (g 0, 9, .inl frcx_413))] H := ⟨hP2, hD2⟩
                                      have hS := hS2; clear hP2 hD2 hS2; have hP := hPD.1; have hD := hPD.2; clear hPD
                                      rw [nI_clamp (show 201 + 9 * i_478 + 6 < 2 ^ 31 by omega)] at hP hD
                                      have hPD : PD D A [(Mn, .inl (g 0, 1767, .inl (upd F_513 (201 + 9 * i_478 + 6) (-1)))), (Mr, .inl (g 0, 3, .inl F_428)), (Mh, .inl (g 0, 9, .inl F_444)), (Mt, .inl (g 0, 160, .inl fmt)), (Mrr, .inl (g 0, 3, .inl frrx_6)), (Mrh, .inl (g 0, 9, .inl frhx_280)), (Mm, .inr (7, [.int 0, .ref Mt, .int 0, .int zmax_2, .int zwrx_3, .ref Mrr, .ref Mrh, .ref Mrc, .int 1, .int 1, .ref Mn, .ref Mf, .ref Mr, .ref Mh, .int 1, .int 1, .ref Ma, .ref Mas, .ref Msn, .ref Mac, .ref Mat])), (Mrc, .inl (g 0, 9, .inl frcx_413))] H := ⟨hP, hD⟩
                                      clear hP hD; have hP := hPD.1; have hD := hPD.2; clear hPD
                                      have hF_526 : mOK tb ub (upd F_513 (201 + 9 * i_478 + 6) (-1)) := mOK_free hF_513 (show mfree (201 + 9 * i_478 + 6) by unfold mfree; omega)
                                      generalize upd F_513 (201 + 9 * i_478 + 6) (-1) = F_526 at hP hD hF_526
                                      refine lv_iinc (v := (nI (i_478 + 1))) (lv' := [(1, .int (nI (i_478 + 1))), (2, .int (nI i_512)), (0, .ref Mm)]) hx hb dX7_net_205 hl (k := 1) rfl (nI_1 (i_478)) (by decide) rfl (fun ls hl => ?_)
                                      refine lv_goto (tgt := 150) hx hb dX7_net_208 (by decide) ?_
                                      exact loop_505_ih (i_478 + 1) F_526 (hF_526) (show (i_478 + 1) ≤ 1 by omega) (show 1 - (i_478 + 1) < Nloop_505 by omega) _ _ _ hP hD hS (lv_sub hl [0, 2] rfl)
                                    · skip
                                      have cn_527 : i_512 < 3 := Nat.lt_of_not_le (fun q9 => cb_523 ((nI_leI (show 3 < 2 ^ 31 by omega) (show i_512 < 2 ^ 31 by omega)).mpr q9))
                                      refine lv_aload_n hx hb dX7_net_165 rfl (lv_at hl 2 rfl) ?_
                                      refine va_get (D := D) (ci := 7) (v := .ref Mn) (C := RX7) (T := TX7) (N := 21) hx hb hts iX7 hown hK hP 6 rfl rfl 10 (by decide) f22 (fun _ h9 => h9) rfl dX7_net_166 ?_
                                      refine lv_iload_n hx hb dX7_net_169 rfl (lv_at hl 1 rfl) ?_
                                      refine ky_Si (As := [.int (nI i_478)]) (rest := [.ref Mn]) ⟨hx, hb, hml, hown, hts⟩ ⟨hK, hN⟩ hZ hP hD hS hA [] [0, 1, 2, 3, 4, 5, 6, 7] (wc := []) (wr := [(Mn, .inl (g 0, 1767, .inl F_513)), (Mr, .inl (g 0, 3, .inl F_428)), (Mh, .inl (g 0, 9, .inl F_444)), (Mt, .inl (g 0, 160, .inl fmt)), (Mrr, .inl (g 0, 3, .inl frrx_6)), (Mrh, .inl (g 0, 9, .inl frhx_280)), (Mm, .inr (7, [.int 0, .ref Mt, .int 0, .int zmax_2, .int zwrx_3, .ref Mrr, .ref Mrh, .ref Mrc, .int 1, .int 1, .ref Mn, .ref Mf, .ref Mr, .ref Mh, .int 1, .int 1, .ref Ma, .ref Mas, .ref Msn, .ref Mac, .ref Mat])), (Mrc, .inl (g 0, 9, .inl frcx_413))]) rfl rfl rfl rfl (by decide) (k_X7_circuitAt l D g H.size i_478 (show i_478 < 3 by omega)) (va_cwS 1 hts gX7_net_X7_circuitAt rfl rfl rfl (by decide +kernel) ⟨(Nat.le_of_ble_eq_true rfl), (Nat.le_of_ble_eq_true rfl)⟩) rfl hl.1 rfl (Nat.le_of_ble_eq_true rfl) dX7_net_170 ⟨(Nat.le_of_ble_eq_true rfl), (Nat.le_of_ble_eq_true rfl)⟩ (fun r_528 u H locs hw hP2 hD2 hS2 => ?_)
                                      clear hP hD hS
                                      obtain ⟨rfl, rfl⟩ := hw
                                      have hPD : PD D A [(Mn, .inl (g 0, 1767, .inl F_513)), (Mr, .inl (g 0, 3, .inl F_428)), (Mh, .inl (g 0, 9, .inl F_444)), (Mt, .inl (g 0, 160, .inl fmt)), (Mrr, .inl (g 0, 3, .inl frrx_6)), (Mrh, .inl (g 0, 9, .inl frhx_280)), (Mm, .inr (7, [.int 0, .ref Mt, .int 0, .int zmax_2, .int zwrx_3, .ref Mrr, .ref Mrh, .ref Mrc, .int 1, .int 1, .ref Mn, .ref Mf, .ref Mr, .ref Mh, .int 1, .int 1, .ref Ma, .ref Mas, .ref Msn, .ref Mac, .ref Mat])), (Mrc, .inl (g 0, 9, .inl frcx_413))] H := ⟨hP2, hD2⟩
                                      have hS := hS2; clear hP2 hD2 hS2; have hP := hPD.1; have hD := hPD.2; clear hPD
                                      refine W.widen (k := 0) (n := 0) (Nat.le_of_ble_eq_true rfl) (Nat.le_of_ble_eq_true rfl) ?_
                                      refine lv_iload_n hx hb dX7_net_173 rfl (lv_at hl 0 rfl) ?_
                                      refine lv_iadd hx hb dX7_net_174 ?_
                                      refine lv_eqi (y := (nI (201 + 9 * i_478 + i_512))) (nI_add (201 + 9 * i_478) (i_512)) ?_
                                      refine lv_aload_n hx hb dX7_net_175 rfl (lv_at hl 2 rfl) ?_
                                      refine va_get (D := D) (ci := 7) (v := .ref Mrc) (C := RX7) (T := TX7) (N := 21) hx hb hts iX7 hown hK hP 6 rfl rfl 7 (by decide) f19 (fun _ h9 => h9) rfl dX7_net_176 ?_
                                      refine lv_iconst (v := 3) hx hb dX7_net_179 (by decide) ?_
                                      refine lv_iload_n hx hb dX7_net_180 rfl (lv_at hl 1 rfl) ?_
                                      refine lv_imul hx hb dX7_net_181 ?_
                                      refine lv_eqi (y := (nI (3 * i_478))) (pk_mul (3) (i_478)) ?_
                                      refine lv_iload_n hx hb dX7_net_182 rfl (lv_at hl 0 rfl) ?_
                                      refine lv_iadd hx hb dX7_net_183 ?_
                                      refine lv_eqi (y := (nI (3 * i_478 + i_512))) (nI_add (3 * i_478) (i_512)) ?_
                                      refine va_iald hx hb hK hP 7 0 rfl rfl (vp_in_nI (show 3 * i_478 + i_512 < 9 by omega) (by decide)) dX7_net_184 ?_
                                      refine lv_eqi (y := (frcx_413 (3 * i_478 + i_512))) (congrArg frcx_413 (nI_clamp (show 3 * i_478 + i_512 < 2 ^ 31 by omega))) ?_
                                      obtain ⟨n_529, hn_529, q9⟩ := hf_414 (3 * i_478 + i_512)
                                      refine lv_eqi (y := nI n_529) q9 ?_
                                      refine va_iast hx hb hK hP hD hS 0 0 rfl rfl (vp_in_nI (show 201 + 9 * i_478 + i_512 < 1767 by omega) (by decide)) dX7_net_185 (fun H locs hP2 hD2 hS2 => ?_)
                                      clear hP hD hS
                                      have hPD : PD D A [(Mn, .inl (g 0, 1767, .inl (upd F_513 (nI (201 + 9 * i_478 + i_512)).toNatClampNeg (nI n_529)))), (Mr, .inl (g 0, 3, .inl F_428)), (Mh, .inl (g 0, 9, .inl F_444)), (Mt, .inl (g 0, 160, .inl fmt)), (Mrr, .inl (g 0, 3, .inl frrx_6)), (Mrh, .inl (g 0, 9, .inl frhx_280)), (Mm, .inr (7, [.int 0, .ref Mt, .int 0, .int zmax_2, .int zwrx_3, .ref Mrr, .ref Mrh, .ref Mrc, .int 1, .int 1, .ref Mn, .ref Mf, .ref Mr, .ref Mh, .int 1, .int 1, .ref Ma, .ref Mas, .ref Msn, .ref Mac, .ref Mat])), (Mrc, .inl (g 0, 9, .inl frcx_413))] H := ⟨hP2, hD2⟩
                                      have hS := hS2; clear hP2 hD2 hS2; have hP := hPD.1; have hD := hPD.2; clear hPD
                                      rw [nI_clamp (show 201 + 9 * i_478 + i_512 < 2 ^ 31 by omega)] at hP hD
                                      have hPD : PD D A [(Mn, .inl (g 0, 1767, .inl (upd F_513 (201 + 9 * i_478 + i_512) (nI n_529)))), (Mr, .inl (g 0, 3, .inl F_428)), (Mh, .inl (g 0, 9, .inl F_444)), (Mt, .inl (g 0, 160, .inl fmt)), (Mrr, .inl (g 0, 3, .inl frrx_6)), (Mrh, .inl (g 0, 9, .inl frhx_280)), (Mm, .inr (7, [.int 0, .ref Mt, .int 0, .int zmax_2, .int zwrx_3, .ref Mrr, .ref Mrh, .ref Mrc, .int 1, .int 1, .ref Mn, .ref Mf, .ref Mr, .ref Mh, .int 1, .int 1, .ref Ma, .ref Mas, .ref Msn, .ref Mac, .ref Mat])), (Mrc, .inl (g 0, 9, .inl frcx_413))] H := ⟨hP, hD⟩
                                      clear hP hD; have hP := hPD.1; have hD := hPD.2; clear hPD
                                      have hF_530 : mOK tb ub (upd F_513 (201 + 9 * i_478 + i_512) (nI n_529)) := mOK_free hF_513 (show mfree (201 + 9 * i_478 + i_512) by unfold mfree; omega)
                                      generalize upd F_513 (201 + 9 * i_478 + i_512) (nI n_529) = F_530 at hP hD hF_530
                                      refine lv_iinc (v := (nI (i_512 + 1))) (lv' := [(2, .int (nI (i_512 + 1))), (1, .int (nI i_478)), (0, .ref Mm)]) hx hb dX7_net_186 hl (k := 0) rfl (nI_1 (i_512)) (by decide) rfl (fun ls hl => ?_)
                                      refine lv_goto (tgt := 160) hx hb dX7_net_189 (by decide) ?_
                                      exact loop_522_ih (i_512 + 1) F_530 (hF_530) (show (i_512 + 1) ≤ 3 by omega) (show 3 - (i_512 + 1) < Nloop_522 by omega) _ _ _ hP hD hS hl
                                exact loop_522 _ 0 F_479 (hF_479) (show 0 ≤ 3 by omega) (Nat.lt_succ_self _) _ _ _ hP hD hS hl
                          exact loop_505 _ 0 F_443 (hF_443) (show 0 ≤ 1 by omega) (Nat.lt_succ_self _) _ _ _ hP hD hS hl
                        · skip
                          have cn_531 : i_442 < 1 := Nat.lt_of_not_le (fun q9 => cb_454 ((nI_leI (show 1 < 2 ^ 31 by omega) (show i_442 < 2 ^ 31 by omega)).mpr q9))
                          refine lv_aload_n hx hb dX7_net_137 rfl (lv_at hl 1 rfl) ?_
                          refine lv_iload_n hx hb dX7_net_138 rfl (lv_at hl 0 rfl) ?_
                          refine ky_Vv (As := [.int (nI i_442)]) (rest := []) ⟨hx, hb, hml, hown, hts⟩ ⟨hK, hN⟩ hZ hP hD hS hA [6, 0, 2, 1, 5] [3, 4, 7] (wc := [(Mm, .inr (7, [.int 0, .ref Mt, .int 0, .int zmax_2, .int zwrx_3, .ref Mrr, .ref Mrh, .ref Mrc, .int 1, .int 1, .ref Mn, .ref Mf, .ref Mr, .ref Mh, .int 1, .int 1, .ref Ma, .ref Mas, .ref Msn, .ref Mac, .ref Mat])), (Mn, .inl (g 0, 1767, .inl F_443)), (Mh, .inl (g 0, 9, .inl F_444)), (Mr, .inl (g 0, 3, .inl F_428)), (Mrh, .inl (g 0, 9, .inl frhx_280))]) (wr := [(Mt, .inl (g 0, 160, .inl fmt)), (Mrr, .inl (g 0, 3, .inl frrx_6)), (Mrc, .inl (g 0, 9, .inl frcx_413))]) rfl rfl rfl rfl (by decide) (k_X7_laysHop l D g H.size Mm i_442 0 Mt 0 zmax_2 zwrx_3 Mrr Mrh Mrc 1 1 Mn Mf Mr Mh 1 1 Ma Mas Msn Mac Mat F_443 F_444 F_428 frhx_280 (show tb < 2 ^ 29 by omega) (show ub < 2 ^ 29 by omega) (hF_443) (show 1 ≤ 1 by omega) (show 1 ≤ 3 by omega) (show 1 ≤ 1 by omega) (show 1 ≤ 3 by omega) (show i_442 < 3 by omega) (hF_444) (hf_281) (hF_428)) (cwV 1 hts gX7_net_X7_laysHop rfl rfl rfl (by decide +kernel) ⟨(Nat.le_of_ble_eq_true rfl), (Nat.le_of_ble_eq_true rfl)⟩) 6 7 rfl rfl rfl rfl hl.1 rfl (Nat.le_of_ble_eq_true rfl) dX7_net_139 ⟨(Nat.le_of_ble_eq_true rfl), (Nat.le_of_ble_eq_true rfl)⟩ (fun u H locs hw hP2 hD2 hS2 => ?_)
                          clear hP hD hS
                          obtain ⟨fnox_533, fmhx_534, rfl, hf_535, hf_536⟩ := hw
                          have hPD : PD D A [(Mt, .inl (g 0, 160, .inl fmt)), (Mrr, .inl (g 0, 3, .inl frrx_6)), (Mrc, .inl (g 0, 9, .inl frcx_413)), (Mm, .inr (7, [.int 0, .ref Mt, .int (nI 0), .int zmax_2, .int zwrx_3, .ref Mrr, .ref Mrh, .ref Mrc, .int 1, .int 1, .ref Mn, .ref Mf, .ref Mr, .ref Mh, .int (nI 1), .int (nI 1), .ref Ma, .ref Mas, .ref Msn, .ref Mac, .ref Mat])), (Mn, .inl (g 0, 1767, .inl fnox_533)), (Mh, .inl (g 0, 9, .inl fmhx_534)), (Mr, .inl (g 0, 3, .inl F_428)), (Mrh, .inl (g 0, 9, .inl frhx_280))] H := ⟨hP2, hD2⟩
                          have hS := hS2; clear hP2 hD2 hS2; have hP := hPD.1; have hD := hPD.2; clear hPD
                          refine W.widen (k := 0) (n := 0) (Nat.le_of_ble_eq_true rfl) (Nat.le_of_ble_eq_true rfl) ?_
                          refine lv_iinc (v := (nI (i_442 + 1))) (lv' := [(1, .int (nI (i_442 + 1))), (0, .ref Mm)]) hx hb dX7_net_142 hl (k := 0) rfl (nI_1 (i_442)) (by decide) rfl (fun ls hl => ?_)
                          refine lv_goto (tgt := 129) hx hb dX7_net_145 (by decide) ?_
                          exact loop_453_ih (i_442 + 1) fnox_533 fmhx_534 (hf_535) (hf_536) (show (i_442 + 1) ≤ 1 by omega) (show 1 - (i_442 + 1) < Nloop_453 by omega) _ _ _ (hP.sub [4, 6, 5, 0, 1, 7, 3, 2] rfl) (hD.sub [4, 6, 5, 0, 1, 7, 3, 2] (by decide) rfl) hS hl
                    exact loop_453 _ 0 F_417 fmh (hF_417) (h8) (show 0 ≤ 1 by omega) (Nat.lt_succ_self _) _ _ _ hP hD hS hl
                  · skip
                    have cn_537 : i_427 < 3 := Nat.lt_of_not_le (fun q9 => cb_435 ((nI_leI (show 3 < 2 ^ 31 by omega) (show i_427 < 2 ^ 31 by omega)).mpr q9))
                    refine lv_aload_n hx hb dX7_net_109 rfl (lv_at hl 1 rfl) ?_
                    refine va_get (D := D) (ci := 7) (v := .ref Mr) (C := RX7) (T := TX7) (N := 21) hx hb hts iX7 hown hK hP 6 rfl rfl 12 (by decide) f28 (fun _ h9 => h9) rfl dX7_net_110 ?_
                    refine lv_iload_n hx hb dX7_net_113 rfl (lv_at hl 0 rfl) ?_
                    refine lv_aload_n hx hb dX7_net_114 rfl (lv_at hl 1 rfl) ?_
                    refine va_get (D := D) (ci := 7) (v := .ref Mrr) (C := RX7) (T := TX7) (N := 21) hx hb hts iX7 hown hK hP 6 rfl rfl 5 (by decide) f13 (fun _ h9 => h9) rfl dX7_net_115 ?_
                    refine lv_iload_n hx hb dX7_net_118 rfl (lv_at hl 0 rfl) ?_
                    refine va_iald hx hb hK hP 4 0 rfl rfl (vp_in_nI (show i_427 < 3 by omega) (by decide)) dX7_net_119 ?_
                    refine lv_eqi (y := (frrx_6 (i_427))) (congrArg frrx_6 (nI_clamp (show i_427 < 2 ^ 31 by omega))) ?_
                    obtain ⟨n_538, hn_538, q9⟩ := hf_9 (i_427)
                    refine lv_eqi (y := nI n_538) q9 ?_
                    refine va_iast hx hb hK hP hD hS 1 0 rfl rfl (vp_in_nI (show i_427 < 3 by omega) (by decide)) dX7_net_120 (fun H locs hP2 hD2 hS2 => ?_)
                    clear hP hD hS
                    have hPD : PD D A [(Mn, .inl (g 0, 1767, .inl F_417)), (Mr, .inl (g 0, 3, .inl (upd F_428 (nI i_427).toNatClampNeg (nI n_538)))), (Mh, .inl (g 0, 9, .inl fmh)), (Mt, .inl (g 0, 160, .inl fmt)), (Mrr, .inl (g 0, 3, .inl frrx_6)), (Mrh, .inl (g 0, 9, .inl frhx_280)), (Mm, .inr (7, [.int 0, .ref Mt, .int 0, .int zmax_2, .int zwrx_3, .ref Mrr, .ref Mrh, .ref Mrc, .int 1, .int 1, .ref Mn, .ref Mf, .ref Mr, .ref Mh, .int 1, .int 1, .ref Ma, .ref Mas, .ref Msn, .ref Mac, .ref Mat])), (Mrc, .inl (g 0, 9, .inl frcx_413))] H := ⟨hP2, hD2⟩
                    have hS := hS2; clear hP2 hD2 hS2; have hP := hPD.1; have hD := hPD.2; clear hPD
                    rw [nI_clamp (show i_427 < 2 ^ 31 by omega)] at hP hD
                    have hPD : PD D A [(Mn, .inl (g 0, 1767, .inl F_417)), (Mr, .inl (g 0, 3, .inl (upd F_428 (i_427) (nI n_538)))), (Mh, .inl (g 0, 9, .inl fmh)), (Mt, .inl (g 0, 160, .inl fmt)), (Mrr, .inl (g 0, 3, .inl frrx_6)), (Mrh, .inl (g 0, 9, .inl frhx_280)), (Mm, .inr (7, [.int 0, .ref Mt, .int 0, .int zmax_2, .int zwrx_3, .ref Mrr, .ref Mrh, .ref Mrc, .int 1, .int 1, .ref Mn, .ref Mf, .ref Mr, .ref Mh, .int 1, .int 1, .ref Ma, .ref Mas, .ref Msn, .ref Mac, .ref Mat])), (Mrc, .inl (g 0, 9, .inl frcx_413))] H := ⟨hP, hD⟩
                    clear hP hD; have hP := hPD.1; have hD := hPD.2; clear hPD
                    have hF_539 : n1 (upd F_428 (i_427) (nI n_538)) := n1_upd (hF_428) (n := n_538) (show n_538 ≤ 99 by omega)
                    generalize upd F_428 (i_427) (nI n_538) = F_539 at hP hD hF_539
                    refine lv_iinc (v := (nI (i_427 + 1))) (lv' := [(1, .int (nI (i_427 + 1))), (0, .ref Mm)]) hx hb dX7_net_121 hl (k := 0) rfl (nI_1 (i_427)) (by decide) rfl (fun ls hl => ?_)
                    refine lv_goto (tgt := 104) hx hb dX7_net_124 (by decide) ?_
                    exact loop_434_ih (i_427 + 1) F_539 (hF_539) (show (i_427 + 1) ≤ 3 by omega) (show 3 - (i_427 + 1) < Nloop_434 by omega) _ _ _ hP hD hS hl
              exact loop_434 _ 0 fmr (h7) (show 0 ≤ 3 by omega) (Nat.lt_succ_self _) _ _ _ hP hD hS hl
            · skip
              have cn_540 : i_416 < 1767 := Nat.lt_of_not_le (fun q9 => cb_423 ((nI_leI (show 1767 < 2 ^ 31 by omega) (show i_416 < 2 ^ 31 by omega)).mpr q9))
              refine lv_aload_n hx hb dX7_net_89 rfl (lv_at hl 1 rfl) ?_
              refine va_get (D := D) (ci := 7) (v := .ref Mn) (C := RX7) (T := TX7) (N := 21) hx hb hts iX7 hown hK hP 6 rfl rfl 10 (by decide) f22 (fun _ h9 => h9) rfl dX7_net_90 ?_
              refine lv_iload_n hx hb dX7_net_93 rfl (lv_at hl 0 rfl) ?_
              refine lv_iconst (v := 0) hx hb dX7_net_94 (by decide) ?_
              refine va_iast hx hb hK hP hD hS 0 0 rfl rfl (vp_in_nI (show i_416 < 1767 by omega) (by decide)) dX7_net_95 (fun H locs hP2 hD2 hS2 => ?_)
              clear hP hD hS
              have hPD : PD D A [(Mn, .inl (g 0, 1767, .inl (upd F_417 (nI i_416).toNatClampNeg 0))), (Mr, .inl (g 0, 3, .inl fmr)), (Mh, .inl (g 0, 9, .inl fmh)), (Mt, .inl (g 0, 160, .inl fmt)), (Mrr, .inl (g 0, 3, .inl frrx_6)), (Mrh, .inl (g 0, 9, .inl frhx_280)), (Mm, .inr (7, [.int 0, .ref Mt, .int 0, .int zmax_2, .int zwrx_3, .ref Mrr, .ref Mrh, .ref Mrc, .int 1, .int 1, .ref Mn, .ref Mf, .ref Mr, .ref Mh, .int 1, .int 1, .ref Ma, .ref Mas, .ref Msn, .ref Mac, .ref Mat])), (Mrc, .inl (g 0, 9, .inl frcx_413))] H := ⟨hP2, hD2⟩
              have hS := hS2; clear hP2 hD2 hS2; have hP := hPD.1; have hD := hPD.2; clear hPD
              rw [nI_clamp (show i_416 < 2 ^ 31 by omega)] at hP hD
              have hPD : PD D A [(Mn, .inl (g 0, 1767, .inl (upd F_417 (i_416) 0))), (Mr, .inl (g 0, 3, .inl fmr)), (Mh, .inl (g 0, 9, .inl fmh)), (Mt, .inl (g 0, 160, .inl fmt)), (Mrr, .inl (g 0, 3, .inl frrx_6)), (Mrh, .inl (g 0, 9, .inl frhx_280)), (Mm, .inr (7, [.int 0, .ref Mt, .int 0, .int zmax_2, .int zwrx_3, .ref Mrr, .ref Mrh, .ref Mrc, .int 1, .int 1, .ref Mn, .ref Mf, .ref Mr, .ref Mh, .int 1, .int 1, .ref Ma, .ref Mas, .ref Msn, .ref Mac, .ref Mat])), (Mrc, .inl (g 0, 9, .inl frcx_413))] H := ⟨hP, hD⟩
              clear hP hD; have hP := hPD.1; have hD := hPD.2; clear hPD
              have hF_541 : mOK tb ub (upd F_417 (i_416) 0) := mOK_zero hF_417
              generalize upd F_417 (i_416) 0 = F_541 at hP hD hF_541
              refine lv_iinc (v := (nI (i_416 + 1))) (lv' := [(1, .int (nI (i_416 + 1))), (0, .ref Mm)]) hx hb dX7_net_96 hl (k := 0) rfl (nI_1 (i_416)) (by decide) rfl (fun ls hl => ?_)
              refine lv_goto (tgt := 82) hx hb dX7_net_99 (by decide) ?_
              exact loop_422_ih (i_416 + 1) F_541 (hF_541) (show (i_416 + 1) ≤ 1767 by omega) (show 1767 - (i_416 + 1) < Nloop_422 by omega) _ _ _ hP hD hS hl
        exact loop_422 _ 0 fno (h6) (show 0 ≤ 1767 by omega) (Nat.lt_succ_self _) _ _ _ hP hD hS hl
  · skip
    refine lv_iconst (v := (-1)) hx hb dX7_net_13 (by decide) ?_
    have hPD9 : PD D A [(Mm, .inr (7, [.int 0, .ref Mt, .int (nI tp), .int zmax_2, .int zwrx_3, .ref Mrr, .ref Mrh, .ref Mrc, .int (nI rhx_4), .int (nI rcx_5), .ref Mn, .ref Mf, .ref Mr, .ref Mh, .int (nI hp), .int (nI cc), .ref Ma, .ref Mas, .ref Msn, .ref Mac, .ref Mat])), (Mt, .inl (g 0, 160, .inl fmt)), (Mrr, .inl (g 0, 3, .inl frrx_6)), (Mrh, .inl (g 0, 9, .inl frhx_7)), (Mrc, .inl (g 0, 9, .inl frcx_8)), (Mn, .inl (g 0, 1767, .inl fno)), (Mr, .inl (g 0, 3, .inl fmr)), (Mh, .inl (g 0, 9, .inl fmh))] H := ⟨hP.sub [3, 4, 5, 6, 7, 0, 1, 2] rfl, hD.sub [3, 4, 5, 6, 7, 0, 1, 2] (by decide) rfl⟩
    have hP9 := hPD9.1; have hD9 := hPD9.2
    subst hQ
    refine W.widen (k := 0) (n := 0) (Nat.le_of_ble_eq_true rfl) (Nat.le_of_ble_eq_true rfl) ?_
    exact W.iret (v := (-1)) hx hb hr (fun tS htS _ => ⟨⟨_, _, rfl, ⟨0, tp, zmax_2, zwrx_3, (nI rhx_4), (nI rcx_5), hp, cc, frrx_6, frhx_7, frcx_8, fno, fmr, fmh, rfl, (hf_9), (hf_10), (hf_11), (h6), (h7), (h8), (show hp ≤ 3 by omega), (show cc ≤ 3 by omega), (show (hp = 0 ∧ cc = 0) ∨ (1 ≤ hp ∧ 1 ≤ cc) by omega), (show tp ≤ 160 by omega)⟩, by rw [htS]; exact hP9, hD9⟩, hS.F htS⟩) hS.2.2 dX7_net_14

set_option maxHeartbeats 4000000 in
set_option maxRecDepth 100000 in
theorem k_X7_end (l : Launch) (D : va_G) (g : Nat → ClassId) (sz : Nat) (Mm : Nat) (zn : Int32) (zth : Int32) (Mt : Nat) (tp : Nat) (zma : Int32) (zwr : Int32) (Mrr : Nat) (Mrh : Nat) (Mrc : Nat) (zrh : Int32) (zrc : Int32) (Mn : Nat) (Mf : Nat) (Mr : Nat) (Mh : Nat) (hp : Nat) (cc : Nat) (Ma : Nat) (Mas : Nat) (Msn : Nat) (Mac : Nat) (Mat : Nat) (h0 : tp ≤ 160) : Met l yX7_end wsX7_end ({ frames := 1, cells := 0, slots := 0, locals := 22 }) (va_Pc [.ref Mm, .int zn] (pre D g sz [(Mm, .inr (7, [.int zth, .ref Mt, .int (nI tp), .int zma, .int zwr, .ref Mrr, .ref Mrh, .ref Mrc, .int zrh, .int zrc, .ref Mn, .ref Mf, .ref Mr, .ref Mh, .int (nI hp), .int (nI cc), .ref Ma, .ref Mas, .ref Msn, .ref Mac, .ref Mat]))])) (va_Qi (fun (r : Int32) (u : va_W) => ∃ (zthx : Int32) (tpx : Nat), u = [(Mm, .inr (7, [.int zthx, .ref Mt, .int (nI tpx), .int zma, .int zwr, .ref Mrr, .ref Mrh, .ref Mrc, .int zrh, .int zrc, .ref Mn, .ref Mf, .ref Mr, .ref Mh, .int (nI hp), .int (nI cc), .ref Ma, .ref Mas, .ref Msn, .ref Mac, .ref Mat]))] ∧ (tpx ≤ 160)) (wd D (va_A [(Mm, .inr (7, [.int zth, .ref Mt, .int (nI tp), .int zma, .int zwr, .ref Mrr, .ref Mrh, .ref Mrc, .int zrh, .int zrc, .ref Mn, .ref Mf, .ref Mr, .ref Mh, .int (nI hp), .int (nI cc), .ref Ma, .ref Mas, .ref Msn, .ref Mac, .ref Mat]))] sz)) (va_A [(Mm, .inr (7, [.int zth, .ref Mt, .int (nI tp), .int zma, .int zwr, .ref Mrr, .ref Mrh, .ref Mrc, .int zrh, .int zrc, .ref Mn, .ref Mf, .ref Mr, .ref Mh, .int (nI hp), .int (nI cc), .ref Ma, .ref Mas, .ref Msn, .ref Mac, .ref Mat]))] sz)) 0 0 (va_A [(Mm, .inr (7, [.int zth, .ref Mt, .int (nI tp), .int zma, .int zwr, .ref Mrr, .ref Mrh, .ref Mrc, .int zrh, .int zrc, .ref Mn, .ref Mf, .ref Mr, .ref Mh, .int (nI hp), .int (nI cc), .ref Ma, .ref Mas, .ref Msn, .ref Mac, .ref Mat]))] sz) := by
  refine Met.ofW (cc := cX7_end) (maxL := 2) (ret := (some .boolean)) (by decide) rfl ?_
  intro p e s m args below meth c s₁ B hml hv
  obtain ⟨rfl, hsz, hP, ⟨hK, hN⟩, hD0, hZ⟩ := hv
  have hx := B.exec
  have hb := B.bytes
  have hr := B.returns
  have hts := atoms_spec (ws := wsX7_end) B.pre
  have hown : s.vm.findClass RX7 = some m.cls := findClass_of_methodNamed B.named
  have hlocks := B.notSynchronized
  clear B
  subst hsz
  have hD := hD0.self (sz := s.heap.size)
  clear hD0
  generalize hAe : va_A [(Mm, .inr (7, [.int zth, .ref Mt, .int (nI tp), .int zma, .int zwr, .ref Mrr, .ref Mrh, .ref Mrc, .int zrh, .int zrc, .ref Mn, .ref Mf, .ref Mr, .ref Mh, .int (nI hp), .int (nI cc), .ref Ma, .ref Mas, .ref Msn, .ref Mac, .ref Mat]))] s.heap.size = A at hD hZ ⊢
  have hA : ∀ q : Nat, s.heap.size ≤ q → A q := fun q h => by rw [← hAe]; exact Or.inr h
  have hS : va_S A s.heap s.heap [] := va_S.rf
  have f49 := hts (.fieldLink RX7 49 "HopCreditsModel" "thrown" "I") (by decide +kernel)
  have f57 := hts (.fieldLink RX7 57 "HopCreditsModel" "taped" "I") (by decide +kernel)
  have iX7 : ∀ w ∈ u_ws RX7 TX7 21, w ∈ wsX7_end := by decide +kernel
  have hl := lv_entry ([.ref Mm, .int zn]) (n := 2) (Nat.le_of_ble_eq_true rfl)
  rw [lg_entry_eq]
  generalize (lg_sl ([.ref Mm, .int zn]) ++ List.replicate (2 - (lg_sl ([.ref Mm, .int zn])).length) Slot.unset).toArray = ls at hl ⊢
  have hl : lv_has ls 2 [(0, .ref Mm), (1, .int zn)] := hl
  generalize hQ : MQ below _ _ s _ _ _ = Q
  generalize hH : s.heap = H at hP ⊢
  have hS : va_S A s.heap H [] := by rw [← hH]; exact hS
  clear hH
  refine lv_aload_n hx hb dX7_end_0 rfl (lv_at hl 0 rfl) ?_
  refine lv_iconst (v := 0) hx hb dX7_end_1 (by decide) ?_
  refine va_put (D := D) (ci := 7) (v := .int 0) (ty := .int) (C := RX7) (T := TX7) (N := 21) hx hb hts iX7 tyX7 tyX7_ok nmX7 hown hK hP hD hS 0 rfl rfl 0 (by decide) f49 (fun _ h9 => h9) rfl (by decide +kernel) (rfl) (rfl) (Nat.le_of_ble_eq_true rfl) dX7_end_2 (fun H locs hP2 hD2 hS2 => ?_)
  clear hP hD hS
  have hPD : PD D A [(Mm, .inr (7, [.int 0, .ref Mt, .int (nI tp), .int zma, .int zwr, .ref Mrr, .ref Mrh, .ref Mrc, .int zrh, .int zrc, .ref Mn, .ref Mf, .ref Mr, .ref Mh, .int (nI hp), .int (nI cc), .ref Ma, .ref Mas, .ref Msn, .ref Mac, .ref Mat]))] H := ⟨hP2, hD2⟩
  have hS := hS2; clear hP2 hD2 hS2; have hP := hPD.1; have hD := hPD.2; clear hPD
  refine lv_iload_n hx hb dX7_end_5 rfl (lv_at hl 1 rfl) ?_
  refine lv_iconst (v := 0) hx hb dX7_end_6 (by decide) ?_
  refine lv_aload_n hx hb dX7_end_7 rfl (lv_at hl 0 rfl) ?_
  refine va_get (D := D) (ci := 7) (v := .int (nI tp)) (C := RX7) (T := TX7) (N := 21) hx hb hts iX7 hown hK hP 0 rfl rfl 2 (by decide) f57 (fun _ h9 => h9) rfl dX7_end_8 ?_
  refine ky_Si (As := [.int zn, .int 0, .int (nI tp)]) (rest := []) ⟨hx, hb, hml, hown, hts⟩ ⟨hK, hN⟩ hZ hP hD hS hA [] [0] (wc := []) (wr := [(Mm, .inr (7, [.int 0, .ref Mt, .int (nI tp), .int zma, .int zwr, .ref Mrr, .ref Mrh, .ref Mrc, .int zrh, .int zrc, .ref Mn, .ref Mf, .ref Mr, .ref Mh, .int (nI hp), .int (nI cc), .ref Ma, .ref Mas, .ref Msn, .ref Mac, .ref Mat]))]) rfl rfl rfl rfl (by decide) (k_X7_in l D g H.size zn 0 (nI tp)) (va_cwS 3 hts gX7_end_X7_in rfl rfl rfl (by decide +kernel) ⟨(Nat.le_of_ble_eq_true rfl), (Nat.le_of_ble_eq_true rfl)⟩) rfl hl.1 rfl (Nat.le_of_ble_eq_true rfl) dX7_end_11 ⟨(Nat.le_of_ble_eq_true rfl), (Nat.le_of_ble_eq_true rfl)⟩ (fun r_1 u H locs hw hP2 hD2 hS2 => ?_)
  clear hP hD hS
  obtain ⟨rfl, rfl⟩ := hw
  have hPD : PD D A [(Mm, .inr (7, [.int 0, .ref Mt, .int (nI tp), .int zma, .int zwr, .ref Mrr, .ref Mrh, .ref Mrc, .int zrh, .int zrc, .ref Mn, .ref Mf, .ref Mr, .ref Mh, .int (nI hp), .int (nI cc), .ref Ma, .ref Mas, .ref Msn, .ref Mac, .ref Mat]))] H := ⟨hP2, hD2⟩
  have hS := hS2; clear hP2 hD2 hS2; have hP := hPD.1; have hD := hPD.2; clear hPD
  refine W.widen (k := 0) (n := 0) (Nat.le_of_ble_eq_true rfl) (Nat.le_of_ble_eq_true rfl) ?_
  refine lv_if_ne (tgt := 19) hx hb dX7_end_14 (by decide) (fun cb_2 => ?_) (fun cb_2 => ?_)
  · skip
    have hq_3 : 0 ≤ zn ∧ zn ≤ (nI tp) := b01_1.mp cb_2
    have hPq_7 := hP; have hDq_7 := hD; have hSq_7 := hS; have hlq_7 := hl; clear hP hD hS hl
    obtain ⟨j_4, hl_5, hu_6, rfl⟩ := rg (L := 0) (U := tp) rfl rfl (show 0 < 2 ^ 31 by omega) (show tp < 2 ^ 31 by omega) hq_3
    have hP := hPq_7; have hD := hDq_7; have hS := hSq_7; have hl := hlq_7; clear hPq_7 hDq_7 hSq_7 hlq_7
    refine lv_aload_n hx hb dX7_end_19 rfl (lv_at hl 0 rfl) ?_
    refine lv_iload_n hx hb dX7_end_20 rfl (lv_at hl 1 rfl) ?_
    refine va_put (D := D) (ci := 7) (v := .int (nI j_4)) (ty := .int) (C := RX7) (T := TX7) (N := 21) hx hb hts iX7 tyX7 tyX7_ok nmX7 hown hK hP hD hS 0 rfl rfl 2 (by decide) f57 (fun _ h9 => h9) rfl (by decide +kernel) (rfl) (rfl) (Nat.le_of_ble_eq_true rfl) dX7_end_21 (fun H locs hP2 hD2 hS2 => ?_)
    clear hP hD hS
    have hPD : PD D A [(Mm, .inr (7, [.int 0, .ref Mt, .int (nI j_4), .int zma, .int zwr, .ref Mrr, .ref Mrh, .ref Mrc, .int zrh, .int zrc, .ref Mn, .ref Mf, .ref Mr, .ref Mh, .int (nI hp), .int (nI cc), .ref Ma, .ref Mas, .ref Msn, .ref Mac, .ref Mat]))] H := ⟨hP2, hD2⟩
    have hS := hS2; clear hP2 hD2 hS2; have hP := hPD.1; have hD := hPD.2; clear hPD
    refine lv_iconst (v := 1) hx hb dX7_end_24 (by decide) ?_
    have hP9 := hP; have hD9 := hD
    subst hQ
    refine W.widen (k := 0) (n := 0) (Nat.le_of_ble_eq_true rfl) (Nat.le_of_ble_eq_true rfl) ?_
    exact W.zret (v := 1) (ty := .boolean) hx hb hr (rfl) (fun tS htS _ => ⟨⟨_, _, rfl, ⟨0, j_4, rfl, (show j_4 ≤ 160 by omega)⟩, by rw [htS]; exact hP9, hD9⟩, hS.F htS⟩) hS.2.2 dX7_end_25
  · skip
    have hq_8 : ¬ (0 ≤ zn ∧ zn ≤ (nI tp)) := b01_0.mp cb_2
    refine lv_iconst (v := 0) hx hb dX7_end_17 (by decide) ?_
    have hP9 := hP; have hD9 := hD
    subst hQ
    refine W.widen (k := 0) (n := 0) (Nat.le_of_ble_eq_true rfl) (Nat.le_of_ble_eq_true rfl) ?_
    exact W.zret (v := 0) (ty := .boolean) hx hb hr (rfl) (fun tS htS _ => ⟨⟨_, _, rfl, ⟨0, tp, rfl, (show tp ≤ 160 by omega)⟩, by rw [htS]; exact hP9, hD9⟩, hS.F htS⟩) hS.2.2 dX7_end_18
