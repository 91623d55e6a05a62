set_option maxHeartbeats 4000000 in
set_option maxRecDepth 100000 in
theorem k_X7_way (l : Launch) (D : va_G) (g : Nat → ClassId) (sz : Nat) {gs : Nat → Int32} (Mm : Nat) (zh : Int32) (zk : Int32) (zw : Int32) (zth : Int32) (Mt : Nat) (tp : Nat) (zma : Int32) (zwr : Int32) (Mrr : Nat) (Mrh : Nat) (Mrc : Nat) (zrh : Int32) (zrc : Int32) (Mn : Nat) (Mf : Nat) (Mr : Nat) (Mh : Nat) (hp : Nat) (cc : Nat) (Ma : Nat) (Mas : Nat) (Msn : Nat) (Mac : Nat) (Mat : Nat) (fno : Nat → Int32) (tb : Nat) (ub : Nat) (h0 : tb < 2 ^ 29) (h1 : ub < 2 ^ 29) (h2 : mOK gs tb ub fno) (h3 : 1 ≤ hp) (h4 : hp ≤ 3) : Met l yX7_way wsX7_way ({ frames := 2, cells := 0, slots := 0, locals := 43 }) (va_Pc [.ref Mm, .int zh, .int zk, .int zw] (pre D g sz [(Mm, .inr (7, [.int zth, .ref Mt, .int (nI tp), .int zma, .int zwr, .ref Mrr, .ref Mrh, .ref Mrc, .int zrh, .int zrc, .ref Mn, .ref Mf, .ref Mr, .ref Mh, .int (nI hp), .int (nI cc), .ref Ma, .ref Mas, .ref Msn, .ref Mac, .ref Mat])), (Mn, .inl (g 0, 1767, .inl fno))])) (va_Qi (fun (r : Int32) (u : va_W) => ∃ (zthx : Int32), u = [(Mm, .inr (7, [.int zthx, .ref Mt, .int (nI tp), .int zma, .int zwr, .ref Mrr, .ref Mrh, .ref Mrc, .int zrh, .int zrc, .ref Mn, .ref Mf, .ref Mr, .ref Mh, .int (nI hp), .int (nI cc), .ref Ma, .ref Mas, .ref Msn, .ref Mac, .ref Mat])), (Mn, .inl (g 0, 1767, .inl fno))]) (wd D (va_A [(Mm, .inr (7, [.int zth, .ref Mt, .int (nI tp), .int zma, .int zwr, .ref Mrr, .ref Mrh, .ref Mrc, .int zrh, .int zrc, .ref Mn, .ref Mf, .ref Mr, .ref Mh, .int (nI hp), .int (nI cc), .ref Ma, .ref Mas, .ref Msn, .ref Mac, .ref Mat])), (Mn, .inl (g 0, 1767, .inl fno))] sz)) (va_A [(Mm, .inr (7, [.int zth, .ref Mt, .int (nI tp), .int zma, .int zwr, .ref Mrr, .ref Mrh, .ref Mrc, .int zrh, .int zrc, .ref Mn, .ref Mf, .ref Mr, .ref Mh, .int (nI hp), .int (nI cc), .ref Ma, .ref Mas, .ref Msn, .ref Mac, .ref Mat])), (Mn, .inl (g 0, 1767, .inl fno))] sz)) 0 0 (va_A [(Mm, .inr (7, [.int zth, .ref Mt, .int (nI tp), .int zma, .int zwr, .ref Mrr, .ref Mrh, .ref Mrc, .int zrh, .int zrc, .ref Mn, .ref Mf, .ref Mr, .ref Mh, .int (nI hp), .int (nI cc), .ref Ma, .ref Mas, .ref Msn, .ref Mac, .ref Mat])), (Mn, .inl (g 0, 1767, .inl fno))] sz) := by
  refine Met.ofW (cc := cX7_way) (maxL := 5) (ret := (some .int)) (by decide) rfl ?_
  intro p e s m args below meth c s₁ B hml hv
  obtain ⟨rfl, hsz, hP, ⟨hK, hN⟩, hD0, hZ⟩ := hv
  have hx := B.exec
  have hb := B.bytes
  have hr := B.returns
  have hts := atoms_spec (ws := wsX7_way) B.pre
  have hown : s.vm.findClass RX7 = some m.cls := findClass_of_methodNamed B.named
  have hlocks := B.notSynchronized
  clear B
  subst hsz
  have hD := hD0.self (sz := s.heap.size)
  clear hD0
  generalize hAe : va_A [(Mm, .inr (7, [.int zth, .ref Mt, .int (nI tp), .int zma, .int zwr, .ref Mrr, .ref Mrh, .ref Mrc, .int zrh, .int zrc, .ref Mn, .ref Mf, .ref Mr, .ref Mh, .int (nI hp), .int (nI cc), .ref Ma, .ref Mas, .ref Msn, .ref Mac, .ref Mat])), (Mn, .inl (g 0, 1767, .inl fno))] s.heap.size = A at hD hZ ⊢
  have hA : ∀ q : Nat, s.heap.size ≤ q → A q := fun q h => by rw [← hAe]; exact Or.inr h
  have hS : va_S A s.heap s.heap [] := va_S.rf
  have f22 := hts (.fieldLink RX7 22 "HopCreditsModel" "now" "[I") (List.mem_of_getElem? (i := 2) rfl)
  have f49 := hts (.fieldLink RX7 49 "HopCreditsModel" "thrown" "I") (List.mem_of_getElem? (i := 1) rfl)
  have iX7 : ∀ w ∈ u_ws RX7 TX7 21, w ∈ wsX7_way := fun w h => List.mem_cons_of_mem _ (List.mem_append_right _ (h))
  have hl := lv_entry ([.ref Mm, .int zh, .int zk, .int zw]) (n := 5) (Nat.le_of_ble_eq_true rfl)
  rw [lg_entry_eq]
  generalize (lg_sl ([.ref Mm, .int zh, .int zk, .int zw]) ++ List.replicate (5 - (lg_sl ([.ref Mm, .int zh, .int zk, .int zw])).length) Slot.unset).toArray = ls at hl ⊢
  have hl : lv_has ls 5 [(0, .ref Mm), (1, .int zh), (2, .int zk), (3, .int zw)] := hl
  generalize hQ : MQ below _ _ s _ _ _ = Q
  generalize hH : s.heap = H at hP ⊢
  have hS : va_S A s.heap H [] := by rw [← hH]; exact hS
  clear hH
  refine lv_aload_n hx hb dX7_way_0 rfl (lv_at hl 0 rfl) ?_
  refine lv_iconst (v := 0) hx hb dX7_way_1 (by decide) ?_
  refine va_put (D := D) (ci := 7) (v := .int 0) (ty := .int) (C := RX7) (T := TX7) (N := 21) hx hb hts iX7 tyX7 tyX7_ok nmX7 hown hK hP hD hS 0 rfl rfl 0 (by decide) f49 (fun _ h9 => h9) rfl (by decide +kernel) (rfl) (rfl) (Nat.le_of_ble_eq_true rfl) dX7_way_2 (fun H locs hP2 hD2 hS2 => ?_)
  clear hP hD hS
  have hPD : PD D A [(Mm, .inr (7, [.int 0, .ref Mt, .int (nI tp), .int zma, .int zwr, .ref Mrr, .ref Mrh, .ref Mrc, .int zrh, .int zrc, .ref Mn, .ref Mf, .ref Mr, .ref Mh, .int (nI hp), .int (nI cc), .ref Ma, .ref Mas, .ref Msn, .ref Mac, .ref Mat])), (Mn, .inl (g 0, 1767, .inl fno))] H := ⟨hP2, hD2⟩
  have hS := hS2; clear hP2 hD2 hS2; have hP := hPD.1; have hD := hPD.2; clear hPD
  refine lv_aload_n hx hb dX7_way_5 rfl (lv_at hl 0 rfl) ?_
  refine lv_iload_n hx hb dX7_way_6 rfl (lv_at hl 1 rfl) ?_
  refine ky_Vi (As := [.int zh]) (rest := []) ⟨hx, hb, hml, hown, hts⟩ ⟨hK, hN⟩ hZ hP hD hS hA [0] [1] (wc := [(Mm, .inr (7, [.int 0, .ref Mt, .int (nI tp), .int zma, .int zwr, .ref Mrr, .ref Mrh, .ref Mrc, .int zrh, .int zrc, .ref Mn, .ref Mf, .ref Mr, .ref Mh, .int (nI hp), .int (nI cc), .ref Ma, .ref Mas, .ref Msn, .ref Mac, .ref Mat]))]) (wr := [(Mn, .inl (g 0, 1767, .inl fno))]) rfl rfl rfl rfl (by decide) (k_X7_isHop l D g H.size Mm zh 0 Mt tp zma zwr Mrr Mrh Mrc zrh zrc Mn Mf Mr Mh hp cc Ma Mas Msn Mac Mat (show 1 ≤ hp by omega) (show hp ≤ 3 by omega)) (cwV 1 hts gX7_way_X7_isHop rfl rfl rfl (by decide +kernel) ⟨(Nat.le_of_ble_eq_true rfl), (Nat.le_of_ble_eq_true rfl)⟩) 0 7 rfl rfl rfl rfl hl.1 rfl (Nat.le_of_ble_eq_true rfl) dX7_way_7 ⟨(Nat.le_of_ble_eq_true rfl), (Nat.le_of_ble_eq_true rfl)⟩ (fun r_1 u H locs hw hP2 hD2 hS2 => ?_)
  clear hP hD hS
  obtain ⟨rfl, rfl⟩ := hw
  have hPD : PD D A [(Mn, .inl (g 0, 1767, .inl fno)), (Mm, .inr (7, [.int 0, .ref Mt, .int (nI tp), .int zma, .int zwr, .ref Mrr, .ref Mrh, .ref Mrc, .int zrh, .int zrc, .ref Mn, .ref Mf, .ref Mr, .ref Mh, .int (nI hp), .int (nI cc), .ref Ma, .ref Mas, .ref Msn, .ref Mac, .ref Mat]))] H := ⟨hP2, hD2⟩
  have hS := hS2; clear hP2 hD2 hS2; have hP := hPD.1; have hD := hPD.2; clear hPD
  refine W.widen (k := 0) (n := 0) (Nat.le_of_ble_eq_true rfl) (Nat.le_of_ble_eq_true rfl) ?_
  refine lv_if_eq (tgt := 31) hx hb dX7_way_10 (by decide) (fun cb_2 => ?_) (fun cb_2 => ?_)
  · skip
    have hq_3 : ¬ (0 ≤ zh ∧ zh ≤ (nI (hp - 1))) := b01_0.mp cb_2
    refine lv_iconst (v := (-1)) hx hb dX7_way_31 (by decide) ?_
    have hPD9 : PD D A [(Mm, .inr (7, [.int 0, .ref Mt, .int (nI tp), .int zma, .int zwr, .ref Mrr, .ref Mrh, .ref Mrc, .int zrh, .int zrc, .ref Mn, .ref Mf, .ref Mr, .ref Mh, .int (nI hp), .int (nI cc), .ref Ma, .ref Mas, .ref Msn, .ref Mac, .ref Mat])), (Mn, .inl (g 0, 1767, .inl fno))] H := ⟨hP.sub [1, 0] rfl, hD.sub [1, 0] (by decide) rfl⟩
    have hP9 := hPD9.1; have hD9 := hPD9.2
    subst hQ
    refine W.widen (k := 0) (n := 0) (Nat.le_of_ble_eq_true rfl) (Nat.le_of_ble_eq_true rfl) ?_
    exact W.iret (v := (-1)) hx hb hr (fun tS htS _ => ⟨⟨_, _, rfl, ⟨0, rfl⟩, by rw [htS]; exact hP9, hD9⟩, hS.F htS⟩) hS.2.2 dX7_way_32
  · skip
    have hq_4 : 0 ≤ zh ∧ zh ≤ (nI (hp - 1)) := b01_1.mp cb_2
    have hPq_8 := hP; have hDq_8 := hD; have hSq_8 := hS; have hlq_8 := hl; clear hP hD hS hl
    obtain ⟨j_5, hl_6, hu_7, rfl⟩ := rg (L := 0) (U := hp - 1) rfl rfl (show 0 < 2 ^ 31 by omega) (show hp - 1 < 2 ^ 31 by omega) hq_4
    have hP := hPq_8; have hD := hDq_8; have hS := hSq_8; have hl := hlq_8; clear hPq_8 hDq_8 hSq_8 hlq_8
    refine lv_iload_n hx hb dX7_way_13 rfl (lv_at hl 2 rfl) ?_
    refine lv_iconst (v := 1) hx hb dX7_way_14 (by decide) ?_
    refine lv_iconst (v := 5) hx hb dX7_way_15 (by decide) ?_
    refine ky_Si (As := [.int zk, .int 1, .int 5]) (rest := []) ⟨hx, hb, hml, hown, hts⟩ ⟨hK, hN⟩ hZ hP hD hS hA [] [0, 1] (wc := []) (wr := [(Mn, .inl (g 0, 1767, .inl fno)), (Mm, .inr (7, [.int 0, .ref Mt, .int (nI tp), .int zma, .int zwr, .ref Mrr, .ref Mrh, .ref Mrc, .int zrh, .int zrc, .ref Mn, .ref Mf, .ref Mr, .ref Mh, .int (nI hp), .int (nI cc), .ref Ma, .ref Mas, .ref Msn, .ref Mac, .ref Mat]))]) rfl rfl rfl rfl (by decide) (k_X7_in l D g H.size zk 1 5) (va_cwS 3 hts gX7_way_X7_in rfl rfl rfl (by decide +kernel) ⟨(Nat.le_of_ble_eq_true rfl), (Nat.le_of_ble_eq_true rfl)⟩) rfl hl.1 rfl (Nat.le_of_ble_eq_true rfl) dX7_way_16 ⟨(Nat.le_of_ble_eq_true rfl), (Nat.le_of_ble_eq_true rfl)⟩ (fun r_9 u H locs hw hP2 hD2 hS2 => ?_)
    clear hP hD hS
    obtain ⟨rfl, rfl⟩ := hw
    have hPD : PD D A [(Mn, .inl (g 0, 1767, .inl fno)), (Mm, .inr (7, [.int 0, .ref Mt, .int (nI tp), .int zma, .int zwr, .ref Mrr, .ref Mrh, .ref Mrc, .int zrh, .int zrc, .ref Mn, .ref Mf, .ref Mr, .ref Mh, .int (nI hp), .int (nI cc), .ref Ma, .ref Mas, .ref Msn, .ref Mac, .ref Mat]))] H := ⟨hP2, hD2⟩
    have hS := hS2; clear hP2 hD2 hS2; have hP := hPD.1; have hD := hPD.2; clear hPD
    refine W.widen (k := 0) (n := 0) (Nat.le_of_ble_eq_true rfl) (Nat.le_of_ble_eq_true rfl) ?_
    refine lv_if_eq (tgt := 31) hx hb dX7_way_19 (by decide) (fun cb_10 => ?_) (fun cb_10 => ?_)
    · skip
      have hq_11 : ¬ (1 ≤ zk ∧ zk ≤ 5) := b01_0.mp cb_10
      refine lv_iconst (v := (-1)) hx hb dX7_way_31 (by decide) ?_
      have hPD9 : PD D A [(Mm, .inr (7, [.int 0, .ref Mt, .int (nI tp), .int zma, .int zwr, .ref Mrr, .ref Mrh, .ref Mrc, .int zrh, .int zrc, .ref Mn, .ref Mf, .ref Mr, .ref Mh, .int (nI hp), .int (nI cc), .ref Ma, .ref Mas, .ref Msn, .ref Mac, .ref Mat])), (Mn, .inl (g 0, 1767, .inl fno))] H := ⟨hP.sub [1, 0] rfl, hD.sub [1, 0] (by decide) rfl⟩
      have hP9 := hPD9.1; have hD9 := hPD9.2
      subst hQ
      refine W.widen (k := 0) (n := 0) (Nat.le_of_ble_eq_true rfl) (Nat.le_of_ble_eq_true rfl) ?_
      exact W.iret (v := (-1)) hx hb hr (fun tS htS _ => ⟨⟨_, _, rfl, ⟨0, rfl⟩, by rw [htS]; exact hP9, hD9⟩, hS.F htS⟩) hS.2.2 dX7_way_32
    · skip
      have hq_12 : 1 ≤ zk ∧ zk ≤ 5 := b01_1.mp cb_10
      have hPq_16 := hP; have hDq_16 := hD; have hSq_16 := hS; have hlq_16 := hl; clear hP hD hS hl
      obtain ⟨j_13, hl_14, hu_15, rfl⟩ := rg (L := 1) (U := 5) rfl rfl (show 1 < 2 ^ 31 by omega) (show 5 < 2 ^ 31 by omega) hq_12
      have hP := hPq_16; have hD := hDq_16; have hS := hSq_16; have hl := hlq_16; clear hPq_16 hDq_16 hSq_16 hlq_16
      refine lv_iload_n hx hb dX7_way_22 rfl (lv_at hl 3 rfl) ?_
      refine lv_iconst (v := 0) hx hb dX7_way_23 (by decide) ?_
      refine lv_iconst (v := 4) hx hb dX7_way_24 (by decide) ?_
      refine ky_Si (As := [.int zw, .int 0, .int 4]) (rest := []) ⟨hx, hb, hml, hown, hts⟩ ⟨hK, hN⟩ hZ hP hD hS hA [] [0, 1] (wc := []) (wr := [(Mn, .inl (g 0, 1767, .inl fno)), (Mm, .inr (7, [.int 0, .ref Mt, .int (nI tp), .int zma, .int zwr, .ref Mrr, .ref Mrh, .ref Mrc, .int zrh, .int zrc, .ref Mn, .ref Mf, .ref Mr, .ref Mh, .int (nI hp), .int (nI cc), .ref Ma, .ref Mas, .ref Msn, .ref Mac, .ref Mat]))]) rfl rfl rfl rfl (by decide) (k_X7_in l D g H.size zw 0 4) (va_cwS 3 hts gX7_way_X7_in rfl rfl rfl (by decide +kernel) ⟨(Nat.le_of_ble_eq_true rfl), (Nat.le_of_ble_eq_true rfl)⟩) rfl hl.1 rfl (Nat.le_of_ble_eq_true rfl) dX7_way_25 ⟨(Nat.le_of_ble_eq_true rfl), (Nat.le_of_ble_eq_true rfl)⟩ (fun r_17 u H locs hw hP2 hD2 hS2 => ?_)
      clear hP hD hS
      obtain ⟨rfl, rfl⟩ := hw
      have hPD : PD D A [(Mn, .inl (g 0, 1767, .inl fno)), (Mm, .inr (7, [.int 0, .ref Mt, .int (nI tp), .int zma, .int zwr, .ref Mrr, .ref Mrh, .ref Mrc, .int zrh, .int zrc, .ref Mn, .ref Mf, .ref Mr, .ref Mh, .int (nI hp), .int (nI cc), .ref Ma, .ref Mas, .ref Msn, .ref Mac, .ref Mat]))] H := ⟨hP2, hD2⟩
      have hS := hS2; clear hP2 hD2 hS2; have hP := hPD.1; have hD := hPD.2; clear hPD
      refine W.widen (k := 0) (n := 0) (Nat.le_of_ble_eq_true rfl) (Nat.le_of_ble_eq_true rfl) ?_
      refine lv_if_ne (tgt := 33) hx hb dX7_way_28 (by decide) (fun cb_18 => ?_) (fun cb_18 => ?_)
      · skip
        have hq_19 : 0 ≤ zw ∧ zw ≤ 4 := b01_1.mp cb_18
        have hPq_23 := hP; have hDq_23 := hD; have hSq_23 := hS; have hlq_23 := hl; clear hP hD hS hl
        obtain ⟨j_20, hl_21, hu_22, rfl⟩ := rg (L := 0) (U := 4) rfl rfl (show 0 < 2 ^ 31 by omega) (show 4 < 2 ^ 31 by omega) hq_19
        have hP := hPq_23; have hD := hDq_23; have hS := hSq_23; have hl := hlq_23; clear hPq_23 hDq_23 hSq_23 hlq_23
        refine lv_iload_n hx hb dX7_way_33 rfl (lv_at hl 1 rfl) ?_
        refine lv_aload_n hx hb dX7_way_34 rfl (lv_at hl 0 rfl) ?_
        refine va_get (D := D) (ci := 7) (v := .ref Mn) (C := RX7) (T := TX7) (N := 21) hx hb hts iX7 hown hK hP 1 rfl rfl 10 (by decide) f22 (fun _ h9 => h9) rfl dX7_way_35 ?_
        refine lv_sipush (v := 1764) hx hb dX7_way_38 (by decide) ?_
        refine va_iald hx hb hK hP 0 0 rfl rfl (by unfold vp_in; decide) dX7_way_41 ?_
        refine lv_eqi (y := (fno 1764)) (rfl) ?_
        obtain ⟨t_24, ht_24, q9⟩ := mOK_t h2
        refine lv_eqi (y := nI t_24) q9 ?_
        refine lv_iload_n hx hb dX7_way_42 rfl (lv_at hl 2 rfl) ?_
        refine lv_iadd hx hb dX7_way_43 ?_
        refine lv_eqi (y := (nI (t_24 + j_13))) (nI_add (t_24) (j_13)) ?_
        refine lv_iconst (v := 1) hx hb dX7_way_44 (by decide) ?_
        refine lv_isub hx hb dX7_way_45 ?_
        refine lv_eqi (y := (nI ((t_24 + j_13) - 1))) (pk_sub (show 1 ≤ t_24 + j_13 by omega)) ?_
        refine ky_Si (As := [.int (nI j_5), .int (nI ((t_24 + j_13) - 1))]) (rest := []) ⟨hx, hb, hml, hown, hts⟩ ⟨hK, hN⟩ hZ hP hD hS hA [] [0, 1] (wc := []) (wr := [(Mn, .inl (g 0, 1767, .inl fno)), (Mm, .inr (7, [.int 0, .ref Mt, .int (nI tp), .int zma, .int zwr, .ref Mrr, .ref Mrh, .ref Mrc, .int zrh, .int zrc, .ref Mn, .ref Mf, .ref Mr, .ref Mh, .int (nI hp), .int (nI cc), .ref Ma, .ref Mas, .ref Msn, .ref Mac, .ref Mat]))]) rfl rfl rfl rfl (by decide) (k_X7_wayAt l D g H.size j_5 ((t_24 + j_13) - 1) (show j_5 < 3 by omega) (show ((t_24 + j_13) - 1) < 2 ^ 30 by omega)) (va_cwS 2 hts gX7_way_X7_wayAt rfl rfl rfl (by decide +kernel) ⟨(Nat.le_of_ble_eq_true rfl), (Nat.le_of_ble_eq_true rfl)⟩) rfl hl.1 rfl (Nat.le_of_ble_eq_true rfl) dX7_way_46 ⟨(Nat.le_of_ble_eq_true rfl), (Nat.le_of_ble_eq_true rfl)⟩ (fun r_25 u H locs hw hP2 hD2 hS2 => ?_)
        clear hP hD hS
        obtain ⟨rfl, rfl⟩ := hw
        have hPD : PD D A [(Mn, .inl (g 0, 1767, .inl fno)), (Mm, .inr (7, [.int 0, .ref Mt, .int (nI tp), .int zma, .int zwr, .ref Mrr, .ref Mrh, .ref Mrc, .int zrh, .int zrc, .ref Mn, .ref Mf, .ref Mr, .ref Mh, .int (nI hp), .int (nI cc), .ref Ma, .ref Mas, .ref Msn, .ref Mac, .ref Mat]))] H := ⟨hP2, hD2⟩
        have hS := hS2; clear hP2 hD2 hS2; have hP := hPD.1; have hD := hPD.2; clear hPD
        refine W.widen (k := 0) (n := 0) (Nat.le_of_ble_eq_true rfl) (Nat.le_of_ble_eq_true rfl) ?_
        refine lv_istore (lv' := [(4, .int (nI (69 + 5 * (8 * j_5 + ((t_24 + j_13) - 1) % 8)))), (0, .ref Mm), (1, .int (nI j_5)), (2, .int (nI j_13)), (3, .int (nI j_20))]) hx hb dX7_way_49 hl (by decide) rfl (fun ls hl => ?_)
        refine lv_iload_n hx hb dX7_way_51 rfl (lv_at hl 4 rfl) ?_
        refine lv_iconst (v := 4) hx hb dX7_way_52 (by decide) ?_
        refine lv_icmp_ne (tgt := 82) hx hb dX7_way_53 (by decide) (fun cb_26 => ?_) (fun cb_26 => ?_)
        · skip
          have cn_27 : ¬ j_20 = 4 := fun q9 => cb_26 (congrArg nI q9)
          refine lv_iload_n hx hb dX7_way_82 rfl (lv_at hl 4 rfl) ?_
          refine lv_if_ne (tgt := 98) hx hb dX7_way_83 (by decide) (fun cb_28 => ?_) (fun cb_28 => ?_)
          · skip
            have cn_29 : ¬ j_20 = 0 := fun q9 => cb_28 (congrArg nI q9)
            refine lv_aload_n hx hb dX7_way_98 rfl (lv_at hl 1 rfl) ?_
            refine va_get (D := D) (ci := 7) (v := .ref Mn) (C := RX7) (T := TX7) (N := 21) hx hb hts iX7 hown hK hP 1 rfl rfl 10 (by decide) f22 (fun _ h9 => h9) rfl dX7_way_99 ?_
            refine lv_iload hx hb dX7_way_102 (lv_at hl 0 rfl) ?_
            refine lv_iconst (v := 1) hx hb dX7_way_104 (by decide) ?_
            refine lv_iadd hx hb dX7_way_105 ?_
            refine lv_eqi (y := (nI (69 + 5 * (8 * j_5 + ((t_24 + j_13) - 1) % 8) + 1))) (nI_add (69 + 5 * (8 * j_5 + ((t_24 + j_13) - 1) % 8)) (1)) ?_
            refine lv_iload_n hx hb dX7_way_106 rfl (lv_at hl 4 rfl) ?_
            refine lv_iadd hx hb dX7_way_107 ?_
            refine lv_eqi (y := (nI (69 + 5 * (8 * j_5 + ((t_24 + j_13) - 1) % 8) + 1 + j_20))) (nI_add (69 + 5 * (8 * j_5 + ((t_24 + j_13) - 1) % 8) + 1) (j_20)) ?_
            refine lv_iconst (v := 1) hx hb dX7_way_108 (by decide) ?_
            refine lv_isub hx hb dX7_way_109 ?_
            refine lv_eqi (y := (nI ((69 + 5 * (8 * j_5 + ((t_24 + j_13) - 1) % 8) + 1 + j_20) - 1))) (pk_sub (show 1 ≤ 69 + 5 * (8 * j_5 + ((t_24 + j_13) - 1) % 8) + 1 + j_20 by omega)) ?_
            refine va_iald hx hb hK hP 0 0 rfl rfl (vp_in_nI (show (69 + 5 * (8 * j_5 + ((t_24 + j_13) - 1) % 8) + 1 + j_20) - 1 < 1767 by omega) (by decide)) dX7_way_110 ?_
            refine lv_eqi (y := (fno ((69 + 5 * (8 * j_5 + ((t_24 + j_13) - 1) % 8) + 1 + j_20) - 1))) (congrArg fno (nI_clamp (show (69 + 5 * (8 * j_5 + ((t_24 + j_13) - 1) % 8) + 1 + j_20) - 1 < 2 ^ 31 by omega))) ?_
            refine lv_topi (fun y_30 _ => ?_)
            have hPD9 : PD D A [(Mm, .inr (7, [.int 0, .ref Mt, .int (nI tp), .int zma, .int zwr, .ref Mrr, .ref Mrh, .ref Mrc, .int zrh, .int zrc, .ref Mn, .ref Mf, .ref Mr, .ref Mh, .int (nI hp), .int (nI cc), .ref Ma, .ref Mas, .ref Msn, .ref Mac, .ref Mat])), (Mn, .inl (g 0, 1767, .inl fno))] H := ⟨hP.sub [1, 0] rfl, hD.sub [1, 0] (by decide) rfl⟩
            have hP9 := hPD9.1; have hD9 := hPD9.2
            subst hQ
            refine W.widen (k := 0) (n := 0) (Nat.le_of_ble_eq_true rfl) (Nat.le_of_ble_eq_true rfl) ?_
            exact W.iret (v := y_30) hx hb hr (fun tS htS _ => ⟨⟨_, _, rfl, ⟨0, rfl⟩, by rw [htS]; exact hP9, hD9⟩, hS.F htS⟩) hS.2.2 dX7_way_111
          · skip
            have cn_31 : j_20 = 0 := (nI_eq (show j_20 < 2 ^ 31 by omega) (show 0 < 2 ^ 31 by omega)).mp cb_28
            refine lv_aload_n hx hb dX7_way_86 rfl (lv_at hl 1 rfl) ?_
            refine va_get (D := D) (ci := 7) (v := .ref Mn) (C := RX7) (T := TX7) (N := 21) hx hb hts iX7 hown hK hP 1 rfl rfl 10 (by decide) f22 (fun _ h9 => h9) rfl dX7_way_87 ?_
            refine lv_iload hx hb dX7_way_90 (lv_at hl 0 rfl) ?_
            refine lv_iconst (v := 0) hx hb dX7_way_92 (by decide) ?_
            refine lv_iadd hx hb dX7_way_93 ?_
            refine lv_eqi (y := (nI (69 + 5 * (8 * j_5 + ((t_24 + j_13) - 1) % 8) + 0))) (nI_add (69 + 5 * (8 * j_5 + ((t_24 + j_13) - 1) % 8)) (0)) ?_
            refine va_iald hx hb hK hP 0 0 rfl rfl (vp_in_nI (show 69 + 5 * (8 * j_5 + ((t_24 + j_13) - 1) % 8) + 0 < 1767 by omega) (by decide)) dX7_way_94 ?_
            refine lv_eqi (y := (fno (69 + 5 * (8 * j_5 + ((t_24 + j_13) - 1) % 8) + 0))) (congrArg fno (nI_clamp (show 69 + 5 * (8 * j_5 + ((t_24 + j_13) - 1) % 8) + 0 < 2 ^ 31 by omega))) ?_
            refine lv_topi (fun y_32 _ => ?_)
            refine lv_goto (tgt := 111) hx hb dX7_way_95 (by decide) ?_
            have hPD9 : PD D A [(Mm, .inr (7, [.int 0, .ref Mt, .int (nI tp), .int zma, .int zwr, .ref Mrr, .ref Mrh, .ref Mrc, .int zrh, .int zrc, .ref Mn, .ref Mf, .ref Mr, .ref Mh, .int (nI hp), .int (nI cc), .ref Ma, .ref Mas, .ref Msn, .ref Mac, .ref Mat])), (Mn, .inl (g 0, 1767, .inl fno))] H := ⟨hP.sub [1, 0] rfl, hD.sub [1, 0] (by decide) rfl⟩
            have hP9 := hPD9.1; have hD9 := hPD9.2
            subst hQ
            refine W.widen (k := 0) (n := 0) (Nat.le_of_ble_eq_true rfl) (Nat.le_of_ble_eq_true rfl) ?_
            exact W.iret (v := y_32) hx hb hr (fun tS htS _ => ⟨⟨_, _, rfl, ⟨0, rfl⟩, by rw [htS]; exact hP9, hD9⟩, hS.F htS⟩) hS.2.2 dX7_way_111
        · skip
          have cn_33 : j_20 = 4 := (nI_eq (show j_20 < 2 ^ 31 by omega) (show 4 < 2 ^ 31 by omega)).mp cb_26
          refine lv_aload_n hx hb dX7_way_56 rfl (lv_at hl 1 rfl) ?_
          refine va_get (D := D) (ci := 7) (v := .ref Mn) (C := RX7) (T := TX7) (N := 21) hx hb hts iX7 hown hK hP 1 rfl rfl 10 (by decide) f22 (fun _ h9 => h9) rfl dX7_way_57 ?_
          refine lv_iload hx hb dX7_way_60 (lv_at hl 0 rfl) ?_
          refine lv_iconst (v := 4) hx hb dX7_way_62 (by decide) ?_
          refine lv_iadd hx hb dX7_way_63 ?_
          refine lv_eqi (y := (nI (69 + 5 * (8 * j_5 + ((t_24 + j_13) - 1) % 8) + 4))) (nI_add (69 + 5 * (8 * j_5 + ((t_24 + j_13) - 1) % 8)) (4)) ?_
          refine va_iald hx hb hK hP 0 0 rfl rfl (vp_in_nI (show 69 + 5 * (8 * j_5 + ((t_24 + j_13) - 1) % 8) + 4 < 1767 by omega) (by decide)) dX7_way_64 ?_
          refine lv_eqi (y := (fno (69 + 5 * (8 * j_5 + ((t_24 + j_13) - 1) % 8) + 4))) (congrArg fno (nI_clamp (show 69 + 5 * (8 * j_5 + ((t_24 + j_13) - 1) % 8) + 4 < 2 ^ 31 by omega))) ?_
          refine lv_topi (fun y_34 _ => ?_)
          refine lv_if_ne (tgt := 72) hx hb dX7_way_65 (by decide) (fun cb_35 => ?_) (fun cb_35 => ?_)
          · skip
            refine lv_aload_n hx hb dX7_way_72 rfl (lv_at hl 1 rfl) ?_
            refine va_get (D := D) (ci := 7) (v := .ref Mn) (C := RX7) (T := TX7) (N := 21) hx hb hts iX7 hown hK hP 1 rfl rfl 10 (by decide) f22 (fun _ h9 => h9) rfl dX7_way_73 ?_
            refine lv_iload hx hb dX7_way_76 (lv_at hl 0 rfl) ?_
            refine lv_iconst (v := 4) hx hb dX7_way_78 (by decide) ?_
            refine lv_iadd hx hb dX7_way_79 ?_
            refine lv_eqi (y := (nI (69 + 5 * (8 * j_5 + ((t_24 + j_13) - 1) % 8) + 4))) (nI_add (69 + 5 * (8 * j_5 + ((t_24 + j_13) - 1) % 8)) (4)) ?_
            refine va_iald hx hb hK hP 0 0 rfl rfl (vp_in_nI (show 69 + 5 * (8 * j_5 + ((t_24 + j_13) - 1) % 8) + 4 < 1767 by omega) (by decide)) dX7_way_80 ?_
            refine lv_eqi (y := (fno (69 + 5 * (8 * j_5 + ((t_24 + j_13) - 1) % 8) + 4))) (congrArg fno (nI_clamp (show 69 + 5 * (8 * j_5 + ((t_24 + j_13) - 1) % 8) + 4 < 2 ^ 31 by omega))) ?_
            refine lv_topi (fun y_36 _ => ?_)
            have hPD9 : PD D A [(Mm, .inr (7, [.int 0, .ref Mt, .int (nI tp), .int zma, .int zwr, .ref Mrr, .ref Mrh, .ref Mrc, .int zrh, .int zrc, .ref Mn, .ref Mf, .ref Mr, .ref Mh, .int (nI hp), .int (nI cc), .ref Ma, .ref Mas, .ref Msn, .ref Mac, .ref Mat])), (Mn, .inl (g 0, 1767, .inl fno))] H := ⟨hP.sub [1, 0] rfl, hD.sub [1, 0] (by decide) rfl⟩
            have hP9 := hPD9.1; have hD9 := hPD9.2
            subst hQ
            refine W.widen (k := 0) (n := 0) (Nat.le_of_ble_eq_true rfl) (Nat.le_of_ble_eq_true rfl) ?_
            exact W.iret (v := y_36) hx hb hr (fun tS htS _ => ⟨⟨_, _, rfl, ⟨0, rfl⟩, by rw [htS]; exact hP9, hD9⟩, hS.F htS⟩) hS.2.2 dX7_way_81
          · skip
            have hPq_37 := hP; have hDq_37 := hD; have hSq_37 := hS; have hlq_37 := hl; clear hP hD hS hl
            subst cb_35
            have hP := hPq_37; have hD := hDq_37; have hS := hSq_37; have hl := hlq_37; clear hPq_37 hDq_37 hSq_37 hlq_37
            refine lv_iconst (v := (-1)) hx hb dX7_way_68 (by decide) ?_
            refine lv_goto (tgt := 81) hx hb dX7_way_69 (by decide) ?_
            have hPD9 : PD D A [(Mm, .inr (7, [.int 0, .ref Mt, .int (nI tp), .int zma, .int zwr, .ref Mrr, .ref Mrh, .ref Mrc, .int zrh, .int zrc, .ref Mn, .ref Mf, .ref Mr, .ref Mh, .int (nI hp), .int (nI cc), .ref Ma, .ref Mas, .ref Msn, .ref Mac, .ref Mat])), (Mn, .inl (g 0, 1767, .inl fno))] H := ⟨hP.sub [1, 0] rfl, hD.sub [1, 0] (by decide) rfl⟩
            have hP9 := hPD9.1; have hD9 := hPD9.2
            subst hQ
            refine W.widen (k := 0) (n := 0) (Nat.le_of_ble_eq_true rfl) (Nat.le_of_ble_eq_true rfl) ?_
            exact W.iret (v := (-1)) hx hb hr (fun tS htS _ => ⟨⟨_, _, rfl, ⟨0, rfl⟩, by rw [htS]; exact hP9, hD9⟩, hS.F htS⟩) hS.2.2 dX7_way_81
      · skip
        have hq_38 : ¬ (0 ≤ zw ∧ zw ≤ 4) := b01_0.mp cb_18
        refine lv_iconst (v := (-1)) hx hb dX7_way_31 (by decide) ?_
        have hPD9 : PD D A [(Mm, .inr (7, [.int 0, .ref Mt, .int (nI tp), .int zma, .int zwr, .ref Mrr, .ref Mrh, .ref Mrc, .int zrh, .int zrc, .ref Mn, .ref Mf, .ref Mr, .ref Mh, .int (nI hp), .int (nI cc), .ref Ma, .ref Mas, .ref Msn, .ref Mac, .ref Mat])), (Mn, .inl (g 0, 1767, .inl fno))] H := ⟨hP.sub [1, 0] rfl, hD.sub [1, 0] (by decide) rfl⟩
        have hP9 := hPD9.1; have hD9 := hPD9.2
        subst hQ
        refine W.widen (k := 0) (n := 0) (Nat.le_of_ble_eq_true rfl) (Nat.le_of_ble_eq_true rfl) ?_
        exact W.iret (v := (-1)) hx hb hr (fun tS htS _ => ⟨⟨_, _, rfl, ⟨0, rfl⟩, by rw [htS]; exact hP9, hD9⟩, hS.F htS⟩) hS.2.2 dX7_way_32

set_option maxHeartbeats 4000000 in
set_option maxRecDepth 100000 in
theorem k_X7_laneAhead (l : Launch) (D : va_G) (g : Nat → ClassId) (sz : Nat) {gs : Nat → Int32} (Mm : Nat) (zh : Int32) (zc : Int32) (zw : Int32) (zk : Int32) (zth : Int32) (Mt : Nat) (tp : Nat) (zma : Int32) (zwr : Int32) (Mrr : Nat) (Mrh : Nat) (Mrc : Nat) (zrh : Int32) (zrc : Int32) (Mn : Nat) (Mf : Nat) (Mr : Nat) (Mh : Nat) (hp : Nat) (cc : Nat) (Ma : Nat) (Mas : Nat) (Msn : Nat) (Mac : Nat) (Mat : Nat) (fno : Nat → Int32) (fmh : Nat → Int32) (fmr : Nat → Int32) (fma : Nat → Int32) (fas : Nat → Int32) (tb : Nat) (ub : Nat) (h0 : tb < 2 ^ 27) (h1 : ub < 2 ^ 27) (h2 : mOK gs tb ub fno) (h3 : 1 ≤ hp) (h4 : hp ≤ 3) (h5 : 1 ≤ cc) (h6 : cc ≤ 3) (h7 : n3 fmh) : Met l yX7_laneAhead wsX7_laneAhead ({ frames := 7, cells := 0, slots := 0, locals := 155 }) (va_Pc [.ref Mm, .int zh, .int zc, .int zw, .int zk] (pre D g sz [(Mm, .inr (7, [.int zth, .ref Mt, .int (nI tp), .int zma, .int zwr, .ref Mrr, .ref Mrh, .ref Mrc, .int zrh, .int zrc, .ref Mn, .ref Mf, .ref Mr, .ref Mh, .int (nI hp), .int (nI cc), .ref Ma, .ref Mas, .ref Msn, .ref Mac, .ref Mat])), (Mn, .inl (g 0, 1767, .inl fno)), (Mh, .inl (g 0, 9, .inl fmh)), (Mr, .inl (g 0, 3, .inl fmr)), (Ma, .inl (g 0, 3, .inl fma)), (Mas, .inl (g 0, 1767, .inl fas))])) (va_Qi (fun (r : Int32) (u : va_W) => ∃ (zthx : Int32) (fnox : Nat → Int32) (fmax : Nat → Int32) (fasx : Nat → Int32), u = [(Mm, .inr (7, [.int zthx, .ref Mt, .int (nI tp), .int zma, .int zwr, .ref Mrr, .ref Mrh, .ref Mrc, .int zrh, .int zrc, .ref Mn, .ref Mf, .ref Mr, .ref Mh, .int (nI hp), .int (nI cc), .ref Ma, .ref Mas, .ref Msn, .ref Mac, .ref Mat])), (Mn, .inl (g 0, 1767, .inl fnox)), (Mh, .inl (g 0, 9, .inl fmh)), (Mr, .inl (g 0, 3, .inl fmr)), (Ma, .inl (g 0, 3, .inl fmax)), (Mas, .inl (g 0, 1767, .inl fasx))] ∧ (mOK gs tb ub fnox)) (wd D (va_A [(Mm, .inr (7, [.int zth, .ref Mt, .int (nI tp), .int zma, .int zwr, .ref Mrr, .ref Mrh, .ref Mrc, .int zrh, .int zrc, .ref Mn, .ref Mf, .ref Mr, .ref Mh, .int (nI hp), .int (nI cc), .ref Ma, .ref Mas, .ref Msn, .ref Mac, .ref Mat])), (Mn, .inl (g 0, 1767, .inl fno)), (Mh, .inl (g 0, 9, .inl fmh)), (Mr, .inl (g 0, 3, .inl fmr)), (Ma, .inl (g 0, 3, .inl fma)), (Mas, .inl (g 0, 1767, .inl fas))] sz)) (va_A [(Mm, .inr (7, [.int zth, .ref Mt, .int (nI tp), .int zma, .int zwr, .ref Mrr, .ref Mrh, .ref Mrc, .int zrh, .int zrc, .ref Mn, .ref Mf, .ref Mr, .ref Mh, .int (nI hp), .int (nI cc), .ref Ma, .ref Mas, .ref Msn, .ref Mac, .ref Mat])), (Mn, .inl (g 0, 1767, .inl fno)), (Mh, .inl (g 0, 9, .inl fmh)), (Mr, .inl (g 0, 3, .inl fmr)), (Ma, .inl (g 0, 3, .inl fma)), (Mas, .inl (g 0, 1767, .inl fas))] sz)) 0 0 (va_A [(Mm, .inr (7, [.int zth, .ref Mt, .int (nI tp), .int zma, .int zwr, .ref Mrr, .ref Mrh, .ref Mrc, .int zrh, .int zrc, .ref Mn, .ref Mf, .ref Mr, .ref Mh, .int (nI hp), .int (nI cc), .ref Ma, .ref Mas, .ref Msn, .ref Mac, .ref Mat])), (Mn, .inl (g 0, 1767, .inl fno)), (Mh, .inl (g 0, 9, .inl fmh)), (Mr, .inl (g 0, 3, .inl fmr)), (Ma, .inl (g 0, 3, .inl fma)), (Mas, .inl (g 0, 1767, .inl fas))] sz) := by
  refine Met.ofW (cc := cX7_laneAhead) (maxL := 6) (ret := (some .int)) (by decide) rfl ?_
  intro p e s m args below meth c s₁ B hml hv
  obtain ⟨rfl, hsz, hP, ⟨hK, hN⟩, hD0, hZ⟩ := hv
  have hx := B.exec
  have hb := B.bytes
  have hr := B.returns
  have hts := atoms_spec (ws := wsX7_laneAhead) B.pre
  have hown : s.vm.findClass RX7 = some m.cls := findClass_of_methodNamed B.named
  have hlocks := B.notSynchronized
  clear B
  subst hsz
  have hD := hD0.self (sz := s.heap.size)
  clear hD0
  generalize hAe : va_A [(Mm, .inr (7, [.int zth, .ref Mt, .int (nI tp), .int zma, .int zwr, .ref Mrr, .ref Mrh, .ref Mrc, .int zrh, .int zrc, .ref Mn, .ref Mf, .ref Mr, .ref Mh, .int (nI hp), .int (nI cc), .ref Ma, .ref Mas, .ref Msn, .ref Mac, .ref Mat])), (Mn, .inl (g 0, 1767, .inl fno)), (Mh, .inl (g 0, 9, .inl fmh)), (Mr, .inl (g 0, 3, .inl fmr)), (Ma, .inl (g 0, 3, .inl fma)), (Mas, .inl (g 0, 1767, .inl fas))] s.heap.size = A at hD hZ ⊢
  have hA : ∀ q : Nat, s.heap.size ≤ q → A q := fun q h => by rw [← hAe]; exact Or.inr h
  have hS : va_S A s.heap s.heap [] := va_S.rf
  have f49 := hts (.fieldLink RX7 49 "HopCreditsModel" "thrown" "I") (List.mem_of_getElem? (i := 1) rfl)
  have iX7 : ∀ w ∈ u_ws RX7 TX7 21, w ∈ wsX7_laneAhead := fun w h => List.mem_cons_of_mem _ (List.mem_append_right _ (h))
  have hl := lv_entry ([.ref Mm, .int zh, .int zc, .int zw, .int zk]) (n := 6) (Nat.le_of_ble_eq_true rfl)
  rw [lg_entry_eq]
  generalize (lg_sl ([.ref Mm, .int zh, .int zc, .int zw, .int zk]) ++ List.replicate (6 - (lg_sl ([.ref Mm, .int zh, .int zc, .int zw, .int zk])).length) Slot.unset).toArray = ls at hl ⊢
  have hl : lv_has ls 6 [(0, .ref Mm), (1, .int zh), (2, .int zc), (3, .int zw), (4, .int zk)] := hl
  generalize hQ : MQ below _ _ s _ _ _ = Q
  generalize hH : s.heap = H at hP ⊢
  have hS : va_S A s.heap H [] := by rw [← hH]; exact hS
  clear hH
  refine lv_aload_n hx hb dX7_laneAhead_0 rfl (lv_at hl 0 rfl) ?_
  refine lv_iconst (v := 0) hx hb dX7_laneAhead_1 (by decide) ?_
  refine va_put (D := D) (ci := 7) (v := .int 0) (ty := .int) (C := RX7) (T := TX7) (N := 21) hx hb hts iX7 tyX7 tyX7_ok nmX7 hown hK hP hD hS 0 rfl rfl 0 (by decide) f49 (fun _ h9 => h9) rfl (by decide +kernel) (rfl) (rfl) (Nat.le_of_ble_eq_true rfl) dX7_laneAhead_2 (fun H locs hP2 hD2 hS2 => ?_)
  clear hP hD hS
  have hPD : PD D A [(Mm, .inr (7, [.int 0, .ref Mt, .int (nI tp), .int zma, .int zwr, .ref Mrr, .ref Mrh, .ref Mrc, .int zrh, .int zrc, .ref Mn, .ref Mf, .ref Mr, .ref Mh, .int (nI hp), .int (nI cc), .ref Ma, .ref Mas, .ref Msn, .ref Mac, .ref Mat])), (Mn, .inl (g 0, 1767, .inl fno)), (Mh, .inl (g 0, 9, .inl fmh)), (Mr, .inl (g 0, 3, .inl fmr)), (Ma, .inl (g 0, 3, .inl fma)), (Mas, .inl (g 0, 1767, .inl fas))] H := ⟨hP2, hD2⟩
  have hS := hS2; clear hP2 hD2 hS2; have hP := hPD.1; have hD := hPD.2; clear hPD
  refine lv_aload_n hx hb dX7_laneAhead_5 rfl (lv_at hl 0 rfl) ?_
  refine lv_iload_n hx hb dX7_laneAhead_6 rfl (lv_at hl 1 rfl) ?_
  refine lv_iload_n hx hb dX7_laneAhead_7 rfl (lv_at hl 2 rfl) ?_
  refine ky_Vi (As := [.int zh, .int zc]) (rest := []) ⟨hx, hb, hml, hown, hts⟩ ⟨hK, hN⟩ hZ hP hD hS hA [0] [1, 2, 3, 4, 5] (wc := [(Mm, .inr (7, [.int 0, .ref Mt, .int (nI tp), .int zma, .int zwr, .ref Mrr, .ref Mrh, .ref Mrc, .int zrh, .int zrc, .ref Mn, .ref Mf, .ref Mr, .ref Mh, .int (nI hp), .int (nI cc), .ref Ma, .ref Mas, .ref Msn, .ref Mac, .ref Mat]))]) (wr := [(Mn, .inl (g 0, 1767, .inl fno)), (Mh, .inl (g 0, 9, .inl fmh)), (Mr, .inl (g 0, 3, .inl fmr)), (Ma, .inl (g 0, 3, .inl fma)), (Mas, .inl (g 0, 1767, .inl fas))]) rfl rfl rfl rfl (by decide) (k_X7_isLane l D g H.size Mm zh zc 0 Mt tp zma zwr Mrr Mrh Mrc zrh zrc Mn Mf Mr Mh hp cc Ma Mas Msn Mac Mat (show 1 ≤ hp by omega) (show hp ≤ 3 by omega) (show 1 ≤ cc by omega) (show cc ≤ 3 by omega)) (cwV 2 hts gX7_laneAhead_X7_isLane rfl rfl rfl (by decide +kernel) ⟨(Nat.le_of_ble_eq_true rfl), (Nat.le_of_ble_eq_true rfl)⟩) 0 7 rfl rfl rfl rfl hl.1 rfl (Nat.le_of_ble_eq_true rfl) dX7_laneAhead_8 ⟨(Nat.le_of_ble_eq_true rfl), (Nat.le_of_ble_eq_true rfl)⟩ (fun r_1 u H locs hw hP2 hD2 hS2 => ?_)
  clear hP hD hS
  obtain ⟨rfl, rfl⟩ := hw
  have hPD : PD D A [(Mn, .inl (g 0, 1767, .inl fno)), (Mh, .inl (g 0, 9, .inl fmh)), (Mr, .inl (g 0, 3, .inl fmr)), (Ma, .inl (g 0, 3, .inl fma)), (Mas, .inl (g 0, 1767, .inl fas)), (Mm, .inr (7, [.int 0, .ref Mt, .int (nI tp), .int zma, .int zwr, .ref Mrr, .ref Mrh, .ref Mrc, .int zrh, .int zrc, .ref Mn, .ref Mf, .ref Mr, .ref Mh, .int (nI hp), .int (nI cc), .ref Ma, .ref Mas, .ref Msn, .ref Mac, .ref Mat]))] H := ⟨hP2, hD2⟩
  have hS := hS2; clear hP2 hD2 hS2; have hP := hPD.1; have hD := hPD.2; clear hPD
  refine W.widen (k := 0) (n := 0) (Nat.le_of_ble_eq_true rfl) (Nat.le_of_ble_eq_true rfl) ?_
  refine lv_if_eq (tgt := 33) hx hb dX7_laneAhead_11 (by decide) (fun cb_2 => ?_) (fun cb_2 => ?_)
  · skip
    have hq_3 : ¬ ((0 ≤ zh ∧ zh ≤ (nI (hp - 1))) ∧ (0 ≤ zc ∧ zc ≤ (nI (cc - 1)))) := b01_0.mp cb_2
    refine lv_iconst (v := (-1)) hx hb dX7_laneAhead_33 (by decide) ?_
    have hPD9 : PD D A [(Mm, .inr (7, [.int 0, .ref Mt, .int (nI tp), .int zma, .int zwr, .ref Mrr, .ref Mrh, .ref Mrc, .int zrh, .int zrc, .ref Mn, .ref Mf, .ref Mr, .ref Mh, .int (nI hp), .int (nI cc), .ref Ma, .ref Mas, .ref Msn, .ref Mac, .ref Mat])), (Mn, .inl (g 0, 1767, .inl fno)), (Mh, .inl (g 0, 9, .inl fmh)), (Mr, .inl (g 0, 3, .inl fmr)), (Ma, .inl (g 0, 3, .inl fma)), (Mas, .inl (g 0, 1767, .inl fas))] H := ⟨hP.sub [5, 0, 1, 2, 3, 4] rfl, hD.sub [5, 0, 1, 2, 3, 4] (by decide) rfl⟩
    have hP9 := hPD9.1; have hD9 := hPD9.2
    subst hQ
    refine W.widen (k := 0) (n := 0) (Nat.le_of_ble_eq_true rfl) (Nat.le_of_ble_eq_true rfl) ?_
    exact W.iret (v := (-1)) hx hb hr (fun tS htS _ => ⟨⟨_, _, rfl, ⟨0, fno, fma, fas, rfl, (h2)⟩, by rw [htS]; exact hP9, hD9⟩, hS.F htS⟩) hS.2.2 dX7_laneAhead_34
  · skip
    have hq_4 : (0 ≤ zh ∧ zh ≤ (nI (hp - 1))) ∧ (0 ≤ zc ∧ zc ≤ (nI (cc - 1))) := b01_1.mp cb_2
    have hq_5 := hq_4.1; have hq_6 := hq_4.2
    have hPq_10 := hP; have hDq_10 := hD; have hSq_10 := hS; have hlq_10 := hl; clear hP hD hS hl
    obtain ⟨j_7, hl_8, hu_9, rfl⟩ := rg (L := 0) (U := hp - 1) rfl rfl (show 0 < 2 ^ 31 by omega) (show hp - 1 < 2 ^ 31 by omega) hq_5
    have hP := hPq_10; have hD := hDq_10; have hS := hSq_10; have hl := hlq_10; clear hPq_10 hDq_10 hSq_10 hlq_10
    have hPq_14 := hP; have hDq_14 := hD; have hSq_14 := hS; have hlq_14 := hl; clear hP hD hS hl
    obtain ⟨j_11, hl_12, hu_13, rfl⟩ := rg (L := 0) (U := cc - 1) rfl rfl (show 0 < 2 ^ 31 by omega) (show cc - 1 < 2 ^ 31 by omega) hq_6
    have hP := hPq_14; have hD := hDq_14; have hS := hSq_14; have hl := hlq_14; clear hPq_14 hDq_14 hSq_14 hlq_14
    refine lv_iload_n hx hb dX7_laneAhead_14 rfl (lv_at hl 3 rfl) ?_
    refine lv_iconst (v := 0) hx hb dX7_laneAhead_15 (by decide) ?_
    refine lv_bipush (v := 9) hx hb dX7_laneAhead_16 (by decide) ?_
    refine ky_Si (As := [.int zw, .int 0, .int 9]) (rest := []) ⟨hx, hb, hml, hown, hts⟩ ⟨hK, hN⟩ hZ hP hD hS hA [] [0, 1, 2, 3, 4, 5] (wc := []) (wr := [(Mn, .inl (g 0, 1767, .inl fno)), (Mh, .inl (g 0, 9, .inl fmh)), (Mr, .inl (g 0, 3, .inl fmr)), (Ma, .inl (g 0, 3, .inl fma)), (Mas, .inl (g 0, 1767, .inl fas)), (Mm, .inr (7, [.int 0, .ref Mt, .int (nI tp), .int zma, .int zwr, .ref Mrr, .ref Mrh, .ref Mrc, .int zrh, .int zrc, .ref Mn, .ref Mf, .ref Mr, .ref Mh, .int (nI hp), .int (nI cc), .ref Ma, .ref Mas, .ref Msn, .ref Mac, .ref Mat]))]) rfl rfl rfl rfl (by decide) (k_X7_in l D g H.size zw 0 9) (va_cwS 3 hts gX7_laneAhead_X7_in rfl rfl rfl (by decide +kernel) ⟨(Nat.le_of_ble_eq_true rfl), (Nat.le_of_ble_eq_true rfl)⟩) rfl hl.1 rfl (Nat.le_of_ble_eq_true rfl) dX7_laneAhead_18 ⟨(Nat.le_of_ble_eq_true rfl), (Nat.le_of_ble_eq_true rfl)⟩ (fun r_15 u H locs hw hP2 hD2 hS2 => ?_)
    clear hP hD hS
    obtain ⟨rfl, rfl⟩ := hw
    have hPD : PD D A [(Mn, .inl (g 0, 1767, .inl fno)), (Mh, .inl (g 0, 9, .inl fmh)), (Mr, .inl (g 0, 3, .inl fmr)), (Ma, .inl (g 0, 3, .inl fma)), (Mas, .inl (g 0, 1767, .inl fas)), (Mm, .inr (7, [.int 0, .ref Mt, .int (nI tp), .int zma, .int zwr, .ref Mrr, .ref Mrh, .ref Mrc, .int zrh, .int zrc, .ref Mn, .ref Mf, .ref Mr, .ref Mh, .int (nI hp), .int (nI cc), .ref Ma, .ref Mas, .ref Msn, .ref Mac, .ref Mat]))] H := ⟨hP2, hD2⟩
    have hS := hS2; clear hP2 hD2 hS2; have hP := hPD.1; have hD := hPD.2; clear hPD
    refine W.widen (k := 0) (n := 0) (Nat.le_of_ble_eq_true rfl) (Nat.le_of_ble_eq_true rfl) ?_
    refine lv_if_eq (tgt := 33) hx hb dX7_laneAhead_21 (by decide) (fun cb_16 => ?_) (fun cb_16 => ?_)
    · skip
      have hq_17 : ¬ (0 ≤ zw ∧ zw ≤ 9) := b01_0.mp cb_16
      refine lv_iconst (v := (-1)) hx hb dX7_laneAhead_33 (by decide) ?_
      have hPD9 : PD D A [(Mm, .inr (7, [.int 0, .ref Mt, .int (nI tp), .int zma, .int zwr, .ref Mrr, .ref Mrh, .ref Mrc, .int zrh, .int zrc, .ref Mn, .ref Mf, .ref Mr, .ref Mh, .int (nI hp), .int (nI cc), .ref Ma, .ref Mas, .ref Msn, .ref Mac, .ref Mat])), (Mn, .inl (g 0, 1767, .inl fno)), (Mh, .inl (g 0, 9, .inl fmh)), (Mr, .inl (g 0, 3, .inl fmr)), (Ma, .inl (g 0, 3, .inl fma)), (Mas, .inl (g 0, 1767, .inl fas))] H := ⟨hP.sub [5, 0, 1, 2, 3, 4] rfl, hD.sub [5, 0, 1, 2, 3, 4] (by decide) rfl⟩
      have hP9 := hPD9.1; have hD9 := hPD9.2
      subst hQ
      refine W.widen (k := 0) (n := 0) (Nat.le_of_ble_eq_true rfl) (Nat.le_of_ble_eq_true rfl) ?_
      exact W.iret (v := (-1)) hx hb hr (fun tS htS _ => ⟨⟨_, _, rfl, ⟨0, fno, fma, fas, rfl, (h2)⟩, by rw [htS]; exact hP9, hD9⟩, hS.F htS⟩) hS.2.2 dX7_laneAhead_34
    · skip
      have hq_18 : 0 ≤ zw ∧ zw ≤ 9 := b01_1.mp cb_16
      have hPq_22 := hP; have hDq_22 := hD; have hSq_22 := hS; have hlq_22 := hl; clear hP hD hS hl
      obtain ⟨j_19, hl_20, hu_21, rfl⟩ := rg (L := 0) (U := 9) rfl rfl (show 0 < 2 ^ 31 by omega) (show 9 < 2 ^ 31 by omega) hq_18
      have hP := hPq_22; have hD := hDq_22; have hS := hSq_22; have hl := hlq_22; clear hPq_22 hDq_22 hSq_22 hlq_22
      refine lv_iload hx hb dX7_laneAhead_24 (lv_at hl 4 rfl) ?_
      refine lv_iconst (v := 0) hx hb dX7_laneAhead_26 (by decide) ?_
      refine ky_Si (As := [.int zk, .int 0]) (rest := []) ⟨hx, hb, hml, hown, hts⟩ ⟨hK, hN⟩ hZ hP hD hS hA [] [0, 1, 2, 3, 4, 5] (wc := []) (wr := [(Mn, .inl (g 0, 1767, .inl fno)), (Mh, .inl (g 0, 9, .inl fmh)), (Mr, .inl (g 0, 3, .inl fmr)), (Ma, .inl (g 0, 3, .inl fma)), (Mas, .inl (g 0, 1767, .inl fas)), (Mm, .inr (7, [.int 0, .ref Mt, .int (nI tp), .int zma, .int zwr, .ref Mrr, .ref Mrh, .ref Mrc, .int zrh, .int zrc, .ref Mn, .ref Mf, .ref Mr, .ref Mh, .int (nI hp), .int (nI cc), .ref Ma, .ref Mas, .ref Msn, .ref Mac, .ref Mat]))]) rfl rfl rfl rfl (by decide) (k_X7_isSpan l D g H.size zk 0) (va_cwS 2 hts gX7_laneAhead_X7_isSpan rfl rfl rfl (by decide +kernel) ⟨(Nat.le_of_ble_eq_true rfl), (Nat.le_of_ble_eq_true rfl)⟩) rfl hl.1 rfl (Nat.le_of_ble_eq_true rfl) dX7_laneAhead_27 ⟨(Nat.le_of_ble_eq_true rfl), (Nat.le_of_ble_eq_true rfl)⟩ (fun r_23 u H locs hw hP2 hD2 hS2 => ?_)
      clear hP hD hS
      obtain ⟨rfl, rfl⟩ := hw
      have hPD : PD D A [(Mn, .inl (g 0, 1767, .inl fno)), (Mh, .inl (g 0, 9, .inl fmh)), (Mr, .inl (g 0, 3, .inl fmr)), (Ma, .inl (g 0, 3, .inl fma)), (Mas, .inl (g 0, 1767, .inl fas)), (Mm, .inr (7, [.int 0, .ref Mt, .int (nI tp), .int zma, .int zwr, .ref Mrr, .ref Mrh, .ref Mrc, .int zrh, .int zrc, .ref Mn, .ref Mf, .ref Mr, .ref Mh, .int (nI hp), .int (nI cc), .ref Ma, .ref Mas, .ref Msn, .ref Mac, .ref Mat]))] H := ⟨hP2, hD2⟩
      have hS := hS2; clear hP2 hD2 hS2; have hP := hPD.1; have hD := hPD.2; clear hPD
      refine W.widen (k := 0) (n := 0) (Nat.le_of_ble_eq_true rfl) (Nat.le_of_ble_eq_true rfl) ?_
      refine lv_if_ne (tgt := 35) hx hb dX7_laneAhead_30 (by decide) (fun cb_24 => ?_) (fun cb_24 => ?_)
      · skip
        have hq_25 : 0 ≤ zk ∧ zk ≤ 200 := b01_1.mp cb_24
        have hPq_29 := hP; have hDq_29 := hD; have hSq_29 := hS; have hlq_29 := hl; clear hP hD hS hl
        obtain ⟨j_26, hl_27, hu_28, rfl⟩ := rg (L := 0) (U := 200) rfl rfl (show 0 < 2 ^ 31 by omega) (show 200 < 2 ^ 31 by omega) hq_25
        have hP := hPq_29; have hD := hDq_29; have hS := hSq_29; have hl := hlq_29; clear hPq_29 hDq_29 hSq_29 hlq_29
        refine lv_aload_n hx hb dX7_laneAhead_35 rfl (lv_at hl 0 rfl) ?_
        refine ky_Vv (As := []) (rest := []) ⟨hx, hb, hml, hown, hts⟩ ⟨hK, hN⟩ hZ hP hD hS hA [5, 0, 4] [1, 2, 3] (wc := [(Mm, .inr (7, [.int 0, .ref Mt, .int (nI tp), .int zma, .int zwr, .ref Mrr, .ref Mrh, .ref Mrc, .int zrh, .int zrc, .ref Mn, .ref Mf, .ref Mr, .ref Mh, .int (nI hp), .int (nI cc), .ref Ma, .ref Mas, .ref Msn, .ref Mac, .ref Mat])), (Mn, .inl (g 0, 1767, .inl fno)), (Mas, .inl (g 0, 1767, .inl fas))]) (wr := [(Mh, .inl (g 0, 9, .inl fmh)), (Mr, .inl (g 0, 3, .inl fmr)), (Ma, .inl (g 0, 3, .inl fma))]) rfl rfl rfl rfl (by decide) (k_X7_putAside l D g H.size Mm 0 Mt tp zma zwr Mrr Mrh Mrc zrh zrc Mn Mf Mr Mh hp cc Ma Mas Msn Mac Mat fno fas tb ub (h2)) (cwV 0 hts gX7_laneAhead_X7_putAside rfl rfl rfl (by decide +kernel) ⟨(Nat.le_of_ble_eq_true rfl), (Nat.le_of_ble_eq_true rfl)⟩) 5 7 rfl rfl rfl rfl hl.1 rfl (Nat.le_of_ble_eq_true rfl) dX7_laneAhead_36 ⟨(Nat.le_of_ble_eq_true rfl), (Nat.le_of_ble_eq_true rfl)⟩ (fun u H locs hw hP2 hD2 hS2 => ?_)
        clear hP hD hS
        obtain ⟨fasx_31, rfl, hf_32⟩ := hw
        have hPD : PD D A [(Mh, .inl (g 0, 9, .inl fmh)), (Mr, .inl (g 0, 3, .inl fmr)), (Ma, .inl (g 0, 3, .inl fma)), (Mm, .inr (7, [.int 0, .ref Mt, .int (nI tp), .int zma, .int zwr, .ref Mrr, .ref Mrh, .ref Mrc, .int zrh, .int zrc, .ref Mn, .ref Mf, .ref Mr, .ref Mh, .int (nI hp), .int (nI cc), .ref Ma, .ref Mas, .ref Msn, .ref Mac, .ref Mat])), (Mn, .inl (g 0, 1767, .inl fno)), (Mas, .inl (g 0, 1767, .inl fasx_31))] H := ⟨hP2, hD2⟩
        have hS := hS2; clear hP2 hD2 hS2; have hP := hPD.1; have hD := hPD.2; clear hPD
        refine W.widen (k := 0) (n := 0) (Nat.le_of_ble_eq_true rfl) (Nat.le_of_ble_eq_true rfl) ?_
        refine lv_aload_n hx hb dX7_laneAhead_39 rfl (lv_at hl 0 rfl) ?_
        refine lv_iload hx hb dX7_laneAhead_40 (lv_at hl 4 rfl) ?_
        refine ky_Vv (As := [.int (nI j_26)]) (rest := []) ⟨hx, hb, hml, hown, hts⟩ ⟨hK, hN⟩ hZ hP hD hS hA [3, 4, 0, 1, 2] [5] (wc := [(Mm, .inr (7, [.int 0, .ref Mt, .int (nI tp), .int zma, .int zwr, .ref Mrr, .ref Mrh, .ref Mrc, .int zrh, .int zrc, .ref Mn, .ref Mf, .ref Mr, .ref Mh, .int (nI hp), .int (nI cc), .ref Ma, .ref Mas, .ref Msn, .ref Mac, .ref Mat])), (Mn, .inl (g 0, 1767, .inl fno)), (Mh, .inl (g 0, 9, .inl fmh)), (Mr, .inl (g 0, 3, .inl fmr)), (Ma, .inl (g 0, 3, .inl fma))]) (wr := [(Mas, .inl (g 0, 1767, .inl fasx_31))]) rfl rfl rfl rfl (by decide) (k_X7_goesOn l D g H.size Mm j_26 0 Mt tp zma zwr Mrr Mrh Mrc zrh zrc Mn Mf Mr Mh hp cc Ma Mas Msn Mac Mat fno fmh fmr fma tb ub (show tb < 2 ^ 27 by omega) (show ub < 2 ^ 27 by omega) (h2) (show 1 ≤ hp by omega) (show hp ≤ 3 by omega) (show 1 ≤ cc by omega) (show cc ≤ 3 by omega) (h7) (show j_26 ≤ 200 by omega)) (cwV 1 hts gX7_laneAhead_X7_goesOn rfl rfl rfl (by decide +kernel) ⟨(Nat.le_of_ble_eq_true rfl), (Nat.le_of_ble_eq_true rfl)⟩) 3 7 rfl rfl rfl rfl hl.1 rfl (Nat.le_of_ble_eq_true rfl) dX7_laneAhead_42 ⟨(Nat.le_of_ble_eq_true rfl), (Nat.le_of_ble_eq_true rfl)⟩ (fun u H locs hw hP2 hD2 hS2 => ?_)
        clear hP hD hS
        obtain ⟨fnox_34, fmax_35, rfl, hf_36⟩ := hw
        have hPD : PD D A [(Mas, .inl (g 0, 1767, .inl fasx_31)), (Mm, .inr (7, [.int 0, .ref Mt, .int (nI tp), .int zma, .int zwr, .ref Mrr, .ref Mrh, .ref Mrc, .int zrh, .int zrc, .ref Mn, .ref Mf, .ref Mr, .ref Mh, .int (nI hp), .int (nI cc), .ref Ma, .ref Mas, .ref Msn, .ref Mac, .ref Mat])), (Mn, .inl (g 0, 1767, .inl fnox_34)), (Mh, .inl (g 0, 9, .inl fmh)), (Mr, .inl (g 0, 3, .inl fmr)), (Ma, .inl (g 0, 3, .inl fmax_35))] H := ⟨hP2, hD2⟩
        have hS := hS2; clear hP2 hD2 hS2; have hP := hPD.1; have hD := hPD.2; clear hPD
        refine W.widen (k := 0) (n := 0) (Nat.le_of_ble_eq_true rfl) (Nat.le_of_ble_eq_true rfl) ?_
        refine lv_aload_n hx hb dX7_laneAhead_45 rfl (lv_at hl 0 rfl) ?_
        refine lv_iload_n hx hb dX7_laneAhead_46 rfl (lv_at hl 1 rfl) ?_
        refine lv_iload_n hx hb dX7_laneAhead_47 rfl (lv_at hl 2 rfl) ?_
        refine lv_iload_n hx hb dX7_laneAhead_48 rfl (lv_at hl 3 rfl) ?_
        refine ky_Vi (As := [.int (nI j_7), .int (nI j_11), .int (nI j_19)]) (rest := []) ⟨hx, hb, hml, hown, hts⟩ ⟨hK, hN⟩ hZ hP hD hS hA [1, 2] [0, 3, 4, 5] (wc := [(Mm, .inr (7, [.int 0, .ref Mt, .int (nI tp), .int zma, .int zwr, .ref Mrr, .ref Mrh, .ref Mrc, .int zrh, .int zrc, .ref Mn, .ref Mf, .ref Mr, .ref Mh, .int (nI hp), .int (nI cc), .ref Ma, .ref Mas, .ref Msn, .ref Mac, .ref Mat])), (Mn, .inl (g 0, 1767, .inl fnox_34))]) (wr := [(Mas, .inl (g 0, 1767, .inl fasx_31)), (Mh, .inl (g 0, 9, .inl fmh)), (Mr, .inl (g 0, 3, .inl fmr)), (Ma, .inl (g 0, 3, .inl fmax_35))]) rfl rfl rfl rfl (by decide) (k_X7_laneNow l D g H.size Mm j_7 j_11 j_19 0 Mt tp zma zwr Mrr Mrh Mrc zrh zrc Mn Mf Mr Mh hp cc Ma Mas Msn Mac Mat fnox_34 (show j_7 < 3 by omega) (show j_11 < 3 by omega) (show j_19 ≤ 9 by omega)) (cwV 3 hts gX7_laneAhead_X7_laneNow rfl rfl rfl (by decide +kernel) ⟨(Nat.le_of_ble_eq_true rfl), (Nat.le_of_ble_eq_true rfl)⟩) 1 7 rfl rfl rfl rfl hl.1 rfl (Nat.le_of_ble_eq_true rfl) dX7_laneAhead_49 ⟨(Nat.le_of_ble_eq_true rfl), (Nat.le_of_ble_eq_true rfl)⟩ (fun r_37 u H locs hw hP2 hD2 hS2 => ?_)
        clear hP hD hS
        obtain rfl := hw
        have hPD : PD D A [(Mas, .inl (g 0, 1767, .inl fasx_31)), (Mh, .inl (g 0, 9, .inl fmh)), (Mr, .inl (g 0, 3, .inl fmr)), (Ma, .inl (g 0, 3, .inl fmax_35)), (Mm, .inr (7, [.int 0, .ref Mt, .int (nI tp), .int zma, .int zwr, .ref Mrr, .ref Mrh, .ref Mrc, .int zrh, .int zrc, .ref Mn, .ref Mf, .ref Mr, .ref Mh, .int (nI hp), .int (nI cc), .ref Ma, .ref Mas, .ref Msn, .ref Mac, .ref Mat])), (Mn, .inl (g 0, 1767, .inl fnox_34))] H := ⟨hP2, hD2⟩
        have hS := hS2; clear hP2 hD2 hS2; have hP := hPD.1; have hD := hPD.2; clear hPD
        refine W.widen (k := 0) (n := 0) (Nat.le_of_ble_eq_true rfl) (Nat.le_of_ble_eq_true rfl) ?_
        refine lv_istore (lv' := [(5, .int r_37), (0, .ref Mm), (1, .int (nI j_7)), (2, .int (nI j_11)), (3, .int (nI j_19)), (4, .int (nI j_26))]) hx hb dX7_laneAhead_52 hl (by decide) rfl (fun ls hl => ?_)
        refine lv_aload_n hx hb dX7_laneAhead_54 rfl (lv_at hl 1 rfl) ?_
        refine ky_Vv (As := []) (rest := []) ⟨hx, hb, hml, hown, hts⟩ ⟨hK, hN⟩ hZ hP hD hS hA [4, 5, 0] [1, 2, 3] (wc := [(Mm, .inr (7, [.int 0, .ref Mt, .int (nI tp), .int zma, .int zwr, .ref Mrr, .ref Mrh, .ref Mrc, .int zrh, .int zrc, .ref Mn, .ref Mf, .ref Mr, .ref Mh, .int (nI hp), .int (nI cc), .ref Ma, .ref Mas, .ref Msn, .ref Mac, .ref Mat])), (Mn, .inl (g 0, 1767, .inl fnox_34)), (Mas, .inl (g 0, 1767, .inl fasx_31))]) (wr := [(Mh, .inl (g 0, 9, .inl fmh)), (Mr, .inl (g 0, 3, .inl fmr)), (Ma, .inl (g 0, 3, .inl fmax_35))]) rfl rfl rfl rfl (by decide) (k_X7_bringBack l D g H.size Mm 0 Mt tp zma zwr Mrr Mrh Mrc zrh zrc Mn Mf Mr Mh hp cc Ma Mas Msn Mac Mat fnox_34 fasx_31 tb ub (hf_32)) (cwV 0 hts gX7_laneAhead_X7_bringBack rfl rfl rfl (by decide +kernel) ⟨(Nat.le_of_ble_eq_true rfl), (Nat.le_of_ble_eq_true rfl)⟩) 4 7 rfl rfl rfl rfl hl.1 rfl (Nat.le_of_ble_eq_true rfl) dX7_laneAhead_55 ⟨(Nat.le_of_ble_eq_true rfl), (Nat.le_of_ble_eq_true rfl)⟩ (fun u H locs hw hP2 hD2 hS2 => ?_)
        clear hP hD hS
        obtain ⟨fnox_39, rfl, hf_40⟩ := hw
        have hPD : PD D A [(Mh, .inl (g 0, 9, .inl fmh)), (Mr, .inl (g 0, 3, .inl fmr)), (Ma, .inl (g 0, 3, .inl fmax_35)), (Mm, .inr (7, [.int 0, .ref Mt, .int (nI tp), .int zma, .int zwr, .ref Mrr, .ref Mrh, .ref Mrc, .int zrh, .int zrc, .ref Mn, .ref Mf, .ref Mr, .ref Mh, .int (nI hp), .int (nI cc), .ref Ma, .ref Mas, .ref Msn, .ref Mac, .ref Mat])), (Mn, .inl (g 0, 1767, .inl fnox_39)), (Mas, .inl (g 0, 1767, .inl fasx_31))] H := ⟨hP2, hD2⟩
        have hS := hS2; clear hP2 hD2 hS2; have hP := hPD.1; have hD := hPD.2; clear hPD
        refine W.widen (k := 0) (n := 0) (Nat.le_of_ble_eq_true rfl) (Nat.le_of_ble_eq_true rfl) ?_
        refine lv_iload hx hb dX7_laneAhead_58 (lv_at hl 0 rfl) ?_
        have hPD9 : PD D A [(Mm, .inr (7, [.int 0, .ref Mt, .int (nI tp), .int zma, .int zwr, .ref Mrr, .ref Mrh, .ref Mrc, .int zrh, .int zrc, .ref Mn, .ref Mf, .ref Mr, .ref Mh, .int (nI hp), .int (nI cc), .ref Ma, .ref Mas, .ref Msn, .ref Mac, .ref Mat])), (Mn, .inl (g 0, 1767, .inl fnox_39)), (Mh, .inl (g 0, 9, .inl fmh)), (Mr, .inl (g 0, 3, .inl fmr)), (Ma, .inl (g 0, 3, .inl fmax_35)), (Mas, .inl (g 0, 1767, .inl fasx_31))] H := ⟨hP.sub [3, 4, 0, 1, 2, 5] rfl, hD.sub [3, 4, 0, 1, 2, 5] (by decide) rfl⟩
        have hP9 := hPD9.1; have hD9 := hPD9.2
        subst hQ
        refine W.widen (k := 0) (n := 0) (Nat.le_of_ble_eq_true rfl) (Nat.le_of_ble_eq_true rfl) ?_
        exact W.iret (v := r_37) hx hb hr (fun tS htS _ => ⟨⟨_, _, rfl, ⟨0, fnox_39, fmax_35, fasx_31, rfl, (hf_40)⟩, by rw [htS]; exact hP9, hD9⟩, hS.F htS⟩) hS.2.2 dX7_laneAhead_60
      · skip
        have hq_41 : ¬ (0 ≤ zk ∧ zk ≤ 200) := b01_0.mp cb_24
        refine lv_iconst (v := (-1)) hx hb dX7_laneAhead_33 (by decide) ?_
        have hPD9 : PD D A [(Mm, .inr (7, [.int 0, .ref Mt, .int (nI tp), .int zma, .int zwr, .ref Mrr, .ref Mrh, .ref Mrc, .int zrh, .int zrc, .ref Mn, .ref Mf, .ref Mr, .ref Mh, .int (nI hp), .int (nI cc), .ref Ma, .ref Mas, .ref Msn, .ref Mac, .ref Mat])), (Mn, .inl (g 0, 1767, .inl fno)), (Mh, .inl (g 0, 9, .inl fmh)), (Mr, .inl (g 0, 3, .inl fmr)), (Ma, .inl (g 0, 3, .inl fma)), (Mas, .inl (g 0, 1767, .inl fas))] H := ⟨hP.sub [5, 0, 1, 2, 3, 4] rfl, hD.sub [5, 0, 1, 2, 3, 4] (by decide) rfl⟩
        have hP9 := hPD9.1; have hD9 := hPD9.2
        subst hQ
        refine W.widen (k := 0) (n := 0) (Nat.le_of_ble_eq_true rfl) (Nat.le_of_ble_eq_true rfl) ?_
        exact W.iret (v := (-1)) hx hb hr (fun tS htS _ => ⟨⟨_, _, rfl, ⟨0, fno, fma, fas, rfl, (h2)⟩, by rw [htS]; exact hP9, hD9⟩, hS.F htS⟩) hS.2.2 dX7_laneAhead_34

set_option maxHeartbeats 4000000 in
set_option maxRecDepth 100000 in
theorem k_X7_bufferAhead (l : Launch) (D : va_G) (g : Nat → ClassId) (sz : Nat) {gs : Nat → Int32} (Mm : Nat) (zn : Int32) (zc : Int32) (zk : Int32) (zth : Int32) (Mt : Nat) (tp : Nat) (zma : Int32) (zwr : Int32) (Mrr : Nat) (Mrh : Nat) (Mrc : Nat) (zrh : Int32) (zrc : Int32) (Mn : Nat) (Mf : Nat) (Mr : Nat) (Mh : Nat) (hp : Nat) (cc : Nat) (Ma : Nat) (Mas : Nat) (Msn : Nat) (Mac : Nat) (Mat : Nat) (fno : Nat → Int32) (fmh : Nat → Int32) (fmr : Nat → Int32) (fma : Nat → Int32) (fas : Nat → Int32) (tb : Nat) (ub : Nat) (h0 : tb < 2 ^ 27) (h1 : ub < 2 ^ 27) (h2 : mOK gs tb ub fno) (h3 : 1 ≤ hp) (h4 : hp ≤ 3) (h5 : 1 ≤ cc) (h6 : cc ≤ 3) (h7 : n3 fmh) : Met l yX7_bufferAhead wsX7_bufferAhead ({ frames := 7, cells := 0, slots := 0, locals := 155 }) (va_Pc [.ref Mm, .int zn, .int zc, .int zk] (pre D g sz [(Mm, .inr (7, [.int zth, .ref Mt, .int (nI tp), .int zma, .int zwr, .ref Mrr, .ref Mrh, .ref Mrc, .int zrh, .int zrc, .ref Mn, .ref Mf, .ref Mr, .ref Mh, .int (nI hp), .int (nI cc), .ref Ma, .ref Mas, .ref Msn, .ref Mac, .ref Mat])), (Mn, .inl (g 0, 1767, .inl fno)), (Mh, .inl (g 0, 9, .inl fmh)), (Mr, .inl (g 0, 3, .inl fmr)), (Ma, .inl (g 0, 3, .inl fma)), (Mas, .inl (g 0, 1767, .inl fas))])) (va_Qi (fun (r : Int32) (u : va_W) => ∃ (zthx : Int32) (fnox : Nat → Int32) (fmax : Nat → Int32) (fasx : Nat → Int32), u = [(Mm, .inr (7, [.int zthx, .ref Mt, .int (nI tp), .int zma, .int zwr, .ref Mrr, .ref Mrh, .ref Mrc, .int zrh, .int zrc, .ref Mn, .ref Mf, .ref Mr, .ref Mh, .int (nI hp), .int (nI cc), .ref Ma, .ref Mas, .ref Msn, .ref Mac, .ref Mat])), (Mn, .inl (g 0, 1767, .inl fnox)), (Mh, .inl (g 0, 9, .inl fmh)), (Mr, .inl (g 0, 3, .inl fmr)), (Ma, .inl (g 0, 3, .inl fmax)), (Mas, .inl (g 0, 1767, .inl fasx))] ∧ (mOK gs tb ub fnox)) (wd D (va_A [(Mm, .inr (7, [.int zth, .ref Mt, .int (nI tp), .int zma, .int zwr, .ref Mrr, .ref Mrh, .ref Mrc, .int zrh, .int zrc, .ref Mn, .ref Mf, .ref Mr, .ref Mh, .int (nI hp), .int (nI cc), .ref Ma, .ref Mas, .ref Msn, .ref Mac, .ref Mat])), (Mn, .inl (g 0, 1767, .inl fno)), (Mh, .inl (g 0, 9, .inl fmh)), (Mr, .inl (g 0, 3, .inl fmr)), (Ma, .inl (g 0, 3, .inl fma)), (Mas, .inl (g 0, 1767, .inl fas))] sz)) (va_A [(Mm, .inr (7, [.int zth, .ref Mt, .int (nI tp), .int zma, .int zwr, .ref Mrr, .ref Mrh, .ref Mrc, .int zrh, .int zrc, .ref Mn, .ref Mf, .ref Mr, .ref Mh, .int (nI hp), .int (nI cc), .ref Ma, .ref Mas, .ref Msn, .ref Mac, .ref Mat])), (Mn, .inl (g 0, 1767, .inl fno)), (Mh, .inl (g 0, 9, .inl fmh)), (Mr, .inl (g 0, 3, .inl fmr)), (Ma, .inl (g 0, 3, .inl fma)), (Mas, .inl (g 0, 1767, .inl fas))] sz)) 0 0 (va_A [(Mm, .inr (7, [.int zth, .ref Mt, .int (nI tp), .int zma, .int zwr, .ref Mrr, .ref Mrh, .ref Mrc, .int zrh, .int zrc, .ref Mn, .ref Mf, .ref Mr, .ref Mh, .int (nI hp), .int (nI cc), .ref Ma, .ref Mas, .ref Msn, .ref Mac, .ref Mat])), (Mn, .inl (g 0, 1767, .inl fno)), (Mh, .inl (g 0, 9, .inl fmh)), (Mr, .inl (g 0, 3, .inl fmr)), (Ma, .inl (g 0, 3, .inl fma)), (Mas, .inl (g 0, 1767, .inl fas))] sz) := by
  refine Met.ofW (cc := cX7_bufferAhead) (maxL := 5) (ret := (some .int)) (by decide) rfl ?_
  intro p e s m args below meth c s₁ B hml hv
  obtain ⟨rfl, hsz, hP, ⟨hK, hN⟩, hD0, hZ⟩ := hv
  have hx := B.exec
  have hb := B.bytes
  have hr := B.returns
  have hts := atoms_spec (ws := wsX7_bufferAhead) B.pre
  have hown : s.vm.findClass RX7 = some m.cls := findClass_of_methodNamed B.named
  have hlocks := B.notSynchronized
  clear B
  subst hsz
  have hD := hD0.self (sz := s.heap.size)
  clear hD0
  generalize hAe : va_A [(Mm, .inr (7, [.int zth, .ref Mt, .int (nI tp), .int zma, .int zwr, .ref Mrr, .ref Mrh, .ref Mrc, .int zrh, .int zrc, .ref Mn, .ref Mf, .ref Mr, .ref Mh, .int (nI hp), .int (nI cc), .ref Ma, .ref Mas, .ref Msn, .ref Mac, .ref Mat])), (Mn, .inl (g 0, 1767, .inl fno)), (Mh, .inl (g 0, 9, .inl fmh)), (Mr, .inl (g 0, 3, .inl fmr)), (Ma, .inl (g 0, 3, .inl fma)), (Mas, .inl (g 0, 1767, .inl fas))] s.heap.size = A at hD hZ ⊢
  have hA : ∀ q : Nat, s.heap.size ≤ q → A q := fun q h => by rw [← hAe]; exact Or.inr h
  have hS : va_S A s.heap s.heap [] := va_S.rf
  have f22 := hts (.fieldLink RX7 22 "HopCreditsModel" "now" "[I") (List.mem_of_getElem? (i := 2) rfl)
  have f49 := hts (.fieldLink RX7 49 "HopCreditsModel" "thrown" "I") (List.mem_of_getElem? (i := 1) rfl)
  have iX7 : ∀ w ∈ u_ws RX7 TX7 21, w ∈ wsX7_bufferAhead := fun w h => List.mem_cons_of_mem _ (List.mem_append_right _ (h))
  have hl := lv_entry ([.ref Mm, .int zn, .int zc, .int zk]) (n := 5) (Nat.le_of_ble_eq_true rfl)
  rw [lg_entry_eq]
  generalize (lg_sl ([.ref Mm, .int zn, .int zc, .int zk]) ++ List.replicate (5 - (lg_sl ([.ref Mm, .int zn, .int zc, .int zk])).length) Slot.unset).toArray = ls at hl ⊢
  have hl : lv_has ls 5 [(0, .ref Mm), (1, .int zn), (2, .int zc), (3, .int zk)] := hl
  generalize hQ : MQ below _ _ s _ _ _ = Q
  generalize hH : s.heap = H at hP ⊢
  have hS : va_S A s.heap H [] := by rw [← hH]; exact hS
  clear hH
  refine lv_aload_n hx hb dX7_bufferAhead_0 rfl (lv_at hl 0 rfl) ?_
  refine lv_iconst (v := 0) hx hb dX7_bufferAhead_1 (by decide) ?_
  refine va_put (D := D) (ci := 7) (v := .int 0) (ty := .int) (C := RX7) (T := TX7) (N := 21) hx hb hts iX7 tyX7 tyX7_ok nmX7 hown hK hP hD hS 0 rfl rfl 0 (by decide) f49 (fun _ h9 => h9) rfl (by decide +kernel) (rfl) (rfl) (Nat.le_of_ble_eq_true rfl) dX7_bufferAhead_2 (fun H locs hP2 hD2 hS2 => ?_)
  clear hP hD hS
  have hPD : PD D A [(Mm, .inr (7, [.int 0, .ref Mt, .int (nI tp), .int zma, .int zwr, .ref Mrr, .ref Mrh, .ref Mrc, .int zrh, .int zrc, .ref Mn, .ref Mf, .ref Mr, .ref Mh, .int (nI hp), .int (nI cc), .ref Ma, .ref Mas, .ref Msn, .ref Mac, .ref Mat])), (Mn, .inl (g 0, 1767, .inl fno)), (Mh, .inl (g 0, 9, .inl fmh)), (Mr, .inl (g 0, 3, .inl fmr)), (Ma, .inl (g 0, 3, .inl fma)), (Mas, .inl (g 0, 1767, .inl fas))] H := ⟨hP2, hD2⟩
  have hS := hS2; clear hP2 hD2 hS2; have hP := hPD.1; have hD := hPD.2; clear hPD
  refine lv_aload_n hx hb dX7_bufferAhead_5 rfl (lv_at hl 0 rfl) ?_
  refine lv_iload_n hx hb dX7_bufferAhead_6 rfl (lv_at hl 1 rfl) ?_
  refine ky_Vi (As := [.int zn]) (rest := []) ⟨hx, hb, hml, hown, hts⟩ ⟨hK, hN⟩ hZ hP hD hS hA [0] [1, 2, 3, 4, 5] (wc := [(Mm, .inr (7, [.int 0, .ref Mt, .int (nI tp), .int zma, .int zwr, .ref Mrr, .ref Mrh, .ref Mrc, .int zrh, .int zrc, .ref Mn, .ref Mf, .ref Mr, .ref Mh, .int (nI hp), .int (nI cc), .ref Ma, .ref Mas, .ref Msn, .ref Mac, .ref Mat]))]) (wr := [(Mn, .inl (g 0, 1767, .inl fno)), (Mh, .inl (g 0, 9, .inl fmh)), (Mr, .inl (g 0, 3, .inl fmr)), (Ma, .inl (g 0, 3, .inl fma)), (Mas, .inl (g 0, 1767, .inl fas))]) rfl rfl rfl rfl (by decide) (k_X7_isNode l D g H.size Mm zn 0 Mt tp zma zwr Mrr Mrh Mrc zrh zrc Mn Mf Mr Mh hp cc Ma Mas Msn Mac Mat (show 1 ≤ hp by omega) (show hp ≤ 3 by omega)) (cwV 1 hts gX7_bufferAhead_X7_isNode rfl rfl rfl (by decide +kernel) ⟨(Nat.le_of_ble_eq_true rfl), (Nat.le_of_ble_eq_true rfl)⟩) 0 7 rfl rfl rfl rfl hl.1 rfl (Nat.le_of_ble_eq_true rfl) dX7_bufferAhead_7 ⟨(Nat.le_of_ble_eq_true rfl), (Nat.le_of_ble_eq_true rfl)⟩ (fun r_1 u H locs hw hP2 hD2 hS2 => ?_)
  clear hP hD hS
  obtain ⟨rfl, rfl⟩ := hw
  have hPD : PD D A [(Mn, .inl (g 0, 1767, .inl fno)), (Mh, .inl (g 0, 9, .inl fmh)), (Mr, .inl (g 0, 3, .inl fmr)), (Ma, .inl (g 0, 3, .inl fma)), (Mas, .inl (g 0, 1767, .inl fas)), (Mm, .inr (7, [.int 0, .ref Mt, .int (nI tp), .int zma, .int zwr, .ref Mrr, .ref Mrh, .ref Mrc, .int zrh, .int zrc, .ref Mn, .ref Mf, .ref Mr, .ref Mh, .int (nI hp), .int (nI cc), .ref Ma, .ref Mas, .ref Msn, .ref Mac, .ref Mat]))] H := ⟨hP2, hD2⟩
  have hS := hS2; clear hP2 hD2 hS2; have hP := hPD.1; have hD := hPD.2; clear hPD
  refine W.widen (k := 0) (n := 0) (Nat.le_of_ble_eq_true rfl) (Nat.le_of_ble_eq_true rfl) ?_
  refine lv_if_eq (tgt := 29) hx hb dX7_bufferAhead_10 (by decide) (fun cb_2 => ?_) (fun cb_2 => ?_)
  · skip
    have hq_3 : ¬ (0 ≤ zn ∧ zn ≤ (nI hp)) := b01_0.mp cb_2
    refine lv_iconst (v := (-1)) hx hb dX7_bufferAhead_29 (by decide) ?_
    have hPD9 : PD D A [(Mm, .inr (7, [.int 0, .ref Mt, .int (nI tp), .int zma, .int zwr, .ref Mrr, .ref Mrh, .ref Mrc, .int zrh, .int zrc, .ref Mn, .ref Mf, .ref Mr, .ref Mh, .int (nI hp), .int (nI cc), .ref Ma, .ref Mas, .ref Msn, .ref Mac, .ref Mat])), (Mn, .inl (g 0, 1767, .inl fno)), (Mh, .inl (g 0, 9, .inl fmh)), (Mr, .inl (g 0, 3, .inl fmr)), (Ma, .inl (g 0, 3, .inl fma)), (Mas, .inl (g 0, 1767, .inl fas))] H := ⟨hP.sub [5, 0, 1, 2, 3, 4] rfl, hD.sub [5, 0, 1, 2, 3, 4] (by decide) rfl⟩
    have hP9 := hPD9.1; have hD9 := hPD9.2
    subst hQ
    refine W.widen (k := 0) (n := 0) (Nat.le_of_ble_eq_true rfl) (Nat.le_of_ble_eq_true rfl) ?_
    exact W.iret (v := (-1)) hx hb hr (fun tS htS _ => ⟨⟨_, _, rfl, ⟨0, fno, fma, fas, rfl, (h2)⟩, by rw [htS]; exact hP9, hD9⟩, hS.F htS⟩) hS.2.2 dX7_bufferAhead_30
  · skip
    have hq_4 : 0 ≤ zn ∧ zn ≤ (nI hp) := b01_1.mp cb_2
    have hPq_8 := hP; have hDq_8 := hD; have hSq_8 := hS; have hlq_8 := hl; clear hP hD hS hl
    obtain ⟨j_5, hl_6, hu_7, rfl⟩ := rg (L := 0) (U := hp) rfl rfl (show 0 < 2 ^ 31 by omega) (show hp < 2 ^ 31 by omega) hq_4
    have hP := hPq_8; have hD := hDq_8; have hS := hSq_8; have hl := hlq_8; clear hPq_8 hDq_8 hSq_8 hlq_8
    refine lv_aload_n hx hb dX7_bufferAhead_13 rfl (lv_at hl 0 rfl) ?_
    refine lv_iload_n hx hb dX7_bufferAhead_14 rfl (lv_at hl 2 rfl) ?_
    refine ky_Vi (As := [.int zc]) (rest := []) ⟨hx, hb, hml, hown, hts⟩ ⟨hK, hN⟩ hZ hP hD hS hA [5] [0, 1, 2, 3, 4] (wc := [(Mm, .inr (7, [.int 0, .ref Mt, .int (nI tp), .int zma, .int zwr, .ref Mrr, .ref Mrh, .ref Mrc, .int zrh, .int zrc, .ref Mn, .ref Mf, .ref Mr, .ref Mh, .int (nI hp), .int (nI cc), .ref Ma, .ref Mas, .ref Msn, .ref Mac, .ref Mat]))]) (wr := [(Mn, .inl (g 0, 1767, .inl fno)), (Mh, .inl (g 0, 9, .inl fmh)), (Mr, .inl (g 0, 3, .inl fmr)), (Ma, .inl (g 0, 3, .inl fma)), (Mas, .inl (g 0, 1767, .inl fas))]) rfl rfl rfl rfl (by decide) (k_X7_isCircuit l D g H.size Mm zc 0 Mt tp zma zwr Mrr Mrh Mrc zrh zrc Mn Mf Mr Mh hp cc Ma Mas Msn Mac Mat (show 1 ≤ cc by omega) (show cc ≤ 3 by omega)) (cwV 1 hts gX7_bufferAhead_X7_isCircuit rfl rfl rfl (by decide +kernel) ⟨(Nat.le_of_ble_eq_true rfl), (Nat.le_of_ble_eq_true rfl)⟩) 5 7 rfl rfl rfl rfl hl.1 rfl (Nat.le_of_ble_eq_true rfl) dX7_bufferAhead_15 ⟨(Nat.le_of_ble_eq_true rfl), (Nat.le_of_ble_eq_true rfl)⟩ (fun r_9 u H locs hw hP2 hD2 hS2 => ?_)
    clear hP hD hS
    obtain ⟨rfl, rfl⟩ := hw
    have hPD : PD D A [(Mn, .inl (g 0, 1767, .inl fno)), (Mh, .inl (g 0, 9, .inl fmh)), (Mr, .inl (g 0, 3, .inl fmr)), (Ma, .inl (g 0, 3, .inl fma)), (Mas, .inl (g 0, 1767, .inl fas)), (Mm, .inr (7, [.int 0, .ref Mt, .int (nI tp), .int zma, .int zwr, .ref Mrr, .ref Mrh, .ref Mrc, .int zrh, .int zrc, .ref Mn, .ref Mf, .ref Mr, .ref Mh, .int (nI hp), .int (nI cc), .ref Ma, .ref Mas, .ref Msn, .ref Mac, .ref Mat]))] H := ⟨hP2, hD2⟩
    have hS := hS2; clear hP2 hD2 hS2; have hP := hPD.1; have hD := hPD.2; clear hPD
    refine W.widen (k := 0) (n := 0) (Nat.le_of_ble_eq_true rfl) (Nat.le_of_ble_eq_true rfl) ?_
    refine lv_if_eq (tgt := 29) hx hb dX7_bufferAhead_18 (by decide) (fun cb_10 => ?_) (fun cb_10 => ?_)
    · skip
      have hq_11 : ¬ (0 ≤ zc ∧ zc ≤ (nI (cc - 1))) := b01_0.mp cb_10
      refine lv_iconst (v := (-1)) hx hb dX7_bufferAhead_29 (by decide) ?_
      have hPD9 : PD D A [(Mm, .inr (7, [.int 0, .ref Mt, .int (nI tp), .int zma, .int zwr, .ref Mrr, .ref Mrh, .ref Mrc, .int zrh, .int zrc, .ref Mn, .ref Mf, .ref Mr, .ref Mh, .int (nI hp), .int (nI cc), .ref Ma, .ref Mas, .ref Msn, .ref Mac, .ref Mat])), (Mn, .inl (g 0, 1767, .inl fno)), (Mh, .inl (g 0, 9, .inl fmh)), (Mr, .inl (g 0, 3, .inl fmr)), (Ma, .inl (g 0, 3, .inl fma)), (Mas, .inl (g 0, 1767, .inl fas))] H := ⟨hP.sub [5, 0, 1, 2, 3, 4] rfl, hD.sub [5, 0, 1, 2, 3, 4] (by decide) rfl⟩
      have hP9 := hPD9.1; have hD9 := hPD9.2
      subst hQ
      refine W.widen (k := 0) (n := 0) (Nat.le_of_ble_eq_true rfl) (Nat.le_of_ble_eq_true rfl) ?_
      exact W.iret (v := (-1)) hx hb hr (fun tS htS _ => ⟨⟨_, _, rfl, ⟨0, fno, fma, fas, rfl, (h2)⟩, by rw [htS]; exact hP9, hD9⟩, hS.F htS⟩) hS.2.2 dX7_bufferAhead_30
    · skip
      have hq_12 : 0 ≤ zc ∧ zc ≤ (nI (cc - 1)) := b01_1.mp cb_10
      have hPq_16 := hP; have hDq_16 := hD; have hSq_16 := hS; have hlq_16 := hl; clear hP hD hS hl
      obtain ⟨j_13, hl_14, hu_15, rfl⟩ := rg (L := 0) (U := cc - 1) rfl rfl (show 0 < 2 ^ 31 by omega) (show cc - 1 < 2 ^ 31 by omega) hq_12
      have hP := hPq_16; have hD := hDq_16; have hS := hSq_16; have hl := hlq_16; clear hPq_16 hDq_16 hSq_16 hlq_16
      refine lv_iload_n hx hb dX7_bufferAhead_21 rfl (lv_at hl 3 rfl) ?_
      refine lv_iconst (v := 0) hx hb dX7_bufferAhead_22 (by decide) ?_
      refine ky_Si (As := [.int zk, .int 0]) (rest := []) ⟨hx, hb, hml, hown, hts⟩ ⟨hK, hN⟩ hZ hP hD hS hA [] [0, 1, 2, 3, 4, 5] (wc := []) (wr := [(Mn, .inl (g 0, 1767, .inl fno)), (Mh, .inl (g 0, 9, .inl fmh)), (Mr, .inl (g 0, 3, .inl fmr)), (Ma, .inl (g 0, 3, .inl fma)), (Mas, .inl (g 0, 1767, .inl fas)), (Mm, .inr (7, [.int 0, .ref Mt, .int (nI tp), .int zma, .int zwr, .ref Mrr, .ref Mrh, .ref Mrc, .int zrh, .int zrc, .ref Mn, .ref Mf, .ref Mr, .ref Mh, .int (nI hp), .int (nI cc), .ref Ma, .ref Mas, .ref Msn, .ref Mac, .ref Mat]))]) rfl rfl rfl rfl (by decide) (k_X7_isSpan l D g H.size zk 0) (va_cwS 2 hts gX7_bufferAhead_X7_isSpan rfl rfl rfl (by decide +kernel) ⟨(Nat.le_of_ble_eq_true rfl), (Nat.le_of_ble_eq_true rfl)⟩) rfl hl.1 rfl (Nat.le_of_ble_eq_true rfl) dX7_bufferAhead_23 ⟨(Nat.le_of_ble_eq_true rfl), (Nat.le_of_ble_eq_true rfl)⟩ (fun r_17 u H locs hw hP2 hD2 hS2 => ?_)
      clear hP hD hS
      obtain ⟨rfl, rfl⟩ := hw
      have hPD : PD D A [(Mn, .inl (g 0, 1767, .inl fno)), (Mh, .inl (g 0, 9, .inl fmh)), (Mr, .inl (g 0, 3, .inl fmr)), (Ma, .inl (g 0, 3, .inl fma)), (Mas, .inl (g 0, 1767, .inl fas)), (Mm, .inr (7, [.int 0, .ref Mt, .int (nI tp), .int zma, .int zwr, .ref Mrr, .ref Mrh, .ref Mrc, .int zrh, .int zrc, .ref Mn, .ref Mf, .ref Mr, .ref Mh, .int (nI hp), .int (nI cc), .ref Ma, .ref Mas, .ref Msn, .ref Mac, .ref Mat]))] H := ⟨hP2, hD2⟩
      have hS := hS2; clear hP2 hD2 hS2; have hP := hPD.1; have hD := hPD.2; clear hPD
      refine W.widen (k := 0) (n := 0) (Nat.le_of_ble_eq_true rfl) (Nat.le_of_ble_eq_true rfl) ?_
      refine lv_if_ne (tgt := 31) hx hb dX7_bufferAhead_26 (by decide) (fun cb_18 => ?_) (fun cb_18 => ?_)
      · skip
        have hq_19 : 0 ≤ zk ∧ zk ≤ 200 := b01_1.mp cb_18
        have hPq_23 := hP; have hDq_23 := hD; have hSq_23 := hS; have hlq_23 := hl; clear hP hD hS hl
        obtain ⟨j_20, hl_21, hu_22, rfl⟩ := rg (L := 0) (U := 200) rfl rfl (show 0 < 2 ^ 31 by omega) (show 200 < 2 ^ 31 by omega) hq_19
        have hP := hPq_23; have hD := hDq_23; have hS := hSq_23; have hl := hlq_23; clear hPq_23 hDq_23 hSq_23 hlq_23
        refine lv_aload_n hx hb dX7_bufferAhead_31 rfl (lv_at hl 0 rfl) ?_
        refine ky_Vv (As := []) (rest := []) ⟨hx, hb, hml, hown, hts⟩ ⟨hK, hN⟩ hZ hP hD hS hA [5, 0, 4] [1, 2, 3] (wc := [(Mm, .inr (7, [.int 0, .ref Mt, .int (nI tp), .int zma, .int zwr, .ref Mrr, .ref Mrh, .ref Mrc, .int zrh, .int zrc, .ref Mn, .ref Mf, .ref Mr, .ref Mh, .int (nI hp), .int (nI cc), .ref Ma, .ref Mas, .ref Msn, .ref Mac, .ref Mat])), (Mn, .inl (g 0, 1767, .inl fno)), (Mas, .inl (g 0, 1767, .inl fas))]) (wr := [(Mh, .inl (g 0, 9, .inl fmh)), (Mr, .inl (g 0, 3, .inl fmr)), (Ma, .inl (g 0, 3, .inl fma))]) rfl rfl rfl rfl (by decide) (k_X7_putAside l D g H.size Mm 0 Mt tp zma zwr Mrr Mrh Mrc zrh zrc Mn Mf Mr Mh hp cc Ma Mas Msn Mac Mat fno fas tb ub (h2)) (cwV 0 hts gX7_bufferAhead_X7_putAside rfl rfl rfl (by decide +kernel) ⟨(Nat.le_of_ble_eq_true rfl), (Nat.le_of_ble_eq_true rfl)⟩) 5 7 rfl rfl rfl rfl hl.1 rfl (Nat.le_of_ble_eq_true rfl) dX7_bufferAhead_32 ⟨(Nat.le_of_ble_eq_true rfl), (Nat.le_of_ble_eq_true rfl)⟩ (fun u H locs hw hP2 hD2 hS2 => ?_)
        clear hP hD hS
        obtain ⟨fasx_25, rfl, hf_26⟩ := hw
        have hPD : PD D A [(Mh, .inl (g 0, 9, .inl fmh)), (Mr, .inl (g 0, 3, .inl fmr)), (Ma, .inl (g 0, 3, .inl fma)), (Mm, .inr (7, [.int 0, .ref Mt, .int (nI tp), .int zma, .int zwr, .ref Mrr, .ref Mrh, .ref Mrc, .int zrh, .int zrc, .ref Mn, .ref Mf, .ref Mr, .ref Mh, .int (nI hp), .int (nI cc), .ref Ma, .ref Mas, .ref Msn, .ref Mac, .ref Mat])), (Mn, .inl (g 0, 1767, .inl fno)), (Mas, .inl (g 0, 1767, .inl fasx_25))] H := ⟨hP2, hD2⟩
        have hS := hS2; clear hP2 hD2 hS2; have hP := hPD.1; have hD := hPD.2; clear hPD
        refine W.widen (k := 0) (n := 0) (Nat.le_of_ble_eq_true rfl) (Nat.le_of_ble_eq_true rfl) ?_
        refine lv_aload_n hx hb dX7_bufferAhead_35 rfl (lv_at hl 0 rfl) ?_
        refine lv_iload_n hx hb dX7_bufferAhead_36 rfl (lv_at hl 3 rfl) ?_
        refine ky_Vv (As := [.int (nI j_20)]) (rest := []) ⟨hx, hb, hml, hown, hts⟩ ⟨hK, hN⟩ hZ hP hD hS hA [3, 4, 0, 1, 2] [5] (wc := [(Mm, .inr (7, [.int 0, .ref Mt, .int (nI tp), .int zma, .int zwr, .ref Mrr, .ref Mrh, .ref Mrc, .int zrh, .int zrc, .ref Mn, .ref Mf, .ref Mr, .ref Mh, .int (nI hp), .int (nI cc), .ref Ma, .ref Mas, .ref Msn, .ref Mac, .ref Mat])), (Mn, .inl (g 0, 1767, .inl fno)), (Mh, .inl (g 0, 9, .inl fmh)), (Mr, .inl (g 0, 3, .inl fmr)), (Ma, .inl (g 0, 3, .inl fma))]) (wr := [(Mas, .inl (g 0, 1767, .inl fasx_25))]) rfl rfl rfl rfl (by decide) (k_X7_goesOn l D g H.size Mm j_20 0 Mt tp zma zwr Mrr Mrh Mrc zrh zrc Mn Mf Mr Mh hp cc Ma Mas Msn Mac Mat fno fmh fmr fma tb ub (show tb < 2 ^ 27 by omega) (show ub < 2 ^ 27 by omega) (h2) (show 1 ≤ hp by omega) (show hp ≤ 3 by omega) (show 1 ≤ cc by omega) (show cc ≤ 3 by omega) (h7) (show j_20 ≤ 200 by omega)) (cwV 1 hts gX7_bufferAhead_X7_goesOn rfl rfl rfl (by decide +kernel) ⟨(Nat.le_of_ble_eq_true rfl), (Nat.le_of_ble_eq_true rfl)⟩) 3 7 rfl rfl rfl rfl hl.1 rfl (Nat.le_of_ble_eq_true rfl) dX7_bufferAhead_37 ⟨(Nat.le_of_ble_eq_true rfl), (Nat.le_of_ble_eq_true rfl)⟩ (fun u H locs hw hP2 hD2 hS2 => ?_)
        clear hP hD hS
        obtain ⟨fnox_28, fmax_29, rfl, hf_30⟩ := hw
        have hPD : PD D A [(Mas, .inl (g 0, 1767, .inl fasx_25)), (Mm, .inr (7, [.int 0, .ref Mt, .int (nI tp), .int zma, .int zwr, .ref Mrr, .ref Mrh, .ref Mrc, .int zrh, .int zrc, .ref Mn, .ref Mf, .ref Mr, .ref Mh, .int (nI hp), .int (nI cc), .ref Ma, .ref Mas, .ref Msn, .ref Mac, .ref Mat])), (Mn, .inl (g 0, 1767, .inl fnox_28)), (Mh, .inl (g 0, 9, .inl fmh)), (Mr, .inl (g 0, 3, .inl fmr)), (Ma, .inl (g 0, 3, .inl fmax_29))] H := ⟨hP2, hD2⟩
        have hS := hS2; clear hP2 hD2 hS2; have hP := hPD.1; have hD := hPD.2; clear hPD
        refine W.widen (k := 0) (n := 0) (Nat.le_of_ble_eq_true rfl) (Nat.le_of_ble_eq_true rfl) ?_
        refine lv_aload_n hx hb dX7_bufferAhead_40 rfl (lv_at hl 0 rfl) ?_
        refine va_get (D := D) (ci := 7) (v := .ref Mn) (C := RX7) (T := TX7) (N := 21) hx hb hts iX7 hown hK hP 1 rfl rfl 10 (by decide) f22 (fun _ h9 => h9) rfl dX7_bufferAhead_41 ?_
        refine lv_iload_n hx hb dX7_bufferAhead_44 rfl (lv_at hl 1 rfl) ?_
        refine lv_iload_n hx hb dX7_bufferAhead_45 rfl (lv_at hl 2 rfl) ?_
        refine ky_Si (As := [.int (nI j_5), .int (nI j_13)]) (rest := [.ref Mn]) ⟨hx, hb, hml, hown, hts⟩ ⟨hK, hN⟩ hZ hP hD hS hA [] [0, 1, 2, 3, 4, 5] (wc := []) (wr := [(Mas, .inl (g 0, 1767, .inl fasx_25)), (Mm, .inr (7, [.int 0, .ref Mt, .int (nI tp), .int zma, .int zwr, .ref Mrr, .ref Mrh, .ref Mrc, .int zrh, .int zrc, .ref Mn, .ref Mf, .ref Mr, .ref Mh, .int (nI hp), .int (nI cc), .ref Ma, .ref Mas, .ref Msn, .ref Mac, .ref Mat])), (Mn, .inl (g 0, 1767, .inl fnox_28)), (Mh, .inl (g 0, 9, .inl fmh)), (Mr, .inl (g 0, 3, .inl fmr)), (Ma, .inl (g 0, 3, .inl fmax_29))]) rfl rfl rfl rfl (by decide) (k_X7_bufferAt l D g H.size j_5 j_13 (show j_5 ≤ 3 by omega) (show j_13 < 3 by omega)) (va_cwS 2 hts gX7_bufferAhead_X7_bufferAt rfl rfl rfl (by decide +kernel) ⟨(Nat.le_of_ble_eq_true rfl), (Nat.le_of_ble_eq_true rfl)⟩) rfl hl.1 rfl (Nat.le_of_ble_eq_true rfl) dX7_bufferAhead_46 ⟨(Nat.le_of_ble_eq_true rfl), (Nat.le_of_ble_eq_true rfl)⟩ (fun r_31 u H locs hw hP2 hD2 hS2 => ?_)
        clear hP hD hS
        obtain ⟨rfl, rfl⟩ := hw
        have hPD : PD D A [(Mas, .inl (g 0, 1767, .inl fasx_25)), (Mm, .inr (7, [.int 0, .ref Mt, .int (nI tp), .int zma, .int zwr, .ref Mrr, .ref Mrh, .ref Mrc, .int zrh, .int zrc, .ref Mn, .ref Mf, .ref Mr, .ref Mh, .int (nI hp), .int (nI cc), .ref Ma, .ref Mas, .ref Msn, .ref Mac, .ref Mat])), (Mn, .inl (g 0, 1767, .inl fnox_28)), (Mh, .inl (g 0, 9, .inl fmh)), (Mr, .inl (g 0, 3, .inl fmr)), (Ma, .inl (g 0, 3, .inl fmax_29))] H := ⟨hP2, hD2⟩
        have hS := hS2; clear hP2 hD2 hS2; have hP := hPD.1; have hD := hPD.2; clear hPD
        refine W.widen (k := 0) (n := 0) (Nat.le_of_ble_eq_true rfl) (Nat.le_of_ble_eq_true rfl) ?_
        refine va_iald hx hb hK hP 2 0 rfl rfl (vp_in_nI (show 189 + 3 * j_5 + j_13 < 1767 by omega) (by decide)) dX7_bufferAhead_49 ?_
        refine lv_eqi (y := (fnox_28 (189 + 3 * j_5 + j_13))) (congrArg fnox_28 (nI_clamp (show 189 + 3 * j_5 + j_13 < 2 ^ 31 by omega))) ?_
        refine lv_topi (fun y_32 _ => ?_)
        refine lv_istore (lv' := [(4, .int y_32), (0, .ref Mm), (1, .int (nI j_5)), (2, .int (nI j_13)), (3, .int (nI j_20))]) hx hb dX7_bufferAhead_50 hl (by decide) rfl (fun ls hl => ?_)
        refine lv_aload_n hx hb dX7_bufferAhead_52 rfl (lv_at hl 1 rfl) ?_
        refine ky_Vv (As := []) (rest := []) ⟨hx, hb, hml, hown, hts⟩ ⟨hK, hN⟩ hZ hP hD hS hA [1, 2, 0] [3, 4, 5] (wc := [(Mm, .inr (7, [.int 0, .ref Mt, .int (nI tp), .int zma, .int zwr, .ref Mrr, .ref Mrh, .ref Mrc, .int zrh, .int zrc, .ref Mn, .ref Mf, .ref Mr, .ref Mh, .int (nI hp), .int (nI cc), .ref Ma, .ref Mas, .ref Msn, .ref Mac, .ref Mat])), (Mn, .inl (g 0, 1767, .inl fnox_28)), (Mas, .inl (g 0, 1767, .inl fasx_25))]) (wr := [(Mh, .inl (g 0, 9, .inl fmh)), (Mr, .inl (g 0, 3, .inl fmr)), (Ma, .inl (g 0, 3, .inl fmax_29))]) rfl rfl rfl rfl (by decide) (k_X7_bringBack l D g H.size Mm 0 Mt tp zma zwr Mrr Mrh Mrc zrh zrc Mn Mf Mr Mh hp cc Ma Mas Msn Mac Mat fnox_28 fasx_25 tb ub (hf_26)) (cwV 0 hts gX7_bufferAhead_X7_bringBack rfl rfl rfl (by decide +kernel) ⟨(Nat.le_of_ble_eq_true rfl), (Nat.le_of_ble_eq_true rfl)⟩) 1 7 rfl rfl rfl rfl hl.1 rfl (Nat.le_of_ble_eq_true rfl) dX7_bufferAhead_53 ⟨(Nat.le_of_ble_eq_true rfl), (Nat.le_of_ble_eq_true rfl)⟩ (fun u H locs hw hP2 hD2 hS2 => ?_)
        clear hP hD hS
        obtain ⟨fnox_34, rfl, hf_35⟩ := hw
        have hPD : PD D A [(Mh, .inl (g 0, 9, .inl fmh)), (Mr, .inl (g 0, 3, .inl fmr)), (Ma, .inl (g 0, 3, .inl fmax_29)), (Mm, .inr (7, [.int 0, .ref Mt, .int (nI tp), .int zma, .int zwr, .ref Mrr, .ref Mrh, .ref Mrc, .int zrh, .int zrc, .ref Mn, .ref Mf, .ref Mr, .ref Mh, .int (nI hp), .int (nI cc), .ref Ma, .ref Mas, .ref Msn, .ref Mac, .ref Mat])), (Mn, .inl (g 0, 1767, .inl fnox_34)), (Mas, .inl (g 0, 1767, .inl fasx_25))] H := ⟨hP2, hD2⟩
        have hS := hS2; clear hP2 hD2 hS2; have hP := hPD.1; have hD := hPD.2; clear hPD
        refine W.widen (k := 0) (n := 0) (Nat.le_of_ble_eq_true rfl) (Nat.le_of_ble_eq_true rfl) ?_
        refine lv_iload hx hb dX7_bufferAhead_56 (lv_at hl 0 rfl) ?_
        have hPD9 : PD D A [(Mm, .inr (7, [.int 0, .ref Mt, .int (nI tp), .int zma, .int zwr, .ref Mrr, .ref Mrh, .ref Mrc, .int zrh, .int zrc, .ref Mn, .ref Mf, .ref Mr, .ref Mh, .int (nI hp), .int (nI cc), .ref Ma, .ref Mas, .ref Msn, .ref Mac, .ref Mat])), (Mn, .inl (g 0, 1767, .inl fnox_34)), (Mh, .inl (g 0, 9, .inl fmh)), (Mr, .inl (g 0, 3, .inl fmr)), (Ma, .inl (g 0, 3, .inl fmax_29)), (Mas, .inl (g 0, 1767, .inl fasx_25))] H := ⟨hP.sub [3, 4, 0, 1, 2, 5] rfl, hD.sub [3, 4, 0, 1, 2, 5] (by decide) rfl⟩
        have hP9 := hPD9.1; have hD9 := hPD9.2
        subst hQ
        refine W.widen (k := 0) (n := 0) (Nat.le_of_ble_eq_true rfl) (Nat.le_of_ble_eq_true rfl) ?_
        exact W.iret (v := y_32) hx hb hr (fun tS htS _ => ⟨⟨_, _, rfl, ⟨0, fnox_34, fmax_29, fasx_25, rfl, (hf_35)⟩, by rw [htS]; exact hP9, hD9⟩, hS.F htS⟩) hS.2.2 dX7_bufferAhead_58
      · skip
        have hq_36 : ¬ (0 ≤ zk ∧ zk ≤ 200) := b01_0.mp cb_18
        refine lv_iconst (v := (-1)) hx hb dX7_bufferAhead_29 (by decide) ?_
        have hPD9 : PD D A [(Mm, .inr (7, [.int 0, .ref Mt, .int (nI tp), .int zma, .int zwr, .ref Mrr, .ref Mrh, .ref Mrc, .int zrh, .int zrc, .ref Mn, .ref Mf, .ref Mr, .ref Mh, .int (nI hp), .int (nI cc), .ref Ma, .ref Mas, .ref Msn, .ref Mac, .ref Mat])), (Mn, .inl (g 0, 1767, .inl fno)), (Mh, .inl (g 0, 9, .inl fmh)), (Mr, .inl (g 0, 3, .inl fmr)), (Ma, .inl (g 0, 3, .inl fma)), (Mas, .inl (g 0, 1767, .inl fas))] H := ⟨hP.sub [5, 0, 1, 2, 3, 4] rfl, hD.sub [5, 0, 1, 2, 3, 4] (by decide) rfl⟩
        have hP9 := hPD9.1; have hD9 := hPD9.2
        subst hQ
        refine W.widen (k := 0) (n := 0) (Nat.le_of_ble_eq_true rfl) (Nat.le_of_ble_eq_true rfl) ?_
        exact W.iret (v := (-1)) hx hb hr (fun tS htS _ => ⟨⟨_, _, rfl, ⟨0, fno, fma, fas, rfl, (h2)⟩, by rw [htS]; exact hP9, hD9⟩, hS.F htS⟩) hS.2.2 dX7_bufferAhead_30

set_option maxHeartbeats 4000000 in
set_option maxRecDepth 100000 in
theorem k_X7_deliveredOf (l : Launch) (D : va_G) (g : Nat → ClassId) (sz : Nat) (Mm : Nat) (zc : Int32) (zth : Int32) (Mt : Nat) (tp : Nat) (zma : Int32) (zwr : Int32) (Mrr : Nat) (Mrh : Nat) (Mrc : Nat) (zrh : Int32) (zrc : Int32) (Mn : Nat) (Mf : Nat) (Mr : Nat) (Mh : Nat) (hp : Nat) (cc : Nat) (Ma : Nat) (Mas : Nat) (Msn : Nat) (Mac : Nat) (Mat : Nat) (fno : Nat → Int32) (h0 : 1 ≤ cc) (h1 : cc ≤ 3) : Met l yX7_deliveredOf wsX7_deliveredOf ({ frames := 1, cells := 0, slots := 0, locals := 20 }) (va_Pc [.ref Mm, .int zc] (pre D g sz [(Mm, .inr (7, [.int zth, .ref Mt, .int (nI tp), .int zma, .int zwr, .ref Mrr, .ref Mrh, .ref Mrc, .int zrh, .int zrc, .ref Mn, .ref Mf, .ref Mr, .ref Mh, .int (nI hp), .int (nI cc), .ref Ma, .ref Mas, .ref Msn, .ref Mac, .ref Mat])), (Mn, .inl (g 0, 1767, .inl fno))])) (va_Qi (fun (r : Int32) (u : va_W) => u = [(Mm, .inr (7, [.int zth, .ref Mt, .int (nI tp), .int zma, .int zwr, .ref Mrr, .ref Mrh, .ref Mrc, .int zrh, .int zrc, .ref Mn, .ref Mf, .ref Mr, .ref Mh, .int (nI hp), .int (nI cc), .ref Ma, .ref Mas, .ref Msn, .ref Mac, .ref Mat])), (Mn, .inl (g 0, 1767, .inl fno))]) (wd D (va_A [(Mm, .inr (7, [.int zth, .ref Mt, .int (nI tp), .int zma, .int zwr, .ref Mrr, .ref Mrh, .ref Mrc, .int zrh, .int zrc, .ref Mn, .ref Mf, .ref Mr, .ref Mh, .int (nI hp), .int (nI cc), .ref Ma, .ref Mas, .ref Msn, .ref Mac, .ref Mat])), (Mn, .inl (g 0, 1767, .inl fno))] sz)) (va_A [(Mm, .inr (7, [.int zth, .ref Mt, .int (nI tp), .int zma, .int zwr, .ref Mrr, .ref Mrh, .ref Mrc, .int zrh, .int zrc, .ref Mn, .ref Mf, .ref Mr, .ref Mh, .int (nI hp), .int (nI cc), .ref Ma, .ref Mas, .ref Msn, .ref Mac, .ref Mat])), (Mn, .inl (g 0, 1767, .inl fno))] sz)) 0 0 (va_A [(Mm, .inr (7, [.int zth, .ref Mt, .int (nI tp), .int zma, .int zwr, .ref Mrr, .ref Mrh, .ref Mrc, .int zrh, .int zrc, .ref Mn, .ref Mf, .ref Mr, .ref Mh, .int (nI hp), .int (nI cc), .ref Ma, .ref Mas, .ref Msn, .ref Mac, .ref Mat])), (Mn, .inl (g 0, 1767, .inl fno))] sz) := by
  refine Met.ofW (cc := cX7_deliveredOf) (maxL := 4) (ret := (some .int)) (by decide) rfl ?_
  intro p e s m args below meth c s₁ B hml hv
  obtain ⟨rfl, hsz, hP, ⟨hK, hN⟩, hD0, hZ⟩ := hv
  have hx := B.exec
  have hb := B.bytes
  have hr := B.returns
  have hts := atoms_spec (ws := wsX7_deliveredOf) B.pre
  have hown : s.vm.findClass RX7 = some m.cls := findClass_of_methodNamed B.named
  have hlocks := B.notSynchronized
  clear B
  subst hsz
  have hD := hD0.self (sz := s.heap.size)
  clear hD0
  generalize hAe : va_A [(Mm, .inr (7, [.int zth, .ref Mt, .int (nI tp), .int zma, .int zwr, .ref Mrr, .ref Mrh, .ref Mrc, .int zrh, .int zrc, .ref Mn, .ref Mf, .ref Mr, .ref Mh, .int (nI hp), .int (nI cc), .ref Ma, .ref Mas, .ref Msn, .ref Mac, .ref Mat])), (Mn, .inl (g 0, 1767, .inl fno))] s.heap.size = A at hD hZ ⊢
  have hA : ∀ q : Nat, s.heap.size ≤ q → A q := fun q h => by rw [← hAe]; exact Or.inr h
  have hS : va_S A s.heap s.heap [] := va_S.rf
  have f127 := hts (.fieldLink RX7 127 "HopCreditsModel" "circuits" "I") (List.mem_of_getElem? (i := 1) rfl)
  have f22 := hts (.fieldLink RX7 22 "HopCreditsModel" "now" "[I") (List.mem_of_getElem? (i := 2) rfl)
  have iX7 : ∀ w ∈ u_ws RX7 TX7 21, w ∈ wsX7_deliveredOf := fun w h => List.mem_cons_of_mem _ (List.mem_append_right _ (h))
  have hl := lv_entry ([.ref Mm, .int zc]) (n := 4) (Nat.le_of_ble_eq_true rfl)
  rw [lg_entry_eq]
  generalize (lg_sl ([.ref Mm, .int zc]) ++ List.replicate (4 - (lg_sl ([.ref Mm, .int zc])).length) Slot.unset).toArray = ls at hl ⊢
  have hl : lv_has ls 4 [(0, .ref Mm), (1, .int zc)] := hl
  generalize hQ : MQ below _ _ s _ _ _ = Q
  generalize hH : s.heap = H at hP ⊢
  have hS : va_S A s.heap H [] := by rw [← hH]; exact hS
  clear hH
  refine lv_iconst (v := 0) hx hb dX7_deliveredOf_0 (by decide) ?_
  refine lv_istore_n (lv' := [(2, .int 0), (0, .ref Mm), (1, .int zc)]) hx hb dX7_deliveredOf_1 rfl hl (by decide) rfl (fun ls hl => ?_)
  refine lv_iconst (v := 0) hx hb dX7_deliveredOf_2 (by decide) ?_
  refine lv_istore_n (lv' := [(3, .int 0), (2, .int 0), (0, .ref Mm), (1, .int zc)]) hx hb dX7_deliveredOf_3 rfl hl (by decide) rfl (fun ls hl => ?_)
  have loop_26 : ∀ (Nloop_26 : Nat) (i_11 : Nat) (i_12 : Int32) (hbi_11 : i_11 ≤ cc) (hmloop_26 : cc - i_11 < Nloop_26) (H : Heap) (locs : List Loc) (ls : Array Slot), va_P D vwCl [(Mm, .inr (7, [.int zth, .ref Mt, .int (nI tp), .int zma, .int zwr, .ref Mrr, .ref Mrh, .ref Mrc, .int zrh, .int zrc, .ref Mn, .ref Mf, .ref Mr, .ref Mh, .int (nI hp), .int (nI cc), .ref Ma, .ref Mas, .ref Msn, .ref Mac, .ref Mat])), (Mn, .inl (g 0, 1767, .inl fno))] H → va_D A [(Mm, .inr (7, [.int zth, .ref Mt, .int (nI tp), .int zma, .int zwr, .ref Mrr, .ref Mrh, .ref Mrc, .int zrh, .int zrc, .ref Mn, .ref Mf, .ref Mr, .ref Mh, .int (nI hp), .int (nI cc), .ref Ma, .ref Mas, .ref Msn, .ref Mac, .ref Mat])), (Mn, .inl (g 0, 1767, .inl fno))] → va_S A s.heap H locs → lv_has ls 4 [(3, .int (nI i_11)), (2, .int i_12), (0, .ref Mm), (1, .int zc)] → W p l e (headSpec wsX7_deliveredOf ({ frames := 1, cells := 0, slots := 0, locals := 20 })).room s m ([.ref Mm, .int zc] : List Value).toArray below meth c H locs 0 0 Q (F0 m 4 ls []) := by
    clear hP hD hS hl
    intro Nloop_26
    induction Nloop_26 with
    | zero => intro i_11 i_12 hbi_11 hm9; exact absurd hm9 (Nat.not_lt_zero _)
    | succ Nloop_26 loop_26_ih =>
      intro i_11 i_12 hbi_11 hmloop_26 H locs ls hP hD hS hl
      refine lv_iload_n hx hb dX7_deliveredOf_4 rfl (lv_at hl 0 rfl) ?_
      refine lv_aload_n hx hb dX7_deliveredOf_5 rfl (lv_at hl 2 rfl) ?_
      refine va_get (D := D) (ci := 7) (v := .int (nI cc)) (C := RX7) (T := TX7) (N := 21) hx hb hts iX7 hown hK hP 0 rfl rfl 15 (by decide) f127 (fun _ h9 => h9) rfl dX7_deliveredOf_6 ?_
      refine lv_icmp_ge (tgt := 46) hx hb dX7_deliveredOf_9 (by decide) (fun cb_27 => ?_) (fun cb_27 => ?_)
      · skip
        have cn_28 : cc ≤ i_11 := (nI_leI (show cc < 2 ^ 31 by omega) (show i_11 < 2 ^ 31 by omega)).mp cb_27
        refine lv_iload_n hx hb dX7_deliveredOf_46 rfl (lv_at hl 1 rfl) ?_
        have hP9 := hP; have hD9 := hD
        subst hQ
        refine W.widen (k := 0) (n := 0) (Nat.le_of_ble_eq_true rfl) (Nat.le_of_ble_eq_true rfl) ?_
        exact W.iret (v := i_12) hx hb hr (fun tS htS _ => ⟨⟨_, _, rfl, rfl, by rw [htS]; exact hP9, hD9⟩, hS.F htS⟩) hS.2.2 dX7_deliveredOf_47
      · skip
        have cn_29 : i_11 < cc := Nat.lt_of_not_le (fun q9 => cb_27 ((nI_leI (show cc < 2 ^ 31 by omega) (show i_11 < 2 ^ 31 by omega)).mpr q9))
        refine lv_iload_n hx hb dX7_deliveredOf_12 rfl (lv_at hl 1 rfl) ?_
        refine lv_iload_n hx hb dX7_deliveredOf_13 rfl (lv_at hl 3 rfl) ?_
        refine lv_iconst (v := (-1)) hx hb dX7_deliveredOf_14 (by decide) ?_
        refine lv_icmp_eq (tgt := 23) hx hb dX7_deliveredOf_15 (by decide) (fun cb_30 => ?_) (fun cb_30 => ?_)
        · skip
          have hPq_31 := hP; have hDq_31 := hD; have hSq_31 := hS; have hlq_31 := hl; clear hP hD hS hl
          subst cb_30
          have hP := hPq_31; have hD := hDq_31; have hS := hSq_31; have hl := hlq_31; clear hPq_31 hDq_31 hSq_31 hlq_31
          refine lv_aload_n hx hb dX7_deliveredOf_23 rfl (lv_at hl 2 rfl) ?_
          refine va_get (D := D) (ci := 7) (v := .ref Mn) (C := RX7) (T := TX7) (N := 21) hx hb hts iX7 hown hK hP 0 rfl rfl 10 (by decide) f22 (fun _ h9 => h9) rfl dX7_deliveredOf_24 ?_
          refine lv_iload_n hx hb dX7_deliveredOf_27 rfl (lv_at hl 0 rfl) ?_
          refine ky_Si (As := [.int (nI i_11)]) (rest := [.ref Mn, .int i_12]) ⟨hx, hb, hml, hown, hts⟩ ⟨hK, hN⟩ hZ hP hD hS hA [] [0, 1] (wc := []) (wr := [(Mm, .inr (7, [.int zth, .ref Mt, .int (nI tp), .int zma, .int zwr, .ref Mrr, .ref Mrh, .ref Mrc, .int zrh, .int zrc, .ref Mn, .ref Mf, .ref Mr, .ref Mh, .int (nI hp), .int (nI cc), .ref Ma, .ref Mas, .ref Msn, .ref Mac, .ref Mat])), (Mn, .inl (g 0, 1767, .inl fno))]) rfl rfl rfl rfl (by decide) (k_X7_circuitAt l D g H.size i_11 (show i_11 < 3 by omega)) (va_cwS 1 hts gX7_deliveredOf_X7_circuitAt rfl rfl rfl (by decide +kernel) ⟨(Nat.le_of_ble_eq_true rfl), (Nat.le_of_ble_eq_true rfl)⟩) rfl hl.1 rfl (Nat.le_of_ble_eq_true rfl) dX7_deliveredOf_28 ⟨(Nat.le_of_ble_eq_true rfl), (Nat.le_of_ble_eq_true rfl)⟩ (fun r_32 u H locs hw hP2 hD2 hS2 => ?_)
          clear hP hD hS
          obtain ⟨rfl, rfl⟩ := hw
          have hPD : PD D A [(Mm, .inr (7, [.int zth, .ref Mt, .int (nI tp), .int zma, .int zwr, .ref Mrr, .ref Mrh, .ref Mrc, .int zrh, .int zrc, .ref Mn, .ref Mf, .ref Mr, .ref Mh, .int (nI hp), .int (nI cc), .ref Ma, .ref Mas, .ref Msn, .ref Mac, .ref Mat])), (Mn, .inl (g 0, 1767, .inl fno))] H := ⟨hP2, hD2⟩
          have hS := hS2; clear hP2 hD2 hS2; have hP := hPD.1; have hD := hPD.2; clear hPD
          refine W.widen (k := 0) (n := 0) (Nat.le_of_ble_eq_true rfl) (Nat.le_of_ble_eq_true rfl) ?_
          refine lv_iconst (v := 5) hx hb dX7_deliveredOf_31 (by decide) ?_
          refine lv_iadd hx hb dX7_deliveredOf_32 ?_
          refine lv_eqi (y := (nI (201 + 9 * i_11 + 5))) (nI_add (201 + 9 * i_11) (5)) ?_
          refine va_iald hx hb hK hP 1 0 rfl rfl (vp_in_nI (show 201 + 9 * i_11 + 5 < 1767 by omega) (by decide)) dX7_deliveredOf_33 ?_
          refine lv_eqi (y := (fno (201 + 9 * i_11 + 5))) (congrArg fno (nI_clamp (show 201 + 9 * i_11 + 5 < 2 ^ 31 by omega))) ?_
          refine lv_topi (fun y_33 _ => ?_)
          refine lv_goto (tgt := 38) hx hb dX7_deliveredOf_34 (by decide) ?_
          refine lv_iadd hx hb dX7_deliveredOf_38 ?_
          refine lv_topi (fun y_34 _ => ?_)
          refine lv_istore_n (lv' := [(2, .int y_34), (3, .int (nI i_11)), (0, .ref Mm), (1, .int (-1))]) hx hb dX7_deliveredOf_39 rfl hl (by decide) rfl (fun ls hl => ?_)
          refine lv_iinc (v := (nI (i_11 + 1))) (lv' := [(3, .int (nI (i_11 + 1))), (2, .int y_34), (0, .ref Mm), (1, .int (-1))]) hx hb dX7_deliveredOf_40 hl (k := 1) rfl (nI_1 (i_11)) (by decide) rfl (fun ls hl => ?_)
          refine lv_goto (tgt := 4) hx hb dX7_deliveredOf_43 (by decide) ?_
          exact loop_26_ih (i_11 + 1) y_34 (show (i_11 + 1) ≤ cc by omega) (show cc - (i_11 + 1) < Nloop_26 by omega) _ _ _ hP hD hS hl
        · skip
          refine lv_iload_n hx hb dX7_deliveredOf_18 rfl (lv_at hl 3 rfl) ?_
          refine lv_iload_n hx hb dX7_deliveredOf_19 rfl (lv_at hl 0 rfl) ?_
          refine lv_icmp_ne (tgt := 37) hx hb dX7_deliveredOf_20 (by decide) (fun cb_35 => ?_) (fun cb_35 => ?_)
          · skip
            refine lv_iconst (v := 0) hx hb dX7_deliveredOf_37 (by decide) ?_
            refine lv_iadd hx hb dX7_deliveredOf_38 ?_
            refine lv_topi (fun y_36 _ => ?_)
            refine lv_istore_n (lv' := [(2, .int y_36), (3, .int (nI i_11)), (0, .ref Mm), (1, .int zc)]) hx hb dX7_deliveredOf_39 rfl hl (by decide) rfl (fun ls hl => ?_)
            refine lv_iinc (v := (nI (i_11 + 1))) (lv' := [(3, .int (nI (i_11 + 1))), (2, .int y_36), (0, .ref Mm), (1, .int zc)]) hx hb dX7_deliveredOf_40 hl (k := 1) rfl (nI_1 (i_11)) (by decide) rfl (fun ls hl => ?_)
            refine lv_goto (tgt := 4) hx hb dX7_deliveredOf_43 (by decide) ?_
            exact loop_26_ih (i_11 + 1) y_36 (show (i_11 + 1) ≤ cc by omega) (show cc - (i_11 + 1) < Nloop_26 by omega) _ _ _ hP hD hS hl
          · skip
            refine lv_aload_n hx hb dX7_deliveredOf_23 rfl (lv_at hl 2 rfl) ?_
            refine va_get (D := D) (ci := 7) (v := .ref Mn) (C := RX7) (T := TX7) (N := 21) hx hb hts iX7 hown hK hP 0 rfl rfl 10 (by decide) f22 (fun _ h9 => h9) rfl dX7_deliveredOf_24 ?_
            refine lv_iload_n hx hb dX7_deliveredOf_27 rfl (lv_at hl 0 rfl) ?_
            refine ky_Si (As := [.int (nI i_11)]) (rest := [.ref Mn, .int i_12]) ⟨hx, hb, hml, hown, hts⟩ ⟨hK, hN⟩ hZ hP hD hS hA [] [0, 1] (wc := []) (wr := [(Mm, .inr (7, [.int zth, .ref Mt, .int (nI tp), .int zma, .int zwr, .ref Mrr, .ref Mrh, .ref Mrc, .int zrh, .int zrc, .ref Mn, .ref Mf, .ref Mr, .ref Mh, .int (nI hp), .int (nI cc), .ref Ma, .ref Mas, .ref Msn, .ref Mac, .ref Mat])), (Mn, .inl (g 0, 1767, .inl fno))]) rfl rfl rfl rfl (by decide) (k_X7_circuitAt l D g H.size i_11 (show i_11 < 3 by omega)) (va_cwS 1 hts gX7_deliveredOf_X7_circuitAt rfl rfl rfl (by decide +kernel) ⟨(Nat.le_of_ble_eq_true rfl), (Nat.le_of_ble_eq_true rfl)⟩) rfl hl.1 rfl (Nat.le_of_ble_eq_true rfl) dX7_deliveredOf_28 ⟨(Nat.le_of_ble_eq_true rfl), (Nat.le_of_ble_eq_true rfl)⟩ (fun r_37 u H locs hw hP2 hD2 hS2 => ?_)
            clear hP hD hS
            obtain ⟨rfl, rfl⟩ := hw
            have hPD : PD D A [(Mm, .inr (7, [.int zth, .ref Mt, .int (nI tp), .int zma, .int zwr, .ref Mrr, .ref Mrh, .ref Mrc, .int zrh, .int zrc, .ref Mn, .ref Mf, .ref Mr, .ref Mh, .int (nI hp), .int (nI cc), .ref Ma, .ref Mas, .ref Msn, .ref Mac, .ref Mat])), (Mn, .inl (g 0, 1767, .inl fno))] H := ⟨hP2, hD2⟩
            have hS := hS2; clear hP2 hD2 hS2; have hP := hPD.1; have hD := hPD.2; clear hPD
            refine W.widen (k := 0) (n := 0) (Nat.le_of_ble_eq_true rfl) (Nat.le_of_ble_eq_true rfl) ?_
            refine lv_iconst (v := 5) hx hb dX7_deliveredOf_31 (by decide) ?_
            refine lv_iadd hx hb dX7_deliveredOf_32 ?_
            refine lv_eqi (y := (nI (201 + 9 * i_11 + 5))) (nI_add (201 + 9 * i_11) (5)) ?_
            refine va_iald hx hb hK hP 1 0 rfl rfl (vp_in_nI (show 201 + 9 * i_11 + 5 < 1767 by omega) (by decide)) dX7_deliveredOf_33 ?_
            refine lv_eqi (y := (fno (201 + 9 * i_11 + 5))) (congrArg fno (nI_clamp (show 201 + 9 * i_11 + 5 < 2 ^ 31 by omega))) ?_
            refine lv_topi (fun y_38 _ => ?_)
            refine lv_goto (tgt := 38) hx hb dX7_deliveredOf_34 (by decide) ?_
            refine lv_iadd hx hb dX7_deliveredOf_38 ?_
            refine lv_topi (fun y_39 _ => ?_)
            refine lv_istore_n (lv' := [(2, .int y_39), (3, .int (nI i_11)), (0, .ref Mm), (1, .int zc)]) hx hb dX7_deliveredOf_39 rfl hl (by decide) rfl (fun ls hl => ?_)
            refine lv_iinc (v := (nI (i_11 + 1))) (lv' := [(3, .int (nI (i_11 + 1))), (2, .int y_39), (0, .ref Mm), (1, .int zc)]) hx hb dX7_deliveredOf_40 hl (k := 1) rfl (nI_1 (i_11)) (by decide) rfl (fun ls hl => ?_)
            refine lv_goto (tgt := 4) hx hb dX7_deliveredOf_43 (by decide) ?_
            exact loop_26_ih (i_11 + 1) y_39 (show (i_11 + 1) ≤ cc by omega) (show cc - (i_11 + 1) < Nloop_26 by omega) _ _ _ hP hD hS hl
  exact loop_26 _ 0 0 (show 0 ≤ cc by omega) (Nat.lt_succ_self _) _ _ _ hP hD hS hl

set_option maxHeartbeats 4000000 in
set_option maxRecDepth 100000 in
theorem k_X7_deliveredIn (l : Launch) (D : va_G) (g : Nat → ClassId) (sz : Nat) {gs : Nat → Int32} (Mm : Nat) (zc : Int32) (nx : Nat) (zth : Int32) (Mt : Nat) (tp : Nat) (zma : Int32) (zwr : Int32) (Mrr : Nat) (Mrh : Nat) (Mrc : Nat) (zrh : Int32) (zrc : Int32) (Mn : Nat) (Mf : Nat) (Mr : Nat) (Mh : Nat) (hp : Nat) (cc : Nat) (Ma : Nat) (Mas : Nat) (Msn : Nat) (Mac : Nat) (Mat : Nat) (fno : Nat → Int32) (fmh : Nat → Int32) (fmr : Nat → Int32) (fma : Nat → Int32) (fas : Nat → Int32) (tb : Nat) (ub : Nat) (h0 : tb < 2 ^ 27) (h1 : ub < 2 ^ 27) (h2 : mOK gs tb ub fno) (h3 : 1 ≤ hp) (h4 : hp ≤ 3) (h5 : 1 ≤ cc) (h6 : cc ≤ 3) (h7 : n3 fmh) (h8 : mOK gs tb ub fas) (h9 : nx ≤ 200) : Met l yX7_deliveredIn wsX7_deliveredIn ({ frames := 7, cells := 0, slots := 0, locals := 155 }) (va_Pc [.ref Mm, .int zc, .int (nI nx)] (pre D g sz [(Mm, .inr (7, [.int zth, .ref Mt, .int (nI tp), .int zma, .int zwr, .ref Mrr, .ref Mrh, .ref Mrc, .int zrh, .int zrc, .ref Mn, .ref Mf, .ref Mr, .ref Mh, .int (nI hp), .int (nI cc), .ref Ma, .ref Mas, .ref Msn, .ref Mac, .ref Mat])), (Mn, .inl (g 0, 1767, .inl fno)), (Mh, .inl (g 0, 9, .inl fmh)), (Mr, .inl (g 0, 3, .inl fmr)), (Ma, .inl (g 0, 3, .inl fma)), (Mas, .inl (g 0, 1767, .inl fas))])) (va_Qi (fun (r : Int32) (u : va_W) => ∃ (fnox : Nat → Int32) (fmax : Nat → Int32), u = [(Mm, .inr (7, [.int zth, .ref Mt, .int (nI tp), .int zma, .int zwr, .ref Mrr, .ref Mrh, .ref Mrc, .int zrh, .int zrc, .ref Mn, .ref Mf, .ref Mr, .ref Mh, .int (nI hp), .int (nI cc), .ref Ma, .ref Mas, .ref Msn, .ref Mac, .ref Mat])), (Mn, .inl (g 0, 1767, .inl fnox)), (Mh, .inl (g 0, 9, .inl fmh)), (Mr, .inl (g 0, 3, .inl fmr)), (Ma, .inl (g 0, 3, .inl fmax)), (Mas, .inl (g 0, 1767, .inl fas))] ∧ (mOK gs tb ub fnox)) (wd D (va_A [(Mm, .inr (7, [.int zth, .ref Mt, .int (nI tp), .int zma, .int zwr, .ref Mrr, .ref Mrh, .ref Mrc, .int zrh, .int zrc, .ref Mn, .ref Mf, .ref Mr, .ref Mh, .int (nI hp), .int (nI cc), .ref Ma, .ref Mas, .ref Msn, .ref Mac, .ref Mat])), (Mn, .inl (g 0, 1767, .inl fno)), (Mh, .inl (g 0, 9, .inl fmh)), (Mr, .inl (g 0, 3, .inl fmr)), (Ma, .inl (g 0, 3, .inl fma)), (Mas, .inl (g 0, 1767, .inl fas))] sz)) (va_A [(Mm, .inr (7, [.int zth, .ref Mt, .int (nI tp), .int zma, .int zwr, .ref Mrr, .ref Mrh, .ref Mrc, .int zrh, .int zrc, .ref Mn, .ref Mf, .ref Mr, .ref Mh, .int (nI hp), .int (nI cc), .ref Ma, .ref Mas, .ref Msn, .ref Mac, .ref Mat])), (Mn, .inl (g 0, 1767, .inl fno)), (Mh, .inl (g 0, 9, .inl fmh)), (Mr, .inl (g 0, 3, .inl fmr)), (Ma, .inl (g 0, 3, .inl fma)), (Mas, .inl (g 0, 1767, .inl fas))] sz)) 0 0 (va_A [(Mm, .inr (7, [.int zth, .ref Mt, .int (nI tp), .int zma, .int zwr, .ref Mrr, .ref Mrh, .ref Mrc, .int zrh, .int zrc, .ref Mn, .ref Mf, .ref Mr, .ref Mh, .int (nI hp), .int (nI cc), .ref Ma, .ref Mas, .ref Msn, .ref Mac, .ref Mat])), (Mn, .inl (g 0, 1767, .inl fno)), (Mh, .inl (g 0, 9, .inl fmh)), (Mr, .inl (g 0, 3, .inl fmr)), (Ma, .inl (g 0, 3, .inl fma)), (Mas, .inl (g 0, 1767, .inl fas))] sz) := by
  refine Met.ofW (cc := cX7_deliveredIn) (maxL := 5) (ret := (some .int)) (by decide) rfl ?_
  intro p e s m args below meth c s₁ B hml hv
  obtain ⟨rfl, hsz, hP, ⟨hK, hN⟩, hD0, hZ⟩ := hv
  have hx := B.exec
  have hb := B.bytes
  have hr := B.returns
  have hts := atoms_spec (ws := wsX7_deliveredIn) B.pre
  have hown : s.vm.findClass RX7 = some m.cls := findClass_of_methodNamed B.named
  have hlocks := B.notSynchronized
  clear B
  subst hsz
  have hD := hD0.self (sz := s.heap.size)
  clear hD0
  generalize hAe : va_A [(Mm, .inr (7, [.int zth, .ref Mt, .int (nI tp), .int zma, .int zwr, .ref Mrr, .ref Mrh, .ref Mrc, .int zrh, .int zrc, .ref Mn, .ref Mf, .ref Mr, .ref Mh, .int (nI hp), .int (nI cc), .ref Ma, .ref Mas, .ref Msn, .ref Mac, .ref Mat])), (Mn, .inl (g 0, 1767, .inl fno)), (Mh, .inl (g 0, 9, .inl fmh)), (Mr, .inl (g 0, 3, .inl fmr)), (Ma, .inl (g 0, 3, .inl fma)), (Mas, .inl (g 0, 1767, .inl fas))] s.heap.size = A at hD hZ ⊢
  have hA : ∀ q : Nat, s.heap.size ≤ q → A q := fun q h => by rw [← hAe]; exact Or.inr h
  have hS : va_S A s.heap s.heap [] := va_S.rf
  have hl := lv_entry ([.ref Mm, .int zc, .int (nI nx)]) (n := 5) (Nat.le_of_ble_eq_true rfl)
  rw [lg_entry_eq]
  generalize (lg_sl ([.ref Mm, .int zc, .int (nI nx)]) ++ List.replicate (5 - (lg_sl ([.ref Mm, .int zc, .int (nI nx)])).length) Slot.unset).toArray = ls at hl ⊢
  have hl : lv_has ls 5 [(0, .ref Mm), (1, .int zc), (2, .int (nI nx))] := hl
  generalize hQ : MQ below _ _ s _ _ _ = Q
  generalize hH : s.heap = H at hP ⊢
  have hS : va_S A s.heap H [] := by rw [← hH]; exact hS
  clear hH
  refine lv_aload_n hx hb dX7_deliveredIn_0 rfl (lv_at hl 0 rfl) ?_
  refine lv_iload_n hx hb dX7_deliveredIn_1 rfl (lv_at hl 1 rfl) ?_
  refine ky_Vi (As := [.int zc]) (rest := []) ⟨hx, hb, hml, hown, hts⟩ ⟨hK, hN⟩ hZ hP hD hS hA [0, 1] [2, 3, 4, 5] (wc := [(Mm, .inr (7, [.int zth, .ref Mt, .int (nI tp), .int zma, .int zwr, .ref Mrr, .ref Mrh, .ref Mrc, .int zrh, .int zrc, .ref Mn, .ref Mf, .ref Mr, .ref Mh, .int (nI hp), .int (nI cc), .ref Ma, .ref Mas, .ref Msn, .ref Mac, .ref Mat])), (Mn, .inl (g 0, 1767, .inl fno))]) (wr := [(Mh, .inl (g 0, 9, .inl fmh)), (Mr, .inl (g 0, 3, .inl fmr)), (Ma, .inl (g 0, 3, .inl fma)), (Mas, .inl (g 0, 1767, .inl fas))]) rfl rfl rfl rfl (by decide) (k_X7_deliveredOf l D g H.size Mm zc zth Mt tp zma zwr Mrr Mrh Mrc zrh zrc Mn Mf Mr Mh hp cc Ma Mas Msn Mac Mat fno (show 1 ≤ cc by omega) (show cc ≤ 3 by omega)) (cwV 1 hts gX7_deliveredIn_X7_deliveredOf rfl rfl rfl (by decide +kernel) ⟨(Nat.le_of_ble_eq_true rfl), (Nat.le_of_ble_eq_true rfl)⟩) 0 7 rfl rfl rfl rfl hl.1 rfl (Nat.le_of_ble_eq_true rfl) dX7_deliveredIn_2 ⟨(Nat.le_of_ble_eq_true rfl), (Nat.le_of_ble_eq_true rfl)⟩ (fun r_1 u H locs hw hP2 hD2 hS2 => ?_)
  clear hP hD hS
  obtain rfl := hw
  have hPD : PD D A [(Mh, .inl (g 0, 9, .inl fmh)), (Mr, .inl (g 0, 3, .inl fmr)), (Ma, .inl (g 0, 3, .inl fma)), (Mas, .inl (g 0, 1767, .inl fas)), (Mm, .inr (7, [.int zth, .ref Mt, .int (nI tp), .int zma, .int zwr, .ref Mrr, .ref Mrh, .ref Mrc, .int zrh, .int zrc, .ref Mn, .ref Mf, .ref Mr, .ref Mh, .int (nI hp), .int (nI cc), .ref Ma, .ref Mas, .ref Msn, .ref Mac, .ref Mat])), (Mn, .inl (g 0, 1767, .inl fno))] H := ⟨hP2, hD2⟩
  have hS := hS2; clear hP2 hD2 hS2; have hP := hPD.1; have hD := hPD.2; clear hPD
  refine W.widen (k := 0) (n := 0) (Nat.le_of_ble_eq_true rfl) (Nat.le_of_ble_eq_true rfl) ?_
  refine lv_istore_n (lv' := [(3, .int r_1), (0, .ref Mm), (1, .int zc), (2, .int (nI nx))]) hx hb dX7_deliveredIn_5 rfl hl (by decide) rfl (fun ls hl => ?_)
  refine lv_aload_n hx hb dX7_deliveredIn_6 rfl (lv_at hl 1 rfl) ?_
  refine lv_iload_n hx hb dX7_deliveredIn_7 rfl (lv_at hl 3 rfl) ?_
  refine ky_Vv (As := [.int (nI nx)]) (rest := []) ⟨hx, hb, hml, hown, hts⟩ ⟨hK, hN⟩ hZ hP hD hS hA [4, 5, 0, 1, 2] [3] (wc := [(Mm, .inr (7, [.int zth, .ref Mt, .int (nI tp), .int zma, .int zwr, .ref Mrr, .ref Mrh, .ref Mrc, .int zrh, .int zrc, .ref Mn, .ref Mf, .ref Mr, .ref Mh, .int (nI hp), .int (nI cc), .ref Ma, .ref Mas, .ref Msn, .ref Mac, .ref Mat])), (Mn, .inl (g 0, 1767, .inl fno)), (Mh, .inl (g 0, 9, .inl fmh)), (Mr, .inl (g 0, 3, .inl fmr)), (Ma, .inl (g 0, 3, .inl fma))]) (wr := [(Mas, .inl (g 0, 1767, .inl fas))]) rfl rfl rfl rfl (by decide) (k_X7_goesOn l D g H.size Mm nx zth Mt tp zma zwr Mrr Mrh Mrc zrh zrc Mn Mf Mr Mh hp cc Ma Mas Msn Mac Mat fno fmh fmr fma tb ub (show tb < 2 ^ 27 by omega) (show ub < 2 ^ 27 by omega) (h2) (show 1 ≤ hp by omega) (show hp ≤ 3 by omega) (show 1 ≤ cc by omega) (show cc ≤ 3 by omega) (h7) (show nx ≤ 200 by omega)) (cwV 1 hts gX7_deliveredIn_X7_goesOn rfl rfl rfl (by decide +kernel) ⟨(Nat.le_of_ble_eq_true rfl), (Nat.le_of_ble_eq_true rfl)⟩) 4 7 rfl rfl rfl rfl hl.1 rfl (Nat.le_of_ble_eq_true rfl) dX7_deliveredIn_8 ⟨(Nat.le_of_ble_eq_true rfl), (Nat.le_of_ble_eq_true rfl)⟩ (fun u H locs hw hP2 hD2 hS2 => ?_)
  clear hP hD hS
  obtain ⟨fnox_3, fmax_4, rfl, hf_5⟩ := hw
  have hPD : PD D A [(Mas, .inl (g 0, 1767, .inl fas)), (Mm, .inr (7, [.int zth, .ref Mt, .int (nI tp), .int zma, .int zwr, .ref Mrr, .ref Mrh, .ref Mrc, .int zrh, .int zrc, .ref Mn, .ref Mf, .ref Mr, .ref Mh, .int (nI hp), .int (nI cc), .ref Ma, .ref Mas, .ref Msn, .ref Mac, .ref Mat])), (Mn, .inl (g 0, 1767, .inl fnox_3)), (Mh, .inl (g 0, 9, .inl fmh)), (Mr, .inl (g 0, 3, .inl fmr)), (Ma, .inl (g 0, 3, .inl fmax_4))] H := ⟨hP2, hD2⟩
  have hS := hS2; clear hP2 hD2 hS2; have hP := hPD.1; have hD := hPD.2; clear hPD
  refine W.widen (k := 0) (n := 0) (Nat.le_of_ble_eq_true rfl) (Nat.le_of_ble_eq_true rfl) ?_
  refine lv_aload_n hx hb dX7_deliveredIn_11 rfl (lv_at hl 1 rfl) ?_
  refine lv_iload_n hx hb dX7_deliveredIn_12 rfl (lv_at hl 2 rfl) ?_
  refine ky_Vi (As := [.int zc]) (rest := []) ⟨hx, hb, hml, hown, hts⟩ ⟨hK, hN⟩ hZ hP hD hS hA [1, 2] [0, 3, 4, 5] (wc := [(Mm, .inr (7, [.int zth, .ref Mt, .int (nI tp), .int zma, .int zwr, .ref Mrr, .ref Mrh, .ref Mrc, .int zrh, .int zrc, .ref Mn, .ref Mf, .ref Mr, .ref Mh, .int (nI hp), .int (nI cc), .ref Ma, .ref Mas, .ref Msn, .ref Mac, .ref Mat])), (Mn, .inl (g 0, 1767, .inl fnox_3))]) (wr := [(Mas, .inl (g 0, 1767, .inl fas)), (Mh, .inl (g 0, 9, .inl fmh)), (Mr, .inl (g 0, 3, .inl fmr)), (Ma, .inl (g 0, 3, .inl fmax_4))]) rfl rfl rfl rfl (by decide) (k_X7_deliveredOf l D g H.size Mm zc zth Mt tp zma zwr Mrr Mrh Mrc zrh zrc Mn Mf Mr Mh hp cc Ma Mas Msn Mac Mat fnox_3 (show 1 ≤ cc by omega) (show cc ≤ 3 by omega)) (cwV 1 hts gX7_deliveredIn_X7_deliveredOf rfl rfl rfl (by decide +kernel) ⟨(Nat.le_of_ble_eq_true rfl), (Nat.le_of_ble_eq_true rfl)⟩) 1 7 rfl rfl rfl rfl hl.1 rfl (Nat.le_of_ble_eq_true rfl) dX7_deliveredIn_13 ⟨(Nat.le_of_ble_eq_true rfl), (Nat.le_of_ble_eq_true rfl)⟩ (fun r_6 u H locs hw hP2 hD2 hS2 => ?_)
  clear hP hD hS
  obtain rfl := hw
  have hPD : PD D A [(Mas, .inl (g 0, 1767, .inl fas)), (Mh, .inl (g 0, 9, .inl fmh)), (Mr, .inl (g 0, 3, .inl fmr)), (Ma, .inl (g 0, 3, .inl fmax_4)), (Mm, .inr (7, [.int zth, .ref Mt, .int (nI tp), .int zma, .int zwr, .ref Mrr, .ref Mrh, .ref Mrc, .int zrh, .int zrc, .ref Mn, .ref Mf, .ref Mr, .ref Mh, .int (nI hp), .int (nI cc), .ref Ma, .ref Mas, .ref Msn, .ref Mac, .ref Mat])), (Mn, .inl (g 0, 1767, .inl fnox_3))] H := ⟨hP2, hD2⟩
  have hS := hS2; clear hP2 hD2 hS2; have hP := hPD.1; have hD := hPD.2; clear hPD
  refine W.widen (k := 0) (n := 0) (Nat.le_of_ble_eq_true rfl) (Nat.le_of_ble_eq_true rfl) ?_
  refine lv_iload_n hx hb dX7_deliveredIn_16 rfl (lv_at hl 0 rfl) ?_
  refine lv_isub hx hb dX7_deliveredIn_17 ?_
  refine lv_topi (fun y_7 _ => ?_)
  refine lv_istore (lv' := [(4, .int y_7), (3, .int r_1), (0, .ref Mm), (1, .int zc), (2, .int (nI nx))]) hx hb dX7_deliveredIn_18 hl (by decide) rfl (fun ls hl => ?_)
  refine lv_aload_n hx hb dX7_deliveredIn_20 rfl (lv_at hl 2 rfl) ?_
  refine ky_Vv (As := []) (rest := []) ⟨hx, hb, hml, hown, hts⟩ ⟨hK, hN⟩ hZ hP hD hS hA [4, 5, 0] [1, 2, 3] (wc := [(Mm, .inr (7, [.int zth, .ref Mt, .int (nI tp), .int zma, .int zwr, .ref Mrr, .ref Mrh, .ref Mrc, .int zrh, .int zrc, .ref Mn, .ref Mf, .ref Mr, .ref Mh, .int (nI hp), .int (nI cc), .ref Ma, .ref Mas, .ref Msn, .ref Mac, .ref Mat])), (Mn, .inl (g 0, 1767, .inl fnox_3)), (Mas, .inl (g 0, 1767, .inl fas))]) (wr := [(Mh, .inl (g 0, 9, .inl fmh)), (Mr, .inl (g 0, 3, .inl fmr)), (Ma, .inl (g 0, 3, .inl fmax_4))]) rfl rfl rfl rfl (by decide) (k_X7_bringBack l D g H.size Mm zth Mt tp zma zwr Mrr Mrh Mrc zrh zrc Mn Mf Mr Mh hp cc Ma Mas Msn Mac Mat fnox_3 fas tb ub (h8)) (cwV 0 hts gX7_deliveredIn_X7_bringBack rfl rfl rfl (by decide +kernel) ⟨(Nat.le_of_ble_eq_true rfl), (Nat.le_of_ble_eq_true rfl)⟩) 4 7 rfl rfl rfl rfl hl.1 rfl (Nat.le_of_ble_eq_true rfl) dX7_deliveredIn_21 ⟨(Nat.le_of_ble_eq_true rfl), (Nat.le_of_ble_eq_true rfl)⟩ (fun u H locs hw hP2 hD2 hS2 => ?_)
  clear hP hD hS
  obtain ⟨fnox_9, rfl, hf_10⟩ := hw
  have hPD : PD D A [(Mh, .inl (g 0, 9, .inl fmh)), (Mr, .inl (g 0, 3, .inl fmr)), (Ma, .inl (g 0, 3, .inl fmax_4)), (Mm, .inr (7, [.int zth, .ref Mt, .int (nI tp), .int zma, .int zwr, .ref Mrr, .ref Mrh, .ref Mrc, .int zrh, .int zrc, .ref Mn, .ref Mf, .ref Mr, .ref Mh, .int (nI hp), .int (nI cc), .ref Ma, .ref Mas, .ref Msn, .ref Mac, .ref Mat])), (Mn, .inl (g 0, 1767, .inl fnox_9)), (Mas, .inl (g 0, 1767, .inl fas))] H := ⟨hP2, hD2⟩
  have hS := hS2; clear hP2 hD2 hS2; have hP := hPD.1; have hD := hPD.2; clear hPD
  refine W.widen (k := 0) (n := 0) (Nat.le_of_ble_eq_true rfl) (Nat.le_of_ble_eq_true rfl) ?_
  refine lv_iload hx hb dX7_deliveredIn_24 (lv_at hl 0 rfl) ?_
  have hPD9 : PD D A [(Mm, .inr (7, [.int zth, .ref Mt, .int (nI tp), .int zma, .int zwr, .ref Mrr, .ref Mrh, .ref Mrc, .int zrh, .int zrc, .ref Mn, .ref Mf, .ref Mr, .ref Mh, .int (nI hp), .int (nI cc), .ref Ma, .ref Mas, .ref Msn, .ref Mac, .ref Mat])), (Mn, .inl (g 0, 1767, .inl fnox_9)), (Mh, .inl (g 0, 9, .inl fmh)), (Mr, .inl (g 0, 3, .inl fmr)), (Ma, .inl (g 0, 3, .inl fmax_4)), (Mas, .inl (g 0, 1767, .inl fas))] H := ⟨hP.sub [3, 4, 0, 1, 2, 5] rfl, hD.sub [3, 4, 0, 1, 2, 5] (by decide) rfl⟩
  have hP9 := hPD9.1; have hD9 := hPD9.2
  subst hQ
  refine W.widen (k := 0) (n := 0) (Nat.le_of_ble_eq_true rfl) (Nat.le_of_ble_eq_true rfl) ?_
  exact W.iret (v := y_7) hx hb hr (fun tS htS _ => ⟨⟨_, _, rfl, ⟨fnox_9, fmax_4, rfl, (hf_10)⟩, by rw [htS]; exact hP9, hD9⟩, hS.F htS⟩) hS.2.2 dX7_deliveredIn_26

set_option maxHeartbeats 4000000 in
set_option maxRecDepth 100000 in
theorem k_X7_delivered (l : Launch) (D : va_G) (g : Nat → ClassId) (sz : Nat) {gs : Nat → Int32} (Mm : Nat) (zc : Int32) (zk : Int32) (zth : Int32) (Mt : Nat) (tp : Nat) (zma : Int32) (zwr : Int32) (Mrr : Nat) (Mrh : Nat) (Mrc : Nat) (zrh : Int32) (zrc : Int32) (Mn : Nat) (Mf : Nat) (Mr : Nat) (Mh : Nat) (hp : Nat) (cc : Nat) (Ma : Nat) (Mas : Nat) (Msn : Nat) (Mac : Nat) (Mat : Nat) (fno : Nat → Int32) (fmh : Nat → Int32) (fmr : Nat → Int32) (fma : Nat → Int32) (fas : Nat → Int32) (tb : Nat) (ub : Nat) (h0 : tb < 2 ^ 27) (h1 : ub < 2 ^ 27) (h2 : mOK gs tb ub fno) (h3 : 1 ≤ hp) (h4 : hp ≤ 3) (h5 : 1 ≤ cc) (h6 : cc ≤ 3) (h7 : n3 fmh) : Met l yX7_delivered wsX7_delivered ({ frames := 8, cells := 0, slots := 0, locals := 179 }) (va_Pc [.ref Mm, .int zc, .int zk] (pre D g sz [(Mm, .inr (7, [.int zth, .ref Mt, .int (nI tp), .int zma, .int zwr, .ref Mrr, .ref Mrh, .ref Mrc, .int zrh, .int zrc, .ref Mn, .ref Mf, .ref Mr, .ref Mh, .int (nI hp), .int (nI cc), .ref Ma, .ref Mas, .ref Msn, .ref Mac, .ref Mat])), (Mn, .inl (g 0, 1767, .inl fno)), (Mh, .inl (g 0, 9, .inl fmh)), (Mr, .inl (g 0, 3, .inl fmr)), (Ma, .inl (g 0, 3, .inl fma)), (Mas, .inl (g 0, 1767, .inl fas))])) (va_Qi (fun (r : Int32) (u : va_W) => ∃ (zthx : Int32) (fnox : Nat → Int32) (fmax : Nat → Int32) (fasx : Nat → Int32), u = [(Mm, .inr (7, [.int zthx, .ref Mt, .int (nI tp), .int zma, .int zwr, .ref Mrr, .ref Mrh, .ref Mrc, .int zrh, .int zrc, .ref Mn, .ref Mf, .ref Mr, .ref Mh, .int (nI hp), .int (nI cc), .ref Ma, .ref Mas, .ref Msn, .ref Mac, .ref Mat])), (Mn, .inl (g 0, 1767, .inl fnox)), (Mh, .inl (g 0, 9, .inl fmh)), (Mr, .inl (g 0, 3, .inl fmr)), (Ma, .inl (g 0, 3, .inl fmax)), (Mas, .inl (g 0, 1767, .inl fasx))] ∧ (mOK gs tb ub fnox)) (wd D (va_A [(Mm, .inr (7, [.int zth, .ref Mt, .int (nI tp), .int zma, .int zwr, .ref Mrr, .ref Mrh, .ref Mrc, .int zrh, .int zrc, .ref Mn, .ref Mf, .ref Mr, .ref Mh, .int (nI hp), .int (nI cc), .ref Ma, .ref Mas, .ref Msn, .ref Mac, .ref Mat])), (Mn, .inl (g 0, 1767, .inl fno)), (Mh, .inl (g 0, 9, .inl fmh)), (Mr, .inl (g 0, 3, .inl fmr)), (Ma, .inl (g 0, 3, .inl fma)), (Mas, .inl (g 0, 1767, .inl fas))] sz)) (va_A [(Mm, .inr (7, [.int zth, .ref Mt, .int (nI tp), .int zma, .int zwr, .ref Mrr, .ref Mrh, .ref Mrc, .int zrh, .int zrc, .ref Mn, .ref Mf, .ref Mr, .ref Mh, .int (nI hp), .int (nI cc), .ref Ma, .ref Mas, .ref Msn, .ref Mac, .ref Mat])), (Mn, .inl (g 0, 1767, .inl fno)), (Mh, .inl (g 0, 9, .inl fmh)), (Mr, .inl (g 0, 3, .inl fmr)), (Ma, .inl (g 0, 3, .inl fma)), (Mas, .inl (g 0, 1767, .inl fas))] sz)) 0 0 (va_A [(Mm, .inr (7, [.int zth, .ref Mt, .int (nI tp), .int zma, .int zwr, .ref Mrr, .ref Mrh, .ref Mrc, .int zrh, .int zrc, .ref Mn, .ref Mf, .ref Mr, .ref Mh, .int (nI hp), .int (nI cc), .ref Ma, .ref Mas, .ref Msn, .ref Mac, .ref Mat])), (Mn, .inl (g 0, 1767, .inl fno)), (Mh, .inl (g 0, 9, .inl fmh)), (Mr, .inl (g 0, 3, .inl fmr)), (Ma, .inl (g 0, 3, .inl fma)), (Mas, .inl (g 0, 1767, .inl fas))] sz) := by
  refine Met.ofW (cc := cX7_delivered) (maxL := 3) (ret := (some .int)) (by decide) rfl ?_
  intro p e s m args below meth c s₁ B hml hv
  obtain ⟨rfl, hsz, hP, ⟨hK, hN⟩, hD0, hZ⟩ := hv
  have hx := B.exec
  have hb := B.bytes
  have hr := B.returns
  have hts := atoms_spec (ws := wsX7_delivered) B.pre
  have hown : s.vm.findClass RX7 = some m.cls := findClass_of_methodNamed B.named
  have hlocks := B.notSynchronized
  clear B
  subst hsz
  have hD := hD0.self (sz := s.heap.size)
  clear hD0
  generalize hAe : va_A [(Mm, .inr (7, [.int zth, .ref Mt, .int (nI tp), .int zma, .int zwr, .ref Mrr, .ref Mrh, .ref Mrc, .int zrh, .int zrc, .ref Mn, .ref Mf, .ref Mr, .ref Mh, .int (nI hp), .int (nI cc), .ref Ma, .ref Mas, .ref Msn, .ref Mac, .ref Mat])), (Mn, .inl (g 0, 1767, .inl fno)), (Mh, .inl (g 0, 9, .inl fmh)), (Mr, .inl (g 0, 3, .inl fmr)), (Ma, .inl (g 0, 3, .inl fma)), (Mas, .inl (g 0, 1767, .inl fas))] s.heap.size = A at hD hZ ⊢
  have hA : ∀ q : Nat, s.heap.size ≤ q → A q := fun q h => by rw [← hAe]; exact Or.inr h
  have hS : va_S A s.heap s.heap [] := va_S.rf
  have f49 := hts (.fieldLink RX7 49 "HopCreditsModel" "thrown" "I") (List.mem_of_getElem? (i := 1) rfl)
  have iX7 : ∀ w ∈ u_ws RX7 TX7 21, w ∈ wsX7_delivered := fun w h => List.mem_cons_of_mem _ (List.mem_append_right _ (h))
  have hl := lv_entry ([.ref Mm, .int zc, .int zk]) (n := 3) (Nat.le_of_ble_eq_true rfl)
  rw [lg_entry_eq]
  generalize (lg_sl ([.ref Mm, .int zc, .int zk]) ++ List.replicate (3 - (lg_sl ([.ref Mm, .int zc, .int zk])).length) Slot.unset).toArray = ls at hl ⊢
  have hl : lv_has ls 3 [(0, .ref Mm), (1, .int zc), (2, .int zk)] := hl
  generalize hQ : MQ below _ _ s _ _ _ = Q
  generalize hH : s.heap = H at hP ⊢
  have hS : va_S A s.heap H [] := by rw [← hH]; exact hS
  clear hH
  refine lv_aload_n hx hb dX7_delivered_0 rfl (lv_at hl 0 rfl) ?_
  refine lv_iconst (v := 0) hx hb dX7_delivered_1 (by decide) ?_
  refine va_put (D := D) (ci := 7) (v := .int 0) (ty := .int) (C := RX7) (T := TX7) (N := 21) hx hb hts iX7 tyX7 tyX7_ok nmX7 hown hK hP hD hS 0 rfl rfl 0 (by decide) f49 (fun _ h9 => h9) rfl (by decide +kernel) (rfl) (rfl) (Nat.le_of_ble_eq_true rfl) dX7_delivered_2 (fun H locs hP2 hD2 hS2 => ?_)
  clear hP hD hS
  have hPD : PD D A [(Mm, .inr (7, [.int 0, .ref Mt, .int (nI tp), .int zma, .int zwr, .ref Mrr, .ref Mrh, .ref Mrc, .int zrh, .int zrc, .ref Mn, .ref Mf, .ref Mr, .ref Mh, .int (nI hp), .int (nI cc), .ref Ma, .ref Mas, .ref Msn, .ref Mac, .ref Mat])), (Mn, .inl (g 0, 1767, .inl fno)), (Mh, .inl (g 0, 9, .inl fmh)), (Mr, .inl (g 0, 3, .inl fmr)), (Ma, .inl (g 0, 3, .inl fma)), (Mas, .inl (g 0, 1767, .inl fas))] H := ⟨hP2, hD2⟩
  have hS := hS2; clear hP2 hD2 hS2; have hP := hPD.1; have hD := hPD.2; clear hPD
  refine lv_aload_n hx hb dX7_delivered_5 rfl (lv_at hl 0 rfl) ?_
  refine ky_Vi (As := []) (rest := []) ⟨hx, hb, hml, hown, hts⟩ ⟨hK, hN⟩ hZ hP hD hS hA [0] [1, 2, 3, 4, 5] (wc := [(Mm, .inr (7, [.int 0, .ref Mt, .int (nI tp), .int zma, .int zwr, .ref Mrr, .ref Mrh, .ref Mrc, .int zrh, .int zrc, .ref Mn, .ref Mf, .ref Mr, .ref Mh, .int (nI hp), .int (nI cc), .ref Ma, .ref Mas, .ref Msn, .ref Mac, .ref Mat]))]) (wr := [(Mn, .inl (g 0, 1767, .inl fno)), (Mh, .inl (g 0, 9, .inl fmh)), (Mr, .inl (g 0, 3, .inl fmr)), (Ma, .inl (g 0, 3, .inl fma)), (Mas, .inl (g 0, 1767, .inl fas))]) rfl rfl rfl rfl (by decide) (k_X7_isNet l D g H.size Mm 0 Mt tp zma zwr Mrr Mrh Mrc zrh zrc Mn Mf Mr Mh hp cc Ma Mas Msn Mac Mat (show 1 ≤ hp by omega) (show hp ≤ 3 by omega)) (cwV 0 hts gX7_delivered_X7_isNet rfl rfl rfl (by decide +kernel) ⟨(Nat.le_of_ble_eq_true rfl), (Nat.le_of_ble_eq_true rfl)⟩) 0 7 rfl rfl rfl rfl hl.1 rfl (Nat.le_of_ble_eq_true rfl) dX7_delivered_6 ⟨(Nat.le_of_ble_eq_true rfl), (Nat.le_of_ble_eq_true rfl)⟩ (fun r_1 u H locs hw hP2 hD2 hS2 => ?_)
  clear hP hD hS
  obtain ⟨rfl, rfl⟩ := hw
  have hPD : PD D A [(Mn, .inl (g 0, 1767, .inl fno)), (Mh, .inl (g 0, 9, .inl fmh)), (Mr, .inl (g 0, 3, .inl fmr)), (Ma, .inl (g 0, 3, .inl fma)), (Mas, .inl (g 0, 1767, .inl fas)), (Mm, .inr (7, [.int 0, .ref Mt, .int (nI tp), .int zma, .int zwr, .ref Mrr, .ref Mrh, .ref Mrc, .int zrh, .int zrc, .ref Mn, .ref Mf, .ref Mr, .ref Mh, .int (nI hp), .int (nI cc), .ref Ma, .ref Mas, .ref Msn, .ref Mac, .ref Mat]))] H := ⟨hP2, hD2⟩
  have hS := hS2; clear hP2 hD2 hS2; have hP := hPD.1; have hD := hPD.2; clear hPD
  refine W.widen (k := 0) (n := 0) (Nat.le_of_ble_eq_true rfl) (Nat.le_of_ble_eq_true rfl) ?_
  refine lv_if_eq (tgt := 33) hx hb dX7_delivered_9 (by decide) (fun cb => absurd cb (by decide)) (fun _ => ?_)
  refine lv_iload_n hx hb dX7_delivered_12 rfl (lv_at hl 1 rfl) ?_
  refine lv_iconst (v := (-1)) hx hb dX7_delivered_13 (by decide) ?_
  refine lv_icmp_eq (tgt := 25) hx hb dX7_delivered_14 (by decide) (fun cb_2 => ?_) (fun cb_2 => ?_)
  · skip
    have hPq_3 := hP; have hDq_3 := hD; have hSq_3 := hS; have hlq_3 := hl; clear hP hD hS hl
    subst cb_2
    have hP := hPq_3; have hD := hDq_3; have hS := hSq_3; have hl := hlq_3; clear hPq_3 hDq_3 hSq_3 hlq_3
    refine lv_iload_n hx hb dX7_delivered_25 rfl (lv_at hl 2 rfl) ?_
    refine lv_iconst (v := 0) hx hb dX7_delivered_26 (by decide) ?_
    refine ky_Si (As := [.int zk, .int 0]) (rest := []) ⟨hx, hb, hml, hown, hts⟩ ⟨hK, hN⟩ hZ hP hD hS hA [] [0, 1, 2, 3, 4, 5] (wc := []) (wr := [(Mn, .inl (g 0, 1767, .inl fno)), (Mh, .inl (g 0, 9, .inl fmh)), (Mr, .inl (g 0, 3, .inl fmr)), (Ma, .inl (g 0, 3, .inl fma)), (Mas, .inl (g 0, 1767, .inl fas)), (Mm, .inr (7, [.int 0, .ref Mt, .int (nI tp), .int zma, .int zwr, .ref Mrr, .ref Mrh, .ref Mrc, .int zrh, .int zrc, .ref Mn, .ref Mf, .ref Mr, .ref Mh, .int (nI hp), .int (nI cc), .ref Ma, .ref Mas, .ref Msn, .ref Mac, .ref Mat]))]) rfl rfl rfl rfl (by decide) (k_X7_isSpan l D g H.size zk 0) (va_cwS 2 hts gX7_delivered_X7_isSpan rfl rfl rfl (by decide +kernel) ⟨(Nat.le_of_ble_eq_true rfl), (Nat.le_of_ble_eq_true rfl)⟩) rfl hl.1 rfl (Nat.le_of_ble_eq_true rfl) dX7_delivered_27 ⟨(Nat.le_of_ble_eq_true rfl), (Nat.le_of_ble_eq_true rfl)⟩ (fun r_4 u H locs hw hP2 hD2 hS2 => ?_)
    clear hP hD hS
    obtain ⟨rfl, rfl⟩ := hw
    have hPD : PD D A [(Mn, .inl (g 0, 1767, .inl fno)), (Mh, .inl (g 0, 9, .inl fmh)), (Mr, .inl (g 0, 3, .inl fmr)), (Ma, .inl (g 0, 3, .inl fma)), (Mas, .inl (g 0, 1767, .inl fas)), (Mm, .inr (7, [.int 0, .ref Mt, .int (nI tp), .int zma, .int zwr, .ref Mrr, .ref Mrh, .ref Mrc, .int zrh, .int zrc, .ref Mn, .ref Mf, .ref Mr, .ref Mh, .int (nI hp), .int (nI cc), .ref Ma, .ref Mas, .ref Msn, .ref Mac, .ref Mat]))] H := ⟨hP2, hD2⟩
    have hS := hS2; clear hP2 hD2 hS2; have hP := hPD.1; have hD := hPD.2; clear hPD
    refine W.widen (k := 0) (n := 0) (Nat.le_of_ble_eq_true rfl) (Nat.le_of_ble_eq_true rfl) ?_
    refine lv_if_ne (tgt := 35) hx hb dX7_delivered_30 (by decide) (fun cb_5 => ?_) (fun cb_5 => ?_)
    · skip
      have hq_6 : 0 ≤ zk ∧ zk ≤ 200 := b01_1.mp cb_5
      have hPq_10 := hP; have hDq_10 := hD; have hSq_10 := hS; have hlq_10 := hl; clear hP hD hS hl
      obtain ⟨j_7, hl_8, hu_9, rfl⟩ := rg (L := 0) (U := 200) rfl rfl (show 0 < 2 ^ 31 by omega) (show 200 < 2 ^ 31 by omega) hq_6
      have hP := hPq_10; have hD := hDq_10; have hS := hSq_10; have hl := hlq_10; clear hPq_10 hDq_10 hSq_10 hlq_10
      refine lv_aload_n hx hb dX7_delivered_35 rfl (lv_at hl 0 rfl) ?_
      refine ky_Vv (As := []) (rest := []) ⟨hx, hb, hml, hown, hts⟩ ⟨hK, hN⟩ hZ hP hD hS hA [5, 0, 4] [1, 2, 3] (wc := [(Mm, .inr (7, [.int 0, .ref Mt, .int (nI tp), .int zma, .int zwr, .ref Mrr, .ref Mrh, .ref Mrc, .int zrh, .int zrc, .ref Mn, .ref Mf, .ref Mr, .ref Mh, .int (nI hp), .int (nI cc), .ref Ma, .ref Mas, .ref Msn, .ref Mac, .ref Mat])), (Mn, .inl (g 0, 1767, .inl fno)), (Mas, .inl (g 0, 1767, .inl fas))]) (wr := [(Mh, .inl (g 0, 9, .inl fmh)), (Mr, .inl (g 0, 3, .inl fmr)), (Ma, .inl (g 0, 3, .inl fma))]) rfl rfl rfl rfl (by decide) (k_X7_putAside l D g H.size Mm 0 Mt tp zma zwr Mrr Mrh Mrc zrh zrc Mn Mf Mr Mh hp cc Ma Mas Msn Mac Mat fno fas tb ub (h2)) (cwV 0 hts gX7_delivered_X7_putAside rfl rfl rfl (by decide +kernel) ⟨(Nat.le_of_ble_eq_true rfl), (Nat.le_of_ble_eq_true rfl)⟩) 5 7 rfl rfl rfl rfl hl.1 rfl (Nat.le_of_ble_eq_true rfl) dX7_delivered_36 ⟨(Nat.le_of_ble_eq_true rfl), (Nat.le_of_ble_eq_true rfl)⟩ (fun u H locs hw hP2 hD2 hS2 => ?_)
      clear hP hD hS
      obtain ⟨fasx_12, rfl, hf_13⟩ := hw
      have hPD : PD D A [(Mh, .inl (g 0, 9, .inl fmh)), (Mr, .inl (g 0, 3, .inl fmr)), (Ma, .inl (g 0, 3, .inl fma)), (Mm, .inr (7, [.int 0, .ref Mt, .int (nI tp), .int zma, .int zwr, .ref Mrr, .ref Mrh, .ref Mrc, .int zrh, .int zrc, .ref Mn, .ref Mf, .ref Mr, .ref Mh, .int (nI hp), .int (nI cc), .ref Ma, .ref Mas, .ref Msn, .ref Mac, .ref Mat])), (Mn, .inl (g 0, 1767, .inl fno)), (Mas, .inl (g 0, 1767, .inl fasx_12))] H := ⟨hP2, hD2⟩
      have hS := hS2; clear hP2 hD2 hS2; have hP := hPD.1; have hD := hPD.2; clear hPD
      refine W.widen (k := 0) (n := 0) (Nat.le_of_ble_eq_true rfl) (Nat.le_of_ble_eq_true rfl) ?_
      refine lv_aload_n hx hb dX7_delivered_39 rfl (lv_at hl 0 rfl) ?_
      refine lv_iload_n hx hb dX7_delivered_40 rfl (lv_at hl 1 rfl) ?_
      refine lv_iload_n hx hb dX7_delivered_41 rfl (lv_at hl 2 rfl) ?_
      refine ky_Vi (As := [.int (-1), .int (nI j_7)]) (rest := []) ⟨hx, hb, hml, hown, hts⟩ ⟨hK, hN⟩ hZ hP hD hS hA [3, 4, 0, 1, 2, 5] [] (wc := [(Mm, .inr (7, [.int 0, .ref Mt, .int (nI tp), .int zma, .int zwr, .ref Mrr, .ref Mrh, .ref Mrc, .int zrh, .int zrc, .ref Mn, .ref Mf, .ref Mr, .ref Mh, .int (nI hp), .int (nI cc), .ref Ma, .ref Mas, .ref Msn, .ref Mac, .ref Mat])), (Mn, .inl (g 0, 1767, .inl fno)), (Mh, .inl (g 0, 9, .inl fmh)), (Mr, .inl (g 0, 3, .inl fmr)), (Ma, .inl (g 0, 3, .inl fma)), (Mas, .inl (g 0, 1767, .inl fasx_12))]) (wr := []) rfl rfl rfl rfl (by decide) (k_X7_deliveredIn l D g H.size Mm (-1) j_7 0 Mt tp zma zwr Mrr Mrh Mrc zrh zrc Mn Mf Mr Mh hp cc Ma Mas Msn Mac Mat fno fmh fmr fma fasx_12 tb ub (show tb < 2 ^ 27 by omega) (show ub < 2 ^ 27 by omega) (h2) (show 1 ≤ hp by omega) (show hp ≤ 3 by omega) (show 1 ≤ cc by omega) (show cc ≤ 3 by omega) (h7) (hf_13) (show j_7 ≤ 200 by omega)) (cwV 2 hts gX7_delivered_X7_deliveredIn rfl rfl rfl (by decide +kernel) ⟨(Nat.le_of_ble_eq_true rfl), (Nat.le_of_ble_eq_true rfl)⟩) 3 7 rfl rfl rfl rfl hl.1 rfl (Nat.le_of_ble_eq_true rfl) dX7_delivered_42 ⟨(Nat.le_of_ble_eq_true rfl), (Nat.le_of_ble_eq_true rfl)⟩ (fun r_14 u H locs hw hP2 hD2 hS2 => ?_)
      clear hP hD hS
      obtain ⟨fnox_15, fmax_16, rfl, hf_17⟩ := hw
      have hPD : PD D A [(Mm, .inr (7, [.int 0, .ref Mt, .int (nI tp), .int zma, .int zwr, .ref Mrr, .ref Mrh, .ref Mrc, .int zrh, .int zrc, .ref Mn, .ref Mf, .ref Mr, .ref Mh, .int (nI hp), .int (nI cc), .ref Ma, .ref Mas, .ref Msn, .ref Mac, .ref Mat])), (Mn, .inl (g 0, 1767, .inl fnox_15)), (Mh, .inl (g 0, 9, .inl fmh)), (Mr, .inl (g 0, 3, .inl fmr)), (Ma, .inl (g 0, 3, .inl fmax_16)), (Mas, .inl (g 0, 1767, .inl fasx_12))] H := ⟨hP2, hD2⟩
      have hS := hS2; clear hP2 hD2 hS2; have hP := hPD.1; have hD := hPD.2; clear hPD
      refine W.widen (k := 0) (n := 0) (Nat.le_of_ble_eq_true rfl) (Nat.le_of_ble_eq_true rfl) ?_
      have hP9 := hP; have hD9 := hD
      subst hQ
      refine W.widen (k := 0) (n := 0) (Nat.le_of_ble_eq_true rfl) (Nat.le_of_ble_eq_true rfl) ?_
      exact W.iret (v := r_14) hx hb hr (fun tS htS _ => ⟨⟨_, _, rfl, ⟨0, fnox_15, fmax_16, fasx_12, rfl, (hf_17)⟩, by rw [htS]; exact hP9, hD9⟩, hS.F htS⟩) hS.2.2 dX7_delivered_45
    · skip
      have hq_18 : ¬ (0 ≤ zk ∧ zk ≤ 200) := b01_0.mp cb_5
      refine lv_iconst (v := (-1)) hx hb dX7_delivered_33 (by decide) ?_
      have hPD9 : PD D A [(Mm, .inr (7, [.int 0, .ref Mt, .int (nI tp), .int zma, .int zwr, .ref Mrr, .ref Mrh, .ref Mrc, .int zrh, .int zrc, .ref Mn, .ref Mf, .ref Mr, .ref Mh, .int (nI hp), .int (nI cc), .ref Ma, .ref Mas, .ref Msn, .ref Mac, .ref Mat])), (Mn, .inl (g 0, 1767, .inl fno)), (Mh, .inl (g 0, 9, .inl fmh)), (Mr, .inl (g 0, 3, .inl fmr)), (Ma, .inl (g 0, 3, .inl fma)), (Mas, .inl (g 0, 1767, .inl fas))] H := ⟨hP.sub [5, 0, 1, 2, 3, 4] rfl, hD.sub [5, 0, 1, 2, 3, 4] (by decide) rfl⟩
      have hP9 := hPD9.1; have hD9 := hPD9.2
      subst hQ
      refine W.widen (k := 0) (n := 0) (Nat.le_of_ble_eq_true rfl) (Nat.le_of_ble_eq_true rfl) ?_
      exact W.iret (v := (-1)) hx hb hr (fun tS htS _ => ⟨⟨_, _, rfl, ⟨0, fno, fma, fas, rfl, (h2)⟩, by rw [htS]; exact hP9, hD9⟩, hS.F htS⟩) hS.2.2 dX7_delivered_34
  · skip
    refine lv_aload_n hx hb dX7_delivered_17 rfl (lv_at hl 0 rfl) ?_
    refine lv_iload_n hx hb dX7_delivered_18 rfl (lv_at hl 1 rfl) ?_
    refine ky_Vi (As := [.int zc]) (rest := []) ⟨hx, hb, hml, hown, hts⟩ ⟨hK, hN⟩ hZ hP hD hS hA [5] [0, 1, 2, 3, 4] (wc := [(Mm, .inr (7, [.int 0, .ref Mt, .int (nI tp), .int zma, .int zwr, .ref Mrr, .ref Mrh, .ref Mrc, .int zrh, .int zrc, .ref Mn, .ref Mf, .ref Mr, .ref Mh, .int (nI hp), .int (nI cc), .ref Ma, .ref Mas, .ref Msn, .ref Mac, .ref Mat]))]) (wr := [(Mn, .inl (g 0, 1767, .inl fno)), (Mh, .inl (g 0, 9, .inl fmh)), (Mr, .inl (g 0, 3, .inl fmr)), (Ma, .inl (g 0, 3, .inl fma)), (Mas, .inl (g 0, 1767, .inl fas))]) rfl rfl rfl rfl (by decide) (k_X7_isCircuit l D g H.size Mm zc 0 Mt tp zma zwr Mrr Mrh Mrc zrh zrc Mn Mf Mr Mh hp cc Ma Mas Msn Mac Mat (show 1 ≤ cc by omega) (show cc ≤ 3 by omega)) (cwV 1 hts gX7_delivered_X7_isCircuit rfl rfl rfl (by decide +kernel) ⟨(Nat.le_of_ble_eq_true rfl), (Nat.le_of_ble_eq_true rfl)⟩) 5 7 rfl rfl rfl rfl hl.1 rfl (Nat.le_of_ble_eq_true rfl) dX7_delivered_19 ⟨(Nat.le_of_ble_eq_true rfl), (Nat.le_of_ble_eq_true rfl)⟩ (fun r_19 u H locs hw hP2 hD2 hS2 => ?_)
    clear hP hD hS
    obtain ⟨rfl, rfl⟩ := hw
    have hPD : PD D A [(Mn, .inl (g 0, 1767, .inl fno)), (Mh, .inl (g 0, 9, .inl fmh)), (Mr, .inl (g 0, 3, .inl fmr)), (Ma, .inl (g 0, 3, .inl fma)), (Mas, .inl (g 0, 1767, .inl fas)), (Mm, .inr (7, [.int 0, .ref Mt, .int (nI tp), .int zma, .int zwr, .ref Mrr, .ref Mrh, .ref Mrc, .int zrh, .int zrc, .ref Mn, .ref Mf, .ref Mr, .ref Mh, .int (nI hp), .int (nI cc), .ref Ma, .ref Mas, .ref Msn, .ref Mac, .ref Mat]))] H := ⟨hP2, hD2⟩
    have hS := hS2; clear hP2 hD2 hS2; have hP := hPD.1; have hD := hPD.2; clear hPD
    refine W.widen (k := 0) (n := 0) (Nat.le_of_ble_eq_true rfl) (Nat.le_of_ble_eq_true rfl) ?_
    refine lv_if_eq (tgt := 33) hx hb dX7_delivered_22 (by decide) (fun cb_20 => ?_) (fun cb_20 => ?_)
    · skip
      have hq_21 : ¬ (0 ≤ zc ∧ zc ≤ (nI (cc - 1))) := b01_0.mp cb_20
      refine lv_iconst (v := (-1)) hx hb dX7_delivered_33 (by decide) ?_
      have hPD9 : PD D A [(Mm, .inr (7, [.int 0, .ref Mt, .int (nI tp), .int zma, .int zwr, .ref Mrr, .ref Mrh, .ref Mrc, .int zrh, .int zrc, .ref Mn, .ref Mf, .ref Mr, .ref Mh, .int (nI hp), .int (nI cc), .ref Ma, .ref Mas, .ref Msn, .ref Mac, .ref Mat])), (Mn, .inl (g 0, 1767, .inl fno)), (Mh, .inl (g 0, 9, .inl fmh)), (Mr, .inl (g 0, 3, .inl fmr)), (Ma, .inl (g 0, 3, .inl fma)), (Mas, .inl (g 0, 1767, .inl fas))] H := ⟨hP.sub [5, 0, 1, 2, 3, 4] rfl, hD.sub [5, 0, 1, 2, 3, 4] (by decide) rfl⟩
      have hP9 := hPD9.1; have hD9 := hPD9.2
      subst hQ
      refine W.widen (k := 0) (n := 0) (Nat.le_of_ble_eq_true rfl) (Nat.le_of_ble_eq_true rfl) ?_
      exact W.iret (v := (-1)) hx hb hr (fun tS htS _ => ⟨⟨_, _, rfl, ⟨0, fno, fma, fas, rfl, (h2)⟩, by rw [htS]; exact hP9, hD9⟩, hS.F htS⟩) hS.2.2 dX7_delivered_34
    · skip
      have hq_22 : 0 ≤ zc ∧ zc ≤ (nI (cc - 1)) := b01_1.mp cb_20
      have hPq_26 := hP; have hDq_26 := hD; have hSq_26 := hS; have hlq_26 := hl; clear hP hD hS hl
      obtain ⟨j_23, hl_24, hu_25, rfl⟩ := rg (L := 0) (U := cc - 1) rfl rfl (show 0 < 2 ^ 31 by omega) (show cc - 1 < 2 ^ 31 by omega) hq_22
      have hP := hPq_26; have hD := hDq_26; have hS := hSq_26; have hl := hlq_26; clear hPq_26 hDq_26 hSq_26 hlq_26
      refine lv_iload_n hx hb dX7_delivered_25 rfl (lv_at hl 2 rfl) ?_
      refine lv_iconst (v := 0) hx hb dX7_delivered_26 (by decide) ?_
      refine ky_Si (As := [.int zk, .int 0]) (rest := []) ⟨hx, hb, hml, hown, hts⟩ ⟨hK, hN⟩ hZ hP hD hS hA [] [0, 1, 2, 3, 4, 5] (wc := []) (wr := [(Mn, .inl (g 0, 1767, .inl fno)), (Mh, .inl (g 0, 9, .inl fmh)), (Mr, .inl (g 0, 3, .inl fmr)), (Ma, .inl (g 0, 3, .inl fma)), (Mas, .inl (g 0, 1767, .inl fas)), (Mm, .inr (7, [.int 0, .ref Mt, .int (nI tp), .int zma, .int zwr, .ref Mrr, .ref Mrh, .ref Mrc, .int zrh, .int zrc, .ref Mn, .ref Mf, .ref Mr, .ref Mh, .int (nI hp), .int (nI cc), .ref Ma, .ref Mas, .ref Msn, .ref Mac, .ref Mat]))]) rfl rfl rfl rfl (by decide) (k_X7_isSpan l D g H.size zk 0) (va_cwS 2 hts gX7_delivered_X7_isSpan rfl rfl rfl (by decide +kernel) ⟨(Nat.le_of_ble_eq_true rfl), (Nat.le_of_ble_eq_true rfl)⟩) rfl hl.1 rfl (Nat.le_of_ble_eq_true rfl) dX7_delivered_27 ⟨(Nat.le_of_ble_eq_true rfl), (Nat.le_of_ble_eq_true rfl)⟩ (fun r_27 u H locs hw hP2 hD2 hS2 => ?_)
      clear hP hD hS
      obtain ⟨rfl, rfl⟩ := hw
      have hPD : PD D A [(Mn, .inl (g 0, 1767, .inl fno)), (Mh, .inl (g 0, 9, .inl fmh)), (Mr, .inl (g 0, 3, .inl fmr)), (Ma, .inl (g 0, 3, .inl fma)), (Mas, .inl (g 0, 1767, .inl fas)), (Mm, .inr (7, [.int 0, .ref Mt, .int (nI tp), .int zma, .int zwr, .ref Mrr, .ref Mrh, .ref Mrc, .int zrh, .int zrc, .ref Mn, .ref Mf, .ref Mr, .ref Mh, .int (nI hp), .int (nI cc), .ref Ma, .ref Mas, .ref Msn, .ref Mac, .ref Mat]))] H := ⟨hP2, hD2⟩
      have hS := hS2; clear hP2 hD2 hS2; have hP := hPD.1; have hD := hPD.2; clear hPD
      refine W.widen (k := 0) (n := 0) (Nat.le_of_ble_eq_true rfl) (Nat.le_of_ble_eq_true rfl) ?_
      refine lv_if_ne (tgt := 35) hx hb dX7_delivered_30 (by decide) (fun cb_28 => ?_) (fun cb_28 => ?_)
      · skip
        have hq_29 : 0 ≤ zk ∧ zk ≤ 200 := b01_1.mp cb_28
        have hPq_33 := hP; have hDq_33 := hD; have hSq_33 := hS; have hlq_33 := hl; clear hP hD hS hl
        obtain ⟨j_30, hl_31, hu_32, rfl⟩ := rg (L := 0) (U := 200) rfl rfl (show 0 < 2 ^ 31 by omega) (show 200 < 2 ^ 31 by omega) hq_29
        have hP := hPq_33; have hD := hDq_33; have hS := hSq_33; have hl := hlq_33; clear hPq_33 hDq_33 hSq_33 hlq_33
        refine lv_aload_n hx hb dX7_delivered_35 rfl (lv_at hl 0 rfl) ?_
        refine ky_Vv (As := []) (rest := []) ⟨hx, hb, hml, hown, hts⟩ ⟨hK, hN⟩ hZ hP hD hS hA [5, 0, 4] [1, 2, 3] (wc := [(Mm, .inr (7, [.int 0, .ref Mt, .int (nI tp), .int zma, .int zwr, .ref Mrr, .ref Mrh, .ref Mrc, .int zrh, .int zrc, .ref Mn, .ref Mf, .ref Mr, .ref Mh, .int (nI hp), .int (nI cc), .ref Ma, .ref Mas, .ref Msn, .ref Mac, .ref Mat])), (Mn, .inl (g 0, 1767, .inl fno)), (Mas, .inl (g 0, 1767, .inl fas))]) (wr := [(Mh, .inl (g 0, 9, .inl fmh)), (Mr, .inl (g 0, 3, .inl fmr)), (Ma, .inl (g 0, 3, .inl fma))]) rfl rfl rfl rfl (by decide) (k_X7_putAside l D g H.size Mm 0 Mt tp zma zwr Mrr Mrh Mrc zrh zrc Mn Mf Mr Mh hp cc Ma Mas Msn Mac Mat fno fas tb ub (h2)) (cwV 0 hts gX7_delivered_X7_putAside rfl rfl rfl (by decide +kernel) ⟨(Nat.le_of_ble_eq_true rfl), (Nat.le_of_ble_eq_true rfl)⟩) 5 7 rfl rfl rfl rfl hl.1 rfl (Nat.le_of_ble_eq_true rfl) dX7_delivered_36 ⟨(Nat.le_of_ble_eq_true rfl), (Nat.le_of_ble_eq_true rfl)⟩ (fun u H locs hw hP2 hD2 hS2 => ?_)
        clear hP hD hS
        obtain ⟨fasx_35, rfl, hf_36⟩ := hw
        have hPD : PD D A [(Mh, .inl (g 0, 9, .inl fmh)), (Mr, .inl (g 0, 3, .inl fmr)), (Ma, .inl (g 0, 3, .inl fma)), (Mm, .inr (7, [.int 0, .ref Mt, .int (nI tp), .int zma, .int zwr, .ref Mrr, .ref Mrh, .ref Mrc, .int zrh, .int zrc, .ref Mn, .ref Mf, .ref Mr, .ref Mh, .int (nI hp), .int (nI cc), .ref Ma, .ref Mas, .ref Msn, .ref Mac, .ref Mat])), (Mn, .inl (g 0, 1767, .inl fno)), (Mas, .inl (g 0, 1767, .inl fasx_35))] H := ⟨hP2, hD2⟩
        have hS := hS2; clear hP2 hD2 hS2; have hP := hPD.1; have hD := hPD.2; clear hPD
        refine W.widen (k := 0) (n := 0) (Nat.le_of_ble_eq_true rfl) (Nat.le_of_ble_eq_true rfl) ?_
        refine lv_aload_n hx hb dX7_delivered_39 rfl (lv_at hl 0 rfl) ?_
        refine lv_iload_n hx hb dX7_delivered_40 rfl (lv_at hl 1 rfl) ?_
        refine lv_iload_n hx hb dX7_delivered_41 rfl (lv_at hl 2 rfl) ?_
        refine ky_Vi (As := [.int (nI j_23), .int (nI j_30)]) (rest := []) ⟨hx, hb, hml, hown, hts⟩ ⟨hK, hN⟩ hZ hP hD hS hA [3, 4, 0, 1, 2, 5] [] (wc := [(Mm, .inr (7, [.int 0, .ref Mt, .int (nI tp), .int zma, .int zwr, .ref Mrr, .ref Mrh, .ref Mrc, .int zrh, .int zrc, .ref Mn, .ref Mf, .ref Mr, .ref Mh, .int (nI hp), .int (nI cc), .ref Ma, .ref Mas, .ref Msn, .ref Mac, .ref Mat])), (Mn, .inl (g 0, 1767, .inl fno)), (Mh, .inl (g 0, 9, .inl fmh)), (Mr, .inl (g 0, 3, .inl fmr)), (Ma, .inl (g 0, 3, .inl fma)), (Mas, .inl (g 0, 1767, .inl fasx_35))]) (wr := []) rfl rfl rfl rfl (by decide) (k_X7_deliveredIn l D g H.size Mm (nI j_23) j_30 0 Mt tp zma zwr Mrr Mrh Mrc zrh zrc Mn Mf Mr Mh hp cc Ma Mas Msn Mac Mat fno fmh fmr fma fasx_35 tb ub (show tb < 2 ^ 27 by omega) (show ub < 2 ^ 27 by omega) (h2) (show 1 ≤ hp by omega) (show hp ≤ 3 by omega) (show 1 ≤ cc by omega) (show cc ≤ 3 by omega) (h7) (hf_36) (show j_30 ≤ 200 by omega)) (cwV 2 hts gX7_delivered_X7_deliveredIn rfl rfl rfl (by decide +kernel) ⟨(Nat.le_of_ble_eq_true rfl), (Nat.le_of_ble_eq_true rfl)⟩) 3 7 rfl rfl rfl rfl hl.1 rfl (Nat.le_of_ble_eq_true rfl) dX7_delivered_42 ⟨(Nat.le_of_ble_eq_true rfl), (Nat.le_of_ble_eq_true rfl)⟩ (fun r_37 u H locs hw hP2 hD2 hS2 => ?_)
        clear hP hD hS
        obtain ⟨fnox_38, fmax_39, rfl, hf_40⟩ := hw
        have hPD : PD D A [(Mm, .inr (7, [.int 0, .ref Mt, .int (nI tp), .int zma, .int zwr, .ref Mrr, .ref Mrh, .ref Mrc, .int zrh, .int zrc, .ref Mn, .ref Mf, .ref Mr, .ref Mh, .int (nI hp), .int (nI cc), .ref Ma, .ref Mas, .ref Msn, .ref Mac, .ref Mat])), (Mn, .inl (g 0, 1767, .inl fnox_38)), (Mh, .inl (g 0, 9, .inl fmh)), (Mr, .inl (g 0, 3, .inl fmr)), (Ma, .inl (g 0, 3, .inl fmax_39)), (Mas, .inl (g 0, 1767, .inl fasx_35))] H := ⟨hP2, hD2⟩
        have hS := hS2; clear hP2 hD2 hS2; have hP := hPD.1; have hD := hPD.2; clear hPD
        refine W.widen (k := 0) (n := 0) (Nat.le_of_ble_eq_true rfl) (Nat.le_of_ble_eq_true rfl) ?_
        have hP9 := hP; have hD9 := hD
        subst hQ
        refine W.widen (k := 0) (n := 0) (Nat.le_of_ble_eq_true rfl) (Nat.le_of_ble_eq_true rfl) ?_
        exact W.iret (v := r_37) hx hb hr (fun tS htS _ => ⟨⟨_, _, rfl, ⟨0, fnox_38, fmax_39, fasx_35, rfl, (hf_40)⟩, by rw [htS]; exact hP9, hD9⟩, hS.F htS⟩) hS.2.2 dX7_delivered_45
      · skip
        have hq_41 : ¬ (0 ≤ zk ∧ zk ≤ 200) := b01_0.mp cb_28
        refine lv_iconst (v := (-1)) hx hb dX7_delivered_33 (by decide) ?_
        have hPD9 : PD D A [(Mm, .inr (7, [.int 0, .ref Mt, .int (nI tp), .int zma, .int zwr, .ref Mrr, .ref Mrh, .ref Mrc, .int zrh, .int zrc, .ref Mn, .ref Mf, .ref Mr, .ref Mh, .int (nI hp), .int (nI cc), .ref Ma, .ref Mas, .ref Msn, .ref Mac, .ref Mat])), (Mn, .inl (g 0, 1767, .inl fno)), (Mh, .inl (g 0, 9, .inl fmh)), (Mr, .inl (g 0, 3, .inl fmr)), (Ma, .inl (g 0, 3, .inl fma)), (Mas, .inl (g 0, 1767, .inl fas))] H := ⟨hP.sub [5, 0, 1, 2, 3, 4] rfl, hD.sub [5, 0, 1, 2, 3, 4] (by decide) rfl⟩
        have hP9 := hPD9.1; have hD9 := hPD9.2
        subst hQ
        refine W.widen (k := 0) (n := 0) (Nat.le_of_ble_eq_true rfl) (Nat.le_of_ble_eq_true rfl) ?_
        exact W.iret (v := (-1)) hx hb hr (fun tS htS _ => ⟨⟨_, _, rfl, ⟨0, fno, fma, fas, rfl, (h2)⟩, by rw [htS]; exact hP9, hD9⟩, hS.F htS⟩) hS.2.2 dX7_delivered_34

set_option maxHeartbeats 4000000 in
set_option maxRecDepth 100000 in
theorem k_X7_sentOver (l : Launch) (D : va_G) (g : Nat → ClassId) (sz : Nat) (Mm : Nat) (hix : Nat) (zth : Int32) (Mt : Nat) (tp : Nat) (zma : Int32) (zwr : Int32) (Mrr : Nat) (Mrh : Nat) (Mrc : Nat) (zrh : Int32) (zrc : Int32) (Mn : Nat) (Mf : Nat) (Mr : Nat) (Mh : Nat) (hp : Nat) (cc : Nat) (Ma : Nat) (Mas : Nat) (Msn : Nat) (Mac : Nat) (Mat : Nat) (fno : Nat → Int32) (h0 : hix < 3) (h1 : 1 ≤ cc) (h2 : cc ≤ 3) : Met l yX7_sentOver wsX7_sentOver ({ frames := 1, cells := 0, slots := 0, locals := 21 }) (va_Pc [.ref Mm, .int (nI hix)] (pre D g sz [(Mm, .inr (7, [.int zth, .ref Mt, .int (nI tp), .int zma, .int zwr, .ref Mrr, .ref Mrh, .ref Mrc, .int zrh, .int zrc, .ref Mn, .ref Mf, .ref Mr, .ref Mh, .int (nI hp), .int (nI cc), .ref Ma, .ref Mas, .ref Msn, .ref Mac, .ref Mat])), (Mn, .inl (g 0, 1767, .inl fno))])) (va_Qi (fun (r : Int32) (u : va_W) => u = [(Mm, .inr (7, [.int zth, .ref Mt, .int (nI tp), .int zma, .int zwr, .ref Mrr, .ref Mrh, .ref Mrc, .int zrh, .int zrc, .ref Mn, .ref Mf, .ref Mr, .ref Mh, .int (nI hp), .int (nI cc), .ref Ma, .ref Mas, .ref Msn, .ref Mac, .ref Mat])), (Mn, .inl (g 0, 1767, .inl fno))]) (wd D (va_A [(Mm, .inr (7, [.int zth, .ref Mt, .int (nI tp), .int zma, .int zwr, .ref Mrr, .ref Mrh, .ref Mrc, .int zrh, .int zrc, .ref Mn, .ref Mf, .ref Mr, .ref Mh, .int (nI hp), .int (nI cc), .ref Ma, .ref Mas, .ref Msn, .ref Mac, .ref Mat])), (Mn, .inl (g 0, 1767, .inl fno))] sz)) (va_A [(Mm, .inr (7, [.int zth, .ref Mt, .int (nI tp), .int zma, .int zwr, .ref Mrr, .ref Mrh, .ref Mrc, .int zrh, .int zrc, .ref Mn, .ref Mf, .ref Mr, .ref Mh, .int (nI hp), .int (nI cc), .ref Ma, .ref Mas, .ref Msn, .ref Mac, .ref Mat])), (Mn, .inl (g 0, 1767, .inl fno))] sz)) 0 0 (va_A [(Mm, .inr (7, [.int zth, .ref Mt, .int (nI tp), .int zma, .int zwr, .ref Mrr, .ref Mrh, .ref Mrc, .int zrh, .int zrc, .ref Mn, .ref Mf, .ref Mr, .ref Mh, .int (nI hp), .int (nI cc), .ref Ma, .ref Mas, .ref Msn, .ref Mac, .ref Mat])), (Mn, .inl (g 0, 1767, .inl fno))] sz) := by
  refine Met.ofW (cc := cX7_sentOver) (maxL := 4) (ret := (some .int)) (by decide) rfl ?_
  intro p e s m args below meth c s₁ B hml hv
  obtain ⟨rfl, hsz, hP, ⟨hK, hN⟩, hD0, hZ⟩ := hv
  have hx := B.exec
  have hb := B.bytes
  have hr := B.returns
  have hts := atoms_spec (ws := wsX7_sentOver) B.pre
  have hown : s.vm.findClass RX7 = some m.cls := findClass_of_methodNamed B.named
  have hlocks := B.notSynchronized
  clear B
  subst hsz
  have hD := hD0.self (sz := s.heap.size)
  clear hD0
  generalize hAe : va_A [(Mm, .inr (7, [.int zth, .ref Mt, .int (nI tp), .int zma, .int zwr, .ref Mrr, .ref Mrh, .ref Mrc, .int zrh, .int zrc, .ref Mn, .ref Mf, .ref Mr, .ref Mh, .int (nI hp), .int (nI cc), .ref Ma, .ref Mas, .ref Msn, .ref Mac, .ref Mat])), (Mn, .inl (g 0, 1767, .inl fno))] s.heap.size = A at hD hZ ⊢
  have hA : ∀ q : Nat, s.heap.size ≤ q → A q := fun q h => by rw [← hAe]; exact Or.inr h
  have hS : va_S A s.heap s.heap [] := va_S.rf
  have f127 := hts (.fieldLink RX7 127 "HopCreditsModel" "circuits" "I") (List.mem_of_getElem? (i := 1) rfl)
  have f22 := hts (.fieldLink RX7 22 "HopCreditsModel" "now" "[I") (List.mem_of_getElem? (i := 2) rfl)
  have iX7 : ∀ w ∈ u_ws RX7 TX7 21, w ∈ wsX7_sentOver := fun w h => List.mem_cons_of_mem _ (List.mem_append_right _ (h))
  have hl := lv_entry ([.ref Mm, .int (nI hix)]) (n := 4) (Nat.le_of_ble_eq_true rfl)
  rw [lg_entry_eq]
  generalize (lg_sl ([.ref Mm, .int (nI hix)]) ++ List.replicate (4 - (lg_sl ([.ref Mm, .int (nI hix)])).length) Slot.unset).toArray = ls at hl ⊢
  have hl : lv_has ls 4 [(0, .ref Mm), (1, .int (nI hix))] := hl
  generalize hQ : MQ below _ _ s _ _ _ = Q
  generalize hH : s.heap = H at hP ⊢
  have hS : va_S A s.heap H [] := by rw [← hH]; exact hS
  clear hH
  refine lv_iconst (v := 0) hx hb dX7_sentOver_0 (by decide) ?_
  refine lv_istore_n (lv' := [(2, .int 0), (0, .ref Mm), (1, .int (nI hix))]) hx hb dX7_sentOver_1 rfl hl (by decide) rfl (fun ls hl => ?_)
  refine lv_iconst (v := 0) hx hb dX7_sentOver_2 (by decide) ?_
  refine lv_istore_n (lv' := [(3, .int 0), (2, .int 0), (0, .ref Mm), (1, .int (nI hix))]) hx hb dX7_sentOver_3 rfl hl (by decide) rfl (fun ls hl => ?_)
  have loop_12 : ∀ (Nloop_12 : Nat) (i_4 : Nat) (i_5 : Int32) (hbi_4 : i_4 ≤ cc) (hmloop_12 : cc - i_4 < Nloop_12) (H : Heap) (locs : List Loc) (ls : Array Slot), va_P D vwCl [(Mm, .inr (7, [.int zth, .ref Mt, .int (nI tp), .int zma, .int zwr, .ref Mrr, .ref Mrh, .ref Mrc, .int zrh, .int zrc, .ref Mn, .ref Mf, .ref Mr, .ref Mh, .int (nI hp), .int (nI cc), .ref Ma, .ref Mas, .ref Msn, .ref Mac, .ref Mat])), (Mn, .inl (g 0, 1767, .inl fno))] H → va_D A [(Mm, .inr (7, [.int zth, .ref Mt, .int (nI tp), .int zma, .int zwr, .ref Mrr, .ref Mrh, .ref Mrc, .int zrh, .int zrc, .ref Mn, .ref Mf, .ref Mr, .ref Mh, .int (nI hp), .int (nI cc), .ref Ma, .ref Mas, .ref Msn, .ref Mac, .ref Mat])), (Mn, .inl (g 0, 1767, .inl fno))] → va_S A s.heap H locs → lv_has ls 4 [(3, .int (nI i_4)), (2, .int i_5), (0, .ref Mm), (1, .int (nI hix))] → W p l e (headSpec wsX7_sentOver ({ frames := 1, cells := 0, slots := 0, locals := 21 })).room s m ([.ref Mm, .int (nI hix)] : List Value).toArray below meth c H locs 0 0 Q (F0 m 4 ls []) := by
    clear hP hD hS hl
    intro Nloop_12
    induction Nloop_12 with
    | zero => intro i_4 i_5 hbi_4 hm9; exact absurd hm9 (Nat.not_lt_zero _)
    | succ Nloop_12 loop_12_ih =>
      intro i_4 i_5 hbi_4 hmloop_12 H locs ls hP hD hS hl
      refine lv_iload_n hx hb dX7_sentOver_4 rfl (lv_at hl 0 rfl) ?_
      refine lv_aload_n hx hb dX7_sentOver_5 rfl (lv_at hl 2 rfl) ?_
      refine va_get (D := D) (ci := 7) (v := .int (nI cc)) (C := RX7) (T := TX7) (N := 21) hx hb hts iX7 hown hK hP 0 rfl rfl 15 (by decide) f127 (fun _ h9 => h9) rfl dX7_sentOver_6 ?_
      refine lv_icmp_ge (tgt := 33) hx hb dX7_sentOver_9 (by decide) (fun cb_13 => ?_) (fun cb_13 => ?_)
      · skip
        have cn_14 : cc ≤ i_4 := (nI_leI (show cc < 2 ^ 31 by omega) (show i_4 < 2 ^ 31 by omega)).mp cb_13
        refine lv_iload_n hx hb dX7_sentOver_33 rfl (lv_at hl 1 rfl) ?_
        have hP9 := hP; have hD9 := hD
        subst hQ
        refine W.widen (k := 0) (n := 0) (Nat.le_of_ble_eq_true rfl) (Nat.le_of_ble_eq_true rfl) ?_
        exact W.iret (v := i_5) hx hb hr (fun tS htS _ => ⟨⟨_, _, rfl, rfl, by rw [htS]; exact hP9, hD9⟩, hS.F htS⟩) hS.2.2 dX7_sentOver_34
      · skip
        have cn_15 : i_4 < cc := Nat.lt_of_not_le (fun q9 => cb_13 ((nI_leI (show cc < 2 ^ 31 by omega) (show i_4 < 2 ^ 31 by omega)).mpr q9))
        refine lv_iload_n hx hb dX7_sentOver_12 rfl (lv_at hl 1 rfl) ?_
        refine lv_aload_n hx hb dX7_sentOver_13 rfl (lv_at hl 2 rfl) ?_
        refine va_get (D := D) (ci := 7) (v := .ref Mn) (C := RX7) (T := TX7) (N := 21) hx hb hts iX7 hown hK hP 0 rfl rfl 10 (by decide) f22 (fun _ h9 => h9) rfl dX7_sentOver_14 ?_
        refine lv_iload_n hx hb dX7_sentOver_17 rfl (lv_at hl 3 rfl) ?_
        refine lv_iload_n hx hb dX7_sentOver_18 rfl (lv_at hl 0 rfl) ?_
        refine ky_Si (As := [.int (nI hix), .int (nI i_4)]) (rest := [.ref Mn, .int i_5]) ⟨hx, hb, hml, hown, hts⟩ ⟨hK, hN⟩ hZ hP hD hS hA [] [0, 1] (wc := []) (wr := [(Mm, .inr (7, [.int zth, .ref Mt, .int (nI tp), .int zma, .int zwr, .ref Mrr, .ref Mrh, .ref Mrc, .int zrh, .int zrc, .ref Mn, .ref Mf, .ref Mr, .ref Mh, .int (nI hp), .int (nI cc), .ref Ma, .ref Mas, .ref Msn, .ref Mac, .ref Mat])), (Mn, .inl (g 0, 1767, .inl fno))]) rfl rfl rfl rfl (by decide) (k_X7_lane l D g H.size hix i_4 (show hix < 3 by omega) (show i_4 < 3 by omega)) (va_cwS 2 hts gX7_sentOver_X7_lane rfl rfl rfl (by decide +kernel) ⟨(Nat.le_of_ble_eq_true rfl), (Nat.le_of_ble_eq_true rfl)⟩) rfl hl.1 rfl (Nat.le_of_ble_eq_true rfl) dX7_sentOver_19 ⟨(Nat.le_of_ble_eq_true rfl), (Nat.le_of_ble_eq_true rfl)⟩ (fun r_16 u H locs hw hP2 hD2 hS2 => ?_)
        clear hP hD hS
        obtain ⟨rfl, rfl⟩ := hw
        have hPD : PD D A [(Mm, .inr (7, [.int zth, .ref Mt, .int (nI tp), .int zma, .int zwr, .ref Mrr, .ref Mrh, .ref Mrc, .int zrh, .int zrc, .ref Mn, .ref Mf, .ref Mr, .ref Mh, .int (nI hp), .int (nI cc), .ref Ma, .ref Mas, .ref Msn, .ref Mac, .ref Mat])), (Mn, .inl (g 0, 1767, .inl fno))] H := ⟨hP2, hD2⟩
        have hS := hS2; clear hP2 hD2 hS2; have hP := hPD.1; have hD := hPD.2; clear hPD
        refine W.widen (k := 0) (n := 0) (Nat.le_of_ble_eq_true rfl) (Nat.le_of_ble_eq_true rfl) ?_
        refine lv_iconst (v := 0) hx hb dX7_sentOver_22 (by decide) ?_
        refine lv_iadd hx hb dX7_sentOver_23 ?_
        refine lv_eqi (y := (nI (7 * (3 * hix + i_4) + 0))) (nI_add (7 * (3 * hix + i_4)) (0)) ?_
        refine va_iald hx hb hK hP 1 0 rfl rfl (vp_in_nI (show 7 * (3 * hix + i_4) + 0 < 1767 by omega) (by decide)) dX7_sentOver_24 ?_
        refine lv_eqi (y := (fno (7 * (3 * hix + i_4) + 0))) (congrArg fno (nI_clamp (show 7 * (3 * hix + i_4) + 0 < 2 ^ 31 by omega))) ?_
        refine lv_topi (fun y_17 _ => ?_)
        refine lv_iadd hx hb dX7_sentOver_25 ?_
        refine lv_topi (fun y_18 _ => ?_)
        refine lv_istore_n (lv' := [(2, .int y_18), (3, .int (nI i_4)), (0, .ref Mm), (1, .int (nI hix))]) hx hb dX7_sentOver_26 rfl hl (by decide) rfl (fun ls hl => ?_)
        refine lv_iinc (v := (nI (i_4 + 1))) (lv' := [(3, .int (nI (i_4 + 1))), (2, .int y_18), (0, .ref Mm), (1, .int (nI hix))]) hx hb dX7_sentOver_27 hl (k := 1) rfl (nI_1 (i_4)) (by decide) rfl (fun ls hl => ?_)
        refine lv_goto (tgt := 4) hx hb dX7_sentOver_30 (by decide) ?_
        exact loop_12_ih (i_4 + 1) y_18 (show (i_4 + 1) ≤ cc by omega) (show cc - (i_4 + 1) < Nloop_12 by omega) _ _ _ hP hD hS hl
  exact loop_12 _ 0 0 (show 0 ≤ cc by omega) (Nat.lt_succ_self _) _ _ _ hP hD hS hl

set_option maxHeartbeats 4000000 in
set_option maxRecDepth 100000 in
theorem k_X7_heldUp (l : Launch) (D : va_G) (g : Nat → ClassId) (sz : Nat) {gs : Nat → Int32} (Mm : Nat) (zh : Int32) (zc : Int32) (zth : Int32) (Mt : Nat) (tp : Nat) (zma : Int32) (zwr : Int32) (Mrr : Nat) (Mrh : Nat) (Mrc : Nat) (zrh : Int32) (zrc : Int32) (Mn : Nat) (Mf : Nat) (Mr : Nat) (Mh : Nat) (hp : Nat) (cc : Nat) (Ma : Nat) (Mas : Nat) (Msn : Nat) (Mac : Nat) (Mat : Nat) (fno : Nat → Int32) (fmh : Nat → Int32) (fmr : Nat → Int32) (fma : Nat → Int32) (fas : Nat → Int32) (tb : Nat) (ub : Nat) (h0 : tb < 2 ^ 27) (h1 : ub < 2 ^ 27) (h2 : mOK gs tb ub fno) (h3 : 1 ≤ hp) (h4 : hp ≤ 3) (h5 : 1 ≤ cc) (h6 : cc ≤ 3) (h7 : n3 fmh) : Met l yX7_heldUp wsX7_heldUp ({ frames := 6, cells := 0, slots := 0, locals := 133 }) (va_Pc [.ref Mm, .int zh, .int zc] (pre D g sz [(Mm, .inr (7, [.int zth, .ref Mt, .int (nI tp), .int zma, .int zwr, .ref Mrr, .ref Mrh, .ref Mrc, .int zrh, .int zrc, .ref Mn, .ref Mf, .ref Mr, .ref Mh, .int (nI hp), .int (nI cc), .ref Ma, .ref Mas, .ref Msn, .ref Mac, .ref Mat])), (Mn, .inl (g 0, 1767, .inl fno)), (Mh, .inl (g 0, 9, .inl fmh)), (Mr, .inl (g 0, 3, .inl fmr)), (Ma, .inl (g 0, 3, .inl fma)), (Mas, .inl (g 0, 1767, .inl fas))])) (va_Qi (fun (r : Int32) (u : va_W) => ∃ (zthx : Int32) (fnox : Nat → Int32) (fmax : Nat → Int32) (fasx : Nat → Int32), u = [(Mm, .inr (7, [.int zthx, .ref Mt, .int (nI tp), .int zma, .int zwr, .ref Mrr, .ref Mrh, .ref Mrc, .int zrh, .int zrc, .ref Mn, .ref Mf, .ref Mr, .ref Mh, .int (nI hp), .int (nI cc), .ref Ma, .ref Mas, .ref Msn, .ref Mac, .ref Mat])), (Mn, .inl (g 0, 1767, .inl fnox)), (Mh, .inl (g 0, 9, .inl fmh)), (Mr, .inl (g 0, 3, .inl fmr)), (Ma, .inl (g 0, 3, .inl fmax)), (Mas, .inl (g 0, 1767, .inl fasx))] ∧ (mOK gs tb ub fnox)) (wd D (va_A [(Mm, .inr (7, [.int zth, .ref Mt, .int (nI tp), .int zma, .int zwr, .ref Mrr, .ref Mrh, .ref Mrc, .int zrh, .int zrc, .ref Mn, .ref Mf, .ref Mr, .ref Mh, .int (nI hp), .int (nI cc), .ref Ma, .ref Mas, .ref Msn, .ref Mac, .ref Mat])), (Mn, .inl (g 0, 1767, .inl fno)), (Mh, .inl (g 0, 9, .inl fmh)), (Mr, .inl (g 0, 3, .inl fmr)), (Ma, .inl (g 0, 3, .inl fma)), (Mas, .inl (g 0, 1767, .inl fas))] sz)) (va_A [(Mm, .inr (7, [.int zth, .ref Mt, .int (nI tp), .int zma, .int zwr, .ref Mrr, .ref Mrh, .ref Mrc, .int zrh, .int zrc, .ref Mn, .ref Mf, .ref Mr, .ref Mh, .int (nI hp), .int (nI cc), .ref Ma, .ref Mas, .ref Msn, .ref Mac, .ref Mat])), (Mn, .inl (g 0, 1767, .inl fno)), (Mh, .inl (g 0, 9, .inl fmh)), (Mr, .inl (g 0, 3, .inl fmr)), (Ma, .inl (g 0, 3, .inl fma)), (Mas, .inl (g 0, 1767, .inl fas))] sz)) 0 0 (va_A [(Mm, .inr (7, [.int zth, .ref Mt, .int (nI tp), .int zma, .int zwr, .ref Mrr, .ref Mrh, .ref Mrc, .int zrh, .int zrc, .ref Mn, .ref Mf, .ref Mr, .ref Mh, .int (nI hp), .int (nI cc), .ref Ma, .ref Mas, .ref Msn, .ref Mac, .ref Mat])), (Mn, .inl (g 0, 1767, .inl fno)), (Mh, .inl (g 0, 9, .inl fmh)), (Mr, .inl (g 0, 3, .inl fmr)), (Ma, .inl (g 0, 3, .inl fma)), (Mas, .inl (g 0, 1767, .inl fas))] sz) := by
  refine Met.ofW (cc := cX7_heldUp) (maxL := 6) (ret := (some .int)) (by decide) rfl ?_
  intro p e s m args below meth c s₁ B hml hv
  obtain ⟨rfl, hsz, hP, ⟨hK, hN⟩, hD0, hZ⟩ := hv
  have hx := B.exec
  have hb := B.bytes
  have hr := B.returns
  have hts := atoms_spec (ws := wsX7_heldUp) B.pre
  have hown : s.vm.findClass RX7 = some m.cls := findClass_of_methodNamed B.named
  have hlocks := B.notSynchronized
  clear B
  subst hsz
  have hD := hD0.self (sz := s.heap.size)
  clear hD0
  generalize hAe : va_A [(Mm, .inr (7, [.int zth, .ref Mt, .int (nI tp), .int zma, .int zwr, .ref Mrr, .ref Mrh, .ref Mrc, .int zrh, .int zrc, .ref Mn, .ref Mf, .ref Mr, .ref Mh, .int (nI hp), .int (nI cc), .ref Ma, .ref Mas, .ref Msn, .ref Mac, .ref Mat])), (Mn, .inl (g 0, 1767, .inl fno)), (Mh, .inl (g 0, 9, .inl fmh)), (Mr, .inl (g 0, 3, .inl fmr)), (Ma, .inl (g 0, 3, .inl fma)), (Mas, .inl (g 0, 1767, .inl fas))] s.heap.size = A at hD hZ ⊢
  have hA : ∀ q : Nat, s.heap.size ≤ q → A q := fun q h => by rw [← hAe]; exact Or.inr h
  have hS : va_S A s.heap s.heap [] := va_S.rf
  have f22 := hts (.fieldLink RX7 22 "HopCreditsModel" "now" "[I") (List.mem_of_getElem? (i := 2) rfl)
  have f49 := hts (.fieldLink RX7 49 "HopCreditsModel" "thrown" "I") (List.mem_of_getElem? (i := 1) rfl)
  have iX7 : ∀ w ∈ u_ws RX7 TX7 21, w ∈ wsX7_heldUp := fun w h => List.mem_cons_of_mem _ (List.mem_append_right _ (h))
  have hl := lv_entry ([.ref Mm, .int zh, .int zc]) (n := 6) (Nat.le_of_ble_eq_true rfl)
  rw [lg_entry_eq]
  generalize (lg_sl ([.ref Mm, .int zh, .int zc]) ++ List.replicate (6 - (lg_sl ([.ref Mm, .int zh, .int zc])).length) Slot.unset).toArray = ls at hl ⊢
  have hl : lv_has ls 6 [(0, .ref Mm), (1, .int zh), (2, .int zc)] := hl
  generalize hQ : MQ below _ _ s _ _ _ = Q
  generalize hH : s.heap = H at hP ⊢
  have hS : va_S A s.heap H [] := by rw [← hH]; exact hS
  clear hH
  refine lv_aload_n hx hb dX7_heldUp_0 rfl (lv_at hl 0 rfl) ?_
  refine lv_iconst (v := 0) hx hb dX7_heldUp_1 (by decide) ?_
  refine va_put (D := D) (ci := 7) (v := .int 0) (ty := .int) (C := RX7) (T := TX7) (N := 21) hx hb hts iX7 tyX7 tyX7_ok nmX7 hown hK hP hD hS 0 rfl rfl 0 (by decide) f49 (fun _ h9 => h9) rfl (by decide +kernel) (rfl) (rfl) (Nat.le_of_ble_eq_true rfl) dX7_heldUp_2 (fun H locs hP2 hD2 hS2 => ?_)
  clear hP hD hS
  have hPD : PD D A [(Mm, .inr (7, [.int 0, .ref Mt, .int (nI tp), .int zma, .int zwr, .ref Mrr, .ref Mrh, .ref Mrc, .int zrh, .int zrc, .ref Mn, .ref Mf, .ref Mr, .ref Mh, .int (nI hp), .int (nI cc), .ref Ma, .ref Mas, .ref Msn, .ref Mac, .ref Mat])), (Mn, .inl (g 0, 1767, .inl fno)), (Mh, .inl (g 0, 9, .inl fmh)), (Mr, .inl (g 0, 3, .inl fmr)), (Ma, .inl (g 0, 3, .inl fma)), (Mas, .inl (g 0, 1767, .inl fas))] H := ⟨hP2, hD2⟩
  have hS := hS2; clear hP2 hD2 hS2; have hP := hPD.1; have hD := hPD.2; clear hPD
  refine lv_aload_n hx hb dX7_heldUp_5 rfl (lv_at hl 0 rfl) ?_
  refine lv_iload_n hx hb dX7_heldUp_6 rfl (lv_at hl 1 rfl) ?_
  refine lv_iload_n hx hb dX7_heldUp_7 rfl (lv_at hl 2 rfl) ?_
  refine ky_Vi (As := [.int zh, .int zc]) (rest := []) ⟨hx, hb, hml, hown, hts⟩ ⟨hK, hN⟩ hZ hP hD hS hA [0] [1, 2, 3, 4, 5] (wc := [(Mm, .inr (7, [.int 0, .ref Mt, .int (nI tp), .int zma, .int zwr, .ref Mrr, .ref Mrh, .ref Mrc, .int zrh, .int zrc, .ref Mn, .ref Mf, .ref Mr, .ref Mh, .int (nI hp), .int (nI cc), .ref Ma, .ref Mas, .ref Msn, .ref Mac, .ref Mat]))]) (wr := [(Mn, .inl (g 0, 1767, .inl fno)), (Mh, .inl (g 0, 9, .inl fmh)), (Mr, .inl (g 0, 3, .inl fmr)), (Ma, .inl (g 0, 3, .inl fma)), (Mas, .inl (g 0, 1767, .inl fas))]) rfl rfl rfl rfl (by decide) (k_X7_isLane l D g H.size Mm zh zc 0 Mt tp zma zwr Mrr Mrh Mrc zrh zrc Mn Mf Mr Mh hp cc Ma Mas Msn Mac Mat (show 1 ≤ hp by omega) (show hp ≤ 3 by omega) (show 1 ≤ cc by omega) (show cc ≤ 3 by omega)) (cwV 2 hts gX7_heldUp_X7_isLane rfl rfl rfl (by decide +kernel) ⟨(Nat.le_of_ble_eq_true rfl), (Nat.le_of_ble_eq_true rfl)⟩) 0 7 rfl rfl rfl rfl hl.1 rfl (Nat.le_of_ble_eq_true rfl) dX7_heldUp_8 ⟨(Nat.le_of_ble_eq_true rfl), (Nat.le_of_ble_eq_true rfl)⟩ (fun r_1 u H locs hw hP2 hD2 hS2 => ?_)
  clear hP hD hS
  obtain ⟨rfl, rfl⟩ := hw
  have hPD : PD D A [(Mn, .inl (g 0, 1767, .inl fno)), (Mh, .inl (g 0, 9, .inl fmh)), (Mr, .inl (g 0, 3, .inl fmr)), (Ma, .inl (g 0, 3, .inl fma)), (Mas, .inl (g 0, 1767, .inl fas)), (Mm, .inr (7, [.int 0, .ref Mt, .int (nI tp), .int zma, .int zwr, .ref Mrr, .ref Mrh, .ref Mrc, .int zrh, .int zrc, .ref Mn, .ref Mf, .ref Mr, .ref Mh, .int (nI hp), .int (nI cc), .ref Ma, .ref Mas, .ref Msn, .ref Mac, .ref Mat]))] H := ⟨hP2, hD2⟩
  have hS := hS2; clear hP2 hD2 hS2; have hP := hPD.1; have hD := hPD.2; clear hPD
  refine W.widen (k := 0) (n := 0) (Nat.le_of_ble_eq_true rfl) (Nat.le_of_ble_eq_true rfl) ?_
  refine lv_if_ne (tgt := 16) hx hb dX7_heldUp_11 (by decide) (fun cb_2 => ?_) (fun cb_2 => ?_)
  · skip
    have hq_3 : (0 ≤ zh ∧ zh ≤ (nI (hp - 1))) ∧ (0 ≤ zc ∧ zc ≤ (nI (cc - 1))) := b01_1.mp cb_2
    have hq_4 := hq_3.1; have hq_5 := hq_3.2
    have hPq_9 := hP; have hDq_9 := hD; have hSq_9 := hS; have hlq_9 := hl; clear hP hD hS hl
    obtain ⟨j_6, hl_7, hu_8, rfl⟩ := rg (L := 0) (U := hp - 1) rfl rfl (show 0 < 2 ^ 31 by omega) (show hp - 1 < 2 ^ 31 by omega) hq_4
    have hP := hPq_9; have hD := hDq_9; have hS := hSq_9; have hl := hlq_9; clear hPq_9 hDq_9 hSq_9 hlq_9
    have hPq_13 := hP; have hDq_13 := hD; have hSq_13 := hS; have hlq_13 := hl; clear hP hD hS hl
    obtain ⟨j_10, hl_11, hu_12, rfl⟩ := rg (L := 0) (U := cc - 1) rfl rfl (show 0 < 2 ^ 31 by omega) (show cc - 1 < 2 ^ 31 by omega) hq_5
    have hP := hPq_13; have hD := hDq_13; have hS := hSq_13; have hl := hlq_13; clear hPq_13 hDq_13 hSq_13 hlq_13
    refine lv_aload_n hx hb dX7_heldUp_16 rfl (lv_at hl 0 rfl) ?_
    refine ky_Vv (As := []) (rest := []) ⟨hx, hb, hml, hown, hts⟩ ⟨hK, hN⟩ hZ hP hD hS hA [5, 0, 4] [1, 2, 3] (wc := [(Mm, .inr (7, [.int 0, .ref Mt, .int (nI tp), .int zma, .int zwr, .ref Mrr, .ref Mrh, .ref Mrc, .int zrh, .int zrc, .ref Mn, .ref Mf, .ref Mr, .ref Mh, .int (nI hp), .int (nI cc), .ref Ma, .ref Mas, .ref Msn, .ref Mac, .ref Mat])), (Mn, .inl (g 0, 1767, .inl fno)), (Mas, .inl (g 0, 1767, .inl fas))]) (wr := [(Mh, .inl (g 0, 9, .inl fmh)), (Mr, .inl (g 0, 3, .inl fmr)), (Ma, .inl (g 0, 3, .inl fma))]) rfl rfl rfl rfl (by decide) (k_X7_putAside l D g H.size Mm 0 Mt tp zma zwr Mrr Mrh Mrc zrh zrc Mn Mf Mr Mh hp cc Ma Mas Msn Mac Mat fno fas tb ub (h2)) (cwV 0 hts gX7_heldUp_X7_putAside rfl rfl rfl (by decide +kernel) ⟨(Nat.le_of_ble_eq_true rfl), (Nat.le_of_ble_eq_true rfl)⟩) 5 7 rfl rfl rfl rfl hl.1 rfl (Nat.le_of_ble_eq_true rfl) dX7_heldUp_17 ⟨(Nat.le_of_ble_eq_true rfl), (Nat.le_of_ble_eq_true rfl)⟩ (fun u H locs hw hP2 hD2 hS2 => ?_)
    clear hP hD hS
    obtain ⟨fasx_15, rfl, hf_16⟩ := hw
    have hPD : PD D A [(Mh, .inl (g 0, 9, .inl fmh)), (Mr, .inl (g 0, 3, .inl fmr)), (Ma, .inl (g 0, 3, .inl fma)), (Mm, .inr (7, [.int 0, .ref Mt, .int (nI tp), .int zma, .int zwr, .ref Mrr, .ref Mrh, .ref Mrc, .int zrh, .int zrc, .ref Mn, .ref Mf, .ref Mr, .ref Mh, .int (nI hp), .int (nI cc), .ref Ma, .ref Mas, .ref Msn, .ref Mac, .ref Mat])), (Mn, .inl (g 0, 1767, .inl fno)), (Mas, .inl (g 0, 1767, .inl fasx_15))] H := ⟨hP2, hD2⟩
    have hS := hS2; clear hP2 hD2 hS2; have hP := hPD.1; have hD := hPD.2; clear hPD
    refine W.widen (k := 0) (n := 0) (Nat.le_of_ble_eq_true rfl) (Nat.le_of_ble_eq_true rfl) ?_
    refine lv_iconst (v := (-1)) hx hb dX7_heldUp_20 (by decide) ?_
    refine lv_istore_n (lv' := [(3, .int (-1)), (0, .ref Mm), (1, .int (nI j_6)), (2, .int (nI j_10))]) hx hb dX7_heldUp_21 rfl hl (by decide) rfl (fun ls hl => ?_)
    refine lv_iconst (v := 1) hx hb dX7_heldUp_22 (by decide) ?_
    refine lv_istore (lv' := [(4, .int 1), (3, .int (-1)), (0, .ref Mm), (1, .int (nI j_6)), (2, .int (nI j_10))]) hx hb dX7_heldUp_23 hl (by decide) rfl (fun ls hl => ?_)
    have loop_44 : ∀ (Nloop_44 : Nat) (i_26 : Nat) (F_27 : Nat → Int32) (F_28 : Nat → Int32) (i_29 : Int32) (T9 : Nat) (hT9 : T9 ≤ tb + i_26) (hF_27 : mOK gs T9 (ub + 6 * i_26) F_27) (hbi_26 : i_26 ≤ 200 + 1) (hmloop_44 : (200 + 1) - i_26 < Nloop_44) (H : Heap) (locs : List Loc) (ls : Array Slot), va_P D vwCl [(Mh, .inl (g 0, 9, .inl fmh)), (Mr, .inl (g 0, 3, .inl fmr)), (Ma, .inl (g 0, 3, .inl F_28)), (Mm, .inr (7, [.int 0, .ref Mt, .int (nI tp), .int zma, .int zwr, .ref Mrr, .ref Mrh, .ref Mrc, .int zrh, .int zrc, .ref Mn, .ref Mf, .ref Mr, .ref Mh, .int (nI hp), .int (nI cc), .ref Ma, .ref Mas, .ref Msn, .ref Mac, .ref Mat])), (Mn, .inl (g 0, 1767, .inl F_27)), (Mas, .inl (g 0, 1767, .inl fasx_15))] H → va_D A [(Mh, .inl (g 0, 9, .inl fmh)), (Mr, .inl (g 0, 3, .inl fmr)), (Ma, .inl (g 0, 3, .inl F_28)), (Mm, .inr (7, [.int 0, .ref Mt, .int (nI tp), .int zma, .int zwr, .ref Mrr, .ref Mrh, .ref Mrc, .int zrh, .int zrc, .ref Mn, .ref Mf, .ref Mr, .ref Mh, .int (nI hp), .int (nI cc), .ref Ma, .ref Mas, .ref Msn, .ref Mac, .ref Mat])), (Mn, .inl (g 0, 1767, .inl F_27)), (Mas, .inl (g 0, 1767, .inl fasx_15))] → va_S A s.heap H locs → lv_has ls 6 [(4, .int (nI i_26)), (3, .int i_29), (0, .ref Mm), (1, .int (nI j_6)), (2, .int (nI j_10))] → W p l e (headSpec wsX7_heldUp ({ frames := 6, cells := 0, slots := 0, locals := 133 })).room s m ([.ref Mm, .int (nI j_6), .int (nI j_10)] : List Value).toArray below meth c H locs 0 0 Q (F0 m 25 ls []) := by
      clear hP hD hS hl
      intro Nloop_44
      induction Nloop_44 with
      | zero => intro i_26 F_27 F_28 i_29 T9 hT9 hF_27 hbi_26 hm9; exact absurd hm9 (Nat.not_lt_zero _)
      | succ Nloop_44 loop_44_ih =>
        intro i_26 F_27 F_28 i_29 T9 hT9 hF_27 hbi_26 hmloop_44 H locs ls hP hD hS hl
        refine lv_iload hx hb dX7_heldUp_25 (lv_at hl 0 rfl) ?_
        refine lv_sipush (v := 200) hx hb dX7_heldUp_27 (by decide) ?_
        refine lv_icmp_gt (tgt := 86) hx hb dX7_heldUp_30 (by decide) (fun cb_45 => ?_) (fun cb_45 => ?_)
        · skip
          have cn_46 : 200 < i_26 := (nI_ltI (show 200 < 2 ^ 31 by omega) (show i_26 < 2 ^ 31 by omega)).mp cb_45
          refine lv_aload_n hx hb dX7_heldUp_86 rfl (lv_at hl 2 rfl) ?_
          refine ky_Vv (As := []) (rest := []) ⟨hx, hb, hml, hown, hts⟩ ⟨hK, hN⟩ hZ hP hD hS hA [3, 4, 5] [0, 1, 2] (wc := [(Mm, .inr (7, [.int 0, .ref Mt, .int (nI tp), .int zma, .int zwr, .ref Mrr, .ref Mrh, .ref Mrc, .int zrh, .int zrc, .ref Mn, .ref Mf, .ref Mr, .ref Mh, .int (nI hp), .int (nI cc), .ref Ma, .ref Mas, .ref Msn, .ref Mac, .ref Mat])), (Mn, .inl (g 0, 1767, .inl F_27)), (Mas, .inl (g 0, 1767, .inl fasx_15))]) (wr := [(Mh, .inl (g 0, 9, .inl fmh)), (Mr, .inl (g 0, 3, .inl fmr)), (Ma, .inl (g 0, 3, .inl F_28))]) rfl rfl rfl rfl (by decide) (k_X7_bringBack l D g H.size Mm 0 Mt tp zma zwr Mrr Mrh Mrc zrh zrc Mn Mf Mr Mh hp cc Ma Mas Msn Mac Mat F_27 fasx_15 tb ub (hf_16)) (cwV 0 hts gX7_heldUp_X7_bringBack rfl rfl rfl (by decide +kernel) ⟨(Nat.le_of_ble_eq_true rfl), (Nat.le_of_ble_eq_true rfl)⟩) 3 7 rfl rfl rfl rfl hl.1 rfl (Nat.le_of_ble_eq_true rfl) dX7_heldUp_87 ⟨(Nat.le_of_ble_eq_true rfl), (Nat.le_of_ble_eq_true rfl)⟩ (fun u H locs hw hP2 hD2 hS2 => ?_)
          clear hP hD hS
          obtain ⟨fnox_48, rfl, hf_49⟩ := hw
          have hPD : PD D A [(Mh, .inl (g 0, 9, .inl fmh)), (Mr, .inl (g 0, 3, .inl fmr)), (Ma, .inl (g 0, 3, .inl F_28)), (Mm, .inr (7, [.int 0, .ref Mt, .int (nI tp), .int zma, .int zwr, .ref Mrr, .ref Mrh, .ref Mrc, .int zrh, .int zrc, .ref Mn, .ref Mf, .ref Mr, .ref Mh, .int (nI hp), .int (nI cc), .ref Ma, .ref Mas, .ref Msn, .ref Mac, .ref Mat])), (Mn, .inl (g 0, 1767, .inl fnox_48)), (Mas, .inl (g 0, 1767, .inl fasx_15))] H := ⟨hP2, hD2⟩
          have hS := hS2; clear hP2 hD2 hS2; have hP := hPD.1; have hD := hPD.2; clear hPD
          refine W.widen (k := 0) (n := 0) (Nat.le_of_ble_eq_true rfl) (Nat.le_of_ble_eq_true rfl) ?_
          refine lv_iload_n hx hb dX7_heldUp_90 rfl (lv_at hl 1 rfl) ?_
          have hPD9 : PD D A [(Mm, .inr (7, [.int 0, .ref Mt, .int (nI tp), .int zma, .int zwr, .ref Mrr, .ref Mrh, .ref Mrc, .int zrh, .int zrc, .ref Mn, .ref Mf, .ref Mr, .ref Mh, .int (nI hp), .int (nI cc), .ref Ma, .ref Mas, .ref Msn, .ref Mac, .ref Mat])), (Mn, .inl (g 0, 1767, .inl fnox_48)), (Mh, .inl (g 0, 9, .inl fmh)), (Mr, .inl (g 0, 3, .inl fmr)), (Ma, .inl (g 0, 3, .inl F_28)), (Mas, .inl (g 0, 1767, .inl fasx_15))] H := ⟨hP.sub [3, 4, 0, 1, 2, 5] rfl, hD.sub [3, 4, 0, 1, 2, 5] (by decide) rfl⟩
          have hP9 := hPD9.1; have hD9 := hPD9.2
          subst hQ
          refine W.widen (k := 0) (n := 0) (Nat.le_of_ble_eq_true rfl) (Nat.le_of_ble_eq_true rfl) ?_
          exact W.iret (v := i_29) hx hb hr (fun tS htS _ => ⟨⟨_, _, rfl, ⟨0, fnox_48, F_28, fasx_15, rfl, (hf_49)⟩, by rw [htS]; exact hP9, hD9⟩, hS.F htS⟩) hS.2.2 dX7_heldUp_91
        · skip
          have cn_50 : i_26 ≤ 200 := Nat.le_of_not_lt (fun q9 => cb_45 ((nI_ltI (show 200 < 2 ^ 31 by omega) (show i_26 < 2 ^ 31 by omega)).mpr q9))
          refine lv_iload_n hx hb dX7_heldUp_33 rfl (lv_at hl 1 rfl) ?_
          refine lv_iconst (v := (-1)) hx hb dX7_heldUp_34 (by decide) ?_
          refine lv_icmp_ne (tgt := 86) hx hb dX7_heldUp_35 (by decide) (fun cb_51 => ?_) (fun cb_51 => ?_)
          · skip
            refine lv_aload_n hx hb dX7_heldUp_86 rfl (lv_at hl 2 rfl) ?_
            refine ky_Vv (As := []) (rest := []) ⟨hx, hb, hml, hown, hts⟩ ⟨hK, hN⟩ hZ hP hD hS hA [3, 4, 5] [0, 1, 2] (wc := [(Mm, .inr (7, [.int 0, .ref Mt, .int (nI tp), .int zma, .int zwr, .ref Mrr, .ref Mrh, .ref Mrc, .int zrh, .int zrc, .ref Mn, .ref Mf, .ref Mr, .ref Mh, .int (nI hp), .int (nI cc), .ref Ma, .ref Mas, .ref Msn, .ref Mac, .ref Mat])), (Mn, .inl (g 0, 1767, .inl F_27)), (Mas, .inl (g 0, 1767, .inl fasx_15))]) (wr := [(Mh, .inl (g 0, 9, .inl fmh)), (Mr, .inl (g 0, 3, .inl fmr)), (Ma, .inl (g 0, 3, .inl F_28))]) rfl rfl rfl rfl (by decide) (k_X7_bringBack l D g H.size Mm 0 Mt tp zma zwr Mrr Mrh Mrc zrh zrc Mn Mf Mr Mh hp cc Ma Mas Msn Mac Mat F_27 fasx_15 tb ub (hf_16)) (cwV 0 hts gX7_heldUp_X7_bringBack rfl rfl rfl (by decide +kernel) ⟨(Nat.le_of_ble_eq_true rfl), (Nat.le_of_ble_eq_true rfl)⟩) 3 7 rfl rfl rfl rfl hl.1 rfl (Nat.le_of_ble_eq_true rfl) dX7_heldUp_87 ⟨(Nat.le_of_ble_eq_true rfl), (Nat.le_of_ble_eq_true rfl)⟩ (fun u H locs hw hP2 hD2 hS2 => ?_)
            clear hP hD hS
            obtain ⟨fnox_53, rfl, hf_54⟩ := hw
            have hPD : PD D A [(Mh, .inl (g 0, 9, .inl fmh)), (Mr, .inl (g 0, 3, .inl fmr)), (Ma, .inl (g 0, 3, .inl F_28)), (Mm, .inr (7, [.int 0, .ref Mt, .int (nI tp), .int zma, .int zwr, .ref Mrr, .ref Mrh, .ref Mrc, .int zrh, .int zrc, .ref Mn, .ref Mf, .ref Mr, .ref Mh, .int (nI hp), .int (nI cc), .ref Ma, .ref Mas, .ref Msn, .ref Mac, .ref Mat])), (Mn, .inl (g 0, 1767, .inl fnox_53)), (Mas, .inl (g 0, 1767, .inl fasx_15))] H := ⟨hP2, hD2⟩
            have hS := hS2; clear hP2 hD2 hS2; have hP := hPD.1; have hD := hPD.2; clear hPD
            refine W.widen (k := 0) (n := 0) (Nat.le_of_ble_eq_true rfl) (Nat.le_of_ble_eq_true rfl) ?_
            refine lv_iload_n hx hb dX7_heldUp_90 rfl (lv_at hl 1 rfl) ?_
            have hPD9 : PD D A [(Mm, .inr (7, [.int 0, .ref Mt, .int (nI tp), .int zma, .int zwr, .ref Mrr, .ref Mrh, .ref Mrc, .int zrh, .int zrc, .ref Mn, .ref Mf, .ref Mr, .ref Mh, .int (nI hp), .int (nI cc), .ref Ma, .ref Mas, .ref Msn, .ref Mac, .ref Mat])), (Mn, .inl (g 0, 1767, .inl fnox_53)), (Mh, .inl (g 0, 9, .inl fmh)), (Mr, .inl (g 0, 3, .inl fmr)), (Ma, .inl (g 0, 3, .inl F_28)), (Mas, .inl (g 0, 1767, .inl fasx_15))] H := ⟨hP.sub [3, 4, 0, 1, 2, 5] rfl, hD.sub [3, 4, 0, 1, 2, 5] (by decide) rfl⟩
            have hP9 := hPD9.1; have hD9 := hPD9.2
            subst hQ
            refine W.widen (k := 0) (n := 0) (Nat.le_of_ble_eq_true rfl) (Nat.le_of_ble_eq_true rfl) ?_
            exact W.iret (v := i_29) hx hb hr (fun tS htS _ => ⟨⟨_, _, rfl, ⟨0, fnox_53, F_28, fasx_15, rfl, (hf_54)⟩, by rw [htS]; exact hP9, hD9⟩, hS.F htS⟩) hS.2.2 dX7_heldUp_91
          · skip
            have hPq_55 := hP; have hDq_55 := hD; have hSq_55 := hS; have hlq_55 := hl; clear hP hD hS hl
            subst cb_51
            have hP := hPq_55; have hD := hDq_55; have hS := hSq_55; have hl := hlq_55; clear hPq_55 hDq_55 hSq_55 hlq_55
            refine lv_aload_n hx hb dX7_heldUp_38 rfl (lv_at hl 2 rfl) ?_
            refine va_get (D := D) (ci := 7) (v := .ref Mn) (C := RX7) (T := TX7) (N := 21) hx hb hts iX7 hown hK hP 3 rfl rfl 10 (by decide) f22 (fun _ h9 => h9) rfl dX7_heldUp_39 ?_
            refine lv_iload_n hx hb dX7_heldUp_42 rfl (lv_at hl 3 rfl) ?_
            refine lv_iload_n hx hb dX7_heldUp_43 rfl (lv_at hl 4 rfl) ?_
            refine ky_Si (As := [.int (nI j_6), .int (nI j_10)]) (rest := [.ref Mn]) ⟨hx, hb, hml, hown, hts⟩ ⟨hK, hN⟩ hZ hP hD hS hA [] [0, 1, 2, 3, 4, 5] (wc := []) (wr := [(Mh, .inl (g 0, 9, .inl fmh)), (Mr, .inl (g 0, 3, .inl fmr)), (Ma, .inl (g 0, 3, .inl F_28)), (Mm, .inr (7, [.int 0, .ref Mt, .int (nI tp), .int zma, .int zwr, .ref Mrr, .ref Mrh, .ref Mrc, .int zrh, .int zrc, .ref Mn, .ref Mf, .ref Mr, .ref Mh, .int (nI hp), .int (nI cc), .ref Ma, .ref Mas, .ref Msn, .ref Mac, .ref Mat])), (Mn, .inl (g 0, 1767, .inl F_27)), (Mas, .inl (g 0, 1767, .inl fasx_15))]) rfl rfl rfl rfl (by decide) (k_X7_lane l D g H.size j_6 j_10 (show j_6 < 3 by omega) (show j_10 < 3 by omega)) (va_cwS 2 hts gX7_heldUp_X7_lane rfl rfl rfl (by decide +kernel) ⟨(Nat.le_of_ble_eq_true rfl), (Nat.le_of_ble_eq_true rfl)⟩) rfl hl.1 rfl (Nat.le_of_ble_eq_true rfl) dX7_heldUp_44 ⟨(Nat.le_of_ble_eq_true rfl), (Nat.le_of_ble_eq_true rfl)⟩ (fun r_56 u H locs hw hP2 hD2 hS2 => ?_)
            clear hP hD hS
            obtain ⟨rfl, rfl⟩ := hw
            have hPD : PD D A [(Mh, .inl (g 0, 9, .inl fmh)), (Mr, .inl (g 0, 3, .inl fmr)), (Ma, .inl (g 0, 3, .inl F_28)), (Mm, .inr (7, [.int 0, .ref Mt, .int (nI tp), .int zma, .int zwr, .ref Mrr, .ref Mrh, .ref Mrc, .int zrh, .int zrc, .ref Mn, .ref Mf, .ref Mr, .ref Mh, .int (nI hp), .int (nI cc), .ref Ma, .ref Mas, .ref Msn, .ref Mac, .ref Mat])), (Mn, .inl (g 0, 1767, .inl F_27)), (Mas, .inl (g 0, 1767, .inl fasx_15))] H := ⟨hP2, hD2⟩
            have hS := hS2; clear hP2 hD2 hS2; have hP := hPD.1; have hD := hPD.2; clear hPD
            refine W.widen (k := 0) (n := 0) (Nat.le_of_ble_eq_true rfl) (Nat.le_of_ble_eq_true rfl) ?_
            refine lv_iconst (v := 0) hx hb dX7_heldUp_47 (by decide) ?_
            refine lv_iadd hx hb dX7_heldUp_48 ?_
            refine lv_eqi (y := (nI (7 * (3 * j_6 + j_10) + 0))) (nI_add (7 * (3 * j_6 + j_10)) (0)) ?_
            refine va_iald hx hb hK hP 4 0 rfl rfl (vp_in_nI (show 7 * (3 * j_6 + j_10) + 0 < 1767 by omega) (by decide)) dX7_heldUp_49 ?_
            refine lv_eqi (y := (F_27 (7 * (3 * j_6 + j_10) + 0))) (congrArg F_27 (nI_clamp (show 7 * (3 * j_6 + j_10) + 0 < 2 ^ 31 by omega))) ?_
            refine lv_topi (fun y_57 _ => ?_)
            refine lv_istore (lv' := [(5, .int y_57), (4, .int (nI i_26)), (3, .int (-1)), (0, .ref Mm), (1, .int (nI j_6)), (2, .int (nI j_10))]) hx hb dX7_heldUp_50 hl (by decide) rfl (fun ls hl => ?_)
            refine lv_aload_n hx hb dX7_heldUp_52 rfl (lv_at hl 3 rfl) ?_
            refine ky_Vv (As := []) (rest := []) ⟨hx, hb, hml, hown, hts⟩ ⟨hK, hN⟩ hZ hP hD hS hA [3, 4, 0, 1, 2] [5] (wc := [(Mm, .inr (7, [.int 0, .ref Mt, .int (nI tp), .int zma, .int zwr, .ref Mrr, .ref Mrh, .ref Mrc, .int zrh, .int zrc, .ref Mn, .ref Mf, .ref Mr, .ref Mh, .int (nI hp), .int (nI cc), .ref Ma, .ref Mas, .ref Msn, .ref Mac, .ref Mat])), (Mn, .inl (g 0, 1767, .inl F_27)), (Mh, .inl (g 0, 9, .inl fmh)), (Mr, .inl (g 0, 3, .inl fmr)), (Ma, .inl (g 0, 3, .inl F_28))]) (wr := [(Mas, .inl (g 0, 1767, .inl fasx_15))]) rfl rfl rfl rfl (by decide) (k_X7_ticks l D g H.size Mm 0 Mt tp zma zwr Mrr Mrh Mrc zrh zrc Mn Mf Mr Mh hp cc Ma Mas Msn Mac Mat F_27 fmh fmr F_28 T9 (ub + 6 * i_26) (show T9 < 2 ^ 28 by omega) (show ub + 6 * i_26 < 2 ^ 28 by omega) (hF_27) (show 1 ≤ hp by omega) (show hp ≤ 3 by omega) (show 1 ≤ cc by omega) (show cc ≤ 3 by omega) (h7)) (cwV 0 hts gX7_heldUp_X7_ticks rfl rfl rfl (by decide +kernel) ⟨(Nat.le_of_ble_eq_true rfl), (Nat.le_of_ble_eq_true rfl)⟩) 3 7 rfl rfl rfl rfl hl.1 rfl (Nat.le_of_ble_eq_true rfl) dX7_heldUp_53 ⟨(Nat.le_of_ble_eq_true rfl), (Nat.le_of_ble_eq_true rfl)⟩ (fun u H locs hw hP2 hD2 hS2 => ?_)
            clear hP hD hS
            obtain ⟨fnox_59, fmax_60, rfl, hf_61⟩ := hw
            have hPD : PD D A [(Mas, .inl (g 0, 1767, .inl fasx_15)), (Mm, .inr (7, [.int 0, .ref Mt, .int (nI tp), .int zma, .int zwr, .ref Mrr, .ref Mrh, .ref Mrc, .int zrh, .int zrc, .ref Mn, .ref Mf, .ref Mr, .ref Mh, .int (nI hp), .int (nI cc), .ref Ma, .ref Mas, .ref Msn, .ref Mac, .ref Mat])), (Mn, .inl (g 0, 1767, .inl fnox_59)), (Mh, .inl (g 0, 9, .inl fmh)), (Mr, .inl (g 0, 3, .inl fmr)), (Ma, .inl (g 0, 3, .inl fmax_60))] H := ⟨hP2, hD2⟩
            have hS := hS2; clear hP2 hD2 hS2; have hP := hPD.1; have hD := hPD.2; clear hPD
            refine W.widen (k := 0) (n := 0) (Nat.le_of_ble_eq_true rfl) (Nat.le_of_ble_eq_true rfl) ?_
            refine lv_aload_n hx hb dX7_heldUp_56 rfl (lv_at hl 3 rfl) ?_
            refine va_get (D := D) (ci := 7) (v := .ref Mn) (C := RX7) (T := TX7) (N := 21) hx hb hts iX7 hown hK hP 1 rfl rfl 10 (by decide) f22 (fun _ h9 => h9) rfl dX7_heldUp_57 ?_
            refine lv_iload_n hx hb dX7_heldUp_60 rfl (lv_at hl 4 rfl) ?_
            refine lv_iload_n hx hb dX7_heldUp_61 rfl (lv_at hl 5 rfl) ?_
            refine ky_Si (As := [.int (nI j_6), .int (nI j_10)]) (rest := [.ref Mn]) ⟨hx, hb, hml, hown, hts⟩ ⟨hK, hN⟩ hZ hP hD hS hA [] [0, 1, 2, 3, 4, 5] (wc := []) (wr := [(Mas, .inl (g 0, 1767, .inl fasx_15)), (Mm, .inr (7, [.int 0, .ref Mt, .int (nI tp), .int zma, .int zwr, .ref Mrr, .ref Mrh, .ref Mrc, .int zrh, .int zrc, .ref Mn, .ref Mf, .ref Mr, .ref Mh, .int (nI hp), .int (nI cc), .ref Ma, .ref Mas, .ref Msn, .ref Mac, .ref Mat])), (Mn, .inl (g 0, 1767, .inl fnox_59)), (Mh, .inl (g 0, 9, .inl fmh)), (Mr, .inl (g 0, 3, .inl fmr)), (Ma, .inl (g 0, 3, .inl fmax_60))]) rfl rfl rfl rfl (by decide) (k_X7_lane l D g H.size j_6 j_10 (show j_6 < 3 by omega) (show j_10 < 3 by omega)) (va_cwS 2 hts gX7_heldUp_X7_lane rfl rfl rfl (by decide +kernel) ⟨(Nat.le_of_ble_eq_true rfl), (Nat.le_of_ble_eq_true rfl)⟩) rfl hl.1 rfl (Nat.le_of_ble_eq_true rfl) dX7_heldUp_62 ⟨(Nat.le_of_ble_eq_true rfl), (Nat.le_of_ble_eq_true rfl)⟩ (fun r_62 u H locs hw hP2 hD2 hS2 => ?_)
            clear hP hD hS
            obtain ⟨rfl, rfl⟩ := hw
            have hPD : PD D A [(Mas, .inl (g 0, 1767, .inl fasx_15)), (Mm, .inr (7, [.int 0, .ref Mt, .int (nI tp), .int zma, .int zwr, .ref Mrr, .ref Mrh, .ref Mrc, .int zrh, .int zrc, .ref Mn, .ref Mf, .ref Mr, .ref Mh, .int (nI hp), .int (nI cc), .ref Ma, .ref Mas, .ref Msn, .ref Mac, .ref Mat])), (Mn, .inl (g 0, 1767, .inl fnox_59)), (Mh, .inl (g 0, 9, .inl fmh)), (Mr, .inl (g 0, 3, .inl fmr)), (Ma, .inl (g 0, 3, .inl fmax_60))] H := ⟨hP2, hD2⟩
            have hS := hS2; clear hP2 hD2 hS2; have hP := hPD.1; have hD := hPD.2; clear hPD
            refine W.widen (k := 0) (n := 0) (Nat.le_of_ble_eq_true rfl) (Nat.le_of_ble_eq_true rfl) ?_
            refine lv_iconst (v := 0) hx hb dX7_heldUp_65 (by decide) ?_
            refine lv_iadd hx hb dX7_heldUp_66 ?_
            refine lv_eqi (y := (nI (7 * (3 * j_6 + j_10) + 0))) (nI_add (7 * (3 * j_6 + j_10)) (0)) ?_
            refine va_iald hx hb hK hP 2 0 rfl rfl (vp_in_nI (show 7 * (3 * j_6 + j_10) + 0 < 1767 by omega) (by decide)) dX7_heldUp_67 ?_
            refine lv_eqi (y := (fnox_59 (7 * (3 * j_6 + j_10) + 0))) (congrArg fnox_59 (nI_clamp (show 7 * (3 * j_6 + j_10) + 0 < 2 ^ 31 by omega))) ?_
            refine lv_topi (fun y_63 _ => ?_)
            refine lv_iload hx hb dX7_heldUp_68 (lv_at hl 0 rfl) ?_
            refine lv_icmp_eq (tgt := 78) hx hb dX7_heldUp_70 (by decide) (fun cb_64 => ?_) (fun cb_64 => ?_)
            · skip
              refine lv_iconst (v := (-1)) hx hb dX7_heldUp_78 (by decide) ?_
              refine lv_istore_n (lv' := [(3, .int (-1)), (5, .int y_57), (4, .int (nI i_26)), (0, .ref Mm), (1, .int (nI j_6)), (2, .int (nI j_10))]) hx hb dX7_heldUp_79 rfl hl (by decide) rfl (fun ls hl => ?_)
              refine lv_iinc (v := (nI (i_26 + 1))) (lv' := [(4, .int (nI (i_26 + 1))), (3, .int (-1)), (5, .int y_57), (0, .ref Mm), (1, .int (nI j_6)), (2, .int (nI j_10))]) hx hb dX7_heldUp_80 hl (k := 2) rfl (nI_1 (i_26)) (by decide) rfl (fun ls hl => ?_)
              refine lv_goto (tgt := 25) hx hb dX7_heldUp_83 (by decide) ?_
              exact loop_44_ih (i_26 + 1) fnox_59 fmax_60 (-1) (T9 + 1) (by omega) (mOK_le hf_61 rfl (show ub + 6 * i_26 + 6 ≤ ub + 6 * (i_26 + 1) by omega)) (show (i_26 + 1) ≤ 200 + 1 by omega) (show (200 + 1) - (i_26 + 1) < Nloop_44 by omega) _ _ _ (hP.sub [3, 4, 5, 1, 2, 0] rfl) (hD.sub [3, 4, 5, 1, 2, 0] (by decide) rfl) hS (lv_sub hl [0, 1, 3, 4, 5] rfl)
            · skip
              refine lv_iload hx hb dX7_heldUp_73 (lv_at hl 1 rfl) ?_
              refine lv_goto (tgt := 79) hx hb dX7_heldUp_75 (by decide) ?_
              refine lv_istore_n (lv' := [(3, .int (nI i_26)), (5, .int y_57), (4, .int (nI i_26)), (0, .ref Mm), (1, .int (nI j_6)), (2, .int (nI j_10))]) hx hb dX7_heldUp_79 rfl hl (by decide) rfl (fun ls hl => ?_)
              refine lv_iinc (v := (nI (i_26 + 1))) (lv' := [(4, .int (nI (i_26 + 1))), (3, .int (nI i_26)), (5, .int y_57), (0, .ref Mm), (1, .int (nI j_6)), (2, .int (nI j_10))]) hx hb dX7_heldUp_80 hl (k := 2) rfl (nI_1 (i_26)) (by decide) rfl (fun ls hl => ?_)
              refine lv_goto (tgt := 25) hx hb dX7_heldUp_83 (by decide) ?_
              exact loop_44_ih (i_26 + 1) fnox_59 fmax_60 (nI i_26) (T9 + 1) (by omega) (mOK_le hf_61 rfl (show ub + 6 * i_26 + 6 ≤ ub + 6 * (i_26 + 1) by omega)) (show (i_26 + 1) ≤ 200 + 1 by omega) (show (200 + 1) - (i_26 + 1) < Nloop_44 by omega) _ _ _ (hP.sub [3, 4, 5, 1, 2, 0] rfl) (hD.sub [3, 4, 5, 1, 2, 0] (by decide) rfl) hS (lv_sub hl [0, 1, 3, 4, 5] rfl)
    exact loop_44 _ 1 fno fma (-1) tb (by omega) (mOK_le h2 rfl (show ub ≤ ub + 6 * 1 by omega)) (show 1 ≤ 200 + 1 by omega) (Nat.lt_succ_self _) _ _ _ hP hD hS hl
  · skip
    have hq_65 : ¬ ((0 ≤ zh ∧ zh ≤ (nI (hp - 1))) ∧ (0 ≤ zc ∧ zc ≤ (nI (cc - 1)))) := b01_0.mp cb_2
    refine lv_iconst (v := (-1)) hx hb dX7_heldUp_14 (by decide) ?_
    have hPD9 : PD D A [(Mm, .inr (7, [.int 0, .ref Mt, .int (nI tp), .int zma, .int zwr, .ref Mrr, .ref Mrh, .ref Mrc, .int zrh, .int zrc, .ref Mn, .ref Mf, .ref Mr, .ref Mh, .int (nI hp), .int (nI cc), .ref Ma, .ref Mas, .ref Msn, .ref Mac, .ref Mat])), (Mn, .inl (g 0, 1767, .inl fno)), (Mh, .inl (g 0, 9, .inl fmh)), (Mr, .inl (g 0, 3, .inl fmr)), (Ma, .inl (g 0, 3, .inl fma)), (Mas, .inl (g 0, 1767, .inl fas))] H := ⟨hP.sub [5, 0, 1, 2, 3, 4] rfl, hD.sub [5, 0, 1, 2, 3, 4] (by decide) rfl⟩
    have hP9 := hPD9.1; have hD9 := hPD9.2
    subst hQ
    refine W.widen (k := 0) (n := 0) (Nat.le_of_ble_eq_true rfl) (Nat.le_of_ble_eq_true rfl) ?_
    exact W.iret (v := (-1)) hx hb hr (fun tS htS _ => ⟨⟨_, _, rfl, ⟨0, fno, fma, fas, rfl, (h2)⟩, by rw [htS]; exact hP9, hD9⟩, hS.F htS⟩) hS.2.2 dX7_heldUp_15

set_option maxHeartbeats 4000000 in
set_option maxRecDepth 100000 in
theorem k_X7_idleOf (l : Launch) (D : va_G) (g : Nat → ClassId) (sz : Nat) {gs : Nat → Int32} (Mm : Nat) (hix : Nat) (nx : Nat) (zth : Int32) (Mt : Nat) (tp : Nat) (zma : Int32) (zwr : Int32) (Mrr : Nat) (Mrh : Nat) (Mrc : Nat) (zrh : Int32) (zrc : Int32) (Mn : Nat) (Mf : Nat) (Mr : Nat) (Mh : Nat) (hp : Nat) (cc : Nat) (Ma : Nat) (Mas : Nat) (Msn : Nat) (Mac : Nat) (Mat : Nat) (fno : Nat → Int32) (fmh : Nat → Int32) (fmr : Nat → Int32) (fma : Nat → Int32) (fas : Nat → Int32) (tb : Nat) (ub : Nat) (h0 : tb < 2 ^ 27) (h1 : ub < 2 ^ 27) (h2 : mOK gs tb ub fno) (h3 : 1 ≤ hp) (h4 : hp ≤ 3) (h5 : 1 ≤ cc) (h6 : cc ≤ 3) (h7 : n3 fmh) (h8 : hix < 3) (h9 : nx ≤ 200) : Met l yX7_idleOf wsX7_idleOf ({ frames := 6, cells := 0, slots := 0, locals := 133 }) (va_Pc [.ref Mm, .int (nI hix), .int (nI nx)] (pre D g sz [(Mm, .inr (7, [.int zth, .ref Mt, .int (nI tp), .int zma, .int zwr, .ref Mrr, .ref Mrh, .ref Mrc, .int zrh, .int zrc, .ref Mn, .ref Mf, .ref Mr, .ref Mh, .int (nI hp), .int (nI cc), .ref Ma, .ref Mas, .ref Msn, .ref Mac, .ref Mat])), (Mn, .inl (g 0, 1767, .inl fno)), (Mh, .inl (g 0, 9, .inl fmh)), (Mr, .inl (g 0, 3, .inl fmr)), (Ma, .inl (g 0, 3, .inl fma)), (Mas, .inl (g 0, 1767, .inl fas))])) (va_Qi (fun (r : Int32) (u : va_W) => ∃ (fnox : Nat → Int32) (fmax : Nat → Int32) (fasx : Nat → Int32), u = [(Mm, .inr (7, [.int zth, .ref Mt, .int (nI tp), .int zma, .int zwr, .ref Mrr, .ref Mrh, .ref Mrc, .int zrh, .int zrc, .ref Mn, .ref Mf, .ref Mr, .ref Mh, .int (nI hp), .int (nI cc), .ref Ma, .ref Mas, .ref Msn, .ref Mac, .ref Mat])), (Mn, .inl (g 0, 1767, .inl fnox)), (Mh, .inl (g 0, 9, .inl fmh)), (Mr, .inl (g 0, 3, .inl fmr)), (Ma, .inl (g 0, 3, .inl fmax)), (Mas, .inl (g 0, 1767, .inl fasx))] ∧ (mOK gs tb ub fnox)) (wd D (va_A [(Mm, .inr (7, [.int zth, .ref Mt, .int (nI tp), .int zma, .int zwr, .ref Mrr, .ref Mrh, .ref Mrc, .int zrh, .int zrc, .ref Mn, .ref Mf, .ref Mr, .ref Mh, .int (nI hp), .int (nI cc), .ref Ma, .ref Mas, .ref Msn, .ref Mac, .ref Mat])), (Mn, .inl (g 0, 1767, .inl fno)), (Mh, .inl (g 0, 9, .inl fmh)), (Mr, .inl (g 0, 3, .inl fmr)), (Ma, .inl (g 0, 3, .inl fma)), (Mas, .inl (g 0, 1767, .inl fas))] sz)) (va_A [(Mm, .inr (7, [.int zth, .ref Mt, .int (nI tp), .int zma, .int zwr, .ref Mrr, .ref Mrh, .ref Mrc, .int zrh, .int zrc, .ref Mn, .ref Mf, .ref Mr, .ref Mh, .int (nI hp), .int (nI cc), .ref Ma, .ref Mas, .ref Msn, .ref Mac, .ref Mat])), (Mn, .inl (g 0, 1767, .inl fno)), (Mh, .inl (g 0, 9, .inl fmh)), (Mr, .inl (g 0, 3, .inl fmr)), (Ma, .inl (g 0, 3, .inl fma)), (Mas, .inl (g 0, 1767, .inl fas))] sz)) 0 0 (va_A [(Mm, .inr (7, [.int zth, .ref Mt, .int (nI tp), .int zma, .int zwr, .ref Mrr, .ref Mrh, .ref Mrc, .int zrh, .int zrc, .ref Mn, .ref Mf, .ref Mr, .ref Mh, .int (nI hp), .int (nI cc), .ref Ma, .ref Mas, .ref Msn, .ref Mac, .ref Mat])), (Mn, .inl (g 0, 1767, .inl fno)), (Mh, .inl (g 0, 9, .inl fmh)), (Mr, .inl (g 0, 3, .inl fmr)), (Ma, .inl (g 0, 3, .inl fma)), (Mas, .inl (g 0, 1767, .inl fas))] sz) := by
  refine Met.ofW (cc := cX7_idleOf) (maxL := 6) (ret := (some .int)) (by decide) rfl ?_
  intro p e s m args below meth c s₁ B hml hv
  obtain ⟨rfl, hsz, hP, ⟨hK, hN⟩, hD0, hZ⟩ := hv
  have hx := B.exec
  have hb := B.bytes
  have hr := B.returns
  have hts := atoms_spec (ws := wsX7_idleOf) B.pre
  have hown : s.vm.findClass RX7 = some m.cls := findClass_of_methodNamed B.named
  have hlocks := B.notSynchronized
  clear B
  subst hsz
  have hD := hD0.self (sz := s.heap.size)
  clear hD0
  generalize hAe : va_A [(Mm, .inr (7, [.int zth, .ref Mt, .int (nI tp), .int zma, .int zwr, .ref Mrr, .ref Mrh, .ref Mrc, .int zrh, .int zrc, .ref Mn, .ref Mf, .ref Mr, .ref Mh, .int (nI hp), .int (nI cc), .ref Ma, .ref Mas, .ref Msn, .ref Mac, .ref Mat])), (Mn, .inl (g 0, 1767, .inl fno)), (Mh, .inl (g 0, 9, .inl fmh)), (Mr, .inl (g 0, 3, .inl fmr)), (Ma, .inl (g 0, 3, .inl fma)), (Mas, .inl (g 0, 1767, .inl fas))] s.heap.size = A at hD hZ ⊢
  have hA : ∀ q : Nat, s.heap.size ≤ q → A q := fun q h => by rw [← hAe]; exact Or.inr h
  have hS : va_S A s.heap s.heap [] := va_S.rf
  have hl := lv_entry ([.ref Mm, .int (nI hix), .int (nI nx)]) (n := 6) (Nat.le_of_ble_eq_true rfl)
  rw [lg_entry_eq]
  generalize (lg_sl ([.ref Mm, .int (nI hix), .int (nI nx)]) ++ List.replicate (6 - (lg_sl ([.ref Mm, .int (nI hix), .int (nI nx)])).length) Slot.unset).toArray = ls at hl ⊢
  have hl : lv_has ls 6 [(0, .ref Mm), (1, .int (nI hix)), (2, .int (nI nx))] := hl
  generalize hQ : MQ below _ _ s _ _ _ = Q
  generalize hH : s.heap = H at hP ⊢
  have hS : va_S A s.heap H [] := by rw [← hH]; exact hS
  clear hH
  refine lv_aload_n hx hb dX7_idleOf_0 rfl (lv_at hl 0 rfl) ?_
  refine ky_Vv (As := []) (rest := []) ⟨hx, hb, hml, hown, hts⟩ ⟨hK, hN⟩ hZ hP hD hS hA [0, 1, 5] [2, 3, 4] (wc := [(Mm, .inr (7, [.int zth, .ref Mt, .int (nI tp), .int zma, .int zwr, .ref Mrr, .ref Mrh, .ref Mrc, .int zrh, .int zrc, .ref Mn, .ref Mf, .ref Mr, .ref Mh, .int (nI hp), .int (nI cc), .ref Ma, .ref Mas, .ref Msn, .ref Mac, .ref Mat])), (Mn, .inl (g 0, 1767, .inl fno)), (Mas, .inl (g 0, 1767, .inl fas))]) (wr := [(Mh, .inl (g 0, 9, .inl fmh)), (Mr, .inl (g 0, 3, .inl fmr)), (Ma, .inl (g 0, 3, .inl fma))]) rfl rfl rfl rfl (by decide) (k_X7_putAside l D g H.size Mm zth Mt tp zma zwr Mrr Mrh Mrc zrh zrc Mn Mf Mr Mh hp cc Ma Mas Msn Mac Mat fno fas tb ub (h2)) (cwV 0 hts gX7_idleOf_X7_putAside rfl rfl rfl (by decide +kernel) ⟨(Nat.le_of_ble_eq_true rfl), (Nat.le_of_ble_eq_true rfl)⟩) 0 7 rfl rfl rfl rfl hl.1 rfl (Nat.le_of_ble_eq_true rfl) dX7_idleOf_1 ⟨(Nat.le_of_ble_eq_true rfl), (Nat.le_of_ble_eq_true rfl)⟩ (fun u H locs hw hP2 hD2 hS2 => ?_)
  clear hP hD hS
  obtain ⟨fasx_2, rfl, hf_3⟩ := hw
  have hPD : PD D A [(Mh, .inl (g 0, 9, .inl fmh)), (Mr, .inl (g 0, 3, .inl fmr)), (Ma, .inl (g 0, 3, .inl fma)), (Mm, .inr (7, [.int zth, .ref Mt, .int (nI tp), .int zma, .int zwr, .ref Mrr, .ref Mrh, .ref Mrc, .int zrh, .int zrc, .ref Mn, .ref Mf, .ref Mr, .ref Mh, .int (nI hp), .int (nI cc), .ref Ma, .ref Mas, .ref Msn, .ref Mac, .ref Mat])), (Mn, .inl (g 0, 1767, .inl fno)), (Mas, .inl (g 0, 1767, .inl fasx_2))] H := ⟨hP2, hD2⟩
  have hS := hS2; clear hP2 hD2 hS2; have hP := hPD.1; have hD := hPD.2; clear hPD
  refine W.widen (k := 0) (n := 0) (Nat.le_of_ble_eq_true rfl) (Nat.le_of_ble_eq_true rfl) ?_
  refine lv_iconst (v := 0) hx hb dX7_idleOf_4 (by decide) ?_
  refine lv_istore_n (lv' := [(3, .int 0), (0, .ref Mm), (1, .int (nI hix)), (2, .int (nI nx))]) hx hb dX7_idleOf_5 rfl hl (by decide) rfl (fun ls hl => ?_)
  refine lv_iconst (v := 0) hx hb dX7_idleOf_6 (by decide) ?_
  refine lv_istore (lv' := [(4, .int 0), (3, .int 0), (0, .ref Mm), (1, .int (nI hix)), (2, .int (nI nx))]) hx hb dX7_idleOf_7 hl (by decide) rfl (fun ls hl => ?_)
  have loop_42 : ∀ (Nloop_42 : Nat) (i_14 : Nat) (F_15 : Nat → Int32) (F_16 : Nat → Int32) (i_17 : Int32) (hF_16 : mOK gs (tb + i_14) (ub + 6 * i_14) F_16) (hbi_14 : i_14 ≤ nx) (hmloop_42 : nx - i_14 < Nloop_42) (H : Heap) (locs : List Loc) (ls : Array Slot), va_P D vwCl [(Mh, .inl (g 0, 9, .inl fmh)), (Mr, .inl (g 0, 3, .inl fmr)), (Ma, .inl (g 0, 3, .inl F_15)), (Mm, .inr (7, [.int zth, .ref Mt, .int (nI tp), .int zma, .int zwr, .ref Mrr, .ref Mrh, .ref Mrc, .int zrh, .int zrc, .ref Mn, .ref Mf, .ref Mr, .ref Mh, .int (nI hp), .int (nI cc), .ref Ma, .ref Mas, .ref Msn, .ref Mac, .ref Mat])), (Mn, .inl (g 0, 1767, .inl F_16)), (Mas, .inl (g 0, 1767, .inl fasx_2))] H → va_D A [(Mh, .inl (g 0, 9, .inl fmh)), (Mr, .inl (g 0, 3, .inl fmr)), (Ma, .inl (g 0, 3, .inl F_15)), (Mm, .inr (7, [.int zth, .ref Mt, .int (nI tp), .int zma, .int zwr, .ref Mrr, .ref Mrh, .ref Mrc, .int zrh, .int zrc, .ref Mn, .ref Mf, .ref Mr, .ref Mh, .int (nI hp), .int (nI cc), .ref Ma, .ref Mas, .ref Msn, .ref Mac, .ref Mat])), (Mn, .inl (g 0, 1767, .inl F_16)), (Mas, .inl (g 0, 1767, .inl fasx_2))] → va_S A s.heap H locs → lv_has ls 6 [(4, .int (nI i_14)), (3, .int i_17), (0, .ref Mm), (1, .int (nI hix)), (2, .int (nI nx))] → W p l e (headSpec wsX7_idleOf ({ frames := 6, cells := 0, slots := 0, locals := 133 })).room s m ([.ref Mm, .int (nI hix), .int (nI nx)] : List Value).toArray below meth c H locs 0 0 Q (F0 m 9 ls []) := by
    clear hP hD hS hl
    intro Nloop_42
    induction Nloop_42 with
    | zero => intro i_14 F_15 F_16 i_17 hF_16 hbi_14 hm9; exact absurd hm9 (Nat.not_lt_zero _)
    | succ Nloop_42 loop_42_ih =>
      intro i_14 F_15 F_16 i_17 hF_16 hbi_14 hmloop_42 H locs ls hP hD hS hl
      refine lv_iload hx hb dX7_idleOf_9 (lv_at hl 0 rfl) ?_
      refine lv_iload_n hx hb dX7_idleOf_11 rfl (lv_at hl 4 rfl) ?_
      refine lv_icmp_ge (tgt := 50) hx hb dX7_idleOf_12 (by decide) (fun cb_43 => ?_) (fun cb_43 => ?_)
      · skip
        have cn_44 : nx ≤ i_14 := (nI_leI (show nx < 2 ^ 31 by omega) (show i_14 < 2 ^ 31 by omega)).mp cb_43
        refine lv_aload_n hx hb dX7_idleOf_50 rfl (lv_at hl 2 rfl) ?_
        refine ky_Vv (As := []) (rest := []) ⟨hx, hb, hml, hown, hts⟩ ⟨hK, hN⟩ hZ hP hD hS hA [3, 4, 5] [0, 1, 2] (wc := [(Mm, .inr (7, [.int zth, .ref Mt, .int (nI tp), .int zma, .int zwr, .ref Mrr, .ref Mrh, .ref Mrc, .int zrh, .int zrc, .ref Mn, .ref Mf, .ref Mr, .ref Mh, .int (nI hp), .int (nI cc), .ref Ma, .ref Mas, .ref Msn, .ref Mac, .ref Mat])), (Mn, .inl (g 0, 1767, .inl F_16)), (Mas, .inl (g 0, 1767, .inl fasx_2))]) (wr := [(Mh, .inl (g 0, 9, .inl fmh)), (Mr, .inl (g 0, 3, .inl fmr)), (Ma, .inl (g 0, 3, .inl F_15))]) rfl rfl rfl rfl (by decide) (k_X7_bringBack l D g H.size Mm zth Mt tp zma zwr Mrr Mrh Mrc zrh zrc Mn Mf Mr Mh hp cc Ma Mas Msn Mac Mat F_16 fasx_2 tb ub (hf_3)) (cwV 0 hts gX7_idleOf_X7_bringBack rfl rfl rfl (by decide +kernel) ⟨(Nat.le_of_ble_eq_true rfl), (Nat.le_of_ble_eq_true rfl)⟩) 3 7 rfl rfl rfl rfl hl.1 rfl (Nat.le_of_ble_eq_true rfl) dX7_idleOf_51 ⟨(Nat.le_of_ble_eq_true rfl), (Nat.le_of_ble_eq_true rfl)⟩ (fun u H locs hw hP2 hD2 hS2 => ?_)
        clear hP hD hS
        obtain ⟨fnox_46, rfl, hf_47⟩ := hw
        have hPD : PD D A [(Mh, .inl (g 0, 9, .inl fmh)), (Mr, .inl (g 0, 3, .inl fmr)), (Ma, .inl (g 0, 3, .inl F_15)), (Mm, .inr (7, [.int zth, .ref Mt, .int (nI tp), .int zma, .int zwr, .ref Mrr, .ref Mrh, .ref Mrc, .int zrh, .int zrc, .ref Mn, .ref Mf, .ref Mr, .ref Mh, .int (nI hp), .int (nI cc), .ref Ma, .ref Mas, .ref Msn, .ref Mac, .ref Mat])), (Mn, .inl (g 0, 1767, .inl fnox_46)), (Mas, .inl (g 0, 1767, .inl fasx_2))] H := ⟨hP2, hD2⟩
        have hS := hS2; clear hP2 hD2 hS2; have hP := hPD.1; have hD := hPD.2; clear hPD
        refine W.widen (k := 0) (n := 0) (Nat.le_of_ble_eq_true rfl) (Nat.le_of_ble_eq_true rfl) ?_
        refine lv_iload_n hx hb dX7_idleOf_54 rfl (lv_at hl 1 rfl) ?_
        have hPD9 : PD D A [(Mm, .inr (7, [.int zth, .ref Mt, .int (nI tp), .int zma, .int zwr, .ref Mrr, .ref Mrh, .ref Mrc, .int zrh, .int zrc, .ref Mn, .ref Mf, .ref Mr, .ref Mh, .int (nI hp), .int (nI cc), .ref Ma, .ref Mas, .ref Msn, .ref Mac, .ref Mat])), (Mn, .inl (g 0, 1767, .inl fnox_46)), (Mh, .inl (g 0, 9, .inl fmh)), (Mr, .inl (g 0, 3, .inl fmr)), (Ma, .inl (g 0, 3, .inl F_15)), (Mas, .inl (g 0, 1767, .inl fasx_2))] H := ⟨hP.sub [3, 4, 0, 1, 2, 5] rfl, hD.sub [3, 4, 0, 1, 2, 5] (by decide) rfl⟩
        have hP9 := hPD9.1; have hD9 := hPD9.2
        subst hQ
        refine W.widen (k := 0) (n := 0) (Nat.le_of_ble_eq_true rfl) (Nat.le_of_ble_eq_true rfl) ?_
        exact W.iret (v := i_17) hx hb hr (fun tS htS _ => ⟨⟨_, _, rfl, ⟨fnox_46, F_15, fasx_2, rfl, (hf_47)⟩, by rw [htS]; exact hP9, hD9⟩, hS.F htS⟩) hS.2.2 dX7_idleOf_55
      · skip
        have cn_48 : i_14 < nx := Nat.lt_of_not_le (fun q9 => cb_43 ((nI_leI (show nx < 2 ^ 31 by omega) (show i_14 < 2 ^ 31 by omega)).mpr q9))
        refine lv_aload_n hx hb dX7_idleOf_15 rfl (lv_at hl 2 rfl) ?_
        refine lv_iload_n hx hb dX7_idleOf_16 rfl (lv_at hl 3 rfl) ?_
        refine ky_Vi (As := [.int (nI hix)]) (rest := []) ⟨hx, hb, hml, hown, hts⟩ ⟨hK, hN⟩ hZ hP hD hS hA [3, 4] [0, 1, 2, 5] (wc := [(Mm, .inr (7, [.int zth, .ref Mt, .int (nI tp), .int zma, .int zwr, .ref Mrr, .ref Mrh, .ref Mrc, .int zrh, .int zrc, .ref Mn, .ref Mf, .ref Mr, .ref Mh, .int (nI hp), .int (nI cc), .ref Ma, .ref Mas, .ref Msn, .ref Mac, .ref Mat])), (Mn, .inl (g 0, 1767, .inl F_16))]) (wr := [(Mh, .inl (g 0, 9, .inl fmh)), (Mr, .inl (g 0, 3, .inl fmr)), (Ma, .inl (g 0, 3, .inl F_15)), (Mas, .inl (g 0, 1767, .inl fasx_2))]) rfl rfl rfl rfl (by decide) (k_X7_sentOver l D g H.size Mm hix zth Mt tp zma zwr Mrr Mrh Mrc zrh zrc Mn Mf Mr Mh hp cc Ma Mas Msn Mac Mat F_16 (show hix < 3 by omega) (show 1 ≤ cc by omega) (show cc ≤ 3 by omega)) (cwV 1 hts gX7_idleOf_X7_sentOver rfl rfl rfl (by decide +kernel) ⟨(Nat.le_of_ble_eq_true rfl), (Nat.le_of_ble_eq_true rfl)⟩) 3 7 rfl rfl rfl rfl hl.1 rfl (Nat.le_of_ble_eq_true rfl) dX7_idleOf_17 ⟨(Nat.le_of_ble_eq_true rfl), (Nat.le_of_ble_eq_true rfl)⟩ (fun r_49 u H locs hw hP2 hD2 hS2 => ?_)
        clear hP hD hS
        obtain rfl := hw
        have hPD : PD D A [(Mh, .inl (g 0, 9, .inl fmh)), (Mr, .inl (g 0, 3, .inl fmr)), (Ma, .inl (g 0, 3, .inl F_15)), (Mas, .inl (g 0, 1767, .inl fasx_2)), (Mm, .inr (7, [.int zth, .ref Mt, .int (nI tp), .int zma, .int zwr, .ref Mrr, .ref Mrh, .ref Mrc, .int zrh, .int zrc, .ref Mn, .ref Mf, .ref Mr, .ref Mh, .int (nI hp), .int (nI cc), .ref Ma, .ref Mas, .ref Msn, .ref Mac, .ref Mat])), (Mn, .inl (g 0, 1767, .inl F_16))] H := ⟨hP2, hD2⟩
        have hS := hS2; clear hP2 hD2 hS2; have hP := hPD.1; have hD := hPD.2; clear hPD
        refine W.widen (k := 0) (n := 0) (Nat.le_of_ble_eq_true rfl) (Nat.le_of_ble_eq_true rfl) ?_
        refine lv_istore (lv' := [(5, .int r_49), (4, .int (nI i_14)), (3, .int i_17), (0, .ref Mm), (1, .int (nI hix)), (2, .int (nI nx))]) hx hb dX7_idleOf_20 hl (by decide) rfl (fun ls hl => ?_)
        refine lv_aload_n hx hb dX7_idleOf_22 rfl (lv_at hl 3 rfl) ?_
        refine ky_Vv (As := []) (rest := []) ⟨hx, hb, hml, hown, hts⟩ ⟨hK, hN⟩ hZ hP hD hS hA [4, 5, 0, 1, 2] [3] (wc := [(Mm, .inr (7, [.int zth, .ref Mt, .int (nI tp), .int zma, .int zwr, .ref Mrr, .ref Mrh, .ref Mrc, .int zrh, .int zrc, .ref Mn, .ref Mf, .ref Mr, .ref Mh, .int (nI hp), .int (nI cc), .ref Ma, .ref Mas, .ref Msn, .ref Mac, .ref Mat])), (Mn, .inl (g 0, 1767, .inl F_16)), (Mh, .inl (g 0, 9, .inl fmh)), (Mr, .inl (g 0, 3, .inl fmr)), (Ma, .inl (g 0, 3, .inl F_15))]) (wr := [(Mas, .inl (g 0, 1767, .inl fasx_2))]) rfl rfl rfl rfl (by decide) (k_X7_ticks l D g H.size Mm zth Mt tp zma zwr Mrr Mrh Mrc zrh zrc Mn Mf Mr Mh hp cc Ma Mas Msn Mac Mat F_16 fmh fmr F_15 (tb + i_14) (ub + 6 * i_14) (show tb + i_14 < 2 ^ 28 by omega) (show ub + 6 * i_14 < 2 ^ 28 by omega) (hF_16) (show 1 ≤ hp by omega) (show hp ≤ 3 by omega) (show 1 ≤ cc by omega) (show cc ≤ 3 by omega) (h7)) (cwV 0 hts gX7_idleOf_X7_ticks rfl rfl rfl (by decide +kernel) ⟨(Nat.le_of_ble_eq_true rfl), (Nat.le_of_ble_eq_true rfl)⟩) 4 7 rfl rfl rfl rfl hl.1 rfl (Nat.le_of_ble_eq_true rfl) dX7_idleOf_23 ⟨(Nat.le_of_ble_eq_true rfl), (Nat.le_of_ble_eq_true rfl)⟩ (fun u H locs hw hP2 hD2 hS2 => ?_)
        clear hP hD hS
        obtain ⟨fnox_51, fmax_52, rfl, hf_53⟩ := hw
        have hPD : PD D A [(Mas, .inl (g 0, 1767, .inl fasx_2)), (Mm, .inr (7, [.int zth, .ref Mt, .int (nI tp), .int zma, .int zwr, .ref Mrr, .ref Mrh, .ref Mrc, .int zrh, .int zrc, .ref Mn, .ref Mf, .ref Mr, .ref Mh, .int (nI hp), .int (nI cc), .ref Ma, .ref Mas, .ref Msn, .ref Mac, .ref Mat])), (Mn, .inl (g 0, 1767, .inl fnox_51)), (Mh, .inl (g 0, 9, .inl fmh)), (Mr, .inl (g 0, 3, .inl fmr)), (Ma, .inl (g 0, 3, .inl fmax_52))] H := ⟨hP2, hD2⟩
        have hS := hS2; clear hP2 hD2 hS2; have hP := hPD.1; have hD := hPD.2; clear hPD
        refine W.widen (k := 0) (n := 0) (Nat.le_of_ble_eq_true rfl) (Nat.le_of_ble_eq_true rfl) ?_
        refine lv_iload_n hx hb dX7_idleOf_26 rfl (lv_at hl 2 rfl) ?_
        refine lv_aload_n hx hb dX7_idleOf_27 rfl (lv_at hl 3 rfl) ?_
        refine lv_iload_n hx hb dX7_idleOf_28 rfl (lv_at hl 4 rfl) ?_
        refine ky_Vi (As := [.int (nI hix)]) (rest := [.int i_17]) ⟨hx, hb, hml, hown, hts⟩ ⟨hK, hN⟩ hZ hP hD hS hA [1, 2] [0, 3, 4, 5] (wc := [(Mm, .inr (7, [.int zth, .ref Mt, .int (nI tp), .int zma, .int zwr, .ref Mrr, .ref Mrh, .ref Mrc, .int zrh, .int zrc, .ref Mn, .ref Mf, .ref Mr, .ref Mh, .int (nI hp), .int (nI cc), .ref Ma, .ref Mas, .ref Msn, .ref Mac, .ref Mat])), (Mn, .inl (g 0, 1767, .inl fnox_51))]) (wr := [(Mas, .inl (g 0, 1767, .inl fasx_2)), (Mh, .inl (g 0, 9, .inl fmh)), (Mr, .inl (g 0, 3, .inl fmr)), (Ma, .inl (g 0, 3, .inl fmax_52))]) rfl rfl rfl rfl (by decide) (k_X7_sentOver l D g H.size Mm hix zth Mt tp zma zwr Mrr Mrh Mrc zrh zrc Mn Mf Mr Mh hp cc Ma Mas Msn Mac Mat fnox_51 (show hix < 3 by omega) (show 1 ≤ cc by omega) (show cc ≤ 3 by omega)) (cwV 1 hts gX7_idleOf_X7_sentOver rfl rfl rfl (by decide +kernel) ⟨(Nat.le_of_ble_eq_true rfl), (Nat.le_of_ble_eq_true rfl)⟩) 1 7 rfl rfl rfl rfl hl.1 rfl (Nat.le_of_ble_eq_true rfl) dX7_idleOf_29 ⟨(Nat.le_of_ble_eq_true rfl), (Nat.le_of_ble_eq_true rfl)⟩ (fun r_54 u H locs hw hP2 hD2 hS2 => ?_)
        clear hP hD hS
        obtain rfl := hw
        have hPD : PD D A [(Mas, .inl (g 0, 1767, .inl fasx_2)), (Mh, .inl (g 0, 9, .inl fmh)), (Mr, .inl (g 0, 3, .inl fmr)), (Ma, .inl (g 0, 3, .inl fmax_52)), (Mm, .inr (7, [.int zth, .ref Mt, .int (nI tp), .int zma, .int zwr, .ref Mrr, .ref Mrh, .ref Mrc, .int zrh, .int zrc, .ref Mn, .ref Mf, .ref Mr, .ref Mh, .int (nI hp), .int (nI cc), .ref Ma, .ref Mas, .ref Msn, .ref Mac, .ref Mat])), (Mn, .inl (g 0, 1767, .inl fnox_51))] H := ⟨hP2, hD2⟩
        have hS := hS2; clear hP2 hD2 hS2; have hP := hPD.1; have hD := hPD.2; clear hPD
        refine W.widen (k := 0) (n := 0) (Nat.le_of_ble_eq_true rfl) (Nat.le_of_ble_eq_true rfl) ?_
        refine lv_iload hx hb dX7_idleOf_32 (lv_at hl 0 rfl) ?_
        refine lv_icmp_ne (tgt := 41) hx hb dX7_idleOf_34 (by decide) (fun cb_55 => ?_) (fun cb_55 => ?_)
        · skip
          refine lv_iconst (v := 0) hx hb dX7_idleOf_41 (by decide) ?_
          refine lv_iadd hx hb dX7_idleOf_42 ?_
          refine lv_topi (fun y_56 _ => ?_)
          refine lv_istore_n (lv' := [(3, .int y_56), (5, .int r_49), (4, .int (nI i_14)), (0, .ref Mm), (1, .int (nI hix)), (2, .int (nI nx))]) hx hb dX7_idleOf_43 rfl hl (by decide) rfl (fun ls hl => ?_)
          refine lv_iinc (v := (nI (i_14 + 1))) (lv' := [(4, .int (nI (i_14 + 1))), (3, .int y_56), (5, .int r_49), (0, .ref Mm), (1, .int (nI hix)), (2, .int (nI nx))]) hx hb dX7_idleOf_44 hl (k := 2) rfl (nI_1 (i_14)) (by decide) rfl (fun ls hl => ?_)
          refine lv_goto (tgt := 9) hx hb dX7_idleOf_47 (by decide) ?_
          exact loop_42_ih (i_14 + 1) fmax_52 fnox_51 y_56 (mOK_le hf_53 (show tb + i_14 + 1 = tb + (i_14 + 1) by omega) (show ub + 6 * i_14 + 6 ≤ ub + 6 * (i_14 + 1) by omega)) (show (i_14 + 1) ≤ nx by omega) (show nx - (i_14 + 1) < Nloop_42 by omega) _ _ _ (hP.sub [1, 2, 3, 4, 5, 0] rfl) (hD.sub [1, 2, 3, 4, 5, 0] (by decide) rfl) hS (lv_sub hl [0, 1, 3, 4, 5] rfl)
        · skip
          refine lv_iconst (v := 1) hx hb dX7_idleOf_37 (by decide) ?_
          refine lv_goto (tgt := 42) hx hb dX7_idleOf_38 (by decide) ?_
          refine lv_iadd hx hb dX7_idleOf_42 ?_
          refine lv_topi (fun y_57 _ => ?_)
          refine lv_istore_n (lv' := [(3, .int y_57), (5, .int r_49), (4, .int (nI i_14)), (0, .ref Mm), (1, .int (nI hix)), (2, .int (nI nx))]) hx hb dX7_idleOf_43 rfl hl (by decide) rfl (fun ls hl => ?_)
          refine lv_iinc (v := (nI (i_14 + 1))) (lv' := [(4, .int (nI (i_14 + 1))), (3, .int y_57), (5, .int r_49), (0, .ref Mm), (1, .int (nI hix)), (2, .int (nI nx))]) hx hb dX7_idleOf_44 hl (k := 2) rfl (nI_1 (i_14)) (by decide) rfl (fun ls hl => ?_)
          refine lv_goto (tgt := 9) hx hb dX7_idleOf_47 (by decide) ?_
          exact loop_42_ih (i_14 + 1) fmax_52 fnox_51 y_57 (mOK_le hf_53 (show tb + i_14 + 1 = tb + (i_14 + 1) by omega) (show ub + 6 * i_14 + 6 ≤ ub + 6 * (i_14 + 1) by omega)) (show (i_14 + 1) ≤ nx by omega) (show nx - (i_14 + 1) < Nloop_42 by omega) _ _ _ (hP.sub [1, 2, 3, 4, 5, 0] rfl) (hD.sub [1, 2, 3, 4, 5, 0] (by decide) rfl) hS (lv_sub hl [0, 1, 3, 4, 5] rfl)
  exact loop_42 _ 0 fma fno 0 (mOK_le h2 (show tb = tb + 0 by omega) (show ub ≤ ub + 6 * 0 by omega)) (show 0 ≤ nx by omega) (Nat.lt_succ_self _) _ _ _ hP hD hS hl

set_option maxHeartbeats 4000000 in
set_option maxRecDepth 100000 in
theorem k_X7_idle (l : Launch) (D : va_G) (g : Nat → ClassId) (sz : Nat) {gs : Nat → Int32} (Mm : Nat) (zh : Int32) (zk : Int32) (zth : Int32) (Mt : Nat) (tp : Nat) (zma : Int32) (zwr : Int32) (Mrr : Nat) (Mrh : Nat) (Mrc : Nat) (zrh : Int32) (zrc : Int32) (Mn : Nat) (Mf : Nat) (Mr : Nat) (Mh : Nat) (hp : Nat) (cc : Nat) (Ma : Nat) (Mas : Nat) (Msn : Nat) (Mac : Nat) (Mat : Nat) (fno : Nat → Int32) (fmh : Nat → Int32) (fmr : Nat → Int32) (fma : Nat → Int32) (fas : Nat → Int32) (tb : Nat) (ub : Nat) (h0 : tb < 2 ^ 27) (h1 : ub < 2 ^ 27) (h2 : mOK gs tb ub fno) (h3 : 1 ≤ hp) (h4 : hp ≤ 3) (h5 : 1 ≤ cc) (h6 : cc ≤ 3) (h7 : n3 fmh) : Met l yX7_idle wsX7_idle ({ frames := 7, cells := 0, slots := 0, locals := 158 }) (va_Pc [.ref Mm, .int zh, .int zk] (pre D g sz [(Mm, .inr (7, [.int zth, .ref Mt, .int (nI tp), .int zma, .int zwr, .ref Mrr, .ref Mrh, .ref Mrc, .int zrh, .int zrc, .ref Mn, .ref Mf, .ref Mr, .ref Mh, .int (nI hp), .int (nI cc), .ref Ma, .ref Mas, .ref Msn, .ref Mac, .ref Mat])), (Mn, .inl (g 0, 1767, .inl fno)), (Mh, .inl (g 0, 9, .inl fmh)), (Mr, .inl (g 0, 3, .inl fmr)), (Ma, .inl (g 0, 3, .inl fma)), (Mas, .inl (g 0, 1767, .inl fas))])) (va_Qi (fun (r : Int32) (u : va_W) => ∃ (zthx : Int32) (fnox : Nat → Int32) (fmax : Nat → Int32) (fasx : Nat → Int32), u = [(Mm, .inr (7, [.int zthx, .ref Mt, .int (nI tp), .int zma, .int zwr, .ref Mrr, .ref Mrh, .ref Mrc, .int zrh, .int zrc, .ref Mn, .ref Mf, .ref Mr, .ref Mh, .int (nI hp), .int (nI cc), .ref Ma, .ref Mas, .ref Msn, .ref Mac, .ref Mat])), (Mn, .inl (g 0, 1767, .inl fnox)), (Mh, .inl (g 0, 9, .inl fmh)), (Mr, .inl (g 0, 3, .inl fmr)), (Ma, .inl (g 0, 3, .inl fmax)), (Mas, .inl (g 0, 1767, .inl fasx))] ∧ (mOK gs tb ub fnox)) (wd D (va_A [(Mm, .inr (7, [.int zth, .ref Mt, .int (nI tp), .int zma, .int zwr, .ref Mrr, .ref Mrh, .ref Mrc, .int zrh, .int zrc, .ref Mn, .ref Mf, .ref Mr, .ref Mh, .int (nI hp), .int (nI cc), .ref Ma, .ref Mas, .ref Msn, .ref Mac, .ref Mat])), (Mn, .inl (g 0, 1767, .inl fno)), (Mh, .inl (g 0, 9, .inl fmh)), (Mr, .inl (g 0, 3, .inl fmr)), (Ma, .inl (g 0, 3, .inl fma)), (Mas, .inl (g 0, 1767, .inl fas))] sz)) (va_A [(Mm, .inr (7, [.int zth, .ref Mt, .int (nI tp), .int zma, .int zwr, .ref Mrr, .ref Mrh, .ref Mrc, .int zrh, .int zrc, .ref Mn, .ref Mf, .ref Mr, .ref Mh, .int (nI hp), .int (nI cc), .ref Ma, .ref Mas, .ref Msn, .ref Mac, .ref Mat])), (Mn, .inl (g 0, 1767, .inl fno)), (Mh, .inl (g 0, 9, .inl fmh)), (Mr, .inl (g 0, 3, .inl fmr)), (Ma, .inl (g 0, 3, .inl fma)), (Mas, .inl (g 0, 1767, .inl fas))] sz)) 0 0 (va_A [(Mm, .inr (7, [.int zth, .ref Mt, .int (nI tp), .int zma, .int zwr, .ref Mrr, .ref Mrh, .ref Mrc, .int zrh, .int zrc, .ref Mn, .ref Mf, .ref Mr, .ref Mh, .int (nI hp), .int (nI cc), .ref Ma, .ref Mas, .ref Msn, .ref Mac, .ref Mat])), (Mn, .inl (g 0, 1767, .inl fno)), (Mh, .inl (g 0, 9, .inl fmh)), (Mr, .inl (g 0, 3, .inl fmr)), (Ma, .inl (g 0, 3, .inl fma)), (Mas, .inl (g 0, 1767, .inl fas))] sz) := by
  refine Met.ofW (cc := cX7_idle) (maxL := 3) (ret := (some .int)) (by decide) rfl ?_
  intro p e s m args below meth c s₁ B hml hv
  obtain ⟨rfl, hsz, hP, ⟨hK, hN⟩, hD0, hZ⟩ := hv
  have hx := B.exec
  have hb := B.bytes
  have hr := B.returns
  have hts := atoms_spec (ws := wsX7_idle) B.pre
  have hown : s.vm.findClass RX7 = some m.cls := findClass_of_methodNamed B.named
  have hlocks := B.notSynchronized
  clear B
  subst hsz
  have hD := hD0.self (sz := s.heap.size)
  clear hD0
  generalize hAe : va_A [(Mm, .inr (7, [.int zth, .ref Mt, .int (nI tp), .int zma, .int zwr, .ref Mrr, .ref Mrh, .ref Mrc, .int zrh, .int zrc, .ref Mn, .ref Mf, .ref Mr, .ref Mh, .int (nI hp), .int (nI cc), .ref Ma, .ref Mas, .ref Msn, .ref Mac, .ref Mat])), (Mn, .inl (g 0, 1767, .inl fno)), (Mh, .inl (g 0, 9, .inl fmh)), (Mr, .inl (g 0, 3, .inl fmr)), (Ma, .inl (g 0, 3, .inl fma)), (Mas, .inl (g 0, 1767, .inl fas))] s.heap.size = A at hD hZ ⊢
  have hA : ∀ q : Nat, s.heap.size ≤ q → A q := fun q h => by rw [← hAe]; exact Or.inr h
  have hS : va_S A s.heap s.heap [] := va_S.rf
  have f49 := hts (.fieldLink RX7 49 "HopCreditsModel" "thrown" "I") (List.mem_of_getElem? (i := 1) rfl)
  have iX7 : ∀ w ∈ u_ws RX7 TX7 21, w ∈ wsX7_idle := fun w h => List.mem_cons_of_mem _ (List.mem_append_right _ (h))
  have hl := lv_entry ([.ref Mm, .int zh, .int zk]) (n := 3) (Nat.le_of_ble_eq_true rfl)
  rw [lg_entry_eq]
  generalize (lg_sl ([.ref Mm, .int zh, .int zk]) ++ List.replicate (3 - (lg_sl ([.ref Mm, .int zh, .int zk])).length) Slot.unset).toArray = ls at hl ⊢
  have hl : lv_has ls 3 [(0, .ref Mm), (1, .int zh), (2, .int zk)] := hl
  generalize hQ : MQ below _ _ s _ _ _ = Q
  generalize hH : s.heap = H at hP ⊢
  have hS : va_S A s.heap H [] := by rw [← hH]; exact hS
  clear hH
  refine lv_aload_n hx hb dX7_idle_0 rfl (lv_at hl 0 rfl) ?_
  refine lv_iconst (v := 0) hx hb dX7_idle_1 (by decide) ?_
  refine va_put (D := D) (ci := 7) (v := .int 0) (ty := .int) (C := RX7) (T := TX7) (N := 21) hx hb hts iX7 tyX7 tyX7_ok nmX7 hown hK hP hD hS 0 rfl rfl 0 (by decide) f49 (fun _ h9 => h9) rfl (by decide +kernel) (rfl) (rfl) (Nat.le_of_ble_eq_true rfl) dX7_idle_2 (fun H locs hP2 hD2 hS2 => ?_)
  clear hP hD hS
  have hPD : PD D A [(Mm, .inr (7, [.int 0, .ref Mt, .int (nI tp), .int zma, .int zwr, .ref Mrr, .ref Mrh, .ref Mrc, .int zrh, .int zrc, .ref Mn, .ref Mf, .ref Mr, .ref Mh, .int (nI hp), .int (nI cc), .ref Ma, .ref Mas, .ref Msn, .ref Mac, .ref Mat])), (Mn, .inl (g 0, 1767, .inl fno)), (Mh, .inl (g 0, 9, .inl fmh)), (Mr, .inl (g 0, 3, .inl fmr)), (Ma, .inl (g 0, 3, .inl fma)), (Mas, .inl (g 0, 1767, .inl fas))] H := ⟨hP2, hD2⟩
  have hS := hS2; clear hP2 hD2 hS2; have hP := hPD.1; have hD := hPD.2; clear hPD
  refine lv_aload_n hx hb dX7_idle_5 rfl (lv_at hl 0 rfl) ?_
  refine lv_iload_n hx hb dX7_idle_6 rfl (lv_at hl 1 rfl) ?_
  refine ky_Vi (As := [.int zh]) (rest := []) ⟨hx, hb, hml, hown, hts⟩ ⟨hK, hN⟩ hZ hP hD hS hA [0] [1, 2, 3, 4, 5] (wc := [(Mm, .inr (7, [.int 0, .ref Mt, .int (nI tp), .int zma, .int zwr, .ref Mrr, .ref Mrh, .ref Mrc, .int zrh, .int zrc, .ref Mn, .ref Mf, .ref Mr, .ref Mh, .int (nI hp), .int (nI cc), .ref Ma, .ref Mas, .ref Msn, .ref Mac, .ref Mat]))]) (wr := [(Mn, .inl (g 0, 1767, .inl fno)), (Mh, .inl (g 0, 9, .inl fmh)), (Mr, .inl (g 0, 3, .inl fmr)), (Ma, .inl (g 0, 3, .inl fma)), (Mas, .inl (g 0, 1767, .inl fas))]) rfl rfl rfl rfl (by decide) (k_X7_isHop l D g H.size Mm zh 0 Mt tp zma zwr Mrr Mrh Mrc zrh zrc Mn Mf Mr Mh hp cc Ma Mas Msn Mac Mat (show 1 ≤ hp by omega) (show hp ≤ 3 by omega)) (cwV 1 hts gX7_idle_X7_isHop rfl rfl rfl (by decide +kernel) ⟨(Nat.le_of_ble_eq_true rfl), (Nat.le_of_ble_eq_true rfl)⟩) 0 7 rfl rfl rfl rfl hl.1 rfl (Nat.le_of_ble_eq_true rfl) dX7_idle_7 ⟨(Nat.le_of_ble_eq_true rfl), (Nat.le_of_ble_eq_true rfl)⟩ (fun r_1 u H locs hw hP2 hD2 hS2 => ?_)
  clear hP hD hS
  obtain ⟨rfl, rfl⟩ := hw
  have hPD : PD D A [(Mn, .inl (g 0, 1767, .inl fno)), (Mh, .inl (g 0, 9, .inl fmh)), (Mr, .inl (g 0, 3, .inl fmr)), (Ma, .inl (g 0, 3, .inl fma)), (Mas, .inl (g 0, 1767, .inl fas)), (Mm, .inr (7, [.int 0, .ref Mt, .int (nI tp), .int zma, .int zwr, .ref Mrr, .ref Mrh, .ref Mrc, .int zrh, .int zrc, .ref Mn, .ref Mf, .ref Mr, .ref Mh, .int (nI hp), .int (nI cc), .ref Ma, .ref Mas, .ref Msn, .ref Mac, .ref Mat]))] H := ⟨hP2, hD2⟩
  have hS := hS2; clear hP2 hD2 hS2; have hP := hPD.1; have hD := hPD.2; clear hPD
  refine W.widen (k := 0) (n := 0) (Nat.le_of_ble_eq_true rfl) (Nat.le_of_ble_eq_true rfl) ?_
  refine lv_if_eq (tgt := 30) hx hb dX7_idle_10 (by decide) (fun cb_2 => ?_) (fun cb_2 => ?_)
  · skip
    have hq_3 : ¬ (0 ≤ zh ∧ zh ≤ (nI (hp - 1))) := b01_0.mp cb_2
    refine lv_iconst (v := (-1)) hx hb dX7_idle_30 (by decide) ?_
    have hPD9 : PD D A [(Mm, .inr (7, [.int 0, .ref Mt, .int (nI tp), .int zma, .int zwr, .ref Mrr, .ref Mrh, .ref Mrc, .int zrh, .int zrc, .ref Mn, .ref Mf, .ref Mr, .ref Mh, .int (nI hp), .int (nI cc), .ref Ma, .ref Mas, .ref Msn, .ref Mac, .ref Mat])), (Mn, .inl (g 0, 1767, .inl fno)), (Mh, .inl (g 0, 9, .inl fmh)), (Mr, .inl (g 0, 3, .inl fmr)), (Ma, .inl (g 0, 3, .inl fma)), (Mas, .inl (g 0, 1767, .inl fas))] H := ⟨hP.sub [5, 0, 1, 2, 3, 4] rfl, hD.sub [5, 0, 1, 2, 3, 4] (by decide) rfl⟩
    have hP9 := hPD9.1; have hD9 := hPD9.2
    subst hQ
    refine W.widen (k := 0) (n := 0) (Nat.le_of_ble_eq_true rfl) (Nat.le_of_ble_eq_true rfl) ?_
    exact W.iret (v := (-1)) hx hb hr (fun tS htS _ => ⟨⟨_, _, rfl, ⟨0, fno, fma, fas, rfl, (h2)⟩, by rw [htS]; exact hP9, hD9⟩, hS.F htS⟩) hS.2.2 dX7_idle_31
  · skip
    have hq_4 : 0 ≤ zh ∧ zh ≤ (nI (hp - 1)) := b01_1.mp cb_2
    have hPq_8 := hP; have hDq_8 := hD; have hSq_8 := hS; have hlq_8 := hl; clear hP hD hS hl
    obtain ⟨j_5, hl_6, hu_7, rfl⟩ := rg (L := 0) (U := hp - 1) rfl rfl (show 0 < 2 ^ 31 by omega) (show hp - 1 < 2 ^ 31 by omega) hq_4
    have hP := hPq_8; have hD := hDq_8; have hS := hSq_8; have hl := hlq_8; clear hPq_8 hDq_8 hSq_8 hlq_8
    refine lv_iload_n hx hb dX7_idle_13 rfl (lv_at hl 2 rfl) ?_
    refine lv_iconst (v := 1) hx hb dX7_idle_14 (by decide) ?_
    refine ky_Si (As := [.int zk, .int 1]) (rest := []) ⟨hx, hb, hml, hown, hts⟩ ⟨hK, hN⟩ hZ hP hD hS hA [] [0, 1, 2, 3, 4, 5] (wc := []) (wr := [(Mn, .inl (g 0, 1767, .inl fno)), (Mh, .inl (g 0, 9, .inl fmh)), (Mr, .inl (g 0, 3, .inl fmr)), (Ma, .inl (g 0, 3, .inl fma)), (Mas, .inl (g 0, 1767, .inl fas)), (Mm, .inr (7, [.int 0, .ref Mt, .int (nI tp), .int zma, .int zwr, .ref Mrr, .ref Mrh, .ref Mrc, .int zrh, .int zrc, .ref Mn, .ref Mf, .ref Mr, .ref Mh, .int (nI hp), .int (nI cc), .ref Ma, .ref Mas, .ref Msn, .ref Mac, .ref Mat]))]) rfl rfl rfl rfl (by decide) (k_X7_isSpan l D g H.size zk 1) (va_cwS 2 hts gX7_idle_X7_isSpan rfl rfl rfl (by decide +kernel) ⟨(Nat.le_of_ble_eq_true rfl), (Nat.le_of_ble_eq_true rfl)⟩) rfl hl.1 rfl (Nat.le_of_ble_eq_true rfl) dX7_idle_15 ⟨(Nat.le_of_ble_eq_true rfl), (Nat.le_of_ble_eq_true rfl)⟩ (fun r_9 u H locs hw hP2 hD2 hS2 => ?_)
    clear hP hD hS
    obtain ⟨rfl, rfl⟩ := hw
    have hPD : PD D A [(Mn, .inl (g 0, 1767, .inl fno)), (Mh, .inl (g 0, 9, .inl fmh)), (Mr, .inl (g 0, 3, .inl fmr)), (Ma, .inl (g 0, 3, .inl fma)), (Mas, .inl (g 0, 1767, .inl fas)), (Mm, .inr (7, [.int 0, .ref Mt, .int (nI tp), .int zma, .int zwr, .ref Mrr, .ref Mrh, .ref Mrc, .int zrh, .int zrc, .ref Mn, .ref Mf, .ref Mr, .ref Mh, .int (nI hp), .int (nI cc), .ref Ma, .ref Mas, .ref Msn, .ref Mac, .ref Mat]))] H := ⟨hP2, hD2⟩
    have hS := hS2; clear hP2 hD2 hS2; have hP := hPD.1; have hD := hPD.2; clear hPD
    refine W.widen (k := 0) (n := 0) (Nat.le_of_ble_eq_true rfl) (Nat.le_of_ble_eq_true rfl) ?_
    refine lv_if_eq (tgt := 30) hx hb dX7_idle_18 (by decide) (fun cb_10 => ?_) (fun cb_10 => ?_)
    · skip
      have hq_11 : ¬ (1 ≤ zk ∧ zk ≤ 200) := b01_0.mp cb_10
      refine lv_iconst (v := (-1)) hx hb dX7_idle_30 (by decide) ?_
      have hPD9 : PD D A [(Mm, .inr (7, [.int 0, .ref Mt, .int (nI tp), .int zma, .int zwr, .ref Mrr, .ref Mrh, .ref Mrc, .int zrh, .int zrc, .ref Mn, .ref Mf, .ref Mr, .ref Mh, .int (nI hp), .int (nI cc), .ref Ma, .ref Mas, .ref Msn, .ref Mac, .ref Mat])), (Mn, .inl (g 0, 1767, .inl fno)), (Mh, .inl (g 0, 9, .inl fmh)), (Mr, .inl (g 0, 3, .inl fmr)), (Ma, .inl (g 0, 3, .inl fma)), (Mas, .inl (g 0, 1767, .inl fas))] H := ⟨hP.sub [5, 0, 1, 2, 3, 4] rfl, hD.sub [5, 0, 1, 2, 3, 4] (by decide) rfl⟩
      have hP9 := hPD9.1; have hD9 := hPD9.2
      subst hQ
      refine W.widen (k := 0) (n := 0) (Nat.le_of_ble_eq_true rfl) (Nat.le_of_ble_eq_true rfl) ?_
      exact W.iret (v := (-1)) hx hb hr (fun tS htS _ => ⟨⟨_, _, rfl, ⟨0, fno, fma, fas, rfl, (h2)⟩, by rw [htS]; exact hP9, hD9⟩, hS.F htS⟩) hS.2.2 dX7_idle_31
    · skip
      have hq_12 : 1 ≤ zk ∧ zk ≤ 200 := b01_1.mp cb_10
      have hPq_16 := hP; have hDq_16 := hD; have hSq_16 := hS; have hlq_16 := hl; clear hP hD hS hl
      obtain ⟨j_13, hl_14, hu_15, rfl⟩ := rg (L := 1) (U := 200) rfl rfl (show 1 < 2 ^ 31 by omega) (show 200 < 2 ^ 31 by omega) hq_12
      have hP := hPq_16; have hD := hDq_16; have hS := hSq_16; have hl := hlq_16; clear hPq_16 hDq_16 hSq_16 hlq_16
      refine lv_aload_n hx hb dX7_idle_21 rfl (lv_at hl 0 rfl) ?_
      refine lv_iload_n hx hb dX7_idle_22 rfl (lv_at hl 1 rfl) ?_
      refine lv_iload_n hx hb dX7_idle_23 rfl (lv_at hl 2 rfl) ?_
      refine ky_Vi (As := [.int (nI j_5), .int (nI j_13)]) (rest := []) ⟨hx, hb, hml, hown, hts⟩ ⟨hK, hN⟩ hZ hP hD hS hA [5, 0, 1, 2, 3, 4] [] (wc := [(Mm, .inr (7, [.int 0, .ref Mt, .int (nI tp), .int zma, .int zwr, .ref Mrr, .ref Mrh, .ref Mrc, .int zrh, .int zrc, .ref Mn, .ref Mf, .ref Mr, .ref Mh, .int (nI hp), .int (nI cc), .ref Ma, .ref Mas, .ref Msn, .ref Mac, .ref Mat])), (Mn, .inl (g 0, 1767, .inl fno)), (Mh, .inl (g 0, 9, .inl fmh)), (Mr, .inl (g 0, 3, .inl fmr)), (Ma, .inl (g 0, 3, .inl fma)), (Mas, .inl (g 0, 1767, .inl fas))]) (wr := []) rfl rfl rfl rfl (by decide) (k_X7_idleOf l D g H.size Mm j_5 j_13 0 Mt tp zma zwr Mrr Mrh Mrc zrh zrc Mn Mf Mr Mh hp cc Ma Mas Msn Mac Mat fno fmh fmr fma fas tb ub (show tb < 2 ^ 27 by omega) (show ub < 2 ^ 27 by omega) (h2) (show 1 ≤ hp by omega) (show hp ≤ 3 by omega) (show 1 ≤ cc by omega) (show cc ≤ 3 by omega) (h7) (show j_5 < 3 by omega) (show j_13 ≤ 200 by omega)) (cwV 2 hts gX7_idle_X7_idleOf rfl rfl rfl (by decide +kernel) ⟨(Nat.le_of_ble_eq_true rfl), (Nat.le_of_ble_eq_true rfl)⟩) 5 7 rfl rfl rfl rfl hl.1 rfl (Nat.le_of_ble_eq_true rfl) dX7_idle_24 ⟨(Nat.le_of_ble_eq_true rfl), (Nat.le_of_ble_eq_true rfl)⟩ (fun r_17 u H locs hw hP2 hD2 hS2 => ?_)
      clear hP hD hS
      obtain ⟨fnox_18, fmax_19, fasx_20, rfl, hf_21⟩ := hw
      have hPD : PD D A [(Mm, .inr (7, [.int 0, .ref Mt, .int (nI tp), .int zma, .int zwr, .ref Mrr, .ref Mrh, .ref Mrc, .int zrh, .int zrc, .ref Mn, .ref Mf, .ref Mr, .ref Mh, .int (nI hp), .int (nI cc), .ref Ma, .ref Mas, .ref Msn, .ref Mac, .ref Mat])), (Mn, .inl (g 0, 1767, .inl fnox_18)), (Mh, .inl (g 0, 9, .inl fmh)), (Mr, .inl (g 0, 3, .inl fmr)), (Ma, .inl (g 0, 3, .inl fmax_19)), (Mas, .inl (g 0, 1767, .inl fasx_20))] H := ⟨hP2, hD2⟩
      have hS := hS2; clear hP2 hD2 hS2; have hP := hPD.1; have hD := hPD.2; clear hPD
      refine W.widen (k := 0) (n := 0) (Nat.le_of_ble_eq_true rfl) (Nat.le_of_ble_eq_true rfl) ?_
      refine lv_goto (tgt := 31) hx hb dX7_idle_27 (by decide) ?_
      have hP9 := hP; have hD9 := hD
      subst hQ
      refine W.widen (k := 0) (n := 0) (Nat.le_of_ble_eq_true rfl) (Nat.le_of_ble_eq_true rfl) ?_
      exact W.iret (v := r_17) hx hb hr (fun tS htS _ => ⟨⟨_, _, rfl, ⟨0, fnox_18, fmax_19, fasx_20, rfl, (hf_21)⟩, by rw [htS]; exact hP9, hD9⟩, hS.F htS⟩) hS.2.2 dX7_idle_31
