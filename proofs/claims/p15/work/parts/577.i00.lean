set_option maxHeartbeats 4000000 in
set_option maxRecDepth 100000 in
theorem w_X7_items_0 (l : Launch) (D : va_G) (g : Nat → ClassId) (sz : Nat) (Mm : Nat) (Mrr : Nat) (zth : Int32) (Mt : Nat) (tp : Nat) (ma : Nat) (Mrh : Nat) (Mrc : Nat) (rh : Nat) (rc : Nat) (Mn : Nat) (Mf : Nat) (Mr : Nat) (Mh : Nat) (zhp : Int32) (zcc : Int32) (Ma : Nat) (Mas : Nat) (Msn : Nat) (Mac : Nat) (Mat : Nat) (fmt : Nat → Int32) (frr : Nat → Int32) (h0 : tp ≤ 160) (h1 : ma ≤ tp) (h2 : n1 frr) : Met l yX7_items wsX7_items ({ frames := 3, cells := 0, slots := 0, locals := 64 }) (va_Pc [.ref Mm, .int 0, .ref Mrr, .int 0] (pre D g sz [(Mm, .inr (7, [.int zth, .ref Mt, .int (nI tp), .int (nI ma), .int (-1), .ref Mrr, .ref Mrh, .ref Mrc, .int (nI rh), .int (nI rc), .ref Mn, .ref Mf, .ref Mr, .ref Mh, .int zhp, .int zcc, .ref Ma, .ref Mas, .ref Msn, .ref Mac, .ref Mat])), (Mt, .inl (g 0, 160, .inl fmt)), (Mrr, .inl (g 0, 3, .inl frr))])) (va_Qv (fun (u : va_W) => ∃ (max : Nat) (zwrx : Int32) (frrx : Nat → Int32), u = [(Mm, .inr (7, [.int zth, .ref Mt, .int (nI tp), .int (nI max), .int zwrx, .ref Mrr, .ref Mrh, .ref Mrc, .int (nI rh), .int (nI rc), .ref Mn, .ref Mf, .ref Mr, .ref Mh, .int zhp, .int zcc, .ref Ma, .ref Mas, .ref Msn, .ref Mac, .ref Mat])), (Mt, .inl (g 0, 160, .inl fmt)), (Mrr, .inl (g 0, 3, .inl frrx))] ∧ ((n1 frrx) ∧ (max ≤ tp) ∧ (ma ≤ max) ∧ (zwrx = (itR fmt tp 0 4 0 ma).1) ∧ (zwrx = -1 → max = (itR fmt tp 0 4 0 ma).2) ∧ (zwrx = -1 → frrx = itW fmt tp 0 0 4 0 ma (us3 0 0 frr)))) (wd D (va_A [(Mm, .inr (7, [.int zth, .ref Mt, .int (nI tp), .int (nI ma), .int (-1), .ref Mrr, .ref Mrh, .ref Mrc, .int (nI rh), .int (nI rc), .ref Mn, .ref Mf, .ref Mr, .ref Mh, .int zhp, .int zcc, .ref Ma, .ref Mas, .ref Msn, .ref Mac, .ref Mat])), (Mt, .inl (g 0, 160, .inl fmt)), (Mrr, .inl (g 0, 3, .inl frr))] sz)) (va_A [(Mm, .inr (7, [.int zth, .ref Mt, .int (nI tp), .int (nI ma), .int (-1), .ref Mrr, .ref Mrh, .ref Mrc, .int (nI rh), .int (nI rc), .ref Mn, .ref Mf, .ref Mr, .ref Mh, .int zhp, .int zcc, .ref Ma, .ref Mas, .ref Msn, .ref Mac, .ref Mat])), (Mt, .inl (g 0, 160, .inl fmt)), (Mrr, .inl (g 0, 3, .inl frr))] sz)) 0 0 (va_A [(Mm, .inr (7, [.int zth, .ref Mt, .int (nI tp), .int (nI ma), .int (-1), .ref Mrr, .ref Mrh, .ref Mrc, .int (nI rh), .int (nI rc), .ref Mn, .ref Mf, .ref Mr, .ref Mh, .int zhp, .int zcc, .ref Ma, .ref Mas, .ref Msn, .ref Mac, .ref Mat])), (Mt, .inl (g 0, 160, .inl fmt)), (Mrr, .inl (g 0, 3, .inl frr))] sz) := by
  refine Met.ofW (cc := cX7_items) (maxL := 6) (ret := none) (by decide) rfl ?_
  intro p e s m args below meth c s₁ B hml hv
  obtain ⟨rfl, hsz, hP, ⟨hK, hN⟩, hD0, hZ⟩ := hv
  have hx := B.exec
  have hb := B.bytes
  have hr := B.returns
  have hts := atoms_spec (ws := wsX7_items) B.pre
  have hown : s.vm.findClass RX7 = some m.cls := findClass_of_methodNamed B.named
  have hlocks := B.notSynchronized
  clear B
  subst hsz
  have hD := hD0.self (sz := s.heap.size)
  clear hD0
  generalize hAe : va_A [(Mm, .inr (7, [.int zth, .ref Mt, .int (nI tp), .int (nI ma), .int (-1), .ref Mrr, .ref Mrh, .ref Mrc, .int (nI rh), .int (nI rc), .ref Mn, .ref Mf, .ref Mr, .ref Mh, .int zhp, .int zcc, .ref Ma, .ref Mas, .ref Msn, .ref Mac, .ref Mat])), (Mt, .inl (g 0, 160, .inl fmt)), (Mrr, .inl (g 0, 3, .inl frr))] s.heap.size = A at hD hZ ⊢
  have hA : ∀ q : Nat, s.heap.size ≤ q → A q := fun q h => by rw [← hAe]; exact Or.inr h
  have hS : va_S A s.heap s.heap [] := va_S.rf
  have f64 := hts (.fieldLink RX7 64 "HopCreditsModel" "at" "I") (List.mem_of_getElem? (i := 2) rfl)
  have f71 := hts (.fieldLink RX7 71 "HopCreditsModel" "wrong" "I") (List.mem_of_getElem? (i := 1) rfl)
  have iX7 : ∀ w ∈ u_ws RX7 TX7 21, w ∈ wsX7_items := fun w h => List.mem_cons_of_mem _ (List.mem_append_right _ (h))
  have hl := lv_entry ([.ref Mm, .int 0, .ref Mrr, .int 0]) (n := 6) (Nat.le_of_ble_eq_true rfl)
  rw [lg_entry_eq]
  generalize (lg_sl ([.ref Mm, .int 0, .ref Mrr, .int 0]) ++ List.replicate (6 - (lg_sl ([.ref Mm, .int 0, .ref Mrr, .int 0])).length) Slot.unset).toArray = ls at hl ⊢
  have hl : lv_has ls 6 [(0, .ref Mm), (1, .int 0), (2, .ref Mrr), (3, .int 0)] := hl
  generalize hQ : MQ below _ _ s _ _ _ = Q
  generalize hH : s.heap = H at hP ⊢
  have hS : va_S A s.heap H [] := by rw [← hH]; exact hS
  clear hH
  refine lv_aload_n hx hb dX7_items_0 rfl (lv_at hl 0 rfl) ?_
  refine lv_iload_n hx hb dX7_items_1 rfl (lv_at hl 1 rfl) ?_
  refine lv_aload_n hx hb dX7_items_2 rfl (lv_at hl 2 rfl) ?_
  refine lv_iload_n hx hb dX7_items_3 rfl (lv_at hl 3 rfl) ?_
  refine ky_Vv (As := [.int 0, .ref Mrr, .int 0]) (rest := []) ⟨hx, hb, hml, hown, hts⟩ ⟨hK, hN⟩ hZ hP hD hS hA [0, 2] [1] (wc := [(Mm, .inr (7, [.int zth, .ref Mt, .int (nI tp), .int (nI ma), .int (-1), .ref Mrr, .ref Mrh, .ref Mrc, .int (nI rh), .int (nI rc), .ref Mn, .ref Mf, .ref Mr, .ref Mh, .int zhp, .int zcc, .ref Ma, .ref Mas, .ref Msn, .ref Mac, .ref Mat])), (Mrr, .inl (g 0, 3, .inl frr))]) (wr := [(Mt, .inl (g 0, 160, .inl fmt))]) rfl rfl rfl rfl (by decide) (w_X7_laysUsual_0 l D g H.size Mm Mrr zth Mt (nI tp) (nI ma) (-1) Mrh Mrc (nI rh) (nI rc) Mn Mf Mr Mh zhp zcc Ma Mas Msn Mac Mat frr (h2)) (cwV 3 hts gX7_items_X7_laysUsual rfl rfl rfl (by decide +kernel) ⟨(Nat.le_of_ble_eq_true rfl), (Nat.le_of_ble_eq_true rfl)⟩) 0 7 rfl rfl rfl rfl hl.1 rfl (Nat.le_of_ble_eq_true rfl) dX7_items_4 ⟨(Nat.le_of_ble_eq_true rfl), (Nat.le_of_ble_eq_true rfl)⟩ (fun u H locs hw hP2 hD2 hS2 => ?_)
  clear hP hD hS
  obtain ⟨frrx_2, rfl, hf_3, hf_4⟩ := hw
  have hPD : PD D A [(Mt, .inl (g 0, 160, .inl fmt)), (Mm, .inr (7, [.int zth, .ref Mt, .int (nI tp), .int (nI ma), .int (-1), .ref Mrr, .ref Mrh, .ref Mrc, .int (nI rh), .int (nI rc), .ref Mn, .ref Mf, .ref Mr, .ref Mh, .int zhp, .int zcc, .ref Ma, .ref Mas, .ref Msn, .ref Mac, .ref Mat])), (Mrr, .inl (g 0, 3, .inl frrx_2))] H := ⟨hP2, hD2⟩
  have hS := hS2; clear hP2 hD2 hS2; have hP := hPD.1; have hD := hPD.2; clear hPD
  refine W.widen (k := 0) (n := 0) (Nat.le_of_ble_eq_true rfl) (Nat.le_of_ble_eq_true rfl) ?_
  refine lv_iconst (v := 0) hx hb dX7_items_7 (by decide) ?_
  refine lv_istore (lv' := [(4, .int 0), (0, .ref Mm), (1, .int 0), (2, .ref Mrr), (3, .int 0)]) hx hb dX7_items_8 hl (by decide) rfl (fun ls hl => ?_)
  refine lv_iload_n hx hb dX7_items_10 rfl (lv_at hl 2 rfl) ?_
  refine lv_aload_n hx hb dX7_items_11 rfl (lv_at hl 1 rfl) ?_
  refine ky_Vi (As := []) (rest := [.int 0]) ⟨hx, hb, hml, hown, hts⟩ ⟨hK, hN⟩ hZ hP hD hS hA [1, 0] [2] (wc := [(Mm, .inr (7, [.int zth, .ref Mt, .int (nI tp), .int (nI ma), .int (-1), .ref Mrr, .ref Mrh, .ref Mrc, .int (nI rh), .int (nI rc), .ref Mn, .ref Mf, .ref Mr, .ref Mh, .int zhp, .int zcc, .ref Ma, .ref Mas, .ref Msn, .ref Mac, .ref Mat])), (Mt, .inl (g 0, 160, .inl fmt))]) (wr := [(Mrr, .inl (g 0, 3, .inl frrx_2))]) rfl rfl rfl rfl (by decide) (r_X7_ahead l D g H.size Mm zth Mt tp ma (-1) Mrr Mrh Mrc rh rc Mn Mf Mr Mh zhp zcc Ma Mas Msn Mac Mat fmt (show tp ≤ 160 by omega) (show ma ≤ tp by omega)) (cwV 0 hts gX7_items_X7_ahead rfl rfl rfl (by decide +kernel) ⟨(Nat.le_of_ble_eq_true rfl), (Nat.le_of_ble_eq_true rfl)⟩) 1 7 rfl rfl rfl rfl hl.1 rfl (Nat.le_of_ble_eq_true rfl) dX7_items_12 ⟨(Nat.le_of_ble_eq_true rfl), (Nat.le_of_ble_eq_true rfl)⟩ (fun r_5 u H locs hw hP2 hD2 hS2 => ?_)
  clear hP hD hS
  obtain ⟨max_6, rfl, rfl, hf_7, hf_8, hf_9⟩ := hw
  have hPD : PD D A [(Mrr, .inl (g 0, 3, .inl frrx_2)), (Mm, .inr (7, [.int zth, .ref Mt, .int (nI tp), .int (nI max_6), .int (-1), .ref Mrr, .ref Mrh, .ref Mrc, .int (nI rh), .int (nI rc), .ref Mn, .ref Mf, .ref Mr, .ref Mh, .int zhp, .int zcc, .ref Ma, .ref Mas, .ref Msn, .ref Mac, .ref Mat])), (Mt, .inl (g 0, 160, .inl fmt))] H := ⟨hP2, hD2⟩
  have hS := hS2; clear hP2 hD2 hS2; have hP := hPD.1; have hD := hPD.2; clear hPD
  refine W.widen (k := 0) (n := 0) (Nat.le_of_ble_eq_true rfl) (Nat.le_of_ble_eq_true rfl) ?_
  refine lv_topi (fun y_10 hey_10 => ?_)
  refine ky_Si (As := [.int 0, .int y_10]) (rest := []) ⟨hx, hb, hml, hown, hts⟩ ⟨hK, hN⟩ hZ hP hD hS hA [] [0, 1, 2] (wc := []) (wr := [(Mrr, .inl (g 0, 3, .inl frrx_2)), (Mm, .inr (7, [.int zth, .ref Mt, .int (nI tp), .int (nI max_6), .int (-1), .ref Mrr, .ref Mrh, .ref Mrc, .int (nI rh), .int (nI rc), .ref Mn, .ref Mf, .ref Mr, .ref Mh, .int zhp, .int zcc, .ref Ma, .ref Mas, .ref Msn, .ref Mac, .ref Mat])), (Mt, .inl (g 0, 160, .inl fmt))]) rfl rfl rfl rfl (by decide) (r_X7_itemBy_0 l D g H.size y_10) (va_cwS 2 hts gX7_items_X7_itemBy rfl rfl rfl (by decide +kernel) ⟨(Nat.le_of_ble_eq_true rfl), (Nat.le_of_ble_eq_true rfl)⟩) rfl hl.1 rfl (Nat.le_of_ble_eq_true rfl) dX7_items_15 ⟨(Nat.le_of_ble_eq_true rfl), (Nat.le_of_ble_eq_true rfl)⟩ (fun r_11 u H locs hw hP2 hD2 hS2 => ?_)
  clear hP hD hS
  obtain ⟨rfl, rfl⟩ := hw
  have hPD : PD D A [(Mrr, .inl (g 0, 3, .inl frrx_2)), (Mm, .inr (7, [.int zth, .ref Mt, .int (nI tp), .int (nI max_6), .int (-1), .ref Mrr, .ref Mrh, .ref Mrc, .int (nI rh), .int (nI rc), .ref Mn, .ref Mf, .ref Mr, .ref Mh, .int zhp, .int zcc, .ref Ma, .ref Mas, .ref Msn, .ref Mac, .ref Mat])), (Mt, .inl (g 0, 160, .inl fmt))] H := ⟨hP2, hD2⟩
  have hS := hS2; clear hP2 hD2 hS2; have hP := hPD.1; have hD := hPD.2; clear hPD
  refine W.widen (k := 0) (n := 0) (Nat.le_of_ble_eq_true rfl) (Nat.le_of_ble_eq_true rfl) ?_
  have hW_12 : itW fmt tp 0 0 4 0 ma (us3 0 0 frr) = itW fmt tp 0 0 4 0 ma frrx_2 := by rw [hf_4]
  rcases itK_c 0 y_10 with qi_13 | qi_13 | qi_13 | qi_13
  · skip
    refine lv_eqi (y := (-1)) (qi_13) ?_
    refine lv_istore (lv' := [(5, .int (-1)), (4, .int 0), (0, .ref Mm), (1, .int 0), (2, .ref Mrr), (3, .int 0)]) hx hb dX7_items_18 hl (by decide) rfl (fun ls hl => ?_)
    refine lv_aload_n hx hb dX7_items_20 rfl (lv_at hl 2 rfl) ?_
    refine va_get (D := D) (ci := 7) (v := .int (-1)) (C := RX7) (T := TX7) (N := 21) hx hb hts iX7 hown hK hP 1 rfl rfl 4 (by decide) f71 (fun _ h9 => h9) rfl dX7_items_21 ?_
    refine lv_iconst (v := (-1)) hx hb dX7_items_24 (by decide) ?_
    refine lv_icmp_ne (tgt := 98) hx hb dX7_items_25 (by decide) (fun cb => absurd (by decide) cb) (fun _ => ?_)
    refine lv_iload hx hb dX7_items_28 (lv_at hl 0 rfl) ?_
    refine lv_iconst (v := (-1)) hx hb dX7_items_30 (by decide) ?_
    refine lv_icmp_eq (tgt := 98) hx hb dX7_items_31 (by decide) (fun _ => ?_) (fun cb => absurd (by decide) cb)
    have hPD9 : PD D A [(Mm, .inr (7, [.int zth, .ref Mt, .int (nI tp), .int (nI max_6), .int (-1), .ref Mrr, .ref Mrh, .ref Mrc, .int (nI rh), .int (nI rc), .ref Mn, .ref Mf, .ref Mr, .ref Mh, .int zhp, .int zcc, .ref Ma, .ref Mas, .ref Msn, .ref Mac, .ref Mat])), (Mt, .inl (g 0, 160, .inl fmt)), (Mrr, .inl (g 0, 3, .inl frrx_2))] H := ⟨hP.sub [1, 2, 0] rfl, hD.sub [1, 2, 0] (by decide) rfl⟩
    have hP9 := hPD9.1; have hD9 := hPD9.2
    subst hQ
    refine W.widen (k := 0) (n := 0) (Nat.le_of_ble_eq_true rfl) (Nat.le_of_ble_eq_true rfl) ?_
    exact W.vret hx hb hr (fun tS htS _ => ⟨⟨_, rfl, ⟨max_6, (-1), frrx_2, rfl, ⟨(hf_3), (show max_6 ≤ tp by omega), (show ma ≤ max_6 by omega), (congrArg Prod.fst (iv_m (f := 3) (m := 0) hf_9 hey_10.symm qi_13)).symm, (fun _ => (congrArg Prod.snd (iv_m (f := 3) (m := 0) hf_9 hey_10.symm qi_13)).symm), (fun _ => (hW_12.trans (iw_m (f := 3) (m := 0) hf_9 hey_10.symm qi_13)).symm)⟩⟩, by rw [htS]; exact hP9, hD9⟩, hS.F htS⟩) hS.2.2 dX7_items_98
  · skip
    refine lv_eqi (y := 0) (qi_13) ?_
    have hil_14 := iv_lt (k := 0) (q := 0) hey_10.symm qi_13 (by decide); have hil_14a := hil_14.1
    refine lv_istore (lv' := [(5, .int 0), (4, .int 0), (0, .ref Mm), (1, .int 0), (2, .ref Mrr), (3, .int 0)]) hx hb dX7_items_18 hl (by decide) rfl (fun ls hl => ?_)
    refine lv_aload_n hx hb dX7_items_20 rfl (lv_at hl 2 rfl) ?_
    refine va_get (D := D) (ci := 7) (v := .int (-1)) (C := RX7) (T := TX7) (N := 21) hx hb hts iX7 hown hK hP 1 rfl rfl 4 (by decide) f71 (fun _ h9 => h9) rfl dX7_items_21 ?_
    refine lv_iconst (v := (-1)) hx hb dX7_items_24 (by decide) ?_
    refine lv_icmp_ne (tgt := 98) hx hb dX7_items_25 (by decide) (fun cb => absurd (by decide) cb) (fun _ => ?_)
    refine lv_iload hx hb dX7_items_28 (lv_at hl 0 rfl) ?_
    refine lv_iconst (v := (-1)) hx hb dX7_items_30 (by decide) ?_
    refine lv_icmp_eq (tgt := 98) hx hb dX7_items_31 (by decide) (fun cb => absurd cb (by decide)) (fun _ => ?_)
    refine lv_iload hx hb dX7_items_34 (lv_at hl 1 rfl) ?_
    refine lv_iload hx hb dX7_items_36 (lv_at hl 0 rfl) ?_
    refine ky_Si (As := [.int 0, .int 0]) (rest := []) ⟨hx, hb, hml, hown, hts⟩ ⟨hK, hN⟩ hZ hP hD hS hA [] [0, 1, 2] (wc := []) (wr := [(Mrr, .inl (g 0, 3, .inl frrx_2)), (Mm, .inr (7, [.int zth, .ref Mt, .int (nI tp), .int (nI max_6), .int (-1), .ref Mrr, .ref Mrh, .ref Mrc, .int (nI rh), .int (nI rc), .ref Mn, .ref Mf, .ref Mr, .ref Mh, .int zhp, .int zcc, .ref Ma, .ref Mas, .ref Msn, .ref Mac, .ref Mat])), (Mt, .inl (g 0, 160, .inl fmt))]) rfl rfl rfl rfl (by decide) (r_X7_has_00 l D g H.size) (va_cwS 2 hts gX7_items_X7_has rfl rfl rfl (by decide +kernel) ⟨(Nat.le_of_ble_eq_true rfl), (Nat.le_of_ble_eq_true rfl)⟩) rfl hl.1 rfl (Nat.le_of_ble_eq_true rfl) dX7_items_38 ⟨(Nat.le_of_ble_eq_true rfl), (Nat.le_of_ble_eq_true rfl)⟩ (fun r_15 u H locs hw hP2 hD2 hS2 => ?_)
    clear hP hD hS
    obtain ⟨rfl, rfl⟩ := hw
    have hPD : PD D A [(Mrr, .inl (g 0, 3, .inl frrx_2)), (Mm, .inr (7, [.int zth, .ref Mt, .int (nI tp), .int (nI max_6), .int (-1), .ref Mrr, .ref Mrh, .ref Mrc, .int (nI rh), .int (nI rc), .ref Mn, .ref Mf, .ref Mr, .ref Mh, .int zhp, .int zcc, .ref Ma, .ref Mas, .ref Msn, .ref Mac, .ref Mat])), (Mt, .inl (g 0, 160, .inl fmt))] H := ⟨hP2, hD2⟩
    have hS := hS2; clear hP2 hD2 hS2; have hP := hPD.1; have hD := hPD.2; clear hPD
    refine W.widen (k := 0) (n := 0) (Nat.le_of_ble_eq_true rfl) (Nat.le_of_ble_eq_true rfl) ?_
    refine lv_if_ne (tgt := 98) hx hb dX7_items_41 (by decide) (fun cb => absurd (by decide) cb) (fun _ => ?_)
    refine lv_iload hx hb dX7_items_44 (lv_at hl 1 rfl) ?_
    refine lv_iconst (v := 1) hx hb dX7_items_46 (by decide) ?_
    refine lv_iload hx hb dX7_items_47 (lv_at hl 0 rfl) ?_
    refine lv_ishl hx hb dX7_items_49 ?_
    refine lv_eqi (y := 1) (by decide) ?_
    refine lv_ior hx hb dX7_items_50 ?_
    refine lv_eqi (y := 1) (by decide) ?_
    refine lv_istore (lv' := [(4, .int 1), (5, .int 0), (0, .ref Mm), (1, .int 0), (2, .ref Mrr), (3, .int 0)]) hx hb dX7_items_51 hl (by decide) rfl (fun ls hl => ?_)
    refine lv_aload_n hx hb dX7_items_53 rfl (lv_at hl 2 rfl) ?_
    refine lv_dup hx hb dX7_items_54 rfl ?_
    refine va_get (D := D) (ci := 7) (v := .int (nI max_6)) (C := RX7) (T := TX7) (N := 21) hx hb hts iX7 hown hK hP 1 rfl rfl 3 (by decide) f64 (fun _ h9 => h9) rfl dX7_items_55 ?_
    refine lv_iconst (v := 1) hx hb dX7_items_58 (by decide) ?_
    refine lv_iadd hx hb dX7_items_59 ?_
    refine lv_eqi (y := (nI (max_6 + 1))) (nI_add (max_6) (1)) ?_
    refine va_put (D := D) (ci := 7) (v := .int (nI (max_6 + 1))) (ty := .int) (C := RX7) (T := TX7) (N := 21) hx hb hts iX7 tyX7 tyX7_ok nmX7 hown hK hP hD hS 1 rfl rfl 3 (by decide) f64 (fun _ h9 => h9) rfl (by decide +kernel) (rfl) (rfl) (Nat.le_of_ble_eq_true rfl) dX7_items_60 (fun H locs hP2 hD2 hS2 => ?_)
    clear hP hD hS
    have hPD : PD D A [(Mrr, .inl (g 0, 3, .inl frrx_2)), (Mm, .inr (7, [.int zth, .ref Mt, .int (nI tp), .int (nI (max_6 + 1)), .int (-1), .ref Mrr, .ref Mrh, .ref Mrc, .int (nI rh), .int (nI rc), .ref Mn, .ref Mf, .ref Mr, .ref Mh, .int zhp, .int zcc, .ref Ma, .ref Mas, .ref Msn, .ref Mac, .ref Mat])), (Mt, .inl (g 0, 160, .inl fmt))] H := ⟨hP2, hD2⟩
    have hS := hS2; clear hP2 hD2 hS2; have hP := hPD.1; have hD := hPD.2; clear hPD
    refine lv_aload_n hx hb dX7_items_63 rfl (lv_at hl 4 rfl) ?_
    refine lv_iload_n hx hb dX7_items_64 rfl (lv_at hl 5 rfl) ?_
    refine lv_iload hx hb dX7_items_65 (lv_at hl 1 rfl) ?_
    refine lv_iadd hx hb dX7_items_67 ?_
    refine lv_eqi (y := 0) (by decide) ?_
    refine lv_aload_n hx hb dX7_items_68 rfl (lv_at hl 2 rfl) ?_
    refine lv_iload_n hx hb dX7_items_69 rfl (lv_at hl 3 rfl) ?_
    refine lv_iload hx hb dX7_items_70 (lv_at hl 1 rfl) ?_
    refine ky_Si (As := [.int 0, .int 0]) (rest := [.ref Mm, .int 0, .ref Mrr]) ⟨hx, hb, hml, hown, hts⟩ ⟨hK, hN⟩ hZ hP hD hS hA [] [0, 1, 2] (wc := []) (wr := [(Mrr, .inl (g 0, 3, .inl frrx_2)), (Mm, .inr (7, [.int zth, .ref Mt, .int (nI tp), .int (nI (max_6 + 1)), .int (-1), .ref Mrr, .ref Mrh, .ref Mrc, .int (nI rh), .int (nI rc), .ref Mn, .ref Mf, .ref Mr, .ref Mh, .int zhp, .int zcc, .ref Ma, .ref Mas, .ref Msn, .ref Mac, .ref Mat])), (Mt, .inl (g 0, 160, .inl fmt))]) rfl rfl rfl rfl (by decide) (r_X7_lowest_00 l D g H.size) (va_cwS 2 hts gX7_items_X7_lowest rfl rfl rfl (by decide +kernel) ⟨(Nat.le_of_ble_eq_true rfl), (Nat.le_of_ble_eq_true rfl)⟩) rfl hl.1 rfl (Nat.le_of_ble_eq_true rfl) dX7_items_72 ⟨(Nat.le_of_ble_eq_true rfl), (Nat.le_of_ble_eq_true rfl)⟩ (fun r_16 u H locs hw hP2 hD2 hS2 => ?_)
    clear hP hD hS
    obtain ⟨rfl, rfl⟩ := hw
    have hPD : PD D A [(Mrr, .inl (g 0, 3, .inl frrx_2)), (Mm, .inr (7, [.int zth, .ref Mt, .int (nI tp), .int (nI (max_6 + 1)), .int (-1), .ref Mrr, .ref Mrh, .ref Mrc, .int (nI rh), .int (nI rc), .ref Mn, .ref Mf, .ref Mr, .ref Mh, .int zhp, .int zcc, .ref Ma, .ref Mas, .ref Msn, .ref Mac, .ref Mat])), (Mt, .inl (g 0, 160, .inl fmt))] H := ⟨hP2, hD2⟩
    have hS := hS2; clear hP2 hD2 hS2; have hP := hPD.1; have hD := hPD.2; clear hPD
    refine W.widen (k := 0) (n := 0) (Nat.le_of_ble_eq_true rfl) (Nat.le_of_ble_eq_true rfl) ?_
    refine lv_iload_n hx hb dX7_items_75 rfl (lv_at hl 3 rfl) ?_
    refine lv_iload hx hb dX7_items_76 (lv_at hl 1 rfl) ?_
    refine ky_Si (As := [.int 0, .int 0]) (rest := [.int 1, .ref Mm, .int 0, .ref Mrr]) ⟨hx, hb, hml, hown, hts⟩ ⟨hK, hN⟩ hZ hP hD hS hA [] [0, 1, 2] (wc := []) (wr := [(Mrr, .inl (g 0, 3, .inl frrx_2)), (Mm, .inr (7, [.int zth, .ref Mt, .int (nI tp), .int (nI (max_6 + 1)), .int (-1), .ref Mrr, .ref Mrh, .ref Mrc, .int (nI rh), .int (nI rc), .ref Mn, .ref Mf, .ref Mr, .ref Mh, .int zhp, .int zcc, .ref Ma, .ref Mas, .ref Msn, .ref Mac, .ref Mat])), (Mt, .inl (g 0, 160, .inl fmt))]) rfl rfl rfl rfl (by decide) (r_X7_highest_00 l D g H.size) (va_cwS 2 hts gX7_items_X7_highest rfl rfl rfl (by decide +kernel) ⟨(Nat.le_of_ble_eq_true rfl), (Nat.le_of_ble_eq_true rfl)⟩) rfl hl.1 rfl (Nat.le_of_ble_eq_true rfl) dX7_items_78 ⟨(Nat.le_of_ble_eq_true rfl), (Nat.le_of_ble_eq_true rfl)⟩ (fun r_17 u H locs hw hP2 hD2 hS2 => ?_)
    clear hP hD hS
    obtain ⟨rfl, rfl⟩ := hw
    have hPD : PD D A [(Mrr, .inl (g 0, 3, .inl frrx_2)), (Mm, .inr (7, [.int zth, .ref Mt, .int (nI tp), .int (nI (max_6 + 1)), .int (-1), .ref Mrr, .ref Mrh, .ref Mrc, .int (nI rh), .int (nI rc), .ref Mn, .ref Mf, .ref Mr, .ref Mh, .int zhp, .int zcc, .ref Ma, .ref Mas, .ref Msn, .ref Mac, .ref Mat])), (Mt, .inl (g 0, 160, .inl fmt))] H := ⟨hP2, hD2⟩
    have hS := hS2; clear hP2 hD2 hS2; have hP := hPD.1; have hD := hPD.2; clear hPD
    refine W.widen (k := 0) (n := 0) (Nat.le_of_ble_eq_true rfl) (Nat.le_of_ble_eq_true rfl) ?_
    refine ky_Vi (As := [.int 1, .int 4]) (rest := [.int 0, .ref Mrr]) ⟨hx, hb, hml, hown, hts⟩ ⟨hK, hN⟩ hZ hP hD hS hA [1, 2] [0] (wc := [(Mm, .inr (7, [.int zth, .ref Mt, .int (nI tp), .int (nI (max_6 + 1)), .int (-1), .ref Mrr, .ref Mrh, .ref Mrc, .int (nI rh), .int (nI rc), .ref Mn, .ref Mf, .ref Mr, .ref Mh, .int zhp, .int zcc, .ref Ma, .ref Mas, .ref Msn, .ref Mac, .ref Mat])), (Mt, .inl (g 0, 160, .inl fmt))]) (wr := [(Mrr, .inl (g 0, 3, .inl frrx_2))]) rfl rfl rfl rfl (by decide) (w_X7_number l D g H.size Mm 1 4 zth Mt tp (max_6 + 1) Mrr Mrh Mrc rh rc Mn Mf Mr Mh zhp zcc Ma Mas Msn Mac Mat fmt (show tp ≤ 160 by omega) (show (max_6 + 1) ≤ tp by omega) (show 1 ≤ 1 by omega)) (cwV 2 hts gX7_items_X7_number rfl rfl rfl (by decide +kernel) ⟨(Nat.le_of_ble_eq_true rfl), (Nat.le_of_ble_eq_true rfl)⟩) 1 7 rfl rfl rfl rfl hl.1 rfl (Nat.le_of_ble_eq_true rfl) dX7_items_81 ⟨(Nat.le_of_ble_eq_true rfl), (Nat.le_of_ble_eq_true rfl)⟩ (fun r_18 u H locs hw hP2 hD2 hS2 => ?_)
    clear hP hD hS
    obtain ⟨max_19, zwrx_20, nx_21, rfl, rfl, hf_22⟩ := hw
    have hg_23 := hf_22.1
    have hg_24 := hf_22.2.1
    have hg_25 := hf_22.2.2.1
    have hPD : PD D A [(Mrr, .inl (g 0, 3, .inl frrx_2)), (Mm, .inr (7, [.int zth, .ref Mt, .int (nI tp), .int (nI max_19), .int zwrx_20, .ref Mrr, .ref Mrh, .ref Mrc, .int (nI rh), .int (nI rc), .ref Mn, .ref Mf, .ref Mr, .ref Mh, .int zhp, .int zcc, .ref Ma, .ref Mas, .ref Msn, .ref Mac, .ref Mat])), (Mt, .inl (g 0, 160, .inl fmt))] H := ⟨hP2, hD2⟩
    have hS := hS2; clear hP2 hD2 hS2; have hP := hPD.1; have hD := hPD.2; clear hPD
    refine W.widen (k := 0) (n := 0) (Nat.le_of_ble_eq_true rfl) (Nat.le_of_ble_eq_true rfl) ?_
    refine va_iast hx hb hK hP hD hS 0 0 rfl rfl (by unfold vp_in; decide) dX7_items_84 (fun H locs hP2 hD2 hS2 => ?_)
    clear hP hD hS
    have hPD : PD D A [(Mrr, .inl (g 0, 3, .inl (upd frrx_2 0 (nI nx_21)))), (Mm, .inr (7, [.int zth, .ref Mt, .int (nI tp), .int (nI max_19), .int zwrx_20, .ref Mrr, .ref Mrh, .ref Mrc, .int (nI rh), .int (nI rc), .ref Mn, .ref Mf, .ref Mr, .ref Mh, .int zhp, .int zcc, .ref Ma, .ref Mas, .ref Msn, .ref Mac, .ref Mat])), (Mt, .inl (g 0, 160, .inl fmt))] H := ⟨hP2, hD2⟩
    have hS := hS2; clear hP2 hD2 hS2; have hP := hPD.1; have hD := hPD.2; clear hPD
    by_cases cw_26 : zwrx_20 = -1
    · skip
      have hPq_27 := hP; have hDq_27 := hD; have hSq_27 := hS; have hlq_27 := hl; clear hP hD hS hl
      subst cw_26
      have hP := hPq_27; have hD := hDq_27; have hS := hSq_27; have hl := hlq_27; clear hPq_27 hDq_27 hSq_27 hlq_27
      have hne_29 := hf_22.2.2.2.2.1 rfl
      have hnv_30 := hf_22.2.2.2.2.2 rfl
      have hR_28 : itR fmt tp 0 4 0 ma = itR fmt tp 0 3 1 max_19 := (itR_go (f := 3) (m := 0) (q := 0) hf_9 hil_14.1 hil_14.2 (by decide) (by decide) hf_22.2.2.2.1.symm).trans (by rw [hne_29])
      have hW_31 : itW fmt tp 0 0 4 0 ma (us3 0 0 frr) = itW fmt tp 0 0 3 1 max_19 (upd frrx_2 0 (nI nx_21)) := hW_12.trans ((itW_go (f := 3) (m := 0) (q := 0) hf_9 hil_14.1 hil_14.2 (by decide) (by decide) hf_22.2.2.2.1.symm).trans (by rw [hne_29, hnv_30]))
      refine lv_iload_n hx hb dX7_items_85 rfl (lv_at hl 3 rfl) ?_
      refine lv_aload_n hx hb dX7_items_86 rfl (lv_at hl 2 rfl) ?_
      refine ky_Vi (As := []) (rest := [.int 0]) ⟨hx, hb, hml, hown, hts⟩ ⟨hK, hN⟩ hZ hP hD hS hA [1, 2] [0] (wc := [(Mm, .inr (7, [.int zth, .ref Mt, .int (nI tp), .int (nI max_19), .int (-1), .ref Mrr, .ref Mrh, .ref Mrc, .int (nI rh), .int (nI rc), .ref Mn, .ref Mf, .ref Mr, .ref Mh, .int zhp, .int zcc, .ref Ma, .ref Mas, .ref Msn, .ref Mac, .ref Mat])), (Mt, .inl (g 0, 160, .inl fmt))]) (wr := [(Mrr, .inl (g 0, 3, .inl (upd frrx_2 0 (nI nx_21))))]) rfl rfl rfl rfl (by decide) (r_X7_ahead l D g H.size Mm zth Mt tp max_19 (-1) Mrr Mrh Mrc rh rc Mn Mf Mr Mh zhp zcc Ma Mas Msn Mac Mat fmt (show tp ≤ 160 by omega) (show max_19 ≤ tp by omega)) (cwV 0 hts gX7_items_X7_ahead rfl rfl rfl (by decide +kernel) ⟨(Nat.le_of_ble_eq_true rfl), (Nat.le_of_ble_eq_true rfl)⟩) 1 7 rfl rfl rfl rfl hl.1 rfl (Nat.le_of_ble_eq_true rfl) dX7_items_87 ⟨(Nat.le_of_ble_eq_true rfl), (Nat.le_of_ble_eq_true rfl)⟩ (fun r_32 u H locs hw hP2 hD2 hS2 => ?_)
      clear hP hD hS
      obtain ⟨max_33, rfl, rfl, hf_34, hf_35, hf_36⟩ := hw
      have hPD : PD D A [(Mrr, .inl (g 0, 3, .inl (upd frrx_2 0 (nI nx_21)))), (Mm, .inr (7, [.int zth, .ref Mt, .int (nI tp), .int (nI max_33), .int (-1), .ref Mrr, .ref Mrh, .ref Mrc, .int (nI rh), .int (nI rc), .ref Mn, .ref Mf, .ref Mr, .ref Mh, .int zhp, .int zcc, .ref Ma, .ref Mas, .ref Msn, .ref Mac, .ref Mat])), (Mt, .inl (g 0, 160, .inl fmt))] H := ⟨hP2, hD2⟩
      have hS := hS2; clear hP2 hD2 hS2; have hP := hPD.1; have hD := hPD.2; clear hPD
      refine W.widen (k := 0) (n := 0) (Nat.le_of_ble_eq_true rfl) (Nat.le_of_ble_eq_true rfl) ?_
      refine lv_topi (fun y_37 hey_37 => ?_)
      refine ky_Si (As := [.int 0, .int y_37]) (rest := []) ⟨hx, hb, hml, hown, hts⟩ ⟨hK, hN⟩ hZ hP hD hS hA [] [0, 1, 2] (wc := []) (wr := [(Mrr, .inl (g 0, 3, .inl (upd frrx_2 0 (nI nx_21)))), (Mm, .inr (7, [.int zth, .ref Mt, .int (nI tp), .int (nI max_33), .int (-1), .ref Mrr, .ref Mrh, .ref Mrc, .int (nI rh), .int (nI rc), .ref Mn, .ref Mf, .ref Mr, .ref Mh, .int zhp, .int zcc, .ref Ma, .ref Mas, .ref Msn, .ref Mac, .ref Mat])), (Mt, .inl (g 0, 160, .inl fmt))]) rfl rfl rfl rfl (by decide) (r_X7_itemBy_0 l D g H.size y_37) (va_cwS 2 hts gX7_items_X7_itemBy rfl rfl rfl (by decide +kernel) ⟨(Nat.le_of_ble_eq_true rfl), (Nat.le_of_ble_eq_true rfl)⟩) rfl hl.1 rfl (Nat.le_of_ble_eq_true rfl) dX7_items_90 ⟨(Nat.le_of_ble_eq_true rfl), (Nat.le_of_ble_eq_true rfl)⟩ (fun r_38 u H locs hw hP2 hD2 hS2 => ?_)
      clear hP hD hS
      obtain ⟨rfl, rfl⟩ := hw
      have hPD : PD D A [(Mrr, .inl (g 0, 3, .inl (upd frrx_2 0 (nI nx_21)))), (Mm, .inr (7, [.int zth, .ref Mt, .int (nI tp), .int (nI max_33), .int (-1), .ref Mrr, .ref Mrh, .ref Mrc, .int (nI rh), .int (nI rc), .ref Mn, .ref Mf, .ref Mr, .ref Mh, .int zhp, .int zcc, .ref Ma, .ref Mas, .ref Msn, .ref Mac, .ref Mat])), (Mt, .inl (g 0, 160, .inl fmt))] H := ⟨hP2, hD2⟩
      have hS := hS2; clear hP2 hD2 hS2; have hP := hPD.1; have hD := hPD.2; clear hPD
      refine W.widen (k := 0) (n := 0) (Nat.le_of_ble_eq_true rfl) (Nat.le_of_ble_eq_true rfl) ?_
      rcases itK_c 0 y_37 with qi_39 | qi_39 | qi_39 | qi_39
      · skip
        refine lv_eqi (y := (-1)) (qi_39) ?_
        refine lv_istore (lv' := [(5, .int (-1)), (4, .int 1), (0, .ref Mm), (1, .int 0), (2, .ref Mrr), (3, .int 0)]) hx hb dX7_items_93 hl (by decide) rfl (fun ls hl => ?_)
        refine lv_goto (tgt := 20) hx hb dX7_items_95 (by decide) ?_
        refine lv_aload_n hx hb dX7_items_20 rfl (lv_at hl 2 rfl) ?_
        refine va_get (D := D) (ci := 7) (v := .int (-1)) (C := RX7) (T := TX7) (N := 21) hx hb hts iX7 hown hK hP 1 rfl rfl 4 (by decide) f71 (fun _ h9 => h9) rfl dX7_items_21 ?_
        refine lv_iconst (v := (-1)) hx hb dX7_items_24 (by decide) ?_
        refine lv_icmp_ne (tgt := 98) hx hb dX7_items_25 (by decide) (fun cb => absurd (by decide) cb) (fun _ => ?_)
        refine lv_iload hx hb dX7_items_28 (lv_at hl 0 rfl) ?_
        refine lv_iconst (v := (-1)) hx hb dX7_items_30 (by decide) ?_
        refine lv_icmp_eq (tgt := 98) hx hb dX7_items_31 (by decide) (fun _ => ?_) (fun cb => absurd (by decide) cb)
        have hPD9 : PD D A [(Mm, .inr (7, [.int zth, .ref Mt, .int (nI tp), .int (nI max_33), .int (-1), .ref Mrr, .ref Mrh, .ref Mrc, .int (nI rh), .int (nI rc), .ref Mn, .ref Mf, .ref Mr, .ref Mh, .int zhp, .int zcc, .ref Ma, .ref Mas, .ref Msn, .ref Mac, .ref Mat])), (Mt, .inl (g 0, 160, .inl fmt)), (Mrr, .inl (g 0, 3, .inl (upd frrx_2 0 (nI nx_21))))] H := ⟨hP.sub [1, 2, 0] rfl, hD.sub [1, 2, 0] (by decide) rfl⟩
        have hP9 := hPD9.1; have hD9 := hPD9.2
        subst hQ
        refine W.widen (k := 0) (n := 0) (Nat.le_of_ble_eq_true rfl) (Nat.le_of_ble_eq_true rfl) ?_
        exact W.vret hx hb hr (fun tS htS _ => ⟨⟨_, rfl, ⟨max_33, (-1), (upd frrx_2 0 (nI nx_21)), rfl, ⟨(n1_upd (hf_3) (n := nx_21) (show nx_21 ≤ 99 by omega)), (show max_33 ≤ tp by omega), (show ma ≤ max_33 by omega), (congrArg Prod.fst (hR_28.trans (iv_m (f := 2) (m := 1) hf_36 hey_37.symm qi_39))).symm, (fun _ => (congrArg Prod.snd (hR_28.trans (iv_m (f := 2) (m := 1) hf_36 hey_37.symm qi_39))).symm), (fun _ => (hW_31.trans (iw_m (f := 2) (m := 1) hf_36 hey_37.symm qi_39)).symm)⟩⟩, by rw [htS]; exact hP9, hD9⟩, hS.F htS⟩) hS.2.2 dX7_items_98
      · skip
        refine lv_eqi (y := 0) (qi_39) ?_
        have hil_40 := iv_lt (k := 0) (q := 0) hey_37.symm qi_39 (by decide); have hil_40a := hil_40.1
        refine lv_istore (lv' := [(5, .int 0), (4, .int 1), (0, .ref Mm), (1, .int 0), (2, .ref Mrr), (3, .int 0)]) hx hb dX7_items_93 hl (by decide) rfl (fun ls hl => ?_)
        refine lv_goto (tgt := 20) hx hb dX7_items_95 (by decide) ?_
        refine lv_aload_n hx hb dX7_items_20 rfl (lv_at hl 2 rfl) ?_
        refine va_get (D := D) (ci := 7) (v := .int (-1)) (C := RX7) (T := TX7) (N := 21) hx hb hts iX7 hown hK hP 1 rfl rfl 4 (by decide) f71 (fun _ h9 => h9) rfl dX7_items_21 ?_
        refine lv_iconst (v := (-1)) hx hb dX7_items_24 (by decide) ?_
        refine lv_icmp_ne (tgt := 98) hx hb dX7_items_25 (by decide) (fun cb => absurd (by decide) cb) (fun _ => ?_)
        refine lv_iload hx hb dX7_items_28 (lv_at hl 0 rfl) ?_
        refine lv_iconst (v := (-1)) hx hb dX7_items_30 (by decide) ?_
        refine lv_icmp_eq (tgt := 98) hx hb dX7_items_31 (by decide) (fun cb => absurd cb (by decide)) (fun _ => ?_)
        refine lv_iload hx hb dX7_items_34 (lv_at hl 1 rfl) ?_
        refine lv_iload hx hb dX7_items_36 (lv_at hl 0 rfl) ?_
        refine ky_Si (As := [.int 1, .int 0]) (rest := []) ⟨hx, hb, hml, hown, hts⟩ ⟨hK, hN⟩ hZ hP hD hS hA [] [0, 1, 2] (wc := []) (wr := [(Mrr, .inl (g 0, 3, .inl (upd frrx_2 0 (nI nx_21)))), (Mm, .inr (7, [.int zth, .ref Mt, .int (nI tp), .int (nI max_33), .int (-1), .ref Mrr, .ref Mrh, .ref Mrc, .int (nI rh), .int (nI rc), .ref Mn, .ref Mf, .ref Mr, .ref Mh, .int zhp, .int zcc, .ref Ma, .ref Mas, .ref Msn, .ref Mac, .ref Mat])), (Mt, .inl (g 0, 160, .inl fmt))]) rfl rfl rfl rfl (by decide) (r_X7_has_10 l D g H.size) (va_cwS 2 hts gX7_items_X7_has rfl rfl rfl (by decide +kernel) ⟨(Nat.le_of_ble_eq_true rfl), (Nat.le_of_ble_eq_true rfl)⟩) rfl hl.1 rfl (Nat.le_of_ble_eq_true rfl) dX7_items_38 ⟨(Nat.le_of_ble_eq_true rfl), (Nat.le_of_ble_eq_true rfl)⟩ (fun r_41 u H locs hw hP2 hD2 hS2 => ?_)
        clear hP hD hS
        obtain ⟨rfl, rfl⟩ := hw
        have hPD : PD D A [(Mrr, .inl (g 0, 3, .inl (upd frrx_2 0 (nI nx_21)))), (Mm, .inr (7, [.int zth, .ref Mt, .int (nI tp), .int (nI max_33), .int (-1), .ref Mrr, .ref Mrh, .ref Mrc, .int (nI rh), .int (nI rc), .ref Mn, .ref Mf, .ref Mr, .ref Mh, .int zhp, .int zcc, .ref Ma, .ref Mas, .ref Msn, .ref Mac, .ref Mat])), (Mt, .inl (g 0, 160, .inl fmt))] H := ⟨hP2, hD2⟩
        have hS := hS2; clear hP2 hD2 hS2; have hP := hPD.1; have hD := hPD.2; clear hPD
        refine W.widen (k := 0) (n := 0) (Nat.le_of_ble_eq_true rfl) (Nat.le_of_ble_eq_true rfl) ?_
        refine lv_if_ne (tgt := 98) hx hb dX7_items_41 (by decide) (fun _ => ?_) (fun cb => absurd cb (by decide))
        have hPD9 : PD D A [(Mm, .inr (7, [.int zth, .ref Mt, .int (nI tp), .int (nI max_33), .int (-1), .ref Mrr, .ref Mrh, .ref Mrc, .int (nI rh), .int (nI rc), .ref Mn, .ref Mf, .ref Mr, .ref Mh, .int zhp, .int zcc, .ref Ma, .ref Mas, .ref Msn, .ref Mac, .ref Mat])), (Mt, .inl (g 0, 160, .inl fmt)), (Mrr, .inl (g 0, 3, .inl (upd frrx_2 0 (nI nx_21))))] H := ⟨hP.sub [1, 2, 0] rfl, hD.sub [1, 2, 0] (by decide) rfl⟩
        have hP9 := hPD9.1; have hD9 := hPD9.2
        subst hQ
        refine W.widen (k := 0) (n := 0) (Nat.le_of_ble_eq_true rfl) (Nat.le_of_ble_eq_true rfl) ?_
        exact W.vret hx hb hr (fun tS htS _ => ⟨⟨_, rfl, ⟨max_33, (-1), (upd frrx_2 0 (nI nx_21)), rfl, ⟨(n1_upd (hf_3) (n := nx_21) (show nx_21 ≤ 99 by omega)), (show max_33 ≤ tp by omega), (show ma ≤ max_33 by omega), (congrArg Prod.fst (hR_28.trans (itR_again (f := 2) (m := 1) (q := 0) hf_36 hil_40.2 (by decide) (by decide)))).symm, (fun _ => (congrArg Prod.snd (hR_28.trans (itR_again (f := 2) (m := 1) (q := 0) hf_36 hil_40.2 (by decide) (by decide)))).symm), (fun _ => (hW_31.trans (itW_again (f := 2) (m := 1) (q := 0) hf_36 hil_40.2 (by decide) (by decide))).symm)⟩⟩, by rw [htS]; exact hP9, hD9⟩, hS.F htS⟩) hS.2.2 dX7_items_98
      · skip
        refine lv_eqi (y := 1) (qi_39) ?_
        have hil_42 := iv_lt (k := 0) (q := 1) hey_37.symm qi_39 (by decide); have hil_42a := hil_42.1
        refine lv_istore (lv' := [(5, .int 1), (4, .int 1), (0, .ref Mm), (1, .int 0), (2, .ref Mrr), (3, .int 0)]) hx hb dX7_items_93 hl (by decide) rfl (fun ls hl => ?_)
        refine lv_goto (tgt := 20) hx hb dX7_items_95 (by decide) ?_
        refine lv_aload_n hx hb dX7_items_20 rfl (lv_at hl 2 rfl) ?_
        refine va_get (D := D) (ci := 7) (v := .int (-1)) (C := RX7) (T := TX7) (N := 21) hx hb hts iX7 hown hK hP 1 rfl rfl 4 (by decide) f71 (fun _ h9 => h9) rfl dX7_items_21 ?_
        refine lv_iconst (v := (-1)) hx hb dX7_items_24 (by decide) ?_
        refine lv_icmp_ne (tgt := 98) hx hb dX7_items_25 (by decide) (fun cb => absurd (by decide) cb) (fun _ => ?_)
        refine lv_iload hx hb dX7_items_28 (lv_at hl 0 rfl) ?_
        refine lv_iconst (v := (-1)) hx hb dX7_items_30 (by decide) ?_
        refine lv_icmp_eq (tgt := 98) hx hb dX7_items_31 (by decide) (fun cb => absurd cb (by decide)) (fun _ => ?_)
        refine lv_iload hx hb dX7_items_34 (lv_at hl 1 rfl) ?_
        refine lv_iload hx hb dX7_items_36 (lv_at hl 0 rfl) ?_
        refine ky_Si (As := [.int 1, .int 1]) (rest := []) ⟨hx, hb, hml, hown, hts⟩ ⟨hK, hN⟩ hZ hP hD hS hA [] [0, 1, 2] (wc := []) (wr := [(Mrr, .inl (g 0, 3, .inl (upd frrx_2 0 (nI nx_21)))), (Mm, .inr (7, [.int zth, .ref Mt, .int (nI tp), .int (nI max_33), .int (-1), .ref Mrr, .ref Mrh, .ref Mrc, .int (nI rh), .int (nI rc), .ref Mn, .ref Mf, .ref Mr, .ref Mh, .int zhp, .int zcc, .ref Ma, .ref Mas, .ref Msn, .ref Mac, .ref Mat])), (Mt, .inl (g 0, 160, .inl fmt))]) rfl rfl rfl rfl (by decide) (r_X7_has_11 l D g H.size) (va_cwS 2 hts gX7_items_X7_has rfl rfl rfl (by decide +kernel) ⟨(Nat.le_of_ble_eq_true rfl), (Nat.le_of_ble_eq_true rfl)⟩) rfl hl.1 rfl (Nat.le_of_ble_eq_true rfl) dX7_items_38 ⟨(Nat.le_of_ble_eq_true rfl), (Nat.le_of_ble_eq_true rfl)⟩ (fun r_43 u H locs hw hP2 hD2 hS2 => ?_)
        clear hP hD hS
        obtain ⟨rfl, rfl⟩ := hw
        have hPD : PD D A [(Mrr, .inl (g 0, 3, .inl (upd frrx_2 0 (nI nx_21)))), (Mm, .inr (7, [.int zth, .ref Mt, .int (nI tp), .int (nI max_33), .int (-1), .ref Mrr, .ref Mrh, .ref Mrc, .int (nI rh), .int (nI rc), .ref Mn, .ref Mf, .ref Mr, .ref Mh, .int zhp, .int zcc, .ref Ma, .ref Mas, .ref Msn, .ref Mac, .ref Mat])), (Mt, .inl (g 0, 160, .inl fmt))] H := ⟨hP2, hD2⟩
        have hS := hS2; clear hP2 hD2 hS2; have hP := hPD.1; have hD := hPD.2; clear hPD
        refine W.widen (k := 0) (n := 0) (Nat.le_of_ble_eq_true rfl) (Nat.le_of_ble_eq_true rfl) ?_
        refine lv_if_ne (tgt := 98) hx hb dX7_items_41 (by decide) (fun cb => absurd (by decide) cb) (fun _ => ?_)
        refine lv_iload hx hb dX7_items_44 (lv_at hl 1 rfl) ?_
        refine lv_iconst (v := 1) hx hb dX7_items_46 (by decide) ?_
        refine lv_iload hx hb dX7_items_47 (lv_at hl 0 rfl) ?_
        refine lv_ishl hx hb dX7_items_49 ?_
        refine lv_eqi (y := 2) (by decide) ?_
        refine lv_ior hx hb dX7_items_50 ?_
        refine lv_eqi (y := 3) (by decide) ?_
        refine lv_istore (lv' := [(4, .int 3), (5, .int 1), (0, .ref Mm), (1, .int 0), (2, .ref Mrr), (3, .int 0)]) hx hb dX7_items_51 hl (by decide) rfl (fun ls hl => ?_)
        refine lv_aload_n hx hb dX7_items_53 rfl (lv_at hl 2 rfl) ?_
        refine lv_dup hx hb dX7_items_54 rfl ?_
        refine va_get (D := D) (ci := 7) (v := .int (nI max_33)) (C := RX7) (T := TX7) (N := 21) hx hb hts iX7 hown hK hP 1 rfl rfl 3 (by decide) f64 (fun _ h9 => h9) rfl dX7_items_55 ?_
        refine lv_iconst (v := 1) hx hb dX7_items_58 (by decide) ?_
        refine lv_iadd hx hb dX7_items_59 ?_
        refine lv_eqi (y := (nI (max_33 + 1))) (nI_add (max_33) (1)) ?_
        refine va_put (D := D) (ci := 7) (v := .int (nI (max_33 + 1))) (ty := .int) (C := RX7) (T := TX7) (N := 21) hx hb hts iX7 tyX7 tyX7_ok nmX7 hown hK hP hD hS 1 rfl rfl 3 (by decide) f64 (fun _ h9 => h9) rfl (by decide +kernel) (rfl) (rfl) (Nat.le_of_ble_eq_true rfl) dX7_items_60 (fun H locs hP2 hD2 hS2 => ?_)
        clear hP hD hS
        have hPD : PD D A [(Mrr, .inl (g 0, 3, .inl (upd frrx_2 0 (nI nx_21)))), (Mm, .inr (7, [.int zth, .ref Mt, .int (nI tp), .int (nI (max_33 + 1)), .int (-1), .ref Mrr, .ref Mrh, .ref Mrc, .int (nI rh), .int (nI rc), .ref Mn, .ref Mf, .ref Mr, .ref Mh, .int zhp, .int zcc, .ref Ma, .ref Mas, .ref Msn, .ref Mac, .ref Mat])), (Mt, .inl (g 0, 160, .inl fmt))] H := ⟨hP2, hD2⟩
        have hS := hS2; clear hP2 hD2 hS2; have hP := hPD.1; have hD := hPD.2; clear hPD
        refine lv_aload_n hx hb dX7_items_63 rfl (lv_at hl 4 rfl) ?_
        refine lv_iload_n hx hb dX7_items_64 rfl (lv_at hl 5 rfl) ?_
        refine lv_iload hx hb dX7_items_65 (lv_at hl 1 rfl) ?_
        refine lv_iadd hx hb dX7_items_67 ?_
        refine lv_eqi (y := 1) (by decide) ?_
        refine lv_aload_n hx hb dX7_items_68 rfl (lv_at hl 2 rfl) ?_
        refine lv_iload_n hx hb dX7_items_69 rfl (lv_at hl 3 rfl) ?_
        refine lv_iload hx hb dX7_items_70 (lv_at hl 1 rfl) ?_
        refine ky_Si (As := [.int 0, .int 1]) (rest := [.ref Mm, .int 1, .ref Mrr]) ⟨hx, hb, hml, hown, hts⟩ ⟨hK, hN⟩ hZ hP hD hS hA [] [0, 1, 2] (wc := []) (wr := [(Mrr, .inl (g 0, 3, .inl (upd frrx_2 0 (nI nx_21)))), (Mm, .inr (7, [.int zth, .ref Mt, .int (nI tp), .int (nI (max_33 + 1)), .int (-1), .ref Mrr, .ref Mrh, .ref Mrc, .int (nI rh), .int (nI rc), .ref Mn, .ref Mf, .ref Mr, .ref Mh, .int zhp, .int zcc, .ref Ma, .ref Mas, .ref Msn, .ref Mac, .ref Mat])), (Mt, .inl (g 0, 160, .inl fmt))]) rfl rfl rfl rfl (by decide) (r_X7_lowest_01 l D g H.size) (va_cwS 2 hts gX7_items_X7_lowest rfl rfl rfl (by decide +kernel) ⟨(Nat.le_of_ble_eq_true rfl), (Nat.le_of_ble_eq_true rfl)⟩) rfl hl.1 rfl (Nat.le_of_ble_eq_true rfl) dX7_items_72 ⟨(Nat.le_of_ble_eq_true rfl), (Nat.le_of_ble_eq_true rfl)⟩ (fun r_44 u H locs hw hP2 hD2 hS2 => ?_)
        clear hP hD hS
        obtain ⟨rfl, rfl⟩ := hw
        have hPD : PD D A [(Mrr, .inl (g 0, 3, .inl (upd frrx_2 0 (nI nx_21)))), (Mm, .inr (7, [.int zth, .ref Mt, .int (nI tp), .int (nI (max_33 + 1)), .int (-1), .ref Mrr, .ref Mrh, .ref Mrc, .int (nI rh), .int (nI rc), .ref Mn, .ref Mf, .ref Mr, .ref Mh, .int zhp, .int zcc, .ref Ma, .ref Mas, .ref Msn, .ref Mac, .ref Mat])), (Mt, .inl (g 0, 160, .inl fmt))] H := ⟨hP2, hD2⟩
        have hS := hS2; clear hP2 hD2 hS2; have hP := hPD.1; have hD := hPD.2; clear hPD
        refine W.widen (k := 0) (n := 0) (Nat.le_of_ble_eq_true rfl) (Nat.le_of_ble_eq_true rfl) ?_
        refine lv_iload_n hx hb dX7_items_75 rfl (lv_at hl 3 rfl) ?_
        refine lv_iload hx hb dX7_items_76 (lv_at hl 1 rfl) ?_
        refine ky_Si (As := [.int 0, .int 1]) (rest := [.int 0, .ref Mm, .int 1, .ref Mrr]) ⟨hx, hb, hml, hown, hts⟩ ⟨hK, hN⟩ hZ hP hD hS hA [] [0, 1, 2] (wc := []) (wr := [(Mrr, .inl (g 0, 3, .inl (upd frrx_2 0 (nI nx_21)))), (Mm, .inr (7, [.int zth, .ref Mt, .int (nI tp), .int (nI (max_33 + 1)), .int (-1), .ref Mrr, .ref Mrh, .ref Mrc, .int (nI rh), .int (nI rc), .ref Mn, .ref Mf, .ref Mr, .ref Mh, .int zhp, .int zcc, .ref Ma, .ref Mas, .ref Msn, .ref Mac, .ref Mat])), (Mt, .inl (g 0, 160, .inl fmt))]) rfl rfl rfl rfl (by decide) (r_X7_highest_01 l D g H.size) (va_cwS 2 hts gX7_items_X7_highest rfl rfl rfl (by decide +kernel) ⟨(Nat.le_of_ble_eq_true rfl), (Nat.le_of_ble_eq_true rfl)⟩) rfl hl.1 rfl (Nat.le_of_ble_eq_true rfl) dX7_items_78 ⟨(Nat.le_of_ble_eq_true rfl), (Nat.le_of_ble_eq_true rfl)⟩ (fun r_45 u H locs hw hP2 hD2 hS2 => ?_)
        clear hP hD hS
        obtain ⟨rfl, rfl⟩ := hw
        have hPD : PD D A [(Mrr, .inl (g 0, 3, .inl (upd frrx_2 0 (nI nx_21)))), (Mm, .inr (7, [.int zth, .ref Mt, .int (nI tp), .int (nI (max_33 + 1)), .int (-1), .ref Mrr, .ref Mrh, .ref Mrc, .int (nI rh), .int (nI rc), .ref Mn, .ref Mf, .ref Mr, .ref Mh, .int zhp, .int zcc, .ref Ma, .ref Mas, .ref Msn, .ref Mac, .ref Mat])), (Mt, .inl (g 0, 160, .inl fmt))] H := ⟨hP2, hD2⟩
        have hS := hS2; clear hP2 hD2 hS2; have hP := hPD.1; have hD := hPD.2; clear hPD
        refine W.widen (k := 0) (n := 0) (Nat.le_of_ble_eq_true rfl) (Nat.le_of_ble_eq_true rfl) ?_
        refine ky_Vi (As := [.int 0, .int 20]) (rest := [.int 1, .ref Mrr]) ⟨hx, hb, hml, hown, hts⟩ ⟨hK, hN⟩ hZ hP hD hS hA [1, 2] [0] (wc := [(Mm, .inr (7, [.int zth, .ref Mt, .int (nI tp), .int (nI (max_33 + 1)), .int (-1), .ref Mrr, .ref Mrh, .ref Mrc, .int (nI rh), .int (nI rc), .ref Mn, .ref Mf, .ref Mr, .ref Mh, .int zhp, .int zcc, .ref Ma, .ref Mas, .ref Msn, .ref Mac, .ref Mat])), (Mt, .inl (g 0, 160, .inl fmt))]) (wr := [(Mrr, .inl (g 0, 3, .inl (upd frrx_2 0 (nI nx_21))))]) rfl rfl rfl rfl (by decide) (w_X7_number l D g H.size Mm 0 20 zth Mt tp (max_33 + 1) Mrr Mrh Mrc rh rc Mn Mf Mr Mh zhp zcc Ma Mas Msn Mac Mat fmt (show tp ≤ 160 by omega) (show (max_33 + 1) ≤ tp by omega) (show 0 ≤ 1 by omega)) (cwV 2 hts gX7_items_X7_number rfl rfl rfl (by decide +kernel) ⟨(Nat.le_of_ble_eq_true rfl), (Nat.le_of_ble_eq_true rfl)⟩) 1 7 rfl rfl rfl rfl hl.1 rfl (Nat.le_of_ble_eq_true rfl) dX7_items_81 ⟨(Nat.le_of_ble_eq_true rfl), (Nat.le_of_ble_eq_true rfl)⟩ (fun r_46 u H locs hw hP2 hD2 hS2 => ?_)
        clear hP hD hS
        obtain ⟨max_47, zwrx_48, nx_49, rfl, rfl, hf_50⟩ := hw
        have hg_51 := hf_50.1
        have hg_52 := hf_50.2.1
        have hg_53 := hf_50.2.2.1
        have hPD : PD D A [(Mrr, .inl (g 0, 3, .inl (upd frrx_2 0 (nI nx_21)))), (Mm, .inr (7, [.int zth, .ref Mt, .int (nI tp), .int (nI max_47), .int zwrx_48, .ref Mrr, .ref Mrh, .ref Mrc, .int (nI rh), .int (nI rc), .ref Mn, .ref Mf, .ref Mr, .ref Mh, .int zhp, .int zcc, .ref Ma, .ref Mas, .ref Msn, .ref Mac, .ref Mat])), (Mt, .inl (g 0, 160, .inl fmt))] H := ⟨hP2, hD2⟩
        have hS := hS2; clear hP2 hD2 hS2; have hP := hPD.1; have hD := hPD.2; clear hPD
        refine W.widen (k := 0) (n := 0) (Nat.le_of_ble_eq_true rfl) (Nat.le_of_ble_eq_true rfl) ?_
        refine va_iast hx hb hK hP hD hS 0 0 rfl rfl (by unfold vp_in; decide) dX7_items_84 (fun H locs hP2 hD2 hS2 => ?_)
        clear hP hD hS
        have hPD : PD D A [(Mrr, .inl (g 0, 3, .inl (upd (upd frrx_2 0 (nI nx_21)) 1 (nI nx_49)))), (Mm, .inr (7, [.int zth, .ref Mt, .int (nI tp), .int (nI max_47), .int zwrx_48, .ref Mrr, .ref Mrh, .ref Mrc, .int (nI rh), .int (nI rc), .ref Mn, .ref Mf, .ref Mr, .ref Mh, .int zhp, .int zcc, .ref Ma, .ref Mas, .ref Msn, .ref Mac, .ref Mat])), (Mt, .inl (g 0, 160, .inl fmt))] H := ⟨hP2, hD2⟩
        have hS := hS2; clear hP2 hD2 hS2; have hP := hPD.1; have hD := hPD.2; clear hPD
        by_cases cw_54 : zwrx_48 = -1
        · skip
          have hPq_55 := hP; have hDq_55 := hD; have hSq_55 := hS; have hlq_55 := hl; clear hP hD hS hl
          subst cw_54
          have hP := hPq_55; have hD := hDq_55; have hS := hSq_55; have hl := hlq_55; clear hPq_55 hDq_55 hSq_55 hlq_55
          have hne_57 := hf_50.2.2.2.2.1 rfl
          have hnv_58 := hf_50.2.2.2.2.2 rfl
          have hR_56 : itR fmt tp 0 4 0 ma = itR fmt tp 0 2 3 max_47 := hR_28.trans ((itR_go (f := 2) (m := 1) (q := 1) hf_36 hil_42.1 hil_42.2 (by decide) (by decide) hf_50.2.2.2.1.symm).trans (by rw [hne_57]))
          have hW_59 : itW fmt tp 0 0 4 0 ma (us3 0 0 frr) = itW fmt tp 0 0 2 3 max_47 (upd (upd frrx_2 0 (nI nx_21)) 1 (nI nx_49)) := hW_31.trans ((itW_go (f := 2) (m := 1) (q := 1) hf_36 hil_42.1 hil_42.2 (by decide) (by decide) hf_50.2.2.2.1.symm).trans (by rw [hne_57, hnv_58]))
          refine lv_iload_n hx hb dX7_items_85 rfl (lv_at hl 3 rfl) ?_
          refine lv_aload_n hx hb dX7_items_86 rfl (lv_at hl 2 rfl) ?_
          refine ky_Vi (As := []) (rest := [.int 0]) ⟨hx, hb, hml, hown, hts⟩ ⟨hK, hN⟩ hZ hP hD hS hA [1, 2] [0] (wc := [(Mm, .inr (7, [.int zth, .ref Mt, .int (nI tp), .int (nI max_47), .int (-1), .ref Mrr, .ref Mrh, .ref Mrc, .int (nI rh), .int (nI rc), .ref Mn, .ref Mf, .ref Mr, .ref Mh, .int zhp, .int zcc, .ref Ma, .ref Mas, .ref Msn, .ref Mac, .ref Mat])), (Mt, .inl (g 0, 160, .inl fmt))]) (wr := [(Mrr, .inl (g 0, 3, .inl (upd (upd frrx_2 0 (nI nx_21)) 1 (nI nx_49))))]) rfl rfl rfl rfl (by decide) (r_X7_ahead l D g H.size Mm zth Mt tp max_47 (-1) Mrr Mrh Mrc rh rc Mn Mf Mr Mh zhp zcc Ma Mas Msn Mac Mat fmt (show tp ≤ 160 by omega) (show max_47 ≤ tp by omega)) (cwV 0 hts gX7_items_X7_ahead rfl rfl rfl (by decide +kernel) ⟨(Nat.le_of_ble_eq_true rfl), (Nat.le_of_ble_eq_true rfl)⟩) 1 7 rfl rfl rfl rfl hl.1 rfl (Nat.le_of_ble_eq_true rfl) dX7_items_87 ⟨(Nat.le_of_ble_eq_true rfl), (Nat.le_of_ble_eq_true rfl)⟩ (fun r_60 u H locs hw hP2 hD2 hS2 => ?_)
          clear hP hD hS
          obtain ⟨max_61, rfl, rfl, hf_62, hf_63, hf_64⟩ := hw
          have hPD : PD D A [(Mrr, .inl (g 0, 3, .inl (upd (upd frrx_2 0 (nI nx_21)) 1 (nI nx_49)))), (Mm, .inr (7, [.int zth, .ref Mt, .int (nI tp), .int (nI max_61), .int (-1), .ref Mrr, .ref Mrh, .ref Mrc, .int (nI rh), .int (nI rc), .ref Mn, .ref Mf, .ref Mr, .ref Mh, .int zhp, .int zcc, .ref Ma, .ref Mas, .ref Msn, .ref Mac, .ref Mat])), (Mt, .inl (g 0, 160, .inl fmt))] H := ⟨hP2, hD2⟩
          have hS := hS2; clear hP2 hD2 hS2; have hP := hPD.1; have hD := hPD.2; clear hPD
          refine W.widen (k := 0) (n := 0) (Nat.le_of_ble_eq_true rfl) (Nat.le_of_ble_eq_true rfl) ?_
          refine lv_topi (fun y_65 hey_65 => ?_)
          refine ky_Si (As := [.int 0, .int y_65]) (rest := []) ⟨hx, hb, hml, hown, hts⟩ ⟨hK, hN⟩ hZ hP hD hS hA [] [0, 1, 2] (wc := []) (wr := [(Mrr, .inl (g 0, 3, .inl (upd (upd frrx_2 0 (nI nx_21)) 1 (nI nx_49)))), (Mm, .inr (7, [.int zth, .ref Mt, .int (nI tp), .int (nI max_61), .int (-1), .ref Mrr, .ref Mrh, .ref Mrc, .int (nI rh), .int (nI rc), .ref Mn, .ref Mf, .ref Mr, .ref Mh, .int zhp, .int zcc, .ref Ma, .ref Mas, .ref Msn, .ref Mac, .ref Mat])), (Mt, .inl (g 0, 160, .inl fmt))]) rfl rfl rfl rfl (by decide) (r_X7_itemBy_0 l D g H.size y_65) (va_cwS 2 hts gX7_items_X7_itemBy rfl rfl rfl (by decide +kernel) ⟨(Nat.le_of_ble_eq_true rfl), (Nat.le_of_ble_eq_true rfl)⟩) rfl hl.1 rfl (Nat.le_of_ble_eq_true rfl) dX7_items_90 ⟨(Nat.le_of_ble_eq_true rfl), (Nat.le_of_ble_eq_true rfl)⟩ (fun r_66 u H locs hw hP2 hD2 hS2 => ?_)
          clear hP hD hS
          obtain ⟨rfl, rfl⟩ := hw
          have hPD : PD D A [(Mrr, .inl (g 0, 3, .inl (upd (upd frrx_2 0 (nI nx_21)) 1 (nI nx_49)))), (Mm, .inr (7, [.int zth, .ref Mt, .int (nI tp), .int (nI max_61), .int (-1), .ref Mrr, .ref Mrh, .ref Mrc, .int (nI rh), .int (nI rc), .ref Mn, .ref Mf, .ref Mr, .ref Mh, .int zhp, .int zcc, .ref Ma, .ref Mas, .ref Msn, .ref Mac, .ref Mat])), (Mt, .inl (g 0, 160, .inl fmt))] H := ⟨hP2, hD2⟩
          have hS := hS2; clear hP2 hD2 hS2; have hP := hPD.1; have hD := hPD.2; clear hPD
          refine W.widen (k := 0) (n := 0) (Nat.le_of_ble_eq_true rfl) (Nat.le_of_ble_eq_true rfl) ?_
          rcases itK_c 0 y_65 with qi_67 | qi_67 | qi_67 | qi_67
          · skip
            refine lv_eqi (y := (-1)) (qi_67) ?_
            refine lv_istore (lv' := [(5, .int (-1)), (4, .int 3), (0, .ref Mm), (1, .int 0), (2, .ref Mrr), (3, .int 0)]) hx hb dX7_items_93 hl (by decide) rfl (fun ls hl => ?_)
            refine lv_goto (tgt := 20) hx hb dX7_items_95 (by decide) ?_
            refine lv_aload_n hx hb dX7_items_20 rfl (lv_at hl 2 rfl) ?_
            refine va_get (D := D) (ci := 7) (v := .int (-1)) (C := RX7) (T := TX7) (N := 21) hx hb hts iX7 hown hK hP 1 rfl rfl 4 (by decide) f71 (fun _ h9 => h9) rfl dX7_items_21 ?_
            refine lv_iconst (v := (-1)) hx hb dX7_items_24 (by decide) ?_
            refine lv_icmp_ne (tgt := 98) hx hb dX7_items_25 (by decide) (fun cb => absurd (by decide) cb) (fun _ => ?_)
            refine lv_iload hx hb dX7_items_28 (lv_at hl 0 rfl) ?_
            refine lv_iconst (v := (-1)) hx hb dX7_items_30 (by decide) ?_
            refine lv_icmp_eq (tgt := 98) hx hb dX7_items_31 (by decide) (fun _ => ?_) (fun cb => absurd (by decide) cb)
            have hPD9 : PD D A [(Mm, .inr (7, [.int zth, .ref Mt, .int (nI tp), .int (nI max_61), .int (-1), .ref Mrr, .ref Mrh, .ref Mrc, .int (nI rh), .int (nI rc), .ref Mn, .ref Mf, .ref Mr, .ref Mh, .int zhp, .int zcc, .ref Ma, .ref Mas, .ref Msn, .ref Mac, .ref Mat])), (Mt, .inl (g 0, 160, .inl fmt)), (Mrr, .inl (g 0, 3, .inl (upd (upd frrx_2 0 (nI nx_21)) 1 (nI nx_49))))] H := ⟨hP.sub [1, 2, 0] rfl, hD.sub [1, 2, 0] (by decide) rfl⟩
            have hP9 := hPD9.1; have hD9 := hPD9.2
            subst hQ
            refine W.widen (k := 0) (n := 0) (Nat.le_of_ble_eq_true rfl) (Nat.le_of_ble_eq_true rfl) ?_
            exact W.vret hx hb hr (fun tS htS _ => ⟨⟨_, rfl, ⟨max_61, (-1), (upd (upd frrx_2 0 (nI nx_21)) 1 (nI nx_49)), rfl, ⟨(n1_upd (n1_upd (hf_3) (n := nx_21) (show nx_21 ≤ 99 by omega)) (n := nx_49) (show nx_49 ≤ 99 by omega)), (show max_61 ≤ tp by omega), (show ma ≤ max_61 by omega), (congrArg Prod.fst (hR_56.trans (iv_m (f := 1) (m := 3) hf_64 hey_65.symm qi_67))).symm, (fun _ => (congrArg Prod.snd (hR_56.trans (iv_m (f := 1) (m := 3) hf_64 hey_65.symm qi_67))).symm), (fun _ => (hW_59.trans (iw_m (f := 1) (m := 3) hf_64 hey_65.symm qi_67)).symm)⟩⟩, by rw [htS]; exact hP9, hD9⟩, hS.F htS⟩) hS.2.2 dX7_items_98
          · skip
            refine lv_eqi (y := 0) (qi_67) ?_
            have hil_68 := iv_lt (k := 0) (q := 0) hey_65.symm qi_67 (by decide); have hil_68a := hil_68.1
            refine lv_istore (lv' := [(5, .int 0), (4, .int 3), (0, .ref Mm), (1, .int 0), (2, .ref Mrr), (3, .int 0)]) hx hb dX7_items_93 hl (by decide) rfl (fun ls hl => ?_)
            refine lv_goto (tgt := 20) hx hb dX7_items_95 (by decide) ?_
            refine lv_aload_n hx hb dX7_items_20 rfl (lv_at hl 2 rfl) ?_
            refine va_get (D := D) (ci := 7) (v := .int (-1)) (C := RX7) (T := TX7) (N := 21) hx hb hts iX7 hown hK hP 1 rfl rfl 4 (by decide) f71 (fun _ h9 => h9) rfl dX7_items_21 ?_
            refine lv_iconst (v := (-1)) hx hb dX7_items_24 (by decide) ?_
            refine lv_icmp_ne (tgt := 98) hx hb dX7_items_25 (by decide) (fun cb => absurd (by decide) cb) (fun _ => ?_)
            refine lv_iload hx hb dX7_items_28 (lv_at hl 0 rfl) ?_
            refine lv_iconst (v := (-1)) hx hb dX7_items_30 (by decide) ?_
            refine lv_icmp_eq (tgt := 98) hx hb dX7_items_31 (by decide) (fun cb => absurd cb (by decide)) (fun _ => ?_)
            refine lv_iload hx hb dX7_items_34 (lv_at hl 1 rfl) ?_
            refine lv_iload hx hb dX7_items_36 (lv_at hl 0 rfl) ?_
            refine ky_Si (As := [.int 3, .int 0]) (rest := []) ⟨hx, hb, hml, hown, hts⟩ ⟨hK, hN⟩ hZ hP hD hS hA [] [0, 1, 2] (wc := []) (wr := [(Mrr, .inl (g 0, 3, .inl (upd (upd frrx_2 0 (nI nx_21)) 1 (nI nx_49)))), (Mm, .inr (7, [.int zth, .ref Mt, .int (nI tp), .int (nI max_61), .int (-1), .ref Mrr, .ref Mrh, .ref Mrc, .int (nI rh), .int (nI rc), .ref Mn, .ref Mf, .ref Mr, .ref Mh, .int zhp, .int zcc, .ref Ma, .ref Mas, .ref Msn, .ref Mac, .ref Mat])), (Mt, .inl (g 0, 160, .inl fmt))]) rfl rfl rfl rfl (by decide) (r_X7_has_30 l D g H.size) (va_cwS 2 hts gX7_items_X7_has rfl rfl rfl (by decide +kernel) ⟨(Nat.le_of_ble_eq_true rfl), (Nat.le_of_ble_eq_true rfl)⟩) rfl hl.1 rfl (Nat.le_of_ble_eq_true rfl) dX7_items_38 ⟨(Nat.le_of_ble_eq_true rfl), (Nat.le_of_ble_eq_true rfl)⟩ (fun r_69 u H locs hw hP2 hD2 hS2 => ?_)
            clear hP hD hS
            obtain ⟨rfl, rfl⟩ := hw
            have hPD : PD D A [(Mrr, .inl (g 0, 3, .inl (upd (upd frrx_2 0 (nI nx_21)) 1 (nI nx_49)))), (Mm, .inr (7, [.int zth, .ref Mt, .int (nI tp), .int (nI max_61), .int (-1), .ref Mrr, .ref Mrh, .ref Mrc, .int (nI rh), .int (nI rc), .ref Mn, .ref Mf, .ref Mr, .ref Mh, .int zhp, .int zcc, .ref Ma, .ref Mas, .ref Msn, .ref Mac, .ref Mat])), (Mt, .inl (g 0, 160, .inl fmt))] H := ⟨hP2, hD2⟩
            have hS := hS2; clear hP2 hD2 hS2; have hP := hPD.1; have hD := hPD.2; clear hPD
            refine W.widen (k := 0) (n := 0) (Nat.le_of_ble_eq_true rfl) (Nat.le_of_ble_eq_true rfl) ?_
            refine lv_if_ne (tgt := 98) hx hb dX7_items_41 (by decide) (fun _ => ?_) (fun cb => absurd cb (by decide))
            have hPD9 : PD D A [(Mm, .inr (7, [.int zth, .ref Mt, .int (nI tp), .int (nI max_61), .int (-1), .ref Mrr, .ref Mrh, .ref Mrc, .int (nI rh), .int (nI rc), .ref Mn, .ref Mf, .ref Mr, .ref Mh, .int zhp, .int zcc, .ref Ma, .ref Mas, .ref Msn, .ref Mac, .ref Mat])), (Mt, .inl (g 0, 160, .inl fmt)), (Mrr, .inl (g 0, 3, .inl (upd (upd frrx_2 0 (nI nx_21)) 1 (nI nx_49))))] H := ⟨hP.sub [1, 2, 0] rfl, hD.sub [1, 2, 0] (by decide) rfl⟩
            have hP9 := hPD9.1; have hD9 := hPD9.2
            subst hQ
            refine W.widen (k := 0) (n := 0) (Nat.le_of_ble_eq_true rfl) (Nat.le_of_ble_eq_true rfl) ?_
            exact W.vret hx hb hr (fun tS htS _ => ⟨⟨_, rfl, ⟨max_61, (-1), (upd (upd frrx_2 0 (nI nx_21)) 1 (nI nx_49)), rfl, ⟨(n1_upd (n1_upd (hf_3) (n := nx_21) (show nx_21 ≤ 99 by omega)) (n := nx_49) (show nx_49 ≤ 99 by omega)), (show max_61 ≤ tp by omega), (show ma ≤ max_61 by omega), (congrArg Prod.fst (hR_56.trans (itR_again (f := 1) (m := 3) (q := 0) hf_64 hil_68.2 (by decide) (by decide)))).symm, (fun _ => (congrArg Prod.snd (hR_56.trans (itR_again (f := 1) (m := 3) (q := 0) hf_64 hil_68.2 (by decide) (by decide)))).symm), (fun _ => (hW_59.trans (itW_again (f := 1) (m := 3) (q := 0) hf_64 hil_68.2 (by decide) (by decide))).symm)⟩⟩, by rw [htS]; exact hP9, hD9⟩, hS.F htS⟩) hS.2.2 dX7_items_98
          · skip
            refine lv_eqi (y := 1) (qi_67) ?_
            have hil_70 := iv_lt (k := 0) (q := 1) hey_65.symm qi_67 (by decide); have hil_70a := hil_70.1
            refine lv_istore (lv' := [(5, .int 1), (4, .int 3), (0, .ref Mm), (1, .int 0), (2, .ref Mrr), (3, .int 0)]) hx hb dX7_items_93 hl (by decide) rfl (fun ls hl => ?_)
            refine lv_goto (tgt := 20) hx hb dX7_items_95 (by decide) ?_
            refine lv_aload_n hx hb dX7_items_20 rfl (lv_at hl 2 rfl) ?_
            refine va_get (D := D) (ci := 7) (v := .int (-1)) (C := RX7) (T := TX7) (N := 21) hx hb hts iX7 hown hK hP 1 rfl rfl 4 (by decide) f71 (fun _ h9 => h9) rfl dX7_items_21 ?_
            refine lv_iconst (v := (-1)) hx hb dX7_items_24 (by decide) ?_
            refine lv_icmp_ne (tgt := 98) hx hb dX7_items_25 (by decide) (fun cb => absurd (by decide) cb) (fun _ => ?_)
            refine lv_iload hx hb dX7_items_28 (lv_at hl 0 rfl) ?_
            refine lv_iconst (v := (-1)) hx hb dX7_items_30 (by decide) ?_
            refine lv_icmp_eq (tgt := 98) hx hb dX7_items_31 (by decide) (fun cb => absurd cb (by decide)) (fun _ => ?_)
            refine lv_iload hx hb dX7_items_34 (lv_at hl 1 rfl) ?_
            refine lv_iload hx hb dX7_items_36 (lv_at hl 0 rfl) ?_
            refine ky_Si (As := [.int 3, .int 1]) (rest := []) ⟨hx, hb, hml, hown, hts⟩ ⟨hK, hN⟩ hZ hP hD hS hA [] [0, 1, 2] (wc := []) (wr := [(Mrr, .inl (g 0, 3, .inl (upd (upd frrx_2 0 (nI nx_21)) 1 (nI nx_49)))), (Mm, .inr (7, [.int zth, .ref Mt, .int (nI tp), .int (nI max_61), .int (-1), .ref Mrr, .ref Mrh, .ref Mrc, .int (nI rh), .int (nI rc), .ref Mn, .ref Mf, .ref Mr, .ref Mh, .int zhp, .int zcc, .ref Ma, .ref Mas, .ref Msn, .ref Mac, .ref Mat])), (Mt, .inl (g 0, 160, .inl fmt))]) rfl rfl rfl rfl (by decide) (r_X7_has_31 l D g H.size) (va_cwS 2 hts gX7_items_X7_has rfl rfl rfl (by decide +kernel) ⟨(Nat.le_of_ble_eq_true rfl), (Nat.le_of_ble_eq_true rfl)⟩) rfl hl.1 rfl (Nat.le_of_ble_eq_true rfl) dX7_items_38 ⟨(Nat.le_of_ble_eq_true rfl), (Nat.le_of_ble_eq_true rfl)⟩ (fun r_71 u H locs hw hP2 hD2 hS2 => ?_)
            clear hP hD hS
            obtain ⟨rfl, rfl⟩ := hw
            have hPD : PD D A [(Mrr, .inl (g 0, 3, .inl (upd (upd frrx_2 0 (nI nx_21)) 1 (nI nx_49)))), (Mm, .inr (7, [.int zth, .ref Mt, .int (nI tp), .int (nI max_61), .int (-1), .ref Mrr, .ref Mrh, .ref Mrc, .int (nI rh), .int (nI rc), .ref Mn, .ref Mf, .ref Mr, .ref Mh, .int zhp, .int zcc, .ref Ma, .ref Mas, .ref Msn, .ref Mac, .ref Mat])), (Mt, .inl (g 0, 160, .inl fmt))] H := ⟨hP2, hD2⟩
            have hS := hS2; clear hP2 hD2 hS2; have hP := hPD.1; have hD := hPD.2; clear hPD
            refine W.widen (k := 0) (n := 0) (Nat.le_of_ble_eq_true rfl) (Nat.le_of_ble_eq_true rfl) ?_
            refine lv_if_ne (tgt := 98) hx hb dX7_items_41 (by decide) (fun _ => ?_) (fun cb => absurd cb (by decide))
            have hPD9 : PD D A [(Mm, .inr (7, [.int zth, .ref Mt, .int (nI tp), .int (nI max_61), .int (-1), .ref Mrr, .ref Mrh, .ref Mrc, .int (nI rh), .int (nI rc), .ref Mn, .ref Mf, .ref Mr, .ref Mh, .int zhp, .int zcc, .ref Ma, .ref Mas, .ref Msn, .ref Mac, .ref Mat])), (Mt, .inl (g 0, 160, .inl fmt)), (Mrr, .inl (g 0, 3, .inl (upd (upd frrx_2 0 (nI nx_21)) 1 (nI nx_49))))] H := ⟨hP.sub [1, 2, 0] rfl, hD.sub [1, 2, 0] (by decide) rfl⟩
            have hP9 := hPD9.1; have hD9 := hPD9.2
            subst hQ
            refine W.widen (k := 0) (n := 0) (Nat.le_of_ble_eq_true rfl) (Nat.le_of_ble_eq_true rfl) ?_
            exact W.vret hx hb hr (fun tS htS _ => ⟨⟨_, rfl, ⟨max_61, (-1), (upd (upd frrx_2 0 (nI nx_21)) 1 (nI nx_49)), rfl, ⟨(n1_upd (n1_upd (hf_3) (n := nx_21) (show nx_21 ≤ 99 by omega)) (n := nx_49) (show nx_49 ≤ 99 by omega)), (show max_61 ≤ tp by omega), (show ma ≤ max_61 by omega), (congrArg Prod.fst (hR_56.trans (itR_again (f := 1) (m := 3) (q := 1) hf_64 hil_70.2 (by decide) (by decide)))).symm, (fun _ => (congrArg Prod.snd (hR_56.trans (itR_again (f := 1) (m := 3) (q := 1) hf_64 hil_70.2 (by decide) (by decide)))).symm), (fun _ => (hW_59.trans (itW_again (f := 1) (m := 3) (q := 1) hf_64 hil_70.2 (by decide) (by decide))).symm)⟩⟩, by rw [htS]; exact hP9, hD9⟩, hS.F htS⟩) hS.2.2 dX7_items_98
          · skip
            refine lv_eqi (y := 2) (qi_67) ?_
            have hil_72 := iv_lt (k := 0) (q := 2) hey_65.symm qi_67 (by decide); have hil_72a := hil_72.1
            refine lv_istore (lv' := [(5, .int 2), (4, .int 3), (0, .ref Mm), (1, .int 0), (2, .ref Mrr), (3, .int 0)]) hx hb dX7_items_93 hl (by decide) rfl (fun ls hl => ?_)
            refine lv_goto (tgt := 20) hx hb dX7_items_95 (by decide) ?_
            refine lv_aload_n hx hb dX7_items_20 rfl (lv_at hl 2 rfl) ?_
            refine va_get (D := D) (ci := 7) (v := .int (-1)) (C := RX7) (T := TX7) (N := 21) hx hb hts iX7 hown hK hP 1 rfl rfl 4 (by decide) f71 (fun _ h9 => h9) rfl dX7_items_21 ?_
            refine lv_iconst (v := (-1)) hx hb dX7_items_24 (by decide) ?_
            refine lv_icmp_ne (tgt := 98) hx hb dX7_items_25 (by decide) (fun cb => absurd (by decide) cb) (fun _ => ?_)
            refine lv_iload hx hb dX7_items_28 (lv_at hl 0 rfl) ?_
            refine lv_iconst (v := (-1)) hx hb dX7_items_30 (by decide) ?_
            refine lv_icmp_eq (tgt := 98) hx hb dX7_items_31 (by decide) (fun cb => absurd cb (by decide)) (fun _ => ?_)
            refine lv_iload hx hb dX7_items_34 (lv_at hl 1 rfl) ?_
            refine lv_iload hx hb dX7_items_36 (lv_at hl 0 rfl) ?_
            refine ky_Si (As := [.int 3, .int 2]) (rest := []) ⟨hx, hb, hml, hown, hts⟩ ⟨hK, hN⟩ hZ hP hD hS hA [] [0, 1, 2] (wc := []) (wr := [(Mrr, .inl (g 0, 3, .inl (upd (upd frrx_2 0 (nI nx_21)) 1 (nI nx_49)))), (Mm, .inr (7, [.int zth, .ref Mt, .int (nI tp), .int (nI max_61), .int (-1), .ref Mrr, .ref Mrh, .ref Mrc, .int (nI rh), .int (nI rc), .ref Mn, .ref Mf, .ref Mr, .ref Mh, .int zhp, .int zcc, .ref Ma, .ref Mas, .ref Msn, .ref Mac, .ref Mat])), (Mt, .inl (g 0, 160, .inl fmt))]) rfl rfl rfl rfl (by decide) (r_X7_has_32 l D g H.size) (va_cwS 2 hts gX7_items_X7_has rfl rfl rfl (by decide +kernel) ⟨(Nat.le_of_ble_eq_true rfl), (Nat.le_of_ble_eq_true rfl)⟩) rfl hl.1 rfl (Nat.le_of_ble_eq_true rfl) dX7_items_38 ⟨(Nat.le_of_ble_eq_true rfl), (Nat.le_of_ble_eq_true rfl)⟩ (fun r_73 u H locs hw hP2 hD2 hS2 => ?_)
            clear hP hD hS
            obtain ⟨rfl, rfl⟩ := hw
            have hPD : PD D A [(Mrr, .inl (g 0, 3, .inl (upd (upd frrx_2 0 (nI nx_21)) 1 (nI nx_49)))), (Mm, .inr (7, [.int zth, .ref Mt, .int (nI tp), .int (nI max_61), .int (-1), .ref Mrr, .ref Mrh, .ref Mrc, .int (nI rh), .int (nI rc), .ref Mn, .ref Mf, .ref Mr, .ref Mh, .int zhp, .int zcc, .ref Ma, .ref Mas, .ref Msn, .ref Mac, .ref Mat])), (Mt, .inl (g 0, 160, .inl fmt))] H := ⟨hP2, hD2⟩
            have hS := hS2; clear hP2 hD2 hS2; have hP := hPD.1; have hD := hPD.2; clear hPD
            refine W.widen (k := 0) (n := 0) (Nat.le_of_ble_eq_true rfl) (Nat.le_of_ble_eq_true rfl) ?_
            refine lv_if_ne (tgt := 98) hx hb dX7_items_41 (by decide) (fun cb => absurd (by decide) cb) (fun _ => ?_)
            refine lv_iload hx hb dX7_items_44 (lv_at hl 1 rfl) ?_
            refine lv_iconst (v := 1) hx hb dX7_items_46 (by decide) ?_
            refine lv_iload hx hb dX7_items_47 (lv_at hl 0 rfl) ?_
            refine lv_ishl hx hb dX7_items_49 ?_
            refine lv_eqi (y := 4) (by decide) ?_
            refine lv_ior hx hb dX7_items_50 ?_
            refine lv_eqi (y := 7) (by decide) ?_
            refine lv_istore (lv' := [(4, .int 7), (5, .int 2), (0, .ref Mm), (1, .int 0), (2, .ref Mrr), (3, .int 0)]) hx hb dX7_items_51 hl (by decide) rfl (fun ls hl => ?_)
            refine lv_aload_n hx hb dX7_items_53 rfl (lv_at hl 2 rfl) ?_
            refine lv_dup hx hb dX7_items_54 rfl ?_
            refine va_get (D := D) (ci := 7) (v := .int (nI max_61)) (C := RX7) (T := TX7) (N := 21) hx hb hts iX7 hown hK hP 1 rfl rfl 3 (by decide) f64 (fun _ h9 => h9) rfl dX7_items_55 ?_
            refine lv_iconst (v := 1) hx hb dX7_items_58 (by decide) ?_
            refine lv_iadd hx hb dX7_items_59 ?_
            refine lv_eqi (y := (nI (max_61 + 1))) (nI_add (max_61) (1)) ?_
            refine va_put (D := D) (ci := 7) (v := .int (nI (max_61 + 1))) (ty := .int) (C := RX7) (T := TX7) (N := 21) hx hb hts iX7 tyX7 tyX7_ok nmX7 hown hK hP hD hS 1 rfl rfl 3 (by decide) f64 (fun _ h9 => h9) rfl (by decide +kernel) (rfl) (rfl) (Nat.le_of_ble_eq_true rfl) dX7_items_60 (fun H locs hP2 hD2 hS2 => ?_)
            clear hP hD hS
            have hPD : PD D A [(Mrr, .inl (g 0, 3, .inl (upd (upd frrx_2 0 (nI nx_21)) 1 (nI nx_49)))), (Mm, .inr (7, [.int zth, .ref Mt, .int (nI tp), .int (nI (max_61 + 1)), .int (-1), .ref Mrr, .ref Mrh, .ref Mrc, .int (nI rh), .int (nI rc), .ref Mn, .ref Mf, .ref Mr, .ref Mh, .int zhp, .int zcc, .ref Ma, .ref Mas, .ref Msn, .ref Mac, .ref Mat])), (Mt, .inl (g 0, 160, .inl fmt))] H := ⟨hP2, hD2⟩
            have hS := hS2; clear hP2 hD2 hS2; have hP := hPD.1; have hD := hPD.2; clear hPD
            refine lv_aload_n hx hb dX7_items_63 rfl (lv_at hl 4 rfl) ?_
            refine lv_iload_n hx hb dX7_items_64 rfl (lv_at hl 5 rfl) ?_
            refine lv_iload hx hb dX7_items_65 (lv_at hl 1 rfl) ?_
            refine lv_iadd hx hb dX7_items_67 ?_
            refine lv_eqi (y := 2) (by decide) ?_
            refine lv_aload_n hx hb dX7_items_68 rfl (lv_at hl 2 rfl) ?_
            refine lv_iload_n hx hb dX7_items_69 rfl (lv_at hl 3 rfl) ?_
            refine lv_iload hx hb dX7_items_70 (lv_at hl 1 rfl) ?_
            refine ky_Si (As := [.int 0, .int 2]) (rest := [.ref Mm, .int 2, .ref Mrr]) ⟨hx, hb, hml, hown, hts⟩ ⟨hK, hN⟩ hZ hP hD hS hA [] [0, 1, 2] (wc := []) (wr := [(Mrr, .inl (g 0, 3, .inl (upd (upd frrx_2 0 (nI nx_21)) 1 (nI nx_49)))), (Mm, .inr (7, [.int zth, .ref Mt, .int (nI tp), .int (nI (max_61 + 1)), .int (-1), .ref Mrr, .ref Mrh, .ref Mrc, .int (nI rh), .int (nI rc), .ref Mn, .ref Mf, .ref Mr, .ref Mh, .int zhp, .int zcc, .ref Ma, .ref Mas, .ref Msn, .ref Mac, .ref Mat])), (Mt, .inl (g 0, 160, .inl fmt))]) rfl rfl rfl rfl (by decide) (r_X7_lowest_02 l D g H.size) (va_cwS 2 hts gX7_items_X7_lowest rfl rfl rfl (by decide +kernel) ⟨(Nat.le_of_ble_eq_true rfl), (Nat.le_of_ble_eq_true rfl)⟩) rfl hl.1 rfl (Nat.le_of_ble_eq_true rfl) dX7_items_72 ⟨(Nat.le_of_ble_eq_true rfl), (Nat.le_of_ble_eq_true rfl)⟩ (fun r_74 u H locs hw hP2 hD2 hS2 => ?_)
            clear hP hD hS
            obtain ⟨rfl, rfl⟩ := hw
            have hPD : PD D A [(Mrr, .inl (g 0, 3, .inl (upd (upd frrx_2 0 (nI nx_21)) 1 (nI nx_49)))), (Mm, .inr (7, [.int zth, .ref Mt, .int (nI tp), .int (nI (max_61 + 1)), .int (-1), .ref Mrr, .ref Mrh, .ref Mrc, .int (nI rh), .int (nI rc), .ref Mn, .ref Mf, .ref Mr, .ref Mh, .int zhp, .int zcc, .ref Ma, .ref Mas, .ref Msn, .ref Mac, .ref Mat])), (Mt, .inl (g 0, 160, .inl fmt))] H := ⟨hP2, hD2⟩
            have hS := hS2; clear hP2 hD2 hS2; have hP := hPD.1; have hD := hPD.2; clear hPD
            refine W.widen (k := 0) (n := 0) (Nat.le_of_ble_eq_true rfl) (Nat.le_of_ble_eq_true rfl) ?_
            refine lv_iload_n hx hb dX7_items_75 rfl (lv_at hl 3 rfl) ?_
            refine lv_iload hx hb dX7_items_76 (lv_at hl 1 rfl) ?_
            refine ky_Si (As := [.int 0, .int 2]) (rest := [.int 0, .ref Mm, .int 2, .ref Mrr]) ⟨hx, hb, hml, hown, hts⟩ ⟨hK, hN⟩ hZ hP hD hS hA [] [0, 1, 2] (wc := []) (wr := [(Mrr, .inl (g 0, 3, .inl (upd (upd frrx_2 0 (nI nx_21)) 1 (nI nx_49)))), (Mm, .inr (7, [.int zth, .ref Mt, .int (nI tp), .int (nI (max_61 + 1)), .int (-1), .ref Mrr, .ref Mrh, .ref Mrc, .int (nI rh), .int (nI rc), .ref Mn, .ref Mf, .ref Mr, .ref Mh, .int zhp, .int zcc, .ref Ma, .ref Mas, .ref Msn, .ref Mac, .ref Mat])), (Mt, .inl (g 0, 160, .inl fmt))]) rfl rfl rfl rfl (by decide) (r_X7_highest_02 l D g H.size) (va_cwS 2 hts gX7_items_X7_highest rfl rfl rfl (by decide +kernel) ⟨(Nat.le_of_ble_eq_true rfl), (Nat.le_of_ble_eq_true rfl)⟩) rfl hl.1 rfl (Nat.le_of_ble_eq_true rfl) dX7_items_78 ⟨(Nat.le_of_ble_eq_true rfl), (Nat.le_of_ble_eq_true rfl)⟩ (fun r_75 u H locs hw hP2 hD2 hS2 => ?_)
            clear hP hD hS
            obtain ⟨rfl, rfl⟩ := hw
            have hPD : PD D A [(Mrr, .inl (g 0, 3, .inl (upd (upd frrx_2 0 (nI nx_21)) 1 (nI nx_49)))), (Mm, .inr (7, [.int zth, .ref Mt, .int (nI tp), .int (nI (max_61 + 1)), .int (-1), .ref Mrr, .ref Mrh, .ref Mrc, .int (nI rh), .int (nI rc), .ref Mn, .ref Mf, .ref Mr, .ref Mh, .int zhp, .int zcc, .ref Ma, .ref Mas, .ref Msn, .ref Mac, .ref Mat])), (Mt, .inl (g 0, 160, .inl fmt))] H := ⟨hP2, hD2⟩
            have hS := hS2; clear hP2 hD2 hS2; have hP := hPD.1; have hD := hPD.2; clear hPD
            refine W.widen (k := 0) (n := 0) (Nat.le_of_ble_eq_true rfl) (Nat.le_of_ble_eq_true rfl) ?_
            refine ky_Vi (As := [.int 0, .int 9]) (rest := [.int 2, .ref Mrr]) ⟨hx, hb, hml, hown, hts⟩ ⟨hK, hN⟩ hZ hP hD hS hA [1, 2] [0] (wc := [(Mm, .inr (7, [.int zth, .ref Mt, .int (nI tp), .int (nI (max_61 + 1)), .int (-1), .ref Mrr, .ref Mrh, .ref Mrc, .int (nI rh), .int (nI rc), .ref Mn, .ref Mf, .ref Mr, .ref Mh, .int zhp, .int zcc, .ref Ma, .ref Mas, .ref Msn, .ref Mac, .ref Mat])), (Mt, .inl (g 0, 160, .inl fmt))]) (wr := [(Mrr, .inl (g 0, 3, .inl (upd (upd frrx_2 0 (nI nx_21)) 1 (nI nx_49))))]) rfl rfl rfl rfl (by decide) (w_X7_number l D g H.size Mm 0 9 zth Mt tp (max_61 + 1) Mrr Mrh Mrc rh rc Mn Mf Mr Mh zhp zcc Ma Mas Msn Mac Mat fmt (show tp ≤ 160 by omega) (show (max_61 + 1) ≤ tp by omega) (show 0 ≤ 1 by omega)) (cwV 2 hts gX7_items_X7_number rfl rfl rfl (by decide +kernel) ⟨(Nat.le_of_ble_eq_true rfl), (Nat.le_of_ble_eq_true rfl)⟩) 1 7 rfl rfl rfl rfl hl.1 rfl (Nat.le_of_ble_eq_true rfl) dX7_items_81 ⟨(Nat.le_of_ble_eq_true rfl), (Nat.le_of_ble_eq_true rfl)⟩ (fun r_76 u H locs hw hP2 hD2 hS2 => ?_)
            clear hP hD hS
            obtain ⟨max_77, zwrx_78, nx_79, rfl, rfl, hf_80⟩ := hw
            have hg_81 := hf_80.1
            have hg_82 := hf_80.2.1
            have hg_83 := hf_80.2.2.1
            have hPD : PD D A [(Mrr, .inl (g 0, 3, .inl (upd (upd frrx_2 0 (nI nx_21)) 1 (nI nx_49)))), (Mm, .inr (7, [.int zth, .ref Mt, .int (nI tp), .int (nI max_77), .int zwrx_78, .ref Mrr, .ref Mrh, .ref Mrc, .int (nI rh), .int (nI rc), .ref Mn, .ref Mf, .ref Mr, .ref Mh, .int zhp, .int zcc, .ref Ma, .ref Mas, .ref Msn, .ref Mac, .ref Mat])), (Mt, .inl (g 0, 160, .inl fmt))] H := ⟨hP2, hD2⟩
            have hS := hS2; clear hP2 hD2 hS2; have hP := hPD.1; have hD := hPD.2; clear hPD
            refine W.widen (k := 0) (n := 0) (Nat.le_of_ble_eq_true rfl) (Nat.le_of_ble_eq_true rfl) ?_
            refine va_iast hx hb hK hP hD hS 0 0 rfl rfl (by unfold vp_in; decide) dX7_items_84 (fun H locs hP2 hD2 hS2 => ?_)
            clear hP hD hS
            have hPD : PD D A [(Mrr, .inl (g 0, 3, .inl (upd (upd (upd frrx_2 0 (nI nx_21)) 1 (nI nx_49)) 2 (nI nx_79)))), (Mm, .inr (7, [.int zth, .ref Mt, .int (nI tp), .int (nI max_77), .int zwrx_78, .ref Mrr, .ref Mrh, .ref Mrc, .int (nI rh), .int (nI rc), .ref Mn, .ref Mf, .ref Mr, .ref Mh, .int zhp, .int zcc, .ref Ma, .ref Mas, .ref Msn, .ref Mac, .ref Mat])), (Mt, .inl (g 0, 160, .inl fmt))] H := ⟨hP2, hD2⟩
            have hS := hS2; clear hP2 hD2 hS2; have hP := hPD.1; have hD := hPD.2; clear hPD
            by_cases cw_84 : zwrx_78 = -1
            · skip
              have hPq_85 := hP; have hDq_85 := hD; have hSq_85 := hS; have hlq_85 := hl; clear hP hD hS hl
              subst cw_84
              have hP := hPq_85; have hD := hDq_85; have hS := hSq_85; have hl := hlq_85; clear hPq_85 hDq_85 hSq_85 hlq_85
              have hne_87 := hf_80.2.2.2.2.1 rfl
              have hnv_88 := hf_80.2.2.2.2.2 rfl
              have hR_86 : itR fmt tp 0 4 0 ma = itR fmt tp 0 1 7 max_77 := hR_56.trans ((itR_go (f := 1) (m := 3) (q := 2) hf_64 hil_72.1 hil_72.2 (by decide) (by decide) hf_80.2.2.2.1.symm).trans (by rw [hne_87]))
              have hW_89 : itW fmt tp 0 0 4 0 ma (us3 0 0 frr) = itW fmt tp 0 0 1 7 max_77 (upd (upd (upd frrx_2 0 (nI nx_21)) 1 (nI nx_49)) 2 (nI nx_79)) := hW_59.trans ((itW_go (f := 1) (m := 3) (q := 2) hf_64 hil_72.1 hil_72.2 (by decide) (by decide) hf_80.2.2.2.1.symm).trans (by rw [hne_87, hnv_88]))
              refine lv_iload_n hx hb dX7_items_85 rfl (lv_at hl 3 rfl) ?_
              refine lv_aload_n hx hb dX7_items_86 rfl (lv_at hl 2 rfl) ?_
              refine ky_Vi (As := []) (rest := [.int 0]) ⟨hx, hb, hml, hown, hts⟩ ⟨hK, hN⟩ hZ hP hD hS hA [1, 2] [0] (wc := [(Mm, .inr (7, [.int zth, .ref Mt, .int (nI tp), .int (nI max_77), .int (-1), .ref Mrr, .ref Mrh, .ref Mrc, .int (nI rh), .int (nI rc), .ref Mn, .ref Mf, .ref Mr, .ref Mh, .int zhp, .int zcc, .ref Ma, .ref Mas, .ref Msn, .ref Mac, .ref Mat])), (Mt, .inl (g 0, 160, .inl fmt))]) (wr := [(Mrr, .inl (g 0, 3, .inl (upd (upd (upd frrx_2 0 (nI nx_21)) 1 (nI nx_49)) 2 (nI nx_79))))]) rfl rfl rfl rfl (by decide) (r_X7_ahead l D g H.size Mm zth Mt tp max_77 (-1) Mrr Mrh Mrc rh rc Mn Mf Mr Mh zhp zcc Ma Mas Msn Mac Mat fmt (show tp ≤ 160 by omega) (show max_77 ≤ tp by omega)) (cwV 0 hts gX7_items_X7_ahead rfl rfl rfl (by decide +kernel) ⟨(Nat.le_of_ble_eq_true rfl), (Nat.le_of_ble_eq_true rfl)⟩) 1 7 rfl rfl rfl rfl hl.1 rfl (Nat.le_of_ble_eq_true rfl) dX7_items_87 ⟨(Nat.le_of_ble_eq_true rfl), (Nat.le_of_ble_eq_true rfl)⟩ (fun r_90 u H locs hw hP2 hD2 hS2 => ?_)
              clear hP hD hS
              obtain ⟨max_91, rfl, rfl, hf_92, hf_93, hf_94⟩ := hw
              have hPD : PD D A [(Mrr, .inl (g 0, 3, .inl (upd (upd (upd frrx_2 0 (nI nx_21)) 1 (nI nx_49)) 2 (nI nx_79)))), (Mm, .inr (7, [.int zth, .ref Mt, .int (nI tp), .int (nI max_91), .int (-1), .ref Mrr, .ref Mrh, .ref Mrc, .int (nI rh), .int (nI rc), .ref Mn, .ref Mf, .ref Mr, .ref Mh, .int zhp, .int zcc, .ref Ma, .ref Mas, .ref Msn, .ref Mac, .ref Mat])), (Mt, .inl (g 0, 160, .inl fmt))] H := ⟨hP2, hD2⟩
              have hS := hS2; clear hP2 hD2 hS2; have hP := hPD.1; have hD := hPD.2; clear hPD
              refine W.widen (k := 0) (n := 0) (Nat.le_of_ble_eq_true rfl) (Nat.le_of_ble_eq_true rfl) ?_
              refine lv_topi (fun y_95 hey_95 => ?_)
              refine ky_Si (As := [.int 0, .int y_95]) (rest := []) ⟨hx, hb, hml, hown, hts⟩ ⟨hK, hN⟩ hZ hP hD hS hA [] [0, 1, 2] (wc := []) (wr := [(Mrr, .inl (g 0, 3, .inl (upd (upd (upd frrx_2 0 (nI nx_21)) 1 (nI nx_49)) 2 (nI nx_79)))), (Mm, .inr (7, [.int zth, .ref Mt, .int (nI tp), .int (nI max_91), .int (-1), .ref Mrr, .ref Mrh, .ref Mrc, .int (nI rh), .int (nI rc), .ref Mn, .ref Mf, .ref Mr, .ref Mh, .int zhp, .int zcc, .ref Ma, .ref Mas, .ref Msn, .ref Mac, .ref Mat])), (Mt, .inl (g 0, 160, .inl fmt))]) rfl rfl rfl rfl (by decide) (r_X7_itemBy_0 l D g H.size y_95) (va_cwS 2 hts gX7_items_X7_itemBy rfl rfl rfl (by decide +kernel) ⟨(Nat.le_of_ble_eq_true rfl), (Nat.le_of_ble_eq_true rfl)⟩) rfl hl.1 rfl (Nat.le_of_ble_eq_true rfl) dX7_items_90 ⟨(Nat.le_of_ble_eq_true rfl), (Nat.le_of_ble_eq_true rfl)⟩ (fun r_96 u H locs hw hP2 hD2 hS2 => ?_)
              clear hP hD hS
              obtain ⟨rfl, rfl⟩ := hw
              have hPD : PD D A [(Mrr, .inl (g 0, 3, .inl (upd (upd (upd frrx_2 0 (nI nx_21)) 1 (nI nx_49)) 2 (nI nx_79)))), (Mm, .inr (7, [.int zth, .ref Mt, .int (nI tp), .int (nI max_91), .int (-1), .ref Mrr, .ref Mrh, .ref Mrc, .int (nI rh), .int (nI rc), .ref Mn, .ref Mf, .ref Mr, .ref Mh, .int zhp, .int zcc, .ref Ma, .ref Mas, .ref Msn, .ref Mac, .ref Mat])), (Mt, .inl (g 0, 160, .inl fmt))] H := ⟨hP2, hD2⟩
              have hS := hS2; clear hP2 hD2 hS2; have hP := hPD.1; have hD := hPD.2; clear hPD
              refine W.widen (k := 0) (n := 0) (Nat.le_of_ble_eq_true rfl) (Nat.le_of_ble_eq_true rfl) ?_
              rcases itK_c 0 y_95 with qi_97 | qi_97 | qi_97 | qi_97
              · skip
                refine lv_eqi (y := (-1)) (qi_97) ?_
                refine lv_istore (lv' := [(5, .int (-1)), (4, .int 7), (0, .ref Mm), (1, .int 0), (2, .ref Mrr), (3, .int 0)]) hx hb dX7_items_93 hl (by decide) rfl (fun ls hl => ?_)
                refine lv_goto (tgt := 20) hx hb dX7_items_95 (by decide) ?_
                refine lv_aload_n hx hb dX7_items_20 rfl (lv_at hl 2 rfl) ?_
                refine va_get (D := D) (ci := 7) (v := .int (-1)) (C := RX7) (T := TX7) (N := 21) hx hb hts iX7 hown hK hP 1 rfl rfl 4 (by decide) f71 (fun _ h9 => h9) rfl dX7_items_21 ?_
                refine lv_iconst (v := (-1)) hx hb dX7_items_24 (by decide) ?_
                refine lv_icmp_ne (tgt := 98) hx hb dX7_items_25 (by decide) (fun cb => absurd (by decide) cb) (fun _ => ?_)
                refine lv_iload hx hb dX7_items_28 (lv_at hl 0 rfl) ?_
                refine lv_iconst (v := (-1)) hx hb dX7_items_30 (by decide) ?_
                refine lv_icmp_eq (tgt := 98) hx hb dX7_items_31 (by decide) (fun _ => ?_) (fun cb => absurd (by decide) cb)
                have hPD9 : PD D A [(Mm, .inr (7, [.int zth, .ref Mt, .int (nI tp), .int (nI max_91), .int (-1), .ref Mrr, .ref Mrh, .ref Mrc, .int (nI rh), .int (nI rc), .ref Mn, .ref Mf, .ref Mr, .ref Mh, .int zhp, .int zcc, .ref Ma, .ref Mas, .ref Msn, .ref Mac, .ref Mat])), (Mt, .inl (g 0, 160, .inl fmt)), (Mrr, .inl (g 0, 3, .inl (upd (upd (upd frrx_2 0 (nI nx_21)) 1 (nI nx_49)) 2 (nI nx_79))))] H := ⟨hP.sub [1, 2, 0] rfl, hD.sub [1, 2, 0] (by decide) rfl⟩
                have hP9 := hPD9.1; have hD9 := hPD9.2
                subst hQ
                refine W.widen (k := 0) (n := 0) (Nat.le_of_ble_eq_true rfl) (Nat.le_of_ble_eq_true rfl) ?_
                exact W.vret hx hb hr (fun tS htS _ => ⟨⟨_, rfl, ⟨max_91, (-1), (upd (upd (upd frrx_2 0 (nI nx_21)) 1 (nI nx_49)) 2 (nI nx_79)), rfl, ⟨(n1_upd (n1_upd (n1_upd (hf_3) (n := nx_21) (show nx_21 ≤ 99 by omega)) (n := nx_49) (show nx_49 ≤ 99 by omega)) (n := nx_79) (show nx_79 ≤ 99 by omega)), (show max_91 ≤ tp by omega), (show ma ≤ max_91 by omega), (congrArg Prod.fst (hR_86.trans (iv_m (f := 0) (m := 7) hf_94 hey_95.symm qi_97))).symm, (fun _ => (congrArg Prod.snd (hR_86.trans (iv_m (f := 0) (m := 7) hf_94 hey_95.symm qi_97))).symm), (fun _ => (hW_89.trans (iw_m (f := 0) (m := 7) hf_94 hey_95.symm qi_97)).symm)⟩⟩, by rw [htS]; exact hP9, hD9⟩, hS.F htS⟩) hS.2.2 dX7_items_98
              · skip
                refine lv_eqi (y := 0) (qi_97) ?_
                have hil_98 := iv_lt (k := 0) (q := 0) hey_95.symm qi_97 (by decide); have hil_98a := hil_98.1
                refine lv_istore (lv' := [(5, .int 0), (4, .int 7), (0, .ref Mm), (1, .int 0), (2, .ref Mrr), (3, .int 0)]) hx hb dX7_items_93 hl (by decide) rfl (fun ls hl => ?_)
                refine lv_goto (tgt := 20) hx hb dX7_items_95 (by decide) ?_
                refine lv_aload_n hx hb dX7_items_20 rfl (lv_at hl 2 rfl) ?_
                refine va_get (D := D) (ci := 7) (v := .int (-1)) (C := RX7) (T := TX7) (N := 21) hx hb hts iX7 hown hK hP 1 rfl rfl 4 (by decide) f71 (fun _ h9 => h9) rfl dX7_items_21 ?_
                refine lv_iconst (v := (-1)) hx hb dX7_items_24 (by decide) ?_
                refine lv_icmp_ne (tgt := 98) hx hb dX7_items_25 (by decide) (fun cb => absurd (by decide) cb) (fun _ => ?_)
                refine lv_iload hx hb dX7_items_28 (lv_at hl 0 rfl) ?_
                refine lv_iconst (v := (-1)) hx hb dX7_items_30 (by decide) ?_
                refine lv_icmp_eq (tgt := 98) hx hb dX7_items_31 (by decide) (fun cb => absurd cb (by decide)) (fun _ => ?_)
                refine lv_iload hx hb dX7_items_34 (lv_at hl 1 rfl) ?_
                refine lv_iload hx hb dX7_items_36 (lv_at hl 0 rfl) ?_
                refine ky_Si (As := [.int 7, .int 0]) (rest := []) ⟨hx, hb, hml, hown, hts⟩ ⟨hK, hN⟩ hZ hP hD hS hA [] [0, 1, 2] (wc := []) (wr := [(Mrr, .inl (g 0, 3, .inl (upd (upd (upd frrx_2 0 (nI nx_21)) 1 (nI nx_49)) 2 (nI nx_79)))), (Mm, .inr (7, [.int zth, .ref Mt, .int (nI tp), .int (nI max_91), .int (-1), .ref Mrr, .ref Mrh, .ref Mrc, .int (nI rh), .int (nI rc), .ref Mn, .ref Mf, .ref Mr, .ref Mh, .int zhp, .int zcc, .ref Ma, .ref Mas, .ref Msn, .ref Mac, .ref Mat])), (Mt, .inl (g 0, 160, .inl fmt))]) rfl rfl rfl rfl (by decide) (r_X7_has_70 l D g H.size) (va_cwS 2 hts gX7_items_X7_has rfl rfl rfl (by decide +kernel) ⟨(Nat.le_of_ble_eq_true rfl), (Nat.le_of_ble_eq_true rfl)⟩) rfl hl.1 rfl (Nat.le_of_ble_eq_true rfl) dX7_items_38 ⟨(Nat.le_of_ble_eq_true rfl), (Nat.le_of_ble_eq_true rfl)⟩ (fun r_99 u H locs hw hP2 hD2 hS2 => ?_)
                clear hP hD hS
                obtain ⟨rfl, rfl⟩ := hw
                have hPD : PD D A [(Mrr, .inl (g 0, 3, .inl (upd (upd (upd frrx_2 0 (nI nx_21)) 1 (nI nx_49)) 2 (nI nx_79)))), (Mm, .inr (7, [.int zth, .ref Mt, .int (nI tp), .int (nI max_91), .int (-1), .ref Mrr, .ref Mrh, .ref Mrc, .int (nI rh), .int (nI rc), .ref Mn, .ref Mf, .ref Mr, .ref Mh, .int zhp, .int zcc, .ref Ma, .ref Mas, .ref Msn, .ref Mac, .ref Mat])), (Mt, .inl (g 0, 160, .inl fmt))] H := ⟨hP2, hD2⟩
                have hS := hS2; clear hP2 hD2 hS2; have hP := hPD.1; have hD := hPD.2; clear hPD
                refine W.widen (k := 0) (n := 0) (Nat.le_of_ble_eq_true rfl) (Nat.le_of_ble_eq_true rfl) ?_
                refine lv_if_ne (tgt := 98) hx hb dX7_items_41 (by decide) (fun _ => ?_) (fun cb => absurd cb (by decide))
                have hPD9 : PD D A [(Mm, .inr (7, [.int zth, .ref Mt, .int (nI tp), .int (nI max_91), .int (-1), .ref Mrr, .ref Mrh, .ref Mrc, .int (nI rh), .int (nI rc), .ref Mn, .ref Mf, .ref Mr, .ref Mh, .int zhp, .int zcc, .ref Ma, .ref Mas, .ref Msn, .ref Mac, .ref Mat])), (Mt, .inl (g 0, 160, .inl fmt)), (Mrr, .inl (g 0, 3, .inl (upd (upd (upd frrx_2 0 (nI nx_21)) 1 (nI nx_49)) 2 (nI nx_79))))] H := ⟨hP.sub [1, 2, 0] rfl, hD.sub [1, 2, 0] (by decide) rfl⟩
                have hP9 := hPD9.1; have hD9 := hPD9.2
                subst hQ
                refine W.widen (k := 0) (n := 0) (Nat.le_of_ble_eq_true rfl) (Nat.le_of_ble_eq_true rfl) ?_
                exact W.vret hx hb hr (fun tS htS _ => ⟨⟨_, rfl, ⟨max_91, (-1), (upd (upd (upd frrx_2 0 (nI nx_21)) 1 (nI nx_49)) 2 (nI nx_79)), rfl, ⟨(n1_upd (n1_upd (n1_upd (hf_3) (n := nx_21) (show nx_21 ≤ 99 by omega)) (n := nx_49) (show nx_49 ≤ 99 by omega)) (n := nx_79) (show nx_79 ≤ 99 by omega)), (show max_91 ≤ tp by omega), (show ma ≤ max_91 by omega), (congrArg Prod.fst (hR_86.trans (itR_again (f := 0) (m := 7) (q := 0) hf_94 hil_98.2 (by decide) (by decide)))).symm, (fun _ => (congrArg Prod.snd (hR_86.trans (itR_again (f := 0) (m := 7) (q := 0) hf_94 hil_98.2 (by decide) (by decide)))).symm), (fun _ => (hW_89.trans (itW_again (f := 0) (m := 7) (q := 0) hf_94 hil_98.2 (by decide) (by decide))).symm)⟩⟩, by rw [htS]; exact hP9, hD9⟩, hS.F htS⟩) hS.2.2 dX7_items_98
              · skip
                refine lv_eqi (y := 1) (qi_97) ?_
                have hil_100 := iv_lt (k := 0) (q := 1) hey_95.symm qi_97 (by decide); have hil_100a := hil_100.1
                refine lv_istore (lv' := [(5, .int 1), (4, .int 7), (0, .ref Mm), (1, .int 0), (2, .ref Mrr), (3, .int 0)]) hx hb dX7_items_93 hl (by decide) rfl (fun ls hl => ?_)
                refine lv_goto (tgt := 20) hx hb dX7_items_95 (by decide) ?_
                refine lv_aload_n hx hb dX7_items_20 rfl (lv_at hl 2 rfl) ?_
                refine va_get (D := D) (ci := 7) (v := .int (-1)) (C := RX7) (T := TX7) (N := 21) hx hb hts iX7 hown hK hP 1 rfl rfl 4 (by decide) f71 (fun _ h9 => h9) rfl dX7_items_21 ?_
                refine lv_iconst (v := (-1)) hx hb dX7_items_24 (by decide) ?_
                refine lv_icmp_ne (tgt := 98) hx hb dX7_items_25 (by decide) (fun cb => absurd (by decide) cb) (fun _ => ?_)
                refine lv_iload hx hb dX7_items_28 (lv_at hl 0 rfl) ?_
                refine lv_iconst (v := (-1)) hx hb dX7_items_30 (by decide) ?_
                refine lv_icmp_eq (tgt := 98) hx hb dX7_items_31 (by decide) (fun cb => absurd cb (by decide)) (fun _ => ?_)
                refine lv_iload hx hb dX7_items_34 (lv_at hl 1 rfl) ?_
                refine lv_iload hx hb dX7_items_36 (lv_at hl 0 rfl) ?_
                refine ky_Si (As := [.int 7, .int 1]) (rest := []) ⟨hx, hb, hml, hown, hts⟩ ⟨hK, hN⟩ hZ hP hD hS hA [] [0, 1, 2] (wc := []) (wr := [(Mrr, .inl (g 0, 3, .inl (upd (upd (upd frrx_2 0 (nI nx_21)) 1 (nI nx_49)) 2 (nI nx_79)))), (Mm, .inr (7, [.int zth, .ref Mt, .int (nI tp), .int (nI max_91), .int (-1), .ref Mrr, .ref Mrh, .ref Mrc, .int (nI rh), .int (nI rc), .ref Mn, .ref Mf, .ref Mr, .ref Mh, .int zhp, .int zcc, .ref Ma, .ref Mas, .ref Msn, .ref Mac, .ref Mat])), (Mt, .inl (g 0, 160, .inl fmt))]) rfl rfl rfl rfl (by decide) (r_X7_has_71 l D g H.size) (va_cwS 2 hts gX7_items_X7_has rfl rfl rfl (by decide +kernel) ⟨(Nat.le_of_ble_eq_true rfl), (Nat.le_of_ble_eq_true rfl)⟩) rfl hl.1 rfl (Nat.le_of_ble_eq_true rfl) dX7_items_38 ⟨(Nat.le_of_ble_eq_true rfl), (Nat.le_of_ble_eq_true rfl)⟩ (fun r_101 u H locs hw hP2 hD2 hS2 => ?_)
                clear hP hD hS
                obtain ⟨rfl, rfl⟩ := hw
                have hPD : PD D A [(Mrr, .inl (g 0, 3, .inl (upd (upd (upd frrx_2 0 (nI nx_21)) 1 (nI nx_49)) 2 (nI nx_79)))), (Mm, .inr (7, [.int zth, .ref Mt, .int (nI tp), .int (nI max_91), .int (-1), .ref Mrr, .ref Mrh, .ref Mrc, .int (nI rh), .int (nI rc), .ref Mn, .ref Mf, .ref Mr, .ref Mh, .int zhp, .int zcc, .ref Ma, .ref Mas, .ref Msn, .ref Mac, .ref Mat])), (Mt, .inl (g 0, 160, .inl fmt))] H := ⟨hP2, hD2⟩
                have hS := hS2; clear hP2 hD2 hS2; have hP := hPD.1; have hD := hPD.2; clear hPD
                refine W.widen (k := 0) (n := 0) (Nat.le_of_ble_eq_true rfl) (Nat.le_of_ble_eq_true rfl) ?_
                refine lv_if_ne (tgt := 98) hx hb dX7_items_41 (by decide) (fun _ => ?_) (fun cb => absurd cb (by decide))
                have hPD9 : PD D A [(Mm, .inr (7, [.int zth, .ref Mt, .int (nI tp), .int (nI max_91), .int (-1), .ref Mrr, .ref Mrh, .ref Mrc, .int (nI rh), .int (nI rc), .ref Mn, .ref Mf, .ref Mr, .ref Mh, .int zhp, .int zcc, .ref Ma, .ref Mas, .ref Msn, .ref Mac, .ref Mat])), (Mt, .inl (g 0, 160, .inl fmt)), (Mrr, .inl (g 0, 3, .inl (upd (upd (upd frrx_2 0 (nI nx_21)) 1 (nI nx_49)) 2 (nI nx_79))))] H := ⟨hP.sub [1, 2, 0] rfl, hD.sub [1, 2, 0] (by decide) rfl⟩
                have hP9 := hPD9.1; have hD9 := hPD9.2
                subst hQ
                refine W.widen (k := 0) (n := 0) (Nat.le_of_ble_eq_true rfl) (Nat.le_of_ble_eq_true rfl) ?_
                exact W.vret hx hb hr (fun tS htS _ => ⟨⟨_, rfl, ⟨max_91, (-1), (upd (upd (upd frrx_2 0 (nI nx_21)) 1 (nI nx_49)) 2 (nI nx_79)), rfl, ⟨(n1_upd (n1_upd (n1_upd (hf_3) (n := nx_21) (show nx_21 ≤ 99 by omega)) (n := nx_49) (show nx_49 ≤ 99 by omega)) (n := nx_79) (show nx_79 ≤ 99 by omega)), (show max_91 ≤ tp by omega), (show ma ≤ max_91 by omega), (congrArg Prod.fst (hR_86.trans (itR_again (f := 0) (m := 7) (q := 1) hf_94 hil_100.2 (by decide) (by decide)))).symm, (fun _ => (congrArg Prod.snd (hR_86.trans (itR_again (f := 0) (m := 7) (q := 1) hf_94 hil_100.2 (by decide) (by decide)))).symm), (fun _ => (hW_89.trans (itW_again (f := 0) (m := 7) (q := 1) hf_94 hil_100.2 (by decide) (by decide))).symm)⟩⟩, by rw [htS]; exact hP9, hD9⟩, hS.F htS⟩) hS.2.2 dX7_items_98
              · skip
                refine lv_eqi (y := 2) (qi_97) ?_
                have hil_102 := iv_lt (k := 0) (q := 2) hey_95.symm qi_97 (by decide); have hil_102a := hil_102.1
                refine lv_istore (lv' := [(5, .int 2), (4, .int 7), (0, .ref Mm), (1, .int 0), (2, .ref Mrr), (3, .int 0)]) hx hb dX7_items_93 hl (by decide) rfl (fun ls hl => ?_)
                refine lv_goto (tgt := 20) hx hb dX7_items_95 (by decide) ?_
                refine lv_aload_n hx hb dX7_items_20 rfl (lv_at hl 2 rfl) ?_
                refine va_get (D := D) (ci := 7) (v := .int (-1)) (C := RX7) (T := TX7) (N := 21) hx hb hts iX7 hown hK hP 1 rfl rfl 4 (by decide) f71 (fun _ h9 => h9) rfl dX7_items_21 ?_
                refine lv_iconst (v := (-1)) hx hb dX7_items_24 (by decide) ?_
                refine lv_icmp_ne (tgt := 98) hx hb dX7_items_25 (by decide) (fun cb => absurd (by decide) cb) (fun _ => ?_)
                refine lv_iload hx hb dX7_items_28 (lv_at hl 0 rfl) ?_
                refine lv_iconst (v := (-1)) hx hb dX7_items_30 (by decide) ?_
                refine lv_icmp_eq (tgt := 98) hx hb dX7_items_31 (by decide) (fun cb => absurd cb (by decide)) (fun _ => ?_)
                refine lv_iload hx hb dX7_items_34 (lv_at hl 1 rfl) ?_
                refine lv_iload hx hb dX7_items_36 (lv_at hl 0 rfl) ?_
                refine ky_Si (As := [.int 7, .int 2]) (rest := []) ⟨hx, hb, hml, hown, hts⟩ ⟨hK, hN⟩ hZ hP hD hS hA [] [0, 1, 2] (wc := []) (wr := [(Mrr, .inl (g 0, 3, .inl (upd (upd (upd frrx_2 0 (nI nx_21)) 1 (nI nx_49)) 2 (nI nx_79)))), (Mm, .inr (7, [.int zth, .ref Mt, .int (nI tp), .int (nI max_91), .int (-1), .ref Mrr, .ref Mrh, .ref Mrc, .int (nI rh), .int (nI rc), .ref Mn, .ref Mf, .ref Mr, .ref Mh, .int zhp, .int zcc, .ref Ma, .ref Mas, .ref Msn, .ref Mac, .ref Mat])), (Mt, .inl (g 0, 160, .inl fmt))]) rfl rfl rfl rfl (by decide) (r_X7_has_72 l D g H.size) (va_cwS 2 hts gX7_items_X7_has rfl rfl rfl (by decide +kernel) ⟨(Nat.le_of_ble_eq_true rfl), (Nat.le_of_ble_eq_true rfl)⟩) rfl hl.1 rfl (Nat.le_of_ble_eq_true rfl) dX7_items_38 ⟨(Nat.le_of_ble_eq_true rfl), (Nat.le_of_ble_eq_true rfl)⟩ (fun r_103 u H locs hw hP2 hD2 hS2 => ?_)
                clear hP hD hS
                obtain ⟨rfl, rfl⟩ := hw
                have hPD : PD D A [(Mrr, .inl (g 0, 3, .inl (upd (upd (upd frrx_2 0 (nI nx_21)) 1 (nI nx_49)) 2 (nI nx_79)))), (Mm, .inr (7, [.int zth, .ref Mt, .int (nI tp), .int (nI max_91), .int (-1), .ref Mrr, .ref Mrh, .ref Mrc, .int (nI rh), .int (nI rc), .ref Mn, .ref Mf, .ref Mr, .ref Mh, .int zhp, .int zcc, .ref Ma, .ref Mas, .ref Msn, .ref Mac, .ref Mat])), (Mt, .inl (g 0, 160, .inl fmt))] H := ⟨hP2, hD2⟩
                have hS := hS2; clear hP2 hD2 hS2; have hP := hPD.1; have hD := hPD.2; clear hPD
                refine W.widen (k := 0) (n := 0) (Nat.le_of_ble_eq_true rfl) (Nat.le_of_ble_eq_true rfl) ?_
                refine lv_if_ne (tgt := 98) hx hb dX7_items_41 (by decide) (fun _ => ?_) (fun cb => absurd cb (by decide))
                have hPD9 : PD D A [(Mm, .inr (7, [.int zth, .ref Mt, .int (nI tp), .int (nI max_91), .int (-1), .ref Mrr, .ref Mrh, .ref Mrc, .int (nI rh), .int (nI rc), .ref Mn, .ref Mf, .ref Mr, .ref Mh, .int zhp, .int zcc, .ref Ma, .ref Mas, .ref Msn, .ref Mac, .ref Mat])), (Mt, .inl (g 0, 160, .inl fmt)), (Mrr, .inl (g 0, 3, .inl (upd (upd (upd frrx_2 0 (nI nx_21)) 1 (nI nx_49)) 2 (nI nx_79))))] H := ⟨hP.sub [1, 2, 0] rfl, hD.sub [1, 2, 0] (by decide) rfl⟩
                have hP9 := hPD9.1; have hD9 := hPD9.2
                subst hQ
                refine W.widen (k := 0) (n := 0) (Nat.le_of_ble_eq_true rfl) (Nat.le_of_ble_eq_true rfl) ?_
                exact W.vret hx hb hr (fun tS htS _ => ⟨⟨_, rfl, ⟨max_91, (-1), (upd (upd (upd frrx_2 0 (nI nx_21)) 1 (nI nx_49)) 2 (nI nx_79)), rfl, ⟨(n1_upd (n1_upd (n1_upd (hf_3) (n := nx_21) (show nx_21 ≤ 99 by omega)) (n := nx_49) (show nx_49 ≤ 99 by omega)) (n := nx_79) (show nx_79 ≤ 99 by omega)), (show max_91 ≤ tp by omega), (show ma ≤ max_91 by omega), (congrArg Prod.fst (hR_86.trans (itR_again (f := 0) (m := 7) (q := 2) hf_94 hil_102.2 (by decide) (by decide)))).symm, (fun _ => (congrArg Prod.snd (hR_86.trans (itR_again (f := 0) (m := 7) (q := 2) hf_94 hil_102.2 (by decide) (by decide)))).symm), (fun _ => (hW_89.trans (itW_again (f := 0) (m := 7) (q := 2) hf_94 hil_102.2 (by decide) (by decide))).symm)⟩⟩, by rw [htS]; exact hP9, hD9⟩, hS.F htS⟩) hS.2.2 dX7_items_98
            · skip
              refine lv_iload_n hx hb dX7_items_85 rfl (lv_at hl 3 rfl) ?_
              refine lv_aload_n hx hb dX7_items_86 rfl (lv_at hl 2 rfl) ?_
              refine ky_Vi (As := []) (rest := [.int 0]) ⟨hx, hb, hml, hown, hts⟩ ⟨hK, hN⟩ hZ hP hD hS hA [1, 2] [0] (wc := [(Mm, .inr (7, [.int zth, .ref Mt, .int (nI tp), .int (nI max_77), .int zwrx_78, .ref Mrr, .ref Mrh, .ref Mrc, .int (nI rh), .int (nI rc), .ref Mn, .ref Mf, .ref Mr, .ref Mh, .int zhp, .int zcc, .ref Ma, .ref Mas, .ref Msn, .ref Mac, .ref Mat])), (Mt, .inl (g 0, 160, .inl fmt))]) (wr := [(Mrr, .inl (g 0, 3, .inl (upd (upd (upd frrx_2 0 (nI nx_21)) 1 (nI nx_49)) 2 (nI nx_79))))]) rfl rfl rfl rfl (by decide) (r_X7_ahead l D g H.size Mm zth Mt tp max_77 zwrx_78 Mrr Mrh Mrc rh rc Mn Mf Mr Mh zhp zcc Ma Mas Msn Mac Mat fmt (show tp ≤ 160 by omega) (show max_77 ≤ tp by omega)) (cwV 0 hts gX7_items_X7_ahead rfl rfl rfl (by decide +kernel) ⟨(Nat.le_of_ble_eq_true rfl), (Nat.le_of_ble_eq_true rfl)⟩) 1 7 rfl rfl rfl rfl hl.1 rfl (Nat.le_of_ble_eq_true rfl) dX7_items_87 ⟨(Nat.le_of_ble_eq_true rfl), (Nat.le_of_ble_eq_true rfl)⟩ (fun r_104 u H locs hw hP2 hD2 hS2 => ?_)
              clear hP hD hS
              obtain ⟨max_105, rfl, rfl, hf_106, hf_107, hf_108⟩ := hw
              have hPD : PD D A [(Mrr, .inl (g 0, 3, .inl (upd (upd (upd frrx_2 0 (nI nx_21)) 1 (nI nx_49)) 2 (nI nx_79)))), (Mm, .inr (7, [.int zth, .ref Mt, .int (nI tp), .int (nI max_105), .int zwrx_78, .ref Mrr, .ref Mrh, .ref Mrc, .int (nI rh), .int (nI rc), .ref Mn, .ref Mf, .ref Mr, .ref Mh, .int zhp, .int zcc, .ref Ma, .ref Mas, .ref Msn, .ref Mac, .ref Mat])), (Mt, .inl (g 0, 160, .inl fmt))] H := ⟨hP2, hD2⟩
              have hS := hS2; clear hP2 hD2 hS2; have hP := hPD.1; have hD := hPD.2; clear hPD
              refine W.widen (k := 0) (n := 0) (Nat.le_of_ble_eq_true rfl) (Nat.le_of_ble_eq_true rfl) ?_
              refine lv_topi (fun y_109 hey_109 => ?_)
              refine ky_Si (As := [.int 0, .int y_109]) (rest := []) ⟨hx, hb, hml, hown, hts⟩ ⟨hK, hN⟩ hZ hP hD hS hA [] [0, 1, 2] (wc := []) (wr := [(Mrr, .inl (g 0, 3, .inl (upd (upd (upd frrx_2 0 (nI nx_21)) 1 (nI nx_49)) 2 (nI nx_79)))), (Mm, .inr (7, [.int zth, .ref Mt, .int (nI tp), .int (nI max_105), .int zwrx_78, .ref Mrr, .ref Mrh, .ref Mrc, .int (nI rh), .int (nI rc), .ref Mn, .ref Mf, .ref Mr, .ref Mh, .int zhp, .int zcc, .ref Ma, .ref Mas, .ref Msn, .ref Mac, .ref Mat])), (Mt, .inl (g 0, 160, .inl fmt))]) rfl rfl rfl rfl (by decide) (r_X7_itemBy_0 l D g H.size y_109) (va_cwS 2 hts gX7_items_X7_itemBy rfl rfl rfl (by decide +kernel) ⟨(Nat.le_of_ble_eq_true rfl), (Nat.le_of_ble_eq_true rfl)⟩) rfl hl.1 rfl (Nat.le_of_ble_eq_true rfl) dX7_items_90 ⟨(Nat.le_of_ble_eq_true rfl), (Nat.le_of_ble_eq_true rfl)⟩ (fun r_110 u H locs hw hP2 hD2 hS2 => ?_)
              clear hP hD hS
              obtain ⟨rfl, rfl⟩ := hw
              have hPD : PD D A [(Mrr, .inl (g 0, 3, .inl (upd (upd (upd frrx_2 0 (nI nx_21)) 1 (nI nx_49)) 2 (nI nx_79)))), (Mm, .inr (7, [.int zth, .ref Mt, .int (nI tp), .int (nI max_105), .int zwrx_78, .ref Mrr, .ref Mrh, .ref Mrc, .int (nI rh), .int (nI rc), .ref Mn, .ref Mf, .ref Mr, .ref Mh, .int zhp, .int zcc, .ref Ma, .ref Mas, .ref Msn, .ref Mac, .ref Mat])), (Mt, .inl (g 0, 160, .inl fmt))] H := ⟨hP2, hD2⟩
              have hS := hS2; clear hP2 hD2 hS2; have hP := hPD.1; have hD := hPD.2; clear hPD
              refine W.widen (k := 0) (n := 0) (Nat.le_of_ble_eq_true rfl) (Nat.le_of_ble_eq_true rfl) ?_
              refine lv_istore (lv' := [(5, .int (itK 0 y_109)), (4, .int 7), (0, .ref Mm), (1, .int 0), (2, .ref Mrr), (3, .int 0)]) hx hb dX7_items_93 hl (by decide) rfl (fun ls hl => ?_)
              refine lv_goto (tgt := 20) hx hb dX7_items_95 (by decide) ?_
              refine lv_aload_n hx hb dX7_items_20 rfl (lv_at hl 2 rfl) ?_
              refine va_get (D := D) (ci := 7) (v := .int zwrx_78) (C := RX7) (T := TX7) (N := 21) hx hb hts iX7 hown hK hP 1 rfl rfl 4 (by decide) f71 (fun _ h9 => h9) rfl dX7_items_21 ?_
              refine lv_iconst (v := (-1)) hx hb dX7_items_24 (by decide) ?_
              refine lv_icmp_ne (tgt := 98) hx hb dX7_items_25 (by decide) (fun _ => ?_) (fun cb => absurd cb (cw_84))
              have hPD9 : PD D A [(Mm, .inr (7, [.int zth, .ref Mt, .int (nI tp), .int (nI max_105), .int zwrx_78, .ref Mrr, .ref Mrh, .ref Mrc, .int (nI rh), .int (nI rc), .ref Mn, .ref Mf, .ref Mr, .ref Mh, .int zhp, .int zcc, .ref Ma, .ref Mas, .ref Msn, .ref Mac, .ref Mat])), (Mt, .inl (g 0, 160, .inl fmt)), (Mrr, .inl (g 0, 3, .inl (upd (upd (upd frrx_2 0 (nI nx_21)) 1 (nI nx_49)) 2 (nI nx_79))))] H := ⟨hP.sub [1, 2, 0] rfl, hD.sub [1, 2, 0] (by decide) rfl⟩
              have hP9 := hPD9.1; have hD9 := hPD9.2
              subst hQ
              refine W.widen (k := 0) (n := 0) (Nat.le_of_ble_eq_true rfl) (Nat.le_of_ble_eq_true rfl) ?_
              exact W.vret hx hb hr (fun tS htS _ => ⟨⟨_, rfl, ⟨max_105, zwrx_78, (upd (upd (upd frrx_2 0 (nI nx_21)) 1 (nI nx_49)) 2 (nI nx_79)), rfl, ⟨(n1_upd (n1_upd (n1_upd (hf_3) (n := nx_21) (show nx_21 ≤ 99 by omega)) (n := nx_49) (show nx_49 ≤ 99 by omega)) (n := nx_79) (show nx_79 ≤ 99 by omega)), (show max_105 ≤ tp by omega), (show ma ≤ max_105 by omega), ((congrArg Prod.fst hR_56).trans ((itR_w (f := 1) (m := 3) (q := 2) hf_64 hil_72.1 hil_72.2 (by decide) (by decide) (fun q => cw_84 (hf_80.2.2.2.1.trans q))).trans hf_80.2.2.2.1.symm)).symm, (fun q => absurd q cw_84), (fun q => absurd q cw_84)⟩⟩, by rw [htS]; exact hP9, hD9⟩, hS.F htS⟩) hS.2.2 dX7_items_98
        · skip
          refine lv_iload_n hx hb dX7_items_85 rfl (lv_at hl 3 rfl) ?_
          refine lv_aload_n hx hb dX7_items_86 rfl (lv_at hl 2 rfl) ?_
          refine ky_Vi (As := []) (rest := [.int 0]) ⟨hx, hb, hml, hown, hts⟩ ⟨hK, hN⟩ hZ hP hD hS hA [1, 2] [0] (wc := [(Mm, .inr (7, [.int zth, .ref Mt, .int (nI tp), .int (nI max_47), .int zwrx_48, .ref Mrr, .ref Mrh, .ref Mrc, .int (nI rh), .int (nI rc), .ref Mn, .ref Mf, .ref Mr, .ref Mh, .int zhp, .int zcc, .ref Ma, .ref Mas, .ref Msn, .ref Mac, .ref Mat])), (Mt, .inl (g 0, 160, .inl fmt))]) (wr := [(Mrr, .inl (g 0, 3, .inl (upd (upd frrx_2 0 (nI nx_21)) 1 (nI nx_49))))]) rfl rfl rfl rfl (by decide) (r_X7_ahead l D g H.size Mm zth Mt tp max_47 zwrx_48 Mrr Mrh Mrc rh rc Mn Mf Mr Mh zhp zcc Ma Mas Msn Mac Mat fmt (show tp ≤ 160 by omega) (show max_47 ≤ tp by omega)) (cwV 0 hts gX7_items_X7_ahead rfl rfl rfl (by decide +kernel) ⟨(Nat.le_of_ble_eq_true rfl), (Nat.le_of_ble_eq_true rfl)⟩) 1 7 rfl rfl rfl rfl hl.1 rfl (Nat.le_of_ble_eq_true rfl) dX7_items_87 ⟨(Nat.le_of_ble_eq_true rfl), (Nat.le_of_ble_eq_true rfl)⟩ (fun r_111 u H locs hw hP2 hD2 hS2 => ?_)
          clear hP hD hS
          obtain ⟨max_112, rfl, rfl, hf_113, hf_114, hf_115⟩ := hw
          have hPD : PD D A [(Mrr, .inl (g 0, 3, .inl (upd (upd frrx_2 0 (nI nx_21)) 1 (nI nx_49)))), (Mm, .inr (7, [.int zth, .ref Mt, .int (nI tp), .int (nI max_112), .int zwrx_48, .ref Mrr, .ref Mrh, .ref Mrc, .int (nI rh), .int (nI rc), .ref Mn, .ref Mf, .ref Mr, .ref Mh, .int zhp, .int zcc, .ref Ma, .ref Mas, .ref Msn, .ref Mac, .ref Mat])), (Mt, .inl (g 0, 160, .inl fmt))] H := ⟨hP2, hD2⟩
          have hS := hS2; clear hP2 hD2 hS2; have hP := hPD.1; have hD := hPD.2; clear hPD
          refine W.widen (k := 0) (n := 0) (Nat.le_of_ble_eq_true rfl) (Nat.le_of_ble_eq_true rfl) ?_
          refine lv_topi (fun y_116 hey_116 => ?_)
          refine ky_Si (As := [.int 0, .int y_116]) (rest := []) ⟨hx, hb, hml, hown, hts⟩ ⟨hK, hN⟩ hZ hP hD hS hA [] [0, 1, 2] (wc := []) (wr := [(Mrr, .inl (g 0, 3, .inl (upd (upd frrx_2 0 (nI nx_21)) 1 (nI nx_49)))), (Mm, .inr (7, [.int zth, .ref Mt, .int (nI tp), .int (nI max_112), .int zwrx_48, .ref Mrr, .ref Mrh, .ref Mrc, .int (nI rh), .int (nI rc), .ref Mn, .ref Mf, .ref Mr, .ref Mh, .int zhp, .int zcc, .ref Ma, .ref Mas, .ref Msn, .ref Mac, .ref Mat])), (Mt, .inl (g 0, 160, .inl fmt))]) rfl rfl rfl rfl (by decide) (r_X7_itemBy_0 l D g H.size y_116) (va_cwS 2 hts gX7_items_X7_itemBy rfl rfl rfl (by decide +kernel) ⟨(Nat.le_of_ble_eq_true rfl), (Nat.le_of_ble_eq_true rfl)⟩) rfl hl.1 rfl (Nat.le_of_ble_eq_true rfl) dX7_items_90 ⟨(Nat.le_of_ble_eq_true rfl), (Nat.le_of_ble_eq_true rfl)⟩ (fun r_117 u H locs hw hP2 hD2 hS2 => ?_)
          clear hP hD hS
          obtain ⟨rfl, rfl⟩ := hw
          have hPD : PD D A [(Mrr, .inl (g 0, 3, .inl (upd (upd frrx_2 0 (nI nx_21)) 1 (nI nx_49)))), (Mm, .inr (7, [.int zth, .ref Mt, .int (nI tp), .int (nI max_112), .int zwrx_48, .ref Mrr, .ref Mrh, .ref Mrc, .int (nI rh), .int (nI rc), .ref Mn, .ref Mf, .ref Mr, .ref Mh, .int zhp, .int zcc, .ref Ma, .ref Mas, .ref Msn, .ref Mac, .ref Mat])), (Mt, .inl (g 0, 160, .inl fmt))] H := ⟨hP2, hD2⟩
          have hS := hS2; clear hP2 hD2 hS2; have hP := hPD.1; have hD := hPD.2; clear hPD
          refine W.widen (k := 0) (n := 0) (Nat.le_of_ble_eq_true rfl) (Nat.le_of_ble_eq_true rfl) ?_
          refine lv_istore (lv' := [(5, .int (itK 0 y_116)), (4, .int 3), (0, .ref Mm), (1, .int 0), (2, .ref Mrr), (3, .int 0)]) hx hb dX7_items_93 hl (by decide) rfl (fun ls hl => ?_)
          refine lv_goto (tgt := 20) hx hb dX7_items_95 (by decide) ?_
          refine lv_aload_n hx hb dX7_items_20 rfl (lv_at hl 2 rfl) ?_
          refine va_get (D := D) (ci := 7) (v := .int zwrx_48) (C := RX7) (T := TX7) (N := 21) hx hb hts iX7 hown hK hP 1 rfl rfl 4 (by decide) f71 (fun _ h9 => h9) rfl dX7_items_21 ?_
          refine lv_iconst (v := (-1)) hx hb dX7_items_24 (by decide) ?_
          refine lv_icmp_ne (tgt := 98) hx hb dX7_items_25 (by decide) (fun _ => ?_) (fun cb => absurd cb (cw_54))
          have hPD9 : PD D A [(Mm, .inr (7, [.int zth, .ref Mt, .int (nI tp), .int (nI max_112), .int zwrx_48, .ref Mrr, .ref Mrh, .ref Mrc, .int (nI rh), .int (nI rc), .ref Mn, .ref Mf, .ref Mr, .ref Mh, .int zhp, .int zcc, .ref Ma, .ref Mas, .ref Msn, .ref Mac, .ref Mat])), (Mt, .inl (g 0, 160, .inl fmt)), (Mrr, .inl (g 0, 3, .inl (upd (upd frrx_2 0 (nI nx_21)) 1 (nI nx_49))))] H := ⟨hP.sub [1, 2, 0] rfl, hD.sub [1, 2, 0] (by decide) rfl⟩
          have hP9 := hPD9.1; have hD9 := hPD9.2
          subst hQ
          refine W.widen (k := 0) (n := 0) (Nat.le_of_ble_eq_true rfl) (Nat.le_of_ble_eq_true rfl) ?_
          exact W.vret hx hb hr (fun tS htS _ => ⟨⟨_, rfl, ⟨max_112, zwrx_48, (upd (upd frrx_2 0 (nI nx_21)) 1 (nI nx_49)), rfl, ⟨(n1_upd (n1_upd (hf_3) (n := nx_21) (show nx_21 ≤ 99 by omega)) (n := nx_49) (show nx_49 ≤ 99 by omega)), (show max_112 ≤ tp by omega), (show ma ≤ max_112 by omega), ((congrArg Prod.fst hR_28).trans ((itR_w (f := 2) (m := 1) (q := 1) hf_36 hil_42.1 hil_42.2 (by decide) (by decide) (fun q => cw_54 (hf_50.2.2.2.1.trans q))).trans hf_50.2.2.2.1.symm)).symm, (fun q => absurd q cw_54), (fun q => absurd q cw_54)⟩⟩, by rw [htS]; exact hP9, hD9⟩, hS.F htS⟩) hS.2.2 dX7_items_98
      · skip
        refine lv_eqi (y := 2) (qi_39) ?_
        have hil_118 := iv_lt (k := 0) (q := 2) hey_37.symm qi_39 (by decide); have hil_118a := hil_118.1
        refine lv_istore (lv' := [(5, .int 2), (4, .int 1), (0, .ref Mm), (1, .int 0), (2, .ref Mrr), (3, .int 0)]) hx hb dX7_items_93 hl (by decide) rfl (fun ls hl => ?_)
        refine lv_goto (tgt := 20) hx hb dX7_items_95 (by decide) ?_
        refine lv_aload_n hx hb dX7_items_20 rfl (lv_at hl 2 rfl) ?_
        refine va_get (D := D) (ci := 7) (v := .int (-1)) (C := RX7) (T := TX7) (N := 21) hx hb hts iX7 hown hK hP 1 rfl rfl 4 (by decide) f71 (fun _ h9 => h9) rfl dX7_items_21 ?_
        refine lv_iconst (v := (-1)) hx hb dX7_items_24 (by decide) ?_
        refine lv_icmp_ne (tgt := 98) hx hb dX7_items_25 (by decide) (fun cb => absurd (by decide) cb) (fun _ => ?_)
        refine lv_iload hx hb dX7_items_28 (lv_at hl 0 rfl) ?_
        refine lv_iconst (v := (-1)) hx hb dX7_items_30 (by decide) ?_
        refine lv_icmp_eq (tgt := 98) hx hb dX7_items_31 (by decide) (fun cb => absurd cb (by decide)) (fun _ => ?_)
        refine lv_iload hx hb dX7_items_34 (lv_at hl 1 rfl) ?_
        refine lv_iload hx hb dX7_items_36 (lv_at hl 0 rfl) ?_
        refine ky_Si (As := [.int 1, .int 2]) (rest := []) ⟨hx, hb, hml, hown, hts⟩ ⟨hK, hN⟩ hZ hP hD hS hA [] [0, 1, 2] (wc := []) (wr := [(Mrr, .inl (g 0, 3, .inl (upd frrx_2 0 (nI nx_21)))), (Mm, .inr (7, [.int zth, .ref Mt, .int (nI tp), .int (nI max_33), .int (-1), .ref Mrr, .ref Mrh, .ref Mrc, .int (nI rh), .int (nI rc), .ref Mn, .ref Mf, .ref Mr, .ref Mh, .int zhp, .int zcc, .ref Ma, .ref Mas, .ref Msn, .ref Mac, .ref Mat])), (Mt, .inl (g 0, 160, .inl fmt))]) rfl rfl rfl rfl (by decide) (r_X7_has_12 l D g H.size) (va_cwS 2 hts gX7_items_X7_has rfl rfl rfl (by decide +kernel) ⟨(Nat.le_of_ble_eq_true rfl), (Nat.le_of_ble_eq_true rfl)⟩) rfl hl.1 rfl (Nat.le_of_ble_eq_true rfl) dX7_items_38 ⟨(Nat.le_of_ble_eq_true rfl), (Nat.le_of_ble_eq_true rfl)⟩ (fun r_119 u H locs hw hP2 hD2 hS2 => ?_)
        clear hP hD hS
        obtain ⟨rfl, rfl⟩ := hw
        have hPD : PD D A [(Mrr, .inl (g 0, 3, .inl (upd frrx_2 0 (nI nx_21)))), (Mm, .inr (7, [.int zth, .ref Mt, .int (nI tp), .int (nI max_33), .int (-1), .ref Mrr, .ref Mrh, .ref Mrc, .int (nI rh), .int (nI rc), .ref Mn, .ref Mf, .ref Mr, .ref Mh, .int zhp, .int zcc, .ref Ma, .ref Mas, .ref Msn, .ref Mac, .ref Mat])), (Mt, .inl (g 0, 160, .inl fmt))] H := ⟨hP2, hD2⟩
        have hS := hS2; clear hP2 hD2 hS2; have hP := hPD.1; have hD := hPD.2; clear hPD
        refine W.widen (k := 0) (n := 0) (Nat.le_of_ble_eq_true rfl) (Nat.le_of_ble_eq_true rfl) ?_
        refine lv_if_ne (tgt := 98) hx hb dX7_items_41 (by decide) (fun cb => absurd (by decide) cb) (fun _ => ?_)
        refine lv_iload hx hb dX7_items_44 (lv_at hl 1 rfl) ?_
        refine lv_iconst (v := 1) hx hb dX7_items_46 (by decide) ?_
        refine lv_iload hx hb dX7_items_47 (lv_at hl 0 rfl) ?_
        refine lv_ishl hx hb dX7_items_49 ?_
        refine lv_eqi (y := 4) (by decide) ?_
        refine lv_ior hx hb dX7_items_50 ?_
        refine lv_eqi (y := 5) (by decide) ?_
        refine lv_istore (lv' := [(4, .int 5), (5, .int 2), (0, .ref Mm), (1, .int 0), (2, .ref Mrr), (3, .int 0)]) hx hb dX7_items_51 hl (by decide) rfl (fun ls hl => ?_)
        refine lv_aload_n hx hb dX7_items_53 rfl (lv_at hl 2 rfl) ?_
        refine lv_dup hx hb dX7_items_54 rfl ?_
        refine va_get (D := D) (ci := 7) (v := .int (nI max_33)) (C := RX7) (T := TX7) (N := 21) hx hb hts iX7 hown hK hP 1 rfl rfl 3 (by decide) f64 (fun _ h9 => h9) rfl dX7_items_55 ?_
        refine lv_iconst (v := 1) hx hb dX7_items_58 (by decide) ?_
        refine lv_iadd hx hb dX7_items_59 ?_
        refine lv_eqi (y := (nI (max_33 + 1))) (nI_add (max_33) (1)) ?_
        refine va_put (D := D) (ci := 7) (v := .int (nI (max_33 + 1))) (ty := .int) (C := RX7) (T := TX7) (N := 21) hx hb hts iX7 tyX7 tyX7_ok nmX7 hown hK hP hD hS 1 rfl rfl 3 (by decide) f64 (fun _ h9 => h9) rfl (by decide +kernel) (rfl) (rfl) (Nat.le_of_ble_eq_true rfl) dX7_items_60 (fun H locs hP2 hD2 hS2 => ?_)
        clear hP hD hS
        have hPD : PD D A [(Mrr, .inl (g 0, 3, .inl (upd frrx_2 0 (nI nx_21)))), (Mm, .inr (7, [.int zth, .ref Mt, .int (nI tp), .int (nI (max_33 + 1)), .int (-1), .ref Mrr, .ref Mrh, .ref Mrc, .int (nI rh), .int (nI rc), .ref Mn, .ref Mf, .ref Mr, .ref Mh, .int zhp, .int zcc, .ref Ma, .ref Mas, .ref Msn, .ref Mac, .ref Mat])), (Mt, .inl (g 0, 160, .inl fmt))] H := ⟨hP2, hD2⟩
        have hS := hS2; clear hP2 hD2 hS2; have hP := hPD.1; have hD := hPD.2; clear hPD
        refine lv_aload_n hx hb dX7_items_63 rfl (lv_at hl 4 rfl) ?_
        refine lv_iload_n hx hb dX7_items_64 rfl (lv_at hl 5 rfl) ?_
        refine lv_iload hx hb dX7_items_65 (lv_at hl 1 rfl) ?_
        refine lv_iadd hx hb dX7_items_67 ?_
        refine lv_eqi (y := 2) (by decide) ?_
        refine lv_aload_n hx hb dX7_items_68 rfl (lv_at hl 2 rfl) ?_
        refine lv_iload_n hx hb dX7_items_69 rfl (lv_at hl 3 rfl) ?_
        refine lv_iload hx hb dX7_items_70 (lv_at hl 1 rfl) ?_
        refine ky_Si (As := [.int 0, .int 2]) (rest := [.ref Mm, .int 2, .ref Mrr]) ⟨hx, hb, hml, hown, hts⟩ ⟨hK, hN⟩ hZ hP hD hS hA [] [0, 1, 2] (wc := []) (wr := [(Mrr, .inl (g 0, 3, .inl (upd frrx_2 0 (nI nx_21)))), (Mm, .inr (7, [.int zth, .ref Mt, .int (nI tp), .int (nI (max_33 + 1)), .int (-1), .ref Mrr, .ref Mrh, .ref Mrc, .int (nI rh), .int (nI rc), .ref Mn, .ref Mf, .ref Mr, .ref Mh, .int zhp, .int zcc, .ref Ma, .ref Mas, .ref Msn, .ref Mac, .ref Mat])), (Mt, .inl (g 0, 160, .inl fmt))]) rfl rfl rfl rfl (by decide) (r_X7_lowest_02 l D g H.size) (va_cwS 2 hts gX7_items_X7_lowest rfl rfl rfl (by decide +kernel) ⟨(Nat.le_of_ble_eq_true rfl), (Nat.le_of_ble_eq_true rfl)⟩) rfl hl.1 rfl (Nat.le_of_ble_eq_true rfl) dX7_items_72 ⟨(Nat.le_of_ble_eq_true rfl), (Nat.le_of_ble_eq_true rfl)⟩ (fun r_120 u H locs hw hP2 hD2 hS2 => ?_)
        clear hP hD hS
        obtain ⟨rfl, rfl⟩ := hw
        have hPD : PD D A [(Mrr, .inl (g 0, 3, .inl (upd frrx_2 0 (nI nx_21)))), (Mm, .inr (7, [.int zth, .ref Mt, .int (nI tp), .int (nI (max_33 + 1)), .int (-1), .ref Mrr, .ref Mrh, .ref Mrc, .int (nI rh), .int (nI rc), .ref Mn, .ref Mf, .ref Mr, .ref Mh, .int zhp, .int zcc, .ref Ma, .ref Mas, .ref Msn, .ref Mac, .ref Mat])), (Mt, .inl (g 0, 160, .inl fmt))] H := ⟨hP2, hD2⟩
        have hS := hS2; clear hP2 hD2 hS2; have hP := hPD.1; have hD := hPD.2; clear hPD
        refine W.widen (k := 0) (n := 0) (Nat.le_of_ble_eq_true rfl) (Nat.le_of_ble_eq_true rfl) ?_
        refine lv_iload_n hx hb dX7_items_75 rfl (lv_at hl 3 rfl) ?_
        refine lv_iload hx hb dX7_items_76 (lv_at hl 1 rfl) ?_
        refine ky_Si (As := [.int 0, .int 2]) (rest := [.int 0, .ref Mm, .int 2, .ref Mrr]) ⟨hx, hb, hml, hown, hts⟩ ⟨hK, hN⟩ hZ hP hD hS hA [] [0, 1, 2] (wc := []) (wr := [(Mrr, .inl (g 0, 3, .inl (upd frrx_2 0 (nI nx_21)))), (Mm, .inr (7, [.int zth, .ref Mt, .int (nI tp), .int (nI (max_33 + 1)), .int (-1), .ref Mrr, .ref Mrh, .ref Mrc, .int (nI rh), .int (nI rc), .ref Mn, .ref Mf, .ref Mr, .ref Mh, .int zhp, .int zcc, .ref Ma, .ref Mas, .ref Msn, .ref Mac, .ref Mat])), (Mt, .inl (g 0, 160, .inl fmt))]) rfl rfl rfl rfl (by decide) (r_X7_highest_02 l D g H.size) (va_cwS 2 hts gX7_items_X7_highest rfl rfl rfl (by decide +kernel) ⟨(Nat.le_of_ble_eq_true rfl), (Nat.le_of_ble_eq_true rfl)⟩) rfl hl.1 rfl (Nat.le_of_ble_eq_true rfl) dX7_items_78 ⟨(Nat.le_of_ble_eq_true rfl), (Nat.le_of_ble_eq_true rfl)⟩ (fun r_121 u H locs hw hP2 hD2 hS2 => ?_)
        clear hP hD hS
        obtain ⟨rfl, rfl⟩ := hw
        have hPD : PD D A [(Mrr, .inl (g 0, 3, .inl (upd frrx_2 0 (nI nx_21)))), (Mm, .inr (7, [.int zth, .ref Mt, .int (nI tp), .int (nI (max_33 + 1)), .int (-1), .ref Mrr, .ref Mrh, .ref Mrc, .int (nI rh), .int (nI rc), .ref Mn, .ref Mf, .ref Mr, .ref Mh, .int zhp, .int zcc, .ref Ma, .ref Mas, .ref Msn, .ref Mac, .ref Mat])), (Mt, .inl (g 0, 160, .inl fmt))] H := ⟨hP2, hD2⟩
        have hS := hS2; clear hP2 hD2 hS2; have hP := hPD.1; have hD := hPD.2; clear hPD
        refine W.widen (k := 0) (n := 0) (Nat.le_of_ble_eq_true rfl) (Nat.le_of_ble_eq_true rfl) ?_
        refine ky_Vi (As := [.int 0, .int 9]) (rest := [.int 2, .ref Mrr]) ⟨hx, hb, hml, hown, hts⟩ ⟨hK, hN⟩ hZ hP hD hS hA [1, 2] [0] (wc := [(Mm, .inr (7, [.int zth, .ref Mt, .int (nI tp), .int (nI (max_33 + 1)), .int (-1), .ref Mrr, .ref Mrh, .ref Mrc, .int (nI rh), .int (nI rc), .ref Mn, .ref Mf, .ref Mr, .ref Mh, .int zhp, .int zcc, .ref Ma, .ref Mas, .ref Msn, .ref Mac, .ref Mat])), (Mt, .inl (g 0, 160, .inl fmt))]) (wr := [(Mrr, .inl (g 0, 3, .inl (upd frrx_2 0 (nI nx_21))))]) rfl rfl rfl rfl (by decide) (w_X7_number l D g H.size Mm 0 9 zth Mt tp (max_33 + 1) Mrr Mrh Mrc rh rc Mn Mf Mr Mh zhp zcc Ma Mas Msn Mac Mat fmt (show tp ≤ 160 by omega) (show (max_33 + 1) ≤ tp by omega) (show 0 ≤ 1 by omega)) (cwV 2 hts gX7_items_X7_number rfl rfl rfl (by decide +kernel) ⟨(Nat.le_of_ble_eq_true rfl), (Nat.le_of_ble_eq_true rfl)⟩) 1 7 rfl rfl rfl rfl hl.1 rfl (Nat.le_of_ble_eq_true rfl) dX7_items_81 ⟨(Nat.le_of_ble_eq_true rfl), (Nat.le_of_ble_eq_true rfl)⟩ (fun r_122 u H locs hw hP2 hD2 hS2 => ?_)
        clear hP hD hS
        obtain ⟨max_123, zwrx_124, nx_125, rfl, rfl, hf_126⟩ := hw
        have hg_127 := hf_126.1
        have hg_128 := hf_126.2.1
        have hg_129 := hf_126.2.2.1
        have hPD : PD D A [(Mrr, .inl (g 0, 3, .inl (upd frrx_2 0 (nI nx_21)))), (Mm, .inr (7, [.int zth, .ref Mt, .int (nI tp), .int (nI max_123), .int zwrx_124, .ref Mrr, .ref Mrh, .ref Mrc, .int (nI rh), .int (nI rc), .ref Mn, .ref Mf, .ref Mr, .ref Mh, .int zhp, .int zcc, .ref Ma, .ref Mas, .ref Msn, .ref Mac, .ref Mat])), (Mt, .inl (g 0, 160, .inl fmt))] H := ⟨hP2, hD2⟩
        have hS := hS2; clear hP2 hD2 hS2; have hP := hPD.1; have hD := hPD.2; clear hPD
        refine W.widen (k := 0) (n := 0) (Nat.le_of_ble_eq_true rfl) (Nat.le_of_ble_eq_true rfl) ?_
        refine va_iast hx hb hK hP hD hS 0 0 rfl rfl (by unfold vp_in; decide) dX7_items_84 (fun H locs hP2 hD2 hS2 => ?_)
        clear hP hD hS
        have hPD : PD D A [(Mrr, .inl (g 0, 3, .inl (upd (upd frrx_2 0 (nI nx_21)) 2 (nI nx_125)))), (Mm, .inr (7, [.int zth, .ref Mt, .int (nI tp), .int (nI max_123), .int zwrx_124, .ref Mrr, .ref Mrh, .ref Mrc, .int (nI rh), .int (nI rc), .ref Mn, .ref Mf, .ref Mr, .ref Mh, .int zhp, .int zcc, .ref Ma, .ref Mas, .ref Msn, .ref Mac, .ref Mat])), (Mt, .inl (g 0, 160, .inl fmt))] H := ⟨hP2, hD2⟩
        have hS := hS2; clear hP2 hD2 hS2; have hP := hPD.1; have hD := hPD.2; clear hPD
        by_cases cw_130 : zwrx_124 = -1
        · skip
          have hPq_131 := hP; have hDq_131 := hD; have hSq_131 := hS; have hlq_131 := hl; clear hP hD hS hl
          subst cw_130
          have hP := hPq_131; have hD := hDq_131; have hS := hSq_131; have hl := hlq_131; clear hPq_131 hDq_131 hSq_131 hlq_131
          have hne_133 := hf_126.2.2.2.2.1 rfl
          have hnv_134 := hf_126.2.2.2.2.2 rfl
          have hR_132 : itR fmt tp 0 4 0 ma = itR fmt tp 0 2 5 max_123 := hR_28.trans ((itR_go (f := 2) (m := 1) (q := 2) hf_36 hil_118.1 hil_118.2 (by decide) (by decide) hf_126.2.2.2.1.symm).trans (by rw [hne_133]))
          have hW_135 : itW fmt tp 0 0 4 0 ma (us3 0 0 frr) = itW fmt tp 0 0 2 5 max_123 (upd (upd frrx_2 0 (nI nx_21)) 2 (nI nx_125)) := hW_31.trans ((itW_go (f := 2) (m := 1) (q := 2) hf_36 hil_118.1 hil_118.2 (by decide) (by decide) hf_126.2.2.2.1.symm).trans (by rw [hne_133, hnv_134]))
          refine lv_iload_n hx hb dX7_items_85 rfl (lv_at hl 3 rfl) ?_
          refine lv_aload_n hx hb dX7_items_86 rfl (lv_at hl 2 rfl) ?_
          refine ky_Vi (As := []) (rest := [.int 0]) ⟨hx, hb, hml, hown, hts⟩ ⟨hK, hN⟩ hZ hP hD hS hA [1, 2] [0] (wc := [(Mm, .inr (7, [.int zth, .ref Mt, .int (nI tp), .int (nI max_123), .int (-1), .ref Mrr, .ref Mrh, .ref Mrc, .int (nI rh), .int (nI rc), .ref Mn, .ref Mf, .ref Mr, .ref Mh, .int zhp, .int zcc, .ref Ma, .ref Mas, .ref Msn, .ref Mac, .ref Mat])), (Mt, .inl (g 0, 160, .inl fmt))]) (wr := [(Mrr, .inl (g 0, 3, .inl (upd (upd frrx_2 0 (nI nx_21)) 2 (nI nx_125))))]) rfl rfl rfl rfl (by decide) (r_X7_ahead l D g H.size Mm zth Mt tp max_123 (-1) Mrr Mrh Mrc rh rc Mn Mf Mr Mh zhp zcc Ma Mas Msn Mac Mat fmt (show tp ≤ 160 by omega) (show max_123 ≤ tp by omega)) (cwV 0 hts gX7_items_X7_ahead rfl rfl rfl (by decide +kernel) ⟨(Nat.le_of_ble_eq_true rfl), (Nat.le_of_ble_eq_true rfl)⟩) 1 7 rfl rfl rfl rfl hl.1 rfl (Nat.le_of_ble_eq_true rfl) dX7_items_87 ⟨(Nat.le_of_ble_eq_true rfl), (Nat.le_of_ble_eq_true rfl)⟩ (fun r_136 u H locs hw hP2 hD2 hS2 => ?_)
          clear hP hD hS
          obtain ⟨max_137, rfl, rfl, hf_138, hf_139, hf_140⟩ := hw
          have hPD : PD D A [(Mrr, .inl (g 0, 3, .inl (upd (upd frrx_2 0 (nI nx_21)) 2 (nI nx_125)))), (Mm, .inr (7, [.int zth, .ref Mt, .int (nI tp), .int (nI max_137), .int (-1), .ref Mrr, .ref Mrh, .ref Mrc, .int (nI rh), .int (nI rc), .ref Mn, .ref Mf, .ref Mr, .ref Mh, .int zhp, .int zcc, .ref Ma, .ref Mas, .ref Msn, .ref Mac, .ref Mat])), (Mt, .inl (g 0, 160, .inl fmt))] H := ⟨hP2, hD2⟩
          have hS := hS2; clear hP2 hD2 hS2; have hP := hPD.1; have hD := hPD.2; clear hPD
          refine W.widen (k := 0) (n := 0) (Nat.le_of_ble_eq_true rfl) (Nat.le_of_ble_eq_true rfl) ?_
          refine lv_topi (fun y_141 hey_141 => ?_)
          refine ky_Si (As := [.int 0, .int y_141]) (rest := []) ⟨hx, hb, hml, hown, hts⟩ ⟨hK, hN⟩ hZ hP hD hS hA [] [0, 1, 2] (wc := []) (wr := [(Mrr, .inl (g 0, 3, .inl (upd (upd frrx_2 0 (nI nx_21)) 2 (nI nx_125)))), (Mm, .inr (7, [.int zth, .ref Mt, .int (nI tp), .int (nI max_137), .int (-1), .ref Mrr, .ref Mrh, .ref Mrc, .int (nI rh), .int (nI rc), .ref Mn, .ref Mf, .ref Mr, .ref Mh, .int zhp, .int zcc, .ref Ma, .ref Mas, .ref Msn, .ref Mac, .ref Mat])), (Mt, .inl (g 0, 160, .inl fmt))]) rfl rfl rfl rfl (by decide) (r_X7_itemBy_0 l D g H.size y_141) (va_cwS 2 hts gX7_items_X7_itemBy rfl rfl rfl (by decide +kernel) ⟨(Nat.le_of_ble_eq_true rfl), (Nat.le_of_ble_eq_true rfl)⟩) rfl hl.1 rfl (Nat.le_of_ble_eq_true rfl) dX7_items_90 ⟨(Nat.le_of_ble_eq_true rfl), (Nat.le_of_ble_eq_true rfl)⟩ (fun r_142 u H locs hw hP2 hD2 hS2 => ?_)
          clear hP hD hS
          obtain ⟨rfl, rfl⟩ := hw
          have hPD : PD D A [(Mrr, .inl (g 0, 3, .inl (upd (upd frrx_2 0 (nI nx_21)) 2 (nI nx_125)))), (Mm, .inr (7, [.int zth, .ref Mt, .int (nI tp), .int (nI max_137), .int (-1), .ref Mrr, .ref Mrh, .ref Mrc, .int (nI rh), .int (nI rc), .ref Mn, .ref Mf, .ref Mr, .ref Mh, .int zhp, .int zcc, .ref Ma, .ref Mas, .ref Msn, .ref Mac, .ref Mat])), (Mt, .inl (g 0, 160, .inl fmt))] H := ⟨hP2, hD2⟩
          have hS := hS2; clear hP2 hD2 hS2; have hP := hPD.1; have hD := hPD.2; clear hPD
          refine W.widen (k := 0) (n := 0) (Nat.le_of_ble_eq_true rfl) (Nat.le_of_ble_eq_true rfl) ?_
          rcases itK_c 0 y_141 with qi_143 | qi_143 | qi_143 | qi_143
          · skip
            refine lv_eqi (y := (-1)) (qi_143) ?_
            refine lv_istore (lv' := [(5, .int (-1)), (4, .int 5), (0, .ref Mm), (1, .int 0), (2, .ref Mrr), (3, .int 0)]) hx hb dX7_items_93 hl (by decide) rfl (fun ls hl => ?_)
            refine lv_goto (tgt := 20) hx hb dX7_items_95 (by decide) ?_
            refine lv_aload_n hx hb dX7_items_20 rfl (lv_at hl 2 rfl) ?_
            refine va_get (D := D) (ci := 7) (v := .int (-1)) (C := RX7) (T := TX7) (N := 21) hx hb hts iX7 hown hK hP 1 rfl rfl 4 (by decide) f71 (fun _ h9 => h9) rfl dX7_items_21 ?_
            refine lv_iconst (v := (-1)) hx hb dX7_items_24 (by decide) ?_
            refine lv_icmp_ne (tgt := 98) hx hb dX7_items_25 (by decide) (fun cb => absurd (by decide) cb) (fun _ => ?_)
            refine lv_iload hx hb dX7_items_28 (lv_at hl 0 rfl) ?_
            refine lv_iconst (v := (-1)) hx hb dX7_items_30 (by decide) ?_
            refine lv_icmp_eq (tgt := 98) hx hb dX7_items_31 (by decide) (fun _ => ?_) (fun cb => absurd (by decide) cb)
            have hPD9 : PD D A [(Mm, .inr (7, [.int zth, .ref Mt, .int (nI tp), .int (nI max_137), .int (-1), .ref Mrr, .ref Mrh, .ref Mrc, .int (nI rh), .int (nI rc), .ref Mn, .ref Mf, .ref Mr, .ref Mh, .int zhp, .int zcc, .ref Ma, .ref Mas, .ref Msn, .ref Mac, .ref Mat])), (Mt, .inl (g 0, 160, .inl fmt)), (Mrr, .inl (g 0, 3, .inl (upd (upd frrx_2 0 (nI nx_21)) 2 (nI nx_125))))] H := ⟨hP.sub [1, 2, 0] rfl, hD.sub [1, 2, 0] (by decide) rfl⟩
            have hP9 := hPD9.1; have hD9 := hPD9.2
            subst hQ
            refine W.widen (k := 0) (n := 0) (Nat.le_of_ble_eq_true rfl) (Nat.le_of_ble_eq_true rfl) ?_
            exact W.vret hx hb hr (fun tS htS _ => ⟨⟨_, rfl, ⟨max_137, (-1), (upd (upd frrx_2 0 (nI nx_21)) 2 (nI nx_125)), rfl, ⟨(n1_upd (n1_upd (hf_3) (n := nx_21) (show nx_21 ≤ 99 by omega)) (n := nx_125) (show nx_125 ≤ 99 by omega)), (show max_137 ≤ tp by omega), (show ma ≤ max_137 by omega), (congrArg Prod.fst (hR_132.trans (iv_m (f := 1) (m := 5) hf_140 hey_141.symm qi_143))).symm, (fun _ => (congrArg Prod.snd (hR_132.trans (iv_m (f := 1) (m := 5) hf_140 hey_141.symm qi_143))).symm), (fun _ => (hW_135.trans (iw_m (f := 1) (m := 5) hf_140 hey_141.symm qi_143)).symm)⟩⟩, by rw [htS]; exact hP9, hD9⟩, hS.F htS⟩) hS.2.2 dX7_items_98
          · skip
            refine lv_eqi (y := 0) (qi_143) ?_
            have hil_144 := iv_lt (k := 0) (q := 0) hey_141.symm qi_143 (by decide); have hil_144a := hil_144.1
            refine lv_istore (lv' := [(5, .int 0), (4, .int 5), (0, .ref Mm), (1, .int 0), (2, .ref Mrr), (3, .int 0)]) hx hb dX7_items_93 hl (by decide) rfl (fun ls hl => ?_)
            refine lv_goto (tgt := 20) hx hb dX7_items_95 (by decide) ?_
            refine lv_aload_n hx hb dX7_items_20 rfl (lv_at hl 2 rfl) ?_
            refine va_get (D := D) (ci := 7) (v := .int (-1)) (C := RX7) (T := TX7) (N := 21) hx hb hts iX7 hown hK hP 1 rfl rfl 4 (by decide) f71 (fun _ h9 => h9) rfl dX7_items_21 ?_
            refine lv_iconst (v := (-1)) hx hb dX7_items_24 (by decide) ?_
            refine lv_icmp_ne (tgt := 98) hx hb dX7_items_25 (by decide) (fun cb => absurd (by decide) cb) (fun _ => ?_)
            refine lv_iload hx hb dX7_items_28 (lv_at hl 0 rfl) ?_
            refine lv_iconst (v := (-1)) hx hb dX7_items_30 (by decide) ?_
            refine lv_icmp_eq (tgt := 98) hx hb dX7_items_31 (by decide) (fun cb => absurd cb (by decide)) (fun _ => ?_)
            refine lv_iload hx hb dX7_items_34 (lv_at hl 1 rfl) ?_
            refine lv_iload hx hb dX7_items_36 (lv_at hl 0 rfl) ?_
            refine ky_Si (As := [.int 5, .int 0]) (rest := []) ⟨hx, hb, hml, hown, hts⟩ ⟨hK, hN⟩ hZ hP hD hS hA [] [0, 1, 2] (wc := []) (wr := [(Mrr, .inl (g 0, 3, .inl (upd (upd frrx_2 0 (nI nx_21)) 2 (nI nx_125)))), (Mm, .inr (7, [.int zth, .ref Mt, .int (nI tp), .int (nI max_137), .int (-1), .ref Mrr, .ref Mrh, .ref Mrc, .int (nI rh), .int (nI rc), .ref Mn, .ref Mf, .ref Mr, .ref Mh, .int zhp, .int zcc, .ref Ma, .ref Mas, .ref Msn, .ref Mac, .ref Mat])), (Mt, .inl (g 0, 160, .inl fmt))]) rfl rfl rfl rfl (by decide) (r_X7_has_50 l D g H.size) (va_cwS 2 hts gX7_items_X7_has rfl rfl rfl (by decide +kernel) ⟨(Nat.le_of_ble_eq_true rfl), (Nat.le_of_ble_eq_true rfl)⟩) rfl hl.1 rfl (Nat.le_of_ble_eq_true rfl) dX7_items_38 ⟨(Nat.le_of_ble_eq_true rfl), (Nat.le_of_ble_eq_true rfl)⟩ (fun r_145 u H locs hw hP2 hD2 hS2 => ?_)
            clear hP hD hS
            obtain ⟨rfl, rfl⟩ := hw
            have hPD : PD D A [(Mrr, .inl (g 0, 3, .inl (upd (upd frrx_2 0 (nI nx_21)) 2 (nI nx_125)))), (Mm, .inr (7, [.int zth, .ref Mt, .int (nI tp), .int (nI max_137), .int (-1), .ref Mrr, .ref Mrh, .ref Mrc, .int (nI rh), .int (nI rc), .ref Mn, .ref Mf, .ref Mr, .ref Mh, .int zhp, .int zcc, .ref Ma, .ref Mas, .ref Msn, .ref Mac, .ref Mat])), (Mt, .inl (g 0, 160, .inl fmt))] H := ⟨hP2, hD2⟩
            have hS := hS2; clear hP2 hD2 hS2; have hP := hPD.1; have hD := hPD.2; clear hPD
            refine W.widen (k := 0) (n := 0) (Nat.le_of_ble_eq_true rfl) (Nat.le_of_ble_eq_true rfl) ?_
            refine lv_if_ne (tgt := 98) hx hb dX7_items_41 (by decide) (fun _ => ?_) (fun cb => absurd cb (by decide))
            have hPD9 : PD D A [(Mm, .inr (7, [.int zth, .ref Mt, .int (nI tp), .int (nI max_137), .int (-1), .ref Mrr, .ref Mrh, .ref Mrc, .int (nI rh), .int (nI rc), .ref Mn, .ref Mf, .ref Mr, .ref Mh, .int zhp, .int zcc, .ref Ma, .ref Mas, .ref Msn, .ref Mac, .ref Mat])), (Mt, .inl (g 0, 160, .inl fmt)), (Mrr, .inl (g 0, 3, .inl (upd (upd frrx_2 0 (nI nx_21)) 2 (nI nx_125))))] H := ⟨hP.sub [1, 2, 0] rfl, hD.sub [1, 2, 0] (by decide) rfl⟩
            have hP9 := hPD9.1; have hD9 := hPD9.2
            subst hQ
            refine W.widen (k := 0) (n := 0) (Nat.le_of_ble_eq_true rfl) (Nat.le_of_ble_eq_true rfl) ?_
            exact W.vret hx hb hr (fun tS htS _ => ⟨⟨_, rfl, ⟨max_137, (-1), (upd (upd frrx_2 0 (nI nx_21)) 2 (nI nx_125)), rfl, ⟨(n1_upd (n1_upd (hf_3) (n := nx_21) (show nx_21 ≤ 99 by omega)) (n := nx_125) (show nx_125 ≤ 99 by omega)), (show max_137 ≤ tp by omega), (show ma ≤ max_137 by omega), (congrArg Prod.fst (hR_132.trans (itR_again (f := 1) (m := 5) (q := 0) hf_140 hil_144.2 (by decide) (by decide)))).symm, (fun _ => (congrArg Prod.snd (hR_132.trans (itR_again (f := 1) (m := 5) (q := 0) hf_140 hil_144.2 (by decide) (by decide)))).symm), (fun _ => (hW_135.trans (itW_again (f := 1) (m := 5) (q := 0) hf_140 hil_144.2 (by decide) (by decide))).symm)⟩⟩, by rw [htS]; exact hP9, hD9⟩, hS.F htS⟩) hS.2.2 dX7_items_98
          · skip
            refine lv_eqi (y := 1) (qi_143) ?_
            have hil_146 := iv_lt (k := 0) (q := 1) hey_141.symm qi_143 (by decide); have hil_146a := hil_146.1
            refine lv_istore (lv' := [(5, .int 1), (4, .int 5), (0, .ref Mm), (1, .int 0), (2, .ref Mrr), (3, .int 0)]) hx hb dX7_items_93 hl (by decide) rfl (fun ls hl => ?_)
            refine lv_goto (tgt := 20) hx hb dX7_items_95 (by decide) ?_
            refine lv_aload_n hx hb dX7_items_20 rfl (lv_at hl 2 rfl) ?_
            refine va_get (D := D) (ci := 7) (v := .int (-1)) (C := RX7) (T := TX7) (N := 21) hx hb hts iX7 hown hK hP 1 rfl rfl 4 (by decide) f71 (fun _ h9 => h9) rfl dX7_items_21 ?_
            refine lv_iconst (v := (-1)) hx hb dX7_items_24 (by decide) ?_
            refine lv_icmp_ne (tgt := 98) hx hb dX7_items_25 (by decide) (fun cb => absurd (by decide) cb) (fun _ => ?_)
            refine lv_iload hx hb dX7_items_28 (lv_at hl 0 rfl) ?_
            refine lv_iconst (v := (-1)) hx hb dX7_items_30 (by decide) ?_
            refine lv_icmp_eq (tgt := 98) hx hb dX7_items_31 (by decide) (fun cb => absurd cb (by decide)) (fun _ => ?_)
            refine lv_iload hx hb dX7_items_34 (lv_at hl 1 rfl) ?_
            refine lv_iload hx hb dX7_items_36 (lv_at hl 0 rfl) ?_
            refine ky_Si (As := [.int 5, .int 1]) (rest := []) ⟨hx, hb, hml, hown, hts⟩ ⟨hK, hN⟩ hZ hP hD hS hA [] [0, 1, 2] (wc := []) (wr := [(Mrr, .inl (g 0, 3, .inl (upd (upd frrx_2 0 (nI nx_21)) 2 (nI nx_125)))), (Mm, .inr (7, [.int zth, .ref Mt, .int (nI tp), .int (nI max_137), .int (-1), .ref Mrr, .ref Mrh, .ref Mrc, .int (nI rh), .int (nI rc), .ref Mn, .ref Mf, .ref Mr, .ref Mh, .int zhp, .int zcc, .ref Ma, .ref Mas, .ref Msn, .ref Mac, .ref Mat])), (Mt, .inl (g 0, 160, .inl fmt))]) rfl rfl rfl rfl (by decide) (r_X7_has_51 l D g H.size) (va_cwS 2 hts gX7_items_X7_has rfl rfl rfl (by decide +kernel) ⟨(Nat.le_of_ble_eq_true rfl), (Nat.le_of_ble_eq_true rfl)⟩) rfl hl.1 rfl (Nat.le_of_ble_eq_true rfl) dX7_items_38 ⟨(Nat.le_of_ble_eq_true rfl), (Nat.le_of_ble_eq_true rfl)⟩ (fun r_147 u H locs hw hP2 hD2 hS2 => ?_)
            clear hP hD hS
            obtain ⟨rfl, rfl⟩ := hw
            have hPD : PD D A [(Mrr, .inl (g 0, 3, .inl (upd (upd frrx_2 0 (nI nx_21)) 2 (nI nx_125)))), (Mm, .inr (7, [.int zth, .ref Mt, .int (nI tp), .int (nI max_137), .int (-1), .ref Mrr, .ref Mrh, .ref Mrc, .int (nI rh), .int (nI rc), .ref Mn, .ref Mf, .ref Mr, .ref Mh, .int zhp, .int zcc, .ref Ma, .ref Mas, .ref Msn, .ref Mac, .ref Mat])), (Mt, .inl (g 0, 160, .inl fmt))] H := ⟨hP2, hD2⟩
            have hS := hS2; clear hP2 hD2 hS2; have hP := hPD.1; have hD := hPD.2; clear hPD
            refine W.widen (k := 0) (n := 0) (Nat.le_of_ble_eq_true rfl) (Nat.le_of_ble_eq_true rfl) ?_
            refine lv_if_ne (tgt := 98) hx hb dX7_items_41 (by decide) (fun cb => absurd (by decide) cb) (fun _ => ?_)
            refine lv_iload hx hb dX7_items_44 (lv_at hl 1 rfl) ?_
            refine lv_iconst (v := 1) hx hb dX7_items_46 (by decide) ?_
            refine lv_iload hx hb dX7_items_47 (lv_at hl 0 rfl) ?_
            refine lv_ishl hx hb dX7_items_49 ?_
            refine lv_eqi (y := 2) (by decide) ?_
            refine lv_ior hx hb dX7_items_50 ?_
            refine lv_eqi (y := 7) (by decide) ?_
            refine lv_istore (lv' := [(4, .int 7), (5, .int 1), (0, .ref Mm), (1, .int 0), (2, .ref Mrr), (3, .int 0)]) hx hb dX7_items_51 hl (by decide) rfl (fun ls hl => ?_)
            refine lv_aload_n hx hb dX7_items_53 rfl (lv_at hl 2 rfl) ?_
            refine lv_dup hx hb dX7_items_54 rfl ?_
            refine va_get (D := D) (ci := 7) (v := .int (nI max_137)) (C := RX7) (T := TX7) (N := 21) hx hb hts iX7 hown hK hP 1 rfl rfl 3 (by decide) f64 (fun _ h9 => h9) rfl dX7_items_55 ?_
            refine lv_iconst (v := 1) hx hb dX7_items_58 (by decide) ?_
            refine lv_iadd hx hb dX7_items_59 ?_
            refine lv_eqi (y := (nI (max_137 + 1))) (nI_add (max_137) (1)) ?_
            refine va_put (D := D) (ci := 7) (v := .int (nI (max_137 + 1))) (ty := .int) (C := RX7) (T := TX7) (N := 21) hx hb hts iX7 tyX7 tyX7_ok nmX7 hown hK hP hD hS 1 rfl rfl 3 (by decide) f64 (fun _ h9 => h9) rfl (by decide +kernel) (rfl) (rfl) (Nat.le_of_ble_eq_true rfl) dX7_items_60 (fun H locs hP2 hD2 hS2 => ?_)
            clear hP hD hS
            have hPD : PD D A [(Mrr, .inl (g 0, 3, .inl (upd (upd frrx_2 0 (nI nx_21)) 2 (nI nx_125)))), (Mm, .inr (7, [.int zth, .ref Mt, .int (nI tp), .int (nI (max_137 + 1)), .int (-1), .ref Mrr, .ref Mrh, .ref Mrc, .int (nI rh), .int (nI rc), .ref Mn, .ref Mf, .ref Mr, .ref Mh, .int zhp, .int zcc, .ref Ma, .ref Mas, .ref Msn, .ref Mac, .ref Mat])), (Mt, .inl (g 0, 160, .inl fmt))] H := ⟨hP2, hD2⟩
            have hS := hS2; clear hP2 hD2 hS2; have hP := hPD.1; have hD := hPD.2; clear hPD
            refine lv_aload_n hx hb dX7_items_63 rfl (lv_at hl 4 rfl) ?_
            refine lv_iload_n hx hb dX7_items_64 rfl (lv_at hl 5 rfl) ?_
            refine lv_iload hx hb dX7_items_65 (lv_at hl 1 rfl) ?_
            refine lv_iadd hx hb dX7_items_67 ?_
            refine lv_eqi (y := 1) (by decide) ?_
            refine lv_aload_n hx hb dX7_items_68 rfl (lv_at hl 2 rfl) ?_
            refine lv_iload_n hx hb dX7_items_69 rfl (lv_at hl 3 rfl) ?_
            refine lv_iload hx hb dX7_items_70 (lv_at hl 1 rfl) ?_
            refine ky_Si (As := [.int 0, .int 1]) (rest := [.ref Mm, .int 1, .ref Mrr]) ⟨hx, hb, hml, hown, hts⟩ ⟨hK, hN⟩ hZ hP hD hS hA [] [0, 1, 2] (wc := []) (wr := [(Mrr, .inl (g 0, 3, .inl (upd (upd frrx_2 0 (nI nx_21)) 2 (nI nx_125)))), (Mm, .inr (7, [.int zth, .ref Mt, .int (nI tp), .int (nI (max_137 + 1)), .int (-1), .ref Mrr, .ref Mrh, .ref Mrc, .int (nI rh), .int (nI rc), .ref Mn, .ref Mf, .ref Mr, .ref Mh, .int zhp, .int zcc, .ref Ma, .ref Mas, .ref Msn, .ref Mac, .ref Mat])), (Mt, .inl (g 0, 160, .inl fmt))]) rfl rfl rfl rfl (by decide) (r_X7_lowest_01 l D g H.size) (va_cwS 2 hts gX7_items_X7_lowest rfl rfl rfl (by decide +kernel) ⟨(Nat.le_of_ble_eq_true rfl), (Nat.le_of_ble_eq_true rfl)⟩) rfl hl.1 rfl (Nat.le_of_ble_eq_true rfl) dX7_items_72 ⟨(Nat.le_of_ble_eq_true rfl), (Nat.le_of_ble_eq_true rfl)⟩ (fun r_148 u H locs hw hP2 hD2 hS2 => ?_)
            clear hP hD hS
            obtain ⟨rfl, rfl⟩ := hw
            have hPD : PD D A [(Mrr, .inl (g 0, 3, .inl (upd (upd frrx_2 0 (nI nx_21)) 2 (nI nx_125)))), (Mm, .inr (7, [.int zth, .ref Mt, .int (nI tp), .int (nI (max_137 + 1)), .int (-1), .ref Mrr, .ref Mrh, .ref Mrc, .int (nI rh), .int (nI rc), .ref Mn, .ref Mf, .ref Mr, .ref Mh, .int zhp, .int zcc, .ref Ma, .ref Mas, .ref Msn, .ref Mac, .ref Mat])), (Mt, .inl (g 0, 160, .inl fmt))] H := ⟨hP2, hD2⟩
            have hS := hS2; clear hP2 hD2 hS2; have hP := hPD.1; have hD := hPD.2; clear hPD
            refine W.widen (k := 0) (n := 0) (Nat.le_of_ble_eq_true rfl) (Nat.le_of_ble_eq_true rfl) ?_
            refine lv_iload_n hx hb dX7_items_75 rfl (lv_at hl 3 rfl) ?_
            refine lv_iload hx hb dX7_items_76 (lv_at hl 1 rfl) ?_
            refine ky_Si (As := [.int 0, .int 1]) (rest := [.int 0, .ref Mm, .int 1, .ref Mrr]) ⟨hx, hb, hml, hown, hts⟩ ⟨hK, hN⟩ hZ hP hD hS hA [] [0, 1, 2] (wc := []) (wr := [(Mrr, .inl (g 0, 3, .inl (upd (upd frrx_2 0 (nI nx_21)) 2 (nI nx_125)))), (Mm, .inr (7, [.int zth, .ref Mt, .int (nI tp), .int (nI (max_137 + 1)), .int (-1), .ref Mrr, .ref Mrh, .ref Mrc, .int (nI rh), .int (nI rc), .ref Mn, .ref Mf, .ref Mr, .ref Mh, .int zhp, .int zcc, .ref Ma, .ref Mas, .ref Msn, .ref Mac, .ref Mat])), (Mt, .inl (g 0, 160, .inl fmt))]) rfl rfl rfl rfl (by decide) (r_X7_highest_01 l D g H.size) (va_cwS 2 hts gX7_items_X7_highest rfl rfl rfl (by decide +kernel) ⟨(Nat.le_of_ble_eq_true rfl), (Nat.le_of_ble_eq_true rfl)⟩) rfl hl.1 rfl (Nat.le_of_ble_eq_true rfl) dX7_items_78 ⟨(Nat.le_of_ble_eq_true rfl), (Nat.le_of_ble_eq_true rfl)⟩ (fun r_149 u H locs hw hP2 hD2 hS2 => ?_)
            clear hP hD hS
            obtain ⟨rfl, rfl⟩ := hw
            have hPD : PD D A [(Mrr, .inl (g 0, 3, .inl (upd (upd frrx_2 0 (nI nx_21)) 2 (nI nx_125)))), (Mm, .inr (7, [.int zth, .ref Mt, .int (nI tp), .int (nI (max_137 + 1)), .int (-1), .ref Mrr, .ref Mrh, .ref Mrc, .int (nI rh), .int (nI rc), .ref Mn, .ref Mf, .ref Mr, .ref Mh, .int zhp, .int zcc, .ref Ma, .ref Mas, .ref Msn, .ref Mac, .ref Mat])), (Mt, .inl (g 0, 160, .inl fmt))] H := ⟨hP2, hD2⟩
            have hS := hS2; clear hP2 hD2 hS2; have hP := hPD.1; have hD := hPD.2; clear hPD
            refine W.widen (k := 0) (n := 0) (Nat.le_of_ble_eq_true rfl) (Nat.le_of_ble_eq_true rfl) ?_
            refine ky_Vi (As := [.int 0, .int 20]) (rest := [.int 1, .ref Mrr]) ⟨hx, hb, hml, hown, hts⟩ ⟨hK, hN⟩ hZ hP hD hS hA [1, 2] [0] (wc := [(Mm, .inr (7, [.int zth, .ref Mt, .int (nI tp), .int (nI (max_137 + 1)), .int (-1), .ref Mrr, .ref Mrh, .ref Mrc, .int (nI rh), .int (nI rc), .ref Mn, .ref Mf, .ref Mr, .ref Mh, .int zhp, .int zcc, .ref Ma, .ref Mas, .ref Msn, .ref Mac, .ref Mat])), (Mt, .inl (g 0, 160, .inl fmt))]) (wr := [(Mrr, .inl (g 0, 3, .inl (upd (upd frrx_2 0 (nI nx_21)) 2 (nI nx_125))))]) rfl rfl rfl rfl (by decide) (w_X7_number l D g H.size Mm 0 20 zth Mt tp (max_137 + 1) Mrr Mrh Mrc rh rc Mn Mf Mr Mh zhp zcc Ma Mas Msn Mac Mat fmt (show tp ≤ 160 by omega) (show (max_137 + 1) ≤ tp by omega) (show 0 ≤ 1 by omega)) (cwV 2 hts gX7_items_X7_number rfl rfl rfl (by decide +kernel) ⟨(Nat.le_of_ble_eq_true rfl), (Nat.le_of_ble_eq_true rfl)⟩) 1 7 rfl rfl rfl rfl hl.1 rfl (Nat.le_of_ble_eq_true rfl) dX7_items_81 ⟨(Nat.le_of_ble_eq_true rfl), (Nat.le_of_ble_eq_true rfl)⟩ (fun r_150 u H locs hw hP2 hD2 hS2 => ?_)
            clear hP hD hS
            obtain ⟨max_151, zwrx_152, nx_153, rfl, rfl, hf_154⟩ := hw
            have hg_155 := hf_154.1
            have hg_156 := hf_154.2.1
            have hg_157 := hf_154.2.2.1
            have hPD : PD D A [(Mrr, .inl (g 0, 3, .inl (upd (upd frrx_2 0 (nI nx_21)) 2 (nI nx_125)))), (Mm, .inr (7, [.int zth, .ref Mt, .int (nI tp), .int (nI max_151), .int zwrx_152, .ref Mrr, .ref Mrh, .ref Mrc, .int (nI rh), .int (nI rc), .ref Mn, .ref Mf, .ref Mr, .ref Mh, .int zhp, .int zcc, .ref Ma, .ref Mas, .ref Msn, .ref Mac, .ref Mat])), (Mt, .inl (g 0, 160, .inl fmt))] H := ⟨hP2, hD2⟩
            have hS := hS2; clear hP2 hD2 hS2; have hP := hPD.1; have hD := hPD.2; clear hPD
            refine W.widen (k := 0) (n := 0) (Nat.le_of_ble_eq_true rfl) (Nat.le_of_ble_eq_true rfl) ?_
            refine va_iast hx hb hK hP hD hS 0 0 rfl rfl (by unfold vp_in; decide) dX7_items_84 (fun H locs hP2 hD2 hS2 => ?_)
            clear hP hD hS
            have hPD : PD D A [(Mrr, .inl (g 0, 3, .inl (upd (upd (upd frrx_2 0 (nI nx_21)) 2 (nI nx_125)) 1 (nI nx_153)))), (Mm, .inr (7, [.int zth, .ref Mt, .int (nI tp), .int (nI max_151), .int zwrx_152, .ref Mrr, .ref Mrh, .ref Mrc, .int (nI rh), .int (nI rc), .ref Mn, .ref Mf, .ref Mr, .ref Mh, .int zhp, .int zcc, .ref Ma, .ref Mas, .ref Msn, .ref Mac, .ref Mat])), (Mt, .inl (g 0, 160, .inl fmt))] H := ⟨hP2, hD2⟩
            have hS := hS2; clear hP2 hD2 hS2; have hP := hPD.1; have hD := hPD.2; clear hPD
            by_cases cw_158 : zwrx_152 = -1
            · skip
              have hPq_159 := hP; have hDq_159 := hD; have hSq_159 := hS; have hlq_159 := hl; clear hP hD hS hl
              subst cw_158
              have hP := hPq_159; have hD := hDq_159; have hS := hSq_159; have hl := hlq_159; clear hPq_159 hDq_159 hSq_159 hlq_159
              have hne_161 := hf_154.2.2.2.2.1 rfl
              have hnv_162 := hf_154.2.2.2.2.2 rfl
              have hR_160 : itR fmt tp 0 4 0 ma = itR fmt tp 0 1 7 max_151 := hR_132.trans ((itR_go (f := 1) (m := 5) (q := 1) hf_140 hil_146.1 hil_146.2 (by decide) (by decide) hf_154.2.2.2.1.symm).trans (by rw [hne_161]))
              have hW_163 : itW fmt tp 0 0 4 0 ma (us3 0 0 frr) = itW fmt tp 0 0 1 7 max_151 (upd (upd (upd frrx_2 0 (nI nx_21)) 2 (nI nx_125)) 1 (nI nx_153)) := hW_135.trans ((itW_go (f := 1) (m := 5) (q := 1) hf_140 hil_146.1 hil_146.2 (by decide) (by decide) hf_154.2.2.2.1.symm).trans (by rw [hne_161, hnv_162]))
              refine lv_iload_n hx hb dX7_items_85 rfl (lv_at hl 3 rfl) ?_
              refine lv_aload_n hx hb dX7_items_86 rfl (lv_at hl 2 rfl) ?_
              refine ky_Vi (As := []) (rest := [.int 0]) ⟨hx, hb, hml, hown, hts⟩ ⟨hK, hN⟩ hZ hP hD hS hA [1, 2] [0] (wc := [(Mm, .inr (7, [.int zth, .ref Mt, .int (nI tp), .int (nI max_151), .int (-1), .ref Mrr, .ref Mrh, .ref Mrc, .int (nI rh), .int (nI rc), .ref Mn, .ref Mf, .ref Mr, .ref Mh, .int zhp, .int zcc, .ref Ma, .ref Mas, .ref Msn, .ref Mac, .ref Mat])), (Mt, .inl (g 0, 160, .inl fmt))]) (wr := [(Mrr, .inl (g 0, 3, .inl (upd (upd (upd frrx_2 0 (nI nx_21)) 2 (nI nx_125)) 1 (nI nx_153))))]) rfl rfl rfl rfl (by decide) (r_X7_ahead l D g H.size Mm zth Mt tp max_151 (-1) Mrr Mrh Mrc rh rc Mn Mf Mr Mh zhp zcc Ma Mas Msn Mac Mat fmt (show tp ≤ 160 by omega) (show max_151 ≤ tp by omega)) (cwV 0 hts gX7_items_X7_ahead rfl rfl rfl (by decide +kernel) ⟨(Nat.le_of_ble_eq_true rfl), (Nat.le_of_ble_eq_true rfl)⟩) 1 7 rfl rfl rfl rfl hl.1 rfl (Nat.le_of_ble_eq_true rfl) dX7_items_87 ⟨(Nat.le_of_ble_eq_true rfl), (Nat.le_of_ble_eq_true rfl)⟩ (fun r_164 u H locs hw hP2 hD2 hS2 => ?_)
              clear hP hD hS
              obtain ⟨max_165, rfl, rfl, hf_166, hf_167, hf_168⟩ := hw
              have hPD : PD D A [(Mrr, .inl (g 0, 3, .inl (upd (upd (upd frrx_2 0 (nI nx_21)) 2 (nI nx_125)) 1 (nI nx_153)))), (Mm, .inr (7, [.int zth, .ref Mt, .int (nI tp), .int (nI max_165), .int (-1), .ref Mrr, .ref Mrh, .ref Mrc, .int (nI rh), .int (nI rc), .ref Mn, .ref Mf, .ref Mr, .ref Mh, .int zhp, .int zcc, .ref Ma, .ref Mas, .ref Msn, .ref Mac, .ref Mat])), (Mt, .inl (g 0, 160, .inl fmt))] H := ⟨hP2, hD2⟩
              have hS := hS2; clear hP2 hD2 hS2; have hP := hPD.1; have hD := hPD.2; clear hPD
              refine W.widen (k := 0) (n := 0) (Nat.le_of_ble_eq_true rfl) (Nat.le_of_ble_eq_true rfl) ?_
              refine lv_topi (fun y_169 hey_169 => ?_)
              refine ky_Si (As := [.int 0, .int y_169]) (rest := []) ⟨hx, hb, hml, hown, hts⟩ ⟨hK, hN⟩ hZ hP hD hS hA [] [0, 1, 2] (wc := []) (wr := [(Mrr, .inl (g 0, 3, .inl (upd (upd (upd frrx_2 0 (nI nx_21)) 2 (nI nx_125)) 1 (nI nx_153)))), (Mm, .inr (7, [.int zth, .ref Mt, .int (nI tp), .int (nI max_165), .int (-1), .ref Mrr, .ref Mrh, .ref Mrc, .int (nI rh), .int (nI rc), .ref Mn, .ref Mf, .ref Mr, .ref Mh, .int zhp, .int zcc, .ref Ma, .ref Mas, .ref Msn, .ref Mac, .ref Mat])), (Mt, .inl (g 0, 160, .inl fmt))]) rfl rfl rfl rfl (by decide) (r_X7_itemBy_0 l D g H.size y_169) (va_cwS 2 hts gX7_items_X7_itemBy rfl rfl rfl (by decide +kernel) ⟨(Nat.le_of_ble_eq_true rfl), (Nat.le_of_ble_eq_true rfl)⟩) rfl hl.1 rfl (Nat.le_of_ble_eq_true rfl) dX7_items_90 ⟨(Nat.le_of_ble_eq_true rfl), (Nat.le_of_ble_eq_true rfl)⟩ (fun r_170 u H locs hw hP2 hD2 hS2 => ?_)
              clear hP hD hS
              obtain ⟨rfl, rfl⟩ := hw
              have hPD : PD D A [(Mrr, .inl (g 0, 3, .inl (upd (upd (upd frrx_2 0 (nI nx_21)) 2 (nI nx_125)) 1 (nI nx_153)))), (Mm, .inr (7, [.int zth, .ref Mt, .int (nI tp), .int (nI max_165), .int (-1), .ref Mrr, .ref Mrh, .ref Mrc, .int (nI rh), .int (nI rc), .ref Mn, .ref Mf, .ref Mr, .ref Mh, .int zhp, .int zcc, .ref Ma, .ref Mas, .ref Msn, .ref Mac, .ref Mat])), (Mt, .inl (g 0, 160, .inl fmt))] H := ⟨hP2, hD2⟩
              have hS := hS2; clear hP2 hD2 hS2; have hP := hPD.1; have hD := hPD.2; clear hPD
              refine W.widen (k := 0) (n := 0) (Nat.le_of_ble_eq_true rfl) (Nat.le_of_ble_eq_true rfl) ?_
              rcases itK_c 0 y_169 with qi_171 | qi_171 | qi_171 | qi_171
              · skip
                refine lv_eqi (y := (-1)) (qi_171) ?_
                refine lv_istore (lv' := [(5, .int (-1)), (4, .int 7), (0, .ref Mm), (1, .int 0), (2, .ref Mrr), (3, .int 0)]) hx hb dX7_items_93 hl (by decide) rfl (fun ls hl => ?_)
                refine lv_goto (tgt := 20) hx hb dX7_items_95 (by decide) ?_
                refine lv_aload_n hx hb dX7_items_20 rfl (lv_at hl 2 rfl) ?_
                refine va_get (D := D) (ci := 7) (v := .int (-1)) (C := RX7) (T := TX7) (N := 21) hx hb hts iX7 hown hK hP 1 rfl rfl 4 (by decide) f71 (fun _ h9 => h9) rfl dX7_items_21 ?_
                refine lv_iconst (v := (-1)) hx hb dX7_items_24 (by decide) ?_
                refine lv_icmp_ne (tgt := 98) hx hb dX7_items_25 (by decide) (fun cb => absurd (by decide) cb) (fun _ => ?_)
                refine lv_iload hx hb dX7_items_28 (lv_at hl 0 rfl) ?_
                refine lv_iconst (v := (-1)) hx hb dX7_items_30 (by decide) ?_
                refine lv_icmp_eq (tgt := 98) hx hb dX7_items_31 (by decide) (fun _ => ?_) (fun cb => absurd (by decide) cb)
                have hPD9 : PD D A [(Mm, .inr (7, [.int zth, .ref Mt, .int (nI tp), .int (nI max_165), .int (-1), .ref Mrr, .ref Mrh, .ref Mrc, .int (nI rh), .int (nI rc), .ref Mn, .ref Mf, .ref Mr, .ref Mh, .int zhp, .int zcc, .ref Ma, .ref Mas, .ref Msn, .ref Mac, .ref Mat])), (Mt, .inl (g 0, 160, .inl fmt)), (Mrr, .inl (g 0, 3, .inl (upd (upd (upd frrx_2 0 (nI nx_21)) 2 (nI nx_125)) 1 (nI nx_153))))] H := ⟨hP.sub [1, 2, 0] rfl, hD.sub [1, 2, 0] (by decide) rfl⟩
                have hP9 := hPD9.1; have hD9 := hPD9.2
                subst hQ
                refine W.widen (k := 0) (n := 0) (Nat.le_of_ble_eq_true rfl) (Nat.le_of_ble_eq_true rfl) ?_
                exact W.vret hx hb hr (fun tS htS _ => ⟨⟨_, rfl, ⟨max_165, (-1), (upd (upd (upd frrx_2 0 (nI nx_21)) 2 (nI nx_125)) 1 (nI nx_153)), rfl, ⟨(n1_upd (n1_upd (n1_upd (hf_3) (n := nx_21) (show nx_21 ≤ 99 by omega)) (n := nx_125) (show nx_125 ≤ 99 by omega)) (n := nx_153) (show nx_153 ≤ 99 by omega)), (show max_165 ≤ tp by omega), (show ma ≤ max_165 by omega), (congrArg Prod.fst (hR_160.trans (iv_m (f := 0) (m := 7) hf_168 hey_169.symm qi_171))).symm, (fun _ => (congrArg Prod.snd (hR_160.trans (iv_m (f := 0) (m := 7) hf_168 hey_169.symm qi_171))).symm), (fun _ => (hW_163.trans (iw_m (f := 0) (m := 7) hf_168 hey_169.symm qi_171)).symm)⟩⟩, by rw [htS]; exact hP9, hD9⟩, hS.F htS⟩) hS.2.2 dX7_items_98
              · skip
                refine lv_eqi (y := 0) (qi_171) ?_
                have hil_172 := iv_lt (k := 0) (q := 0) hey_169.symm qi_171 (by decide); have hil_172a := hil_172.1
                refine lv_istore (lv' := [(5, .int 0), (4, .int 7), (0, .ref Mm), (1, .int 0), (2, .ref Mrr), (3, .int 0)]) hx hb dX7_items_93 hl (by decide) rfl (fun ls hl => ?_)
                refine lv_goto (tgt := 20) hx hb dX7_items_95 (by decide) ?_
                refine lv_aload_n hx hb dX7_items_20 rfl (lv_at hl 2 rfl) ?_
                refine va_get (D := D) (ci := 7) (v := .int (-1)) (C := RX7) (T := TX7) (N := 21) hx hb hts iX7 hown hK hP 1 rfl rfl 4 (by decide) f71 (fun _ h9 => h9) rfl dX7_items_21 ?_
                refine lv_iconst (v := (-1)) hx hb dX7_items_24 (by decide) ?_
                refine lv_icmp_ne (tgt := 98) hx hb dX7_items_25 (by decide) (fun cb => absurd (by decide) cb) (fun _ => ?_)
                refine lv_iload hx hb dX7_items_28 (lv_at hl 0 rfl) ?_
                refine lv_iconst (v := (-1)) hx hb dX7_items_30 (by decide) ?_
                refine lv_icmp_eq (tgt := 98) hx hb dX7_items_31 (by decide) (fun cb => absurd cb (by decide)) (fun _ => ?_)
                refine lv_iload hx hb dX7_items_34 (lv_at hl 1 rfl) ?_
                refine lv_iload hx hb dX7_items_36 (lv_at hl 0 rfl) ?_
                refine ky_Si (As := [.int 7, .int 0]) (rest := []) ⟨hx, hb, hml, hown, hts⟩ ⟨hK, hN⟩ hZ hP hD hS hA [] [0, 1, 2] (wc := []) (wr := [(Mrr, .inl (g 0, 3, .inl (upd (upd (upd frrx_2 0 (nI nx_21)) 2 (nI nx_125)) 1 (nI nx_153)))), (Mm, .inr (7, [.int zth, .ref Mt, .int (nI tp), .int (nI max_165), .int (-1), .ref Mrr, .ref Mrh, .ref Mrc, .int (nI rh), .int (nI rc), .ref Mn, .ref Mf, .ref Mr, .ref Mh, .int zhp, .int zcc, .ref Ma, .ref Mas, .ref Msn, .ref Mac, .ref Mat])), (Mt, .inl (g 0, 160, .inl fmt))]) rfl rfl rfl rfl (by decide) (r_X7_has_70 l D g H.size) (va_cwS 2 hts gX7_items_X7_has rfl rfl rfl (by decide +kernel) ⟨(Nat.le_of_ble_eq_true rfl), (Nat.le_of_ble_eq_true rfl)⟩) rfl hl.1 rfl (Nat.le_of_ble_eq_true rfl) dX7_items_38 ⟨(Nat.le_of_ble_eq_true rfl), (Nat.le_of_ble_eq_true rfl)⟩ (fun r_173 u H locs hw hP2 hD2 hS2 => ?_)
                clear hP hD hS
                obtain ⟨rfl, rfl⟩ := hw
                have hPD : PD D A [(Mrr, .inl (g 0, 3, .inl (upd (upd (upd frrx_2 0 (nI nx_21)) 2 (nI nx_125)) 1 (nI nx_153)))), (Mm, .inr (7, [.int zth, .ref Mt, .int (nI tp), .int (nI max_165), .int (-1), .ref Mrr, .ref Mrh, .ref Mrc, .int (nI rh), .int (nI rc), .ref Mn, .ref Mf, .ref Mr, .ref Mh, .int zhp, .int zcc, .ref Ma, .ref Mas, .ref Msn, .ref Mac, .ref Mat])), (Mt, .inl (g 0, 160, .inl fmt))] H := ⟨hP2, hD2⟩
                have hS := hS2; clear hP2 hD2 hS2; have hP := hPD.1; have hD := hPD.2; clear hPD
                refine W.widen (k := 0) (n := 0) (Nat.le_of_ble_eq_true rfl) (Nat.le_of_ble_eq_true rfl) ?_
                refine lv_if_ne (tgt := 98) hx hb dX7_items_41 (by decide) (fun _ => ?_) (fun cb => absurd cb (by decide))
                have hPD9 : PD D A [(Mm, .inr (7, [.int zth, .ref Mt, .int (nI tp), .int (nI max_165), .int (-1), .ref Mrr, .ref Mrh, .ref Mrc, .int (nI rh), .int (nI rc), .ref Mn, .ref Mf, .ref Mr, .ref Mh, .int zhp, .int zcc, .ref Ma, .ref Mas, .ref Msn, .ref Mac, .ref Mat])), (Mt, .inl (g 0, 160, .inl fmt)), (Mrr, .inl (g 0, 3, .inl (upd (upd (upd frrx_2 0 (nI nx_21)) 2 (nI nx_125)) 1 (nI nx_153))))] H := ⟨hP.sub [1, 2, 0] rfl, hD.sub [1, 2, 0] (by decide) rfl⟩
                have hP9 := hPD9.1; have hD9 := hPD9.2
                subst hQ
                refine W.widen (k := 0) (n := 0) (Nat.le_of_ble_eq_true rfl) (Nat.le_of_ble_eq_true rfl) ?_
                exact W.vret hx hb hr (fun tS htS _ => ⟨⟨_, rfl, ⟨max_165, (-1), (upd (upd (upd frrx_2 0 (nI nx_21)) 2 (nI nx_125)) 1 (nI nx_153)), rfl, ⟨(n1_upd (n1_upd (n1_upd (hf_3) (n := nx_21) (show nx_21 ≤ 99 by omega)) (n := nx_125) (show nx_125 ≤ 99 by omega)) (n := nx_153) (show nx_153 ≤ 99 by omega)), (show max_165 ≤ tp by omega), (show ma ≤ max_165 by omega), (congrArg Prod.fst (hR_160.trans (itR_again (f := 0) (m := 7) (q := 0) hf_168 hil_172.2 (by decide) (by decide)))).symm, (fun _ => (congrArg Prod.snd (hR_160.trans (itR_again (f := 0) (m := 7) (q := 0) hf_168 hil_172.2 (by decide) (by decide)))).symm), (fun _ => (hW_163.trans (itW_again (f := 0) (m := 7) (q := 0) hf_168 hil_172.2 (by decide) (by decide))).symm)⟩⟩, by rw [htS]; exact hP9, hD9⟩, hS.F htS⟩) hS.2.2 dX7_items_98
              · skip
                refine lv_eqi (y := 1) (qi_171) ?_
                have hil_174 := iv_lt (k := 0) (q := 1) hey_169.symm qi_171 (by decide); have hil_174a := hil_174.1
                refine lv_istore (lv' := [(5, .int 1), (4, .int 7), (0, .ref Mm), (1, .int 0), (2, .ref Mrr), (3, .int 0)]) hx hb dX7_items_93 hl (by decide) rfl (fun ls hl => ?_)
                refine lv_goto (tgt := 20) hx hb dX7_items_95 (by decide) ?_
                refine lv_aload_n hx hb dX7_items_20 rfl (lv_at hl 2 rfl) ?_
                refine va_get (D := D) (ci := 7) (v := .int (-1)) (C := RX7) (T := TX7) (N := 21) hx hb hts iX7 hown hK hP 1 rfl rfl 4 (by decide) f71 (fun _ h9 => h9) rfl dX7_items_21 ?_
                refine lv_iconst (v := (-1)) hx hb dX7_items_24 (by decide) ?_
                refine lv_icmp_ne (tgt := 98) hx hb dX7_items_25 (by decide) (fun cb => absurd (by decide) cb) (fun _ => ?_)
                refine lv_iload hx hb dX7_items_28 (lv_at hl 0 rfl) ?_
                refine lv_iconst (v := (-1)) hx hb dX7_items_30 (by decide) ?_
                refine lv_icmp_eq (tgt := 98) hx hb dX7_items_31 (by decide) (fun cb => absurd cb (by decide)) (fun _ => ?_)
                refine lv_iload hx hb dX7_items_34 (lv_at hl 1 rfl) ?_
                refine lv_iload hx hb dX7_items_36 (lv_at hl 0 rfl) ?_
                refine ky_Si (As := [.int 7, .int 1]) (rest := []) ⟨hx, hb, hml, hown, hts⟩ ⟨hK, hN⟩ hZ hP hD hS hA [] [0, 1, 2] (wc := []) (wr := [(Mrr, .inl (g 0, 3, .inl (upd (upd (upd frrx_2 0 (nI nx_21)) 2 (nI nx_125)) 1 (nI nx_153)))), (Mm, .inr (7, [.int zth, .ref Mt, .int (nI tp), .int (nI max_165), .int (-1), .ref Mrr, .ref Mrh, .ref Mrc, .int (nI rh), .int (nI rc), .ref Mn, .ref Mf, .ref Mr, .ref Mh, .int zhp, .int zcc, .ref Ma, .ref Mas, .ref Msn, .ref Mac, .ref Mat])), (Mt, .inl (g 0, 160, .inl fmt))]) rfl rfl rfl rfl (by decide) (r_X7_has_71 l D g H.size) (va_cwS 2 hts gX7_items_X7_has rfl rfl rfl (by decide +kernel) ⟨(Nat.le_of_ble_eq_true rfl), (Nat.le_of_ble_eq_true rfl)⟩) rfl hl.1 rfl (Nat.le_of_ble_eq_true rfl) dX7_items_38 ⟨(Nat.le_of_ble_eq_true rfl), (Nat.le_of_ble_eq_true rfl)⟩ (fun r_175 u H locs hw hP2 hD2 hS2 => ?_)
                clear hP hD hS
                obtain ⟨rfl, rfl⟩ := hw
                have hPD : PD D A [(Mrr, .inl (g 0, 3, .inl (upd (upd (upd frrx_2 0 (nI nx_21)) 2 (nI nx_125)) 1 (nI nx_153)))), (Mm, .inr (7, [.int zth, .ref Mt, .int (nI tp), .int (nI max_165), .int (-1), .ref Mrr, .ref Mrh, .ref Mrc, .int (nI rh), .int (nI rc), .ref Mn, .ref Mf, .ref Mr, .ref Mh, .int zhp, .int zcc, .ref Ma, .ref Mas, .ref Msn, .ref Mac, .ref Mat])), (Mt, .inl (g 0, 160, .inl fmt))] H := ⟨hP2, hD2⟩
                have hS := hS2; clear hP2 hD2 hS2; have hP := hPD.1; have hD := hPD.2; clear hPD
                refine W.widen (k := 0) (n := 0) (Nat.le_of_ble_eq_true rfl) (Nat.le_of_ble_eq_true rfl) ?_
                refine lv_if_ne (tgt := 98) hx hb dX7_items_41 (by decide) (fun _ => ?_) (fun cb => absurd cb (by decide))
                have hPD9 : PD D A [(Mm, .inr (7, [.int zth, .ref Mt, .int (nI tp), .int (nI max_165), .int (-1), .ref Mrr, .ref Mrh, .ref Mrc, .int (nI rh), .int (nI rc), .ref Mn, .ref Mf, .ref Mr, .ref Mh, .int zhp, .int zcc, .ref Ma, .ref Mas, .ref Msn, .ref Mac, .ref Mat])), (Mt, .inl (g 0, 160, .inl fmt)), (Mrr, .inl (g 0, 3, .inl (upd (upd (upd frrx_2 0 (nI nx_21)) 2 (nI nx_125)) 1 (nI nx_153))))] H := ⟨hP.sub [1, 2, 0] rfl, hD.sub [1, 2, 0] (by decide) rfl⟩
                have hP9 := hPD9.1; have hD9 := hPD9.2
                subst hQ
                refine W.widen (k := 0) (n := 0) (Nat.le_of_ble_eq_true rfl) (Nat.le_of_ble_eq_true rfl) ?_
                exact W.vret hx hb hr (fun tS htS _ => ⟨⟨_, rfl, ⟨max_165, (-1), (upd (upd (upd frrx_2 0 (nI nx_21)) 2 (nI nx_125)) 1 (nI nx_153)), rfl, ⟨(n1_upd (n1_upd (n1_upd (hf_3) (n := nx_21) (show nx_21 ≤ 99 by omega)) (n := nx_125) (show nx_125 ≤ 99 by omega)) (n := nx_153) (show nx_153 ≤ 99 by omega)), (show max_165 ≤ tp by omega), (show ma ≤ max_165 by omega), (congrArg Prod.fst (hR_160.trans (itR_again (f := 0) (m := 7) (q := 1) hf_168 hil_174.2 (by decide) (by decide)))).symm, (fun _ => (congrArg Prod.snd (hR_160.trans (itR_again (f := 0) (m := 7) (q := 1) hf_168 hil_174.2 (by decide) (by decide)))).symm), (fun _ => (hW_163.trans (itW_again (f := 0) (m := 7) (q := 1) hf_168 hil_174.2 (by decide) (by decide))).symm)⟩⟩, by rw [htS]; exact hP9, hD9⟩, hS.F htS⟩) hS.2.2 dX7_items_98
              · skip
                refine lv_eqi (y := 2) (qi_171) ?_
                have hil_176 := iv_lt (k := 0) (q := 2) hey_169.symm qi_171 (by decide); have hil_176a := hil_176.1
                refine lv_istore (lv' := [(5, .int 2), (4, .int 7), (0, .ref Mm), (1, .int 0), (2, .ref Mrr), (3, .int 0)]) hx hb dX7_items_93 hl (by decide) rfl (fun ls hl => ?_)
                refine lv_goto (tgt := 20) hx hb dX7_items_95 (by decide) ?_
                refine lv_aload_n hx hb dX7_items_20 rfl (lv_at hl 2 rfl) ?_
                refine va_get (D := D) (ci := 7) (v := .int (-1)) (C := RX7) (T := TX7) (N := 21) hx hb hts iX7 hown hK hP 1 rfl rfl 4 (by decide) f71 (fun _ h9 => h9) rfl dX7_items_21 ?_
                refine lv_iconst (v := (-1)) hx hb dX7_items_24 (by decide) ?_
                refine lv_icmp_ne (tgt := 98) hx hb dX7_items_25 (by decide) (fun cb => absurd (by decide) cb) (fun _ => ?_)
                refine lv_iload hx hb dX7_items_28 (lv_at hl 0 rfl) ?_
                refine lv_iconst (v := (-1)) hx hb dX7_items_30 (by decide) ?_
                refine lv_icmp_eq (tgt := 98) hx hb dX7_items_31 (by decide) (fun cb => absurd cb (by decide)) (fun _ => ?_)
                refine lv_iload hx hb dX7_items_34 (lv_at hl 1 rfl) ?_
                refine lv_iload hx hb dX7_items_36 (lv_at hl 0 rfl) ?_
                refine ky_Si (As := [.int 7, .int 2]) (rest := []) ⟨hx, hb, hml, hown, hts⟩ ⟨hK, hN⟩ hZ hP hD hS hA [] [0, 1, 2] (wc := []) (wr := [(Mrr, .inl (g 0, 3, .inl (upd (upd (upd frrx_2 0 (nI nx_21)) 2 (nI nx_125)) 1 (nI nx_153)))), (Mm, .inr (7, [.int zth, .ref Mt, .int (nI tp), .int (nI max_165), .int (-1), .ref Mrr, .ref Mrh, .ref Mrc, .int (nI rh), .int (nI rc), .ref Mn, .ref Mf, .ref Mr, .ref Mh, .int zhp, .int zcc, .ref Ma, .ref Mas, .ref Msn, .ref Mac, .ref Mat])), (Mt, .inl (g 0, 160, .inl fmt))]) rfl rfl rfl rfl (by decide) (r_X7_has_72 l D g H.size) (va_cwS 2 hts gX7_items_X7_has rfl rfl rfl (by decide +kernel) ⟨(Nat.le_of_ble_eq_true rfl), (Nat.le_of_ble_eq_true rfl)⟩) rfl hl.1 rfl (Nat.le_of_ble_eq_true rfl) dX7_items_38 ⟨(Nat.le_of_ble_eq_true rfl), (Nat.le_of_ble_eq_true rfl)⟩ (fun r_177 u H locs hw hP2 hD2 hS2 => ?_)
                clear hP hD hS
                obtain ⟨rfl, rfl⟩ := hw
                have hPD : PD D A [(Mrr, .inl (g 0, 3, .inl (upd (upd (upd frrx_2 0 (nI nx_21)) 2 (nI nx_125)) 1 (nI nx_153)))), (Mm, .inr (7, [.int zth, .ref Mt, .int (nI tp), .int (nI max_165), .int (-1), .ref Mrr, .ref Mrh, .ref Mrc, .int (nI rh), .int (nI rc), .ref Mn, .ref Mf, .ref Mr, .ref Mh, .int zhp, .int zcc, .ref Ma, .ref Mas, .ref Msn, .ref Mac, .ref Mat])), (Mt, .inl (g 0, 160, .inl fmt))] H := ⟨hP2, hD2⟩
                have hS := hS2; clear hP2 hD2 hS2; have hP := hPD.1; have hD := hPD.2; clear hPD
                refine W.widen (k := 0) (n := 0) (Nat.le_of_ble_eq_true rfl) (Nat.le_of_ble_eq_true rfl) ?_
                refine lv_if_ne (tgt := 98) hx hb dX7_items_41 (by decide) (fun _ => ?_) (fun cb => absurd cb (by decide))
                have hPD9 : PD D A [(Mm, .inr (7, [.int zth, .ref Mt, .int (nI tp), .int (nI max_165), .int (-1), .ref Mrr, .ref Mrh, .ref Mrc, .int (nI rh), .int (nI rc), .ref Mn, .ref Mf, .ref Mr, .ref Mh, .int zhp, .int zcc, .ref Ma, .ref Mas, .ref Msn, .ref Mac, .ref Mat])), (Mt, .inl (g 0, 160, .inl fmt)), (Mrr, .inl (g 0, 3, .inl (upd (upd (upd frrx_2 0 (nI nx_21)) 2 (nI nx_125)) 1 (nI nx_153))))] H := ⟨hP.sub [1, 2, 0] rfl, hD.sub [1, 2, 0] (by decide) rfl⟩
                have hP9 := hPD9.1; have hD9 := hPD9.2
                subst hQ
                refine W.widen (k := 0) (n := 0) (Nat.le_of_ble_eq_true rfl) (Nat.le_of_ble_eq_true rfl) ?_
                exact W.vret hx hb hr (fun tS htS _ => ⟨⟨_, rfl, ⟨max_165, (-1), (upd (upd (upd frrx_2 0 (nI nx_21)) 2 (nI nx_125)) 1 (nI nx_153)), rfl, ⟨(n1_upd (n1_upd (n1_upd (hf_3) (n := nx_21) (show nx_21 ≤ 99 by omega)) (n := nx_125) (show nx_125 ≤ 99 by omega)) (n := nx_153) (show nx_153 ≤ 99 by omega)), (show max_165 ≤ tp by omega), (show ma ≤ max_165 by omega), (congrArg Prod.fst (hR_160.trans (itR_again (f := 0) (m := 7) (q := 2) hf_168 hil_176.2 (by decide) (by decide)))).symm, (fun _ => (congrArg Prod.snd (hR_160.trans (itR_again (f := 0) (m := 7) (q := 2) hf_168 hil_176.2 (by decide) (by decide)))).symm), (fun _ => (hW_163.trans (itW_again (f := 0) (m := 7) (q := 2) hf_168 hil_176.2 (by decide) (by decide))).symm)⟩⟩, by rw [htS]; exact hP9, hD9⟩, hS.F htS⟩) hS.2.2 dX7_items_98
            · skip
              refine lv_iload_n hx hb dX7_items_85 rfl (lv_at hl 3 rfl) ?_
              refine lv_aload_n hx hb dX7_items_86 rfl (lv_at hl 2 rfl) ?_
              refine ky_Vi (As := []) (rest := [.int 0]) ⟨hx, hb, hml, hown, hts⟩ ⟨hK, hN⟩ hZ hP hD hS hA [1, 2] [0] (wc := [(Mm, .inr (7, [.int zth, .ref Mt, .int (nI tp), .int (nI max_151), .int zwrx_152, .ref Mrr, .ref Mrh, .ref Mrc, .int (nI rh), .int (nI rc), .ref Mn, .ref Mf, .ref Mr, .ref Mh, .int zhp, .int zcc, .ref Ma, .ref Mas, .ref Msn, .ref Mac, .ref Mat])), (Mt, .inl (g 0, 160, .inl fmt))]) (wr := [(Mrr, .inl (g 0, 3, .inl (upd (upd (upd frrx_2 0 (nI nx_21)) 2 (nI nx_125)) 1 (nI nx_153))))]) rfl rfl rfl rfl (by decide) (r_X7_ahead l D g H.size Mm zth Mt tp max_151 zwrx_152 Mrr Mrh Mrc rh rc Mn Mf Mr Mh zhp zcc Ma Mas Msn Mac Mat fmt (show tp ≤ 160 by omega) (show max_151 ≤ tp by omega)) (cwV 0 hts gX7_items_X7_ahead rfl rfl rfl (by decide +kernel) ⟨(Nat.le_of_ble_eq_true rfl), (Nat.le_of_ble_eq_true rfl)⟩) 1 7 rfl rfl rfl rfl hl.1 rfl (Nat.le_of_ble_eq_true rfl) dX7_items_87 ⟨(Nat.le_of_ble_eq_true rfl), (Nat.le_of_ble_eq_true rfl)⟩ (fun r_178 u H locs hw hP2 hD2 hS2 => ?_)
              clear hP hD hS
              obtain ⟨max_179, rfl, rfl, hf_180, hf_181, hf_182⟩ := hw
              have hPD : PD D A [(Mrr, .inl (g 0, 3, .inl (upd (upd (upd frrx_2 0 (nI nx_21)) 2 (nI nx_125)) 1 (nI nx_153)))), (Mm, .inr (7, [.int zth, .ref Mt, .int (nI tp), .int (nI max_179), .int zwrx_152, .ref Mrr, .ref Mrh, .ref Mrc, .int (nI rh), .int (nI rc), .ref Mn, .ref Mf, .ref Mr, .ref Mh, .int zhp, .int zcc, .ref Ma, .ref Mas, .ref Msn, .ref Mac, .ref Mat])), (Mt, .inl (g 0, 160, .inl fmt))] H := ⟨hP2, hD2⟩
              have hS := hS2; clear hP2 hD2 hS2; have hP := hPD.1; have hD := hPD.2; clear hPD
              refine W.widen (k := 0) (n := 0) (Nat.le_of_ble_eq_true rfl) (Nat.le_of_ble_eq_true rfl) ?_
              refine lv_topi (fun y_183 hey_183 => ?_)
              refine ky_Si (As := [.int 0, .int y_183]) (rest := []) ⟨hx, hb, hml, hown, hts⟩ ⟨hK, hN⟩ hZ hP hD hS hA [] [0, 1, 2] (wc := []) (wr := [(Mrr, .inl (g 0, 3, .inl (upd (upd (upd frrx_2 0 (nI nx_21)) 2 (nI nx_125)) 1 (nI nx_153)))), (Mm, .inr (7, [.int zth, .ref Mt, .int (nI tp), .int (nI max_179), .int zwrx_152, .ref Mrr, .ref Mrh, .ref Mrc, .int (nI rh), .int (nI rc), .ref Mn, .ref Mf, .ref Mr, .ref Mh, .int zhp, .int zcc, .ref Ma, .ref Mas, .ref Msn, .ref Mac, .ref Mat])), (Mt, .inl (g 0, 160, .inl fmt))]) rfl rfl rfl rfl (by decide) (r_X7_itemBy_0 l D g H.size y_183) (va_cwS 2 hts gX7_items_X7_itemBy rfl rfl rfl (by decide +kernel) ⟨(Nat.le_of_ble_eq_true rfl), (Nat.le_of_ble_eq_true rfl)⟩) rfl hl.1 rfl (Nat.le_of_ble_eq_true rfl) dX7_items_90 ⟨(Nat.le_of_ble_eq_true rfl), (Nat.le_of_ble_eq_true rfl)⟩ (fun r_184 u H locs hw hP2 hD2 hS2 => ?_)
              clear hP hD hS
              obtain ⟨rfl, rfl⟩ := hw
              have hPD : PD D A [(Mrr, .inl (g 0, 3, .inl (upd (upd (upd frrx_2 0 (nI nx_21)) 2 (nI nx_125)) 1 (nI nx_153)))), (Mm, .inr (7, [.int zth, .ref Mt, .int (nI tp), .int (nI max_179), .int zwrx_152, .ref Mrr, .ref Mrh, .ref Mrc, .int (nI rh), .int (nI rc), .ref Mn, .ref Mf, .ref Mr, .ref Mh, .int zhp, .int zcc, .ref Ma, .ref Mas, .ref Msn, .ref Mac, .ref Mat])), (Mt, .inl (g 0, 160, .inl fmt))] H := ⟨hP2, hD2⟩
              have hS := hS2; clear hP2 hD2 hS2; have hP := hPD.1; have hD := hPD.2; clear hPD
              refine W.widen (k := 0) (n := 0) (Nat.le_of_ble_eq_true rfl) (Nat.le_of_ble_eq_true rfl) ?_
              refine lv_istore (lv' := [(5, .int (itK 0 y_183)), (4, .int 7), (0, .ref Mm), (1, .int 0), (2, .ref Mrr), (3, .int 0)]) hx hb dX7_items_93 hl (by decide) rfl (fun ls hl => ?_)
              refine lv_goto (tgt := 20) hx hb dX7_items_95 (by decide) ?_
              refine lv_aload_n hx hb dX7_items_20 rfl (lv_at hl 2 rfl) ?_
              refine va_get (D := D) (ci := 7) (v := .int zwrx_152) (C := RX7) (T := TX7) (N := 21) hx hb hts iX7 hown hK hP 1 rfl rfl 4 (by decide) f71 (fun _ h9 => h9) rfl dX7_items_21 ?_
              refine lv_iconst (v := (-1)) hx hb dX7_items_24 (by decide) ?_
              refine lv_icmp_ne (tgt := 98) hx hb dX7_items_25 (by decide) (fun _ => ?_) (fun cb => absurd cb (cw_158))
              have hPD9 : PD D A [(Mm, .inr (7, [.int zth, .ref Mt, .int (nI tp), .int (nI max_179), .int zwrx_152, .ref Mrr, .ref Mrh, .ref Mrc, .int (nI rh), .int (nI rc), .ref Mn, .ref Mf, .ref Mr, .ref Mh, .int zhp, .int zcc, .ref Ma, .ref Mas, .ref Msn, .ref Mac, .ref Mat])), (Mt, .inl (g 0, 160, .inl fmt)), (Mrr, .inl (g 0, 3, .inl (upd (upd (upd frrx_2 0 (nI nx_21)) 2 (nI nx_125)) 1 (nI nx_153))))] H := ⟨hP.sub [1, 2, 0] rfl, hD.sub [1, 2, 0] (by decide) rfl⟩
              have hP9 := hPD9.1; have hD9 := hPD9.2
              subst hQ
              refine W.widen (k := 0) (n := 0) (Nat.le_of_ble_eq_true rfl) (Nat.le_of_ble_eq_true rfl) ?_
              exact W.vret hx hb hr (fun tS htS _ => ⟨⟨_, rfl, ⟨max_179, zwrx_152, (upd (upd (upd frrx_2 0 (nI nx_21)) 2 (nI nx_125)) 1 (nI nx_153)), rfl, ⟨(n1_upd (n1_upd (n1_upd (hf_3) (n := nx_21) (show nx_21 ≤ 99 by omega)) (n := nx_125) (show nx_125 ≤ 99 by omega)) (n := nx_153) (show nx_153 ≤ 99 by omega)), (show max_179 ≤ tp by omega), (show ma ≤ max_179 by omega), ((congrArg Prod.fst hR_132).trans ((itR_w (f := 1) (m := 5) (q := 1) hf_140 hil_146.1 hil_146.2 (by decide) (by decide) (fun q => cw_158 (hf_154.2.2.2.1.trans q))).trans hf_154.2.2.2.1.symm)).symm, (fun q => absurd q cw_158), (fun q => absurd q cw_158)⟩⟩, by rw [htS]; exact hP9, hD9⟩, hS.F htS⟩) hS.2.2 dX7_items_98
          · skip
            refine lv_eqi (y := 2) (qi_143) ?_
            have hil_185 := iv_lt (k := 0) (q := 2) hey_141.symm qi_143 (by decide); have hil_185a := hil_185.1
            refine lv_istore (lv' := [(5, .int 2), (4, .int 5), (0, .ref Mm), (1, .int 0), (2, .ref Mrr), (3, .int 0)]) hx hb dX7_items_93 hl (by decide) rfl (fun ls hl => ?_)
            refine lv_goto (tgt := 20) hx hb dX7_items_95 (by decide) ?_
            refine lv_aload_n hx hb dX7_items_20 rfl (lv_at hl 2 rfl) ?_
            refine va_get (D := D) (ci := 7) (v := .int (-1)) (C := RX7) (T := TX7) (N := 21) hx hb hts iX7 hown hK hP 1 rfl rfl 4 (by decide) f71 (fun _ h9 => h9) rfl dX7_items_21 ?_
            refine lv_iconst (v := (-1)) hx hb dX7_items_24 (by decide) ?_
            refine lv_icmp_ne (tgt := 98) hx hb dX7_items_25 (by decide) (fun cb => absurd (by decide) cb) (fun _ => ?_)
            refine lv_iload hx hb dX7_items_28 (lv_at hl 0 rfl) ?_
            refine lv_iconst (v := (-1)) hx hb dX7_items_30 (by decide) ?_
            refine lv_icmp_eq (tgt := 98) hx hb dX7_items_31 (by decide) (fun cb => absurd cb (by decide)) (fun _ => ?_)
            refine lv_iload hx hb dX7_items_34 (lv_at hl 1 rfl) ?_
            refine lv_iload hx hb dX7_items_36 (lv_at hl 0 rfl) ?_
            refine ky_Si (As := [.int 5, .int 2]) (rest := []) ⟨hx, hb, hml, hown, hts⟩ ⟨hK, hN⟩ hZ hP hD hS hA [] [0, 1, 2] (wc := []) (wr := [(Mrr, .inl (g 0, 3, .inl (upd (upd frrx_2 0 (nI nx_21)) 2 (nI nx_125)))), (Mm, .inr (7, [.int zth, .ref Mt, .int (nI tp), .int (nI max_137), .int (-1), .ref Mrr, .ref Mrh, .ref Mrc, .int (nI rh), .int (nI rc), .ref Mn, .ref Mf, .ref Mr, .ref Mh, .int zhp, .int zcc, .ref Ma, .ref Mas, .ref Msn, .ref Mac, .ref Mat])), (Mt, .inl (g 0, 160, .inl fmt))]) rfl rfl rfl rfl (by decide) (r_X7_has_52 l D g H.size) (va_cwS 2 hts gX7_items_X7_has rfl rfl rfl (by decide +kernel) ⟨(Nat.le_of_ble_eq_true rfl), (Nat.le_of_ble_eq_true rfl)⟩) rfl hl.1 rfl (Nat.le_of_ble_eq_true rfl) dX7_items_38 ⟨(Nat.le_of_ble_eq_true rfl), (Nat.le_of_ble_eq_true rfl)⟩ (fun r_186 u H locs hw hP2 hD2 hS2 => ?_)
            clear hP hD hS
            obtain ⟨rfl, rfl⟩ := hw
            have hPD : PD D A [(Mrr, .inl (g 0, 3, .inl (upd (upd frrx_2 0 (nI nx_21)) 2 (nI nx_125)))), (Mm, .inr (7, [.int zth, .ref Mt, .int (nI tp), .int (nI max_137), .int (-1), .ref Mrr, .ref Mrh, .ref Mrc, .int (nI rh), .int (nI rc), .ref Mn, .ref Mf, .ref Mr, .ref Mh, .int zhp, .int zcc, .ref Ma, .ref Mas, .ref Msn, .ref Mac, .ref Mat])), (Mt, .inl (g 0, 160, .inl fmt))] H := ⟨hP2, hD2⟩
            have hS := hS2; clear hP2 hD2 hS2; have hP := hPD.1; have hD := hPD.2; clear hPD
            refine W.widen (k := 0) (n := 0) (Nat.le_of_ble_eq_true rfl) (Nat.le_of_ble_eq_true rfl) ?_
            refine lv_if_ne (tgt := 98) hx hb dX7_items_41 (by decide) (fun _ => ?_) (fun cb => absurd cb (by decide))
            have hPD9 : PD D A [(Mm, .inr (7, [.int zth, .ref Mt, .int (nI tp), .int (nI max_137), .int (-1), .ref Mrr, .ref Mrh, .ref Mrc, .int (nI rh), .int (nI rc), .ref Mn, .ref Mf, .ref Mr, .ref Mh, .int zhp, .int zcc, .ref Ma, .ref Mas, .ref Msn, .ref Mac, .ref Mat])), (Mt, .inl (g 0, 160, .inl fmt)), (Mrr, .inl (g 0, 3, .inl (upd (upd frrx_2 0 (nI nx_21)) 2 (nI nx_125))))] H := ⟨hP.sub [1, 2, 0] rfl, hD.sub [1, 2, 0] (by decide) rfl⟩
            have hP9 := hPD9.1; have hD9 := hPD9.2
            subst hQ
            refine W.widen (k := 0) (n := 0) (Nat.le_of_ble_eq_true rfl) (Nat.le_of_ble_eq_true rfl) ?_
            exact W.vret hx hb hr (fun tS htS _ => ⟨⟨_, rfl, ⟨max_137, (-1), (upd (upd frrx_2 0 (nI nx_21)) 2 (nI nx_125)), rfl, ⟨(n1_upd (n1_upd (hf_3) (n := nx_21) (show nx_21 ≤ 99 by omega)) (n := nx_125) (show nx_125 ≤ 99 by omega)), (show max_137 ≤ tp by omega), (show ma ≤ max_137 by omega), (congrArg Prod.fst (hR_132.trans (itR_again (f := 1) (m := 5) (q := 2) hf_140 hil_185.2 (by decide) (by decide)))).symm, (fun _ => (congrArg Prod.snd (hR_132.trans (itR_again (f := 1) (m := 5) (q := 2) hf_140 hil_185.2 (by decide) (by decide)))).symm), (fun _ => (hW_135.trans (itW_again (f := 1) (m := 5) (q := 2) hf_140 hil_185.2 (by decide) (by decide))).symm)⟩⟩, by rw [htS]; exact hP9, hD9⟩, hS.F htS⟩) hS.2.2 dX7_items_98
        · skip
          refine lv_iload_n hx hb dX7_items_85 rfl (lv_at hl 3 rfl) ?_
          refine lv_aload_n hx hb dX7_items_86 rfl (lv_at hl 2 rfl) ?_
          refine ky_Vi (As := []) (rest := [.int 0]) ⟨hx, hb, hml, hown, hts⟩ ⟨hK, hN⟩ hZ hP hD hS hA [1, 2] [0] (wc := [(Mm, .inr (7, [.int zth, .ref Mt, .int (nI tp), .int (nI max_123), .int zwrx_124, .ref Mrr, .ref Mrh, .ref Mrc, .int (nI rh), .int (nI rc), .ref Mn, .ref Mf, .ref Mr, .ref Mh, .int zhp, .int zcc, .ref Ma, .ref Mas, .ref Msn, .ref Mac, .ref Mat])), (Mt, .inl (g 0, 160, .inl fmt))]) (wr := [(Mrr, .inl (g 0, 3, .inl (upd (upd frrx_2 0 (nI nx_21)) 2 (nI nx_125))))]) rfl rfl rfl rfl (by decide) (r_X7_ahead l D g H.size Mm zth Mt tp max_123 zwrx_124 Mrr Mrh Mrc rh rc Mn Mf Mr Mh zhp zcc Ma Mas Msn Mac Mat fmt (show tp ≤ 160 by omega) (show max_123 ≤ tp by omega)) (cwV 0 hts gX7_items_X7_ahead rfl rfl rfl (by decide +kernel) ⟨(Nat.le_of_ble_eq_true rfl), (Nat.le_of_ble_eq_true rfl)⟩) 1 7 rfl rfl rfl rfl hl.1 rfl (Nat.le_of_ble_eq_true rfl) dX7_items_87 ⟨(Nat.le_of_ble_eq_true rfl), (Nat.le_of_ble_eq_true rfl)⟩ (fun r_187 u H locs hw hP2 hD2 hS2 => ?_)
          clear hP hD hS
          obtain ⟨max_188, rfl, rfl, hf_189, hf_190, hf_191⟩ := hw
          have hPD : PD D A [(Mrr, .inl (g 0, 3, .inl (upd (upd frrx_2 0 (nI nx_21)) 2 (nI nx_125)))), (Mm, .inr (7, [.int zth, .ref Mt, .int (nI tp), .int (nI max_188), .int zwrx_124, .ref Mrr, .ref Mrh, .ref Mrc, .int (nI rh), .int (nI rc), .ref Mn, .ref Mf, .ref Mr, .ref Mh, .int zhp, .int zcc, .ref Ma, .ref Mas, .ref Msn, .ref Mac, .ref Mat])), (Mt, .inl (g 0, 160, .inl fmt))] H := ⟨hP2, hD2⟩
          have hS := hS2; clear hP2 hD2 hS2; have hP := hPD.1; have hD := hPD.2; clear hPD
          refine W.widen (k := 0) (n := 0) (Nat.le_of_ble_eq_true rfl) (Nat.le_of_ble_eq_true rfl) ?_
          refine lv_topi (fun y_192 hey_192 => ?_)
          refine ky_Si (As := [.int 0, .int y_192]) (rest := []) ⟨hx, hb, hml, hown, hts⟩ ⟨hK, hN⟩ hZ hP hD hS hA [] [0, 1, 2] (wc := []) (wr := [(Mrr, .inl (g 0, 3, .inl (upd (upd frrx_2 0 (nI nx_21)) 2 (nI nx_125)))), (Mm, .inr (7, [.int zth, .ref Mt, .int (nI tp), .int (nI max_188), .int zwrx_124, .ref Mrr, .ref Mrh, .ref Mrc, .int (nI rh), .int (nI rc), .ref Mn, .ref Mf, .ref Mr, .ref Mh, .int zhp, .int zcc, .ref Ma, .ref Mas, .ref Msn, .ref Mac, .ref Mat])), (Mt, .inl (g 0, 160, .inl fmt))]) rfl rfl rfl rfl (by decide) (r_X7_itemBy_0 l D g H.size y_192) (va_cwS 2 hts gX7_items_X7_itemBy rfl rfl rfl (by decide +kernel) ⟨(Nat.le_of_ble_eq_true rfl), (Nat.le_of_ble_eq_true rfl)⟩) rfl hl.1 rfl (Nat.le_of_ble_eq_true rfl) dX7_items_90 ⟨(Nat.le_of_ble_eq_true rfl), (Nat.le_of_ble_eq_true rfl)⟩ (fun r_193 u H locs hw hP2 hD2 hS2 => ?_)
          clear hP hD hS
          obtain ⟨rfl, rfl⟩ := hw
          have hPD : PD D A [(Mrr, .inl (g 0, 3, .inl (upd (upd frrx_2 0 (nI nx_21)) 2 (nI nx_125)))), (Mm, .inr (7, [.int zth, .ref Mt, .int (nI tp), .int (nI max_188), .int zwrx_124, .ref Mrr, .ref Mrh, .ref Mrc, .int (nI rh), .int (nI rc), .ref Mn, .ref Mf, .ref Mr, .ref Mh, .int zhp, .int zcc, .ref Ma, .ref Mas, .ref Msn, .ref Mac, .ref Mat])), (Mt, .inl (g 0, 160, .inl fmt))] H := ⟨hP2, hD2⟩
          have hS := hS2; clear hP2 hD2 hS2; have hP := hPD.1; have hD := hPD.2; clear hPD
          refine W.widen (k := 0) (n := 0) (Nat.le_of_ble_eq_true rfl) (Nat.le_of_ble_eq_true rfl) ?_
          refine lv_istore (lv' := [(5, .int (itK 0 y_192)), (4, .int 5), (0, .ref Mm), (1, .int 0), (2, .ref Mrr), (3, .int 0)]) hx hb dX7_items_93 hl (by decide) rfl (fun ls hl => ?_)
          refine lv_goto (tgt := 20) hx hb dX7_items_95 (by decide) ?_
          refine lv_aload_n hx hb dX7_items_20 rfl (lv_at hl 2 rfl) ?_
          refine va_get (D := D) (ci := 7) (v := .int zwrx_124) (C := RX7) (T := TX7) (N := 21) hx hb hts iX7 hown hK hP 1 rfl rfl 4 (by decide) f71 (fun _ h9 => h9) rfl dX7_items_21 ?_
          refine lv_iconst (v := (-1)) hx hb dX7_items_24 (by decide) ?_
          refine lv_icmp_ne (tgt := 98) hx hb dX7_items_25 (by decide) (fun _ => ?_) (fun cb => absurd cb (cw_130))
          have hPD9 : PD D A [(Mm, .inr (7, [.int zth, .ref Mt, .int (nI tp), .int (nI max_188), .int zwrx_124, .ref Mrr, .ref Mrh, .ref Mrc, .int (nI rh), .int (nI rc), .ref Mn, .ref Mf, .ref Mr, .ref Mh, .int zhp, .int zcc, .ref Ma, .ref Mas, .ref Msn, .ref Mac, .ref Mat])), (Mt, .inl (g 0, 160, .inl fmt)), (Mrr, .inl (g 0, 3, .inl (upd (upd frrx_2 0 (nI nx_21)) 2 (nI nx_125))))] H := ⟨hP.sub [1, 2, 0] rfl, hD.sub [1, 2, 0] (by decide) rfl⟩
          have hP9 := hPD9.1; have hD9 := hPD9.2
          subst hQ
          refine W.widen (k := 0) (n := 0) (Nat.le_of_ble_eq_true rfl) (Nat.le_of_ble_eq_true rfl) ?_
          exact W.vret hx hb hr (fun tS htS _ => ⟨⟨_, rfl, ⟨max_188, zwrx_124, (upd (upd frrx_2 0 (nI nx_21)) 2 (nI nx_125)), rfl, ⟨(n1_upd (n1_upd (hf_3) (n := nx_21) (show nx_21 ≤ 99 by omega)) (n := nx_125) (show nx_125 ≤ 99 by omega)), (show max_188 ≤ tp by omega), (show ma ≤ max_188 by omega), ((congrArg Prod.fst hR_28).trans ((itR_w (f := 2) (m := 1) (q := 2) hf_36 hil_118.1 hil_118.2 (by decide) (by decide) (fun q => cw_130 (hf_126.2.2.2.1.trans q))).trans hf_126.2.2.2.1.symm)).symm, (fun q => absurd q cw_130), (fun q => absurd q cw_130)⟩⟩, by rw [htS]; exact hP9, hD9⟩, hS.F htS⟩) hS.2.2 dX7_items_98
    · skip
      refine lv_iload_n hx hb dX7_items_85 rfl (lv_at hl 3 rfl) ?_
      refine lv_aload_n hx hb dX7_items_86 rfl (lv_at hl 2 rfl) ?_
      refine ky_Vi (As := []) (rest := [.int 0]) ⟨hx, hb, hml, hown, hts⟩ ⟨hK, hN⟩ hZ hP hD hS hA [1, 2] [0] (wc := [(Mm, .inr (7, [.int zth, .ref Mt, .int (nI tp), .int (nI max_19), .int zwrx_20, .ref Mrr, .ref Mrh, .ref Mrc, .int (nI rh), .int (nI rc), .ref Mn, .ref Mf, .ref Mr, .ref Mh, .int zhp, .int zcc, .ref Ma, .ref Mas, .ref Msn, .ref Mac, .ref Mat])), (Mt, .inl (g 0, 160, .inl fmt))]) (wr := [(Mrr, .inl (g 0, 3, .inl (upd frrx_2 0 (nI nx_21))))]) rfl rfl rfl rfl (by decide) (r_X7_ahead l D g H.size Mm zth Mt tp max_19 zwrx_20 Mrr Mrh Mrc rh rc Mn Mf Mr Mh zhp zcc Ma Mas Msn Mac Mat fmt (show tp ≤ 160 by omega) (show max_19 ≤ tp by omega)) (cwV 0 hts gX7_items_X7_ahead rfl rfl rfl (by decide +kernel) ⟨(Nat.le_of_ble_eq_true rfl), (Nat.le_of_ble_eq_true rfl)⟩) 1 7 rfl rfl rfl rfl hl.1 rfl (Nat.le_of_ble_eq_true rfl) dX7_items_87 ⟨(Nat.le_of_ble_eq_true rfl), (Nat.le_of_ble_eq_true rfl)⟩ (fun r_194 u H locs hw hP2 hD2 hS2 => ?_)
      clear hP hD hS
      obtain ⟨max_195, rfl, rfl, hf_196, hf_197, hf_198⟩ := hw
      have hPD : PD D A [(Mrr, .inl (g 0, 3, .inl (upd frrx_2 0 (nI nx_21)))), (Mm, .inr (7, [.int zth, .ref Mt, .int (nI tp), .int (nI max_195), .int zwrx_20, .ref Mrr, .ref Mrh, .ref Mrc, .int (nI rh), .int (nI rc), .ref Mn, .ref Mf, .ref Mr, .ref Mh, .int zhp, .int zcc, .ref Ma, .ref Mas, .ref Msn, .ref Mac, .ref Mat])), (Mt, .inl (g 0, 160, .inl fmt))] H := ⟨hP2, hD2⟩
      have hS := hS2; clear hP2 hD2 hS2; have hP := hPD.1; have hD := hPD.2; clear hPD
      refine W.widen (k := 0) (n := 0) (Nat.le_of_ble_eq_true rfl) (Nat.le_of_ble_eq_true rfl) ?_
      refine lv_topi (fun y_199 hey_199 => ?_)
      refine ky_Si (As := [.int 0, .int y_199]) (rest := []) ⟨hx, hb, hml, hown, hts⟩ ⟨hK, hN⟩ hZ hP hD hS hA [] [0, 1, 2] (wc := []) (wr := [(Mrr, .inl (g 0, 3, .inl (upd frrx_2 0 (nI nx_21)))), (Mm, .inr (7, [.int zth, .ref Mt, .int (nI tp), .int (nI max_195), .int zwrx_20, .ref Mrr, .ref Mrh, .ref Mrc, .int (nI rh), .int (nI rc), .ref Mn, .ref Mf, .ref Mr, .ref Mh, .int zhp, .int zcc, .ref Ma, .ref Mas, .ref Msn, .ref Mac, .ref Mat])), (Mt, .inl (g 0, 160, .inl fmt))]) rfl rfl rfl rfl (by decide) (r_X7_itemBy_0 l D g H.size y_199) (va_cwS 2 hts gX7_items_X7_itemBy rfl rfl rfl (by decide +kernel) ⟨(Nat.le_of_ble_eq_true rfl), (Nat.le_of_ble_eq_true rfl)⟩) rfl hl.1 rfl (Nat.le_of_ble_eq_true rfl) dX7_items_90 ⟨(Nat.le_of_ble_eq_true rfl), (Nat.le_of_ble_eq_true rfl)⟩ (fun r_200 u H locs hw hP2 hD2 hS2 => ?_)
      clear hP hD hS
      obtain ⟨rfl, rfl⟩ := hw
      have hPD : PD D A [(Mrr, .inl (g 0, 3, .inl (upd frrx_2 0 (nI nx_21)))), (Mm, .inr (7, [.int zth, .ref Mt, .int (nI tp), .int (nI max_195), .int zwrx_20, .ref Mrr, .ref Mrh, .ref Mrc, .int (nI rh), .int (nI rc), .ref Mn, .ref Mf, .ref Mr, .ref Mh, .int zhp, .int zcc, .ref Ma, .ref Mas, .ref Msn, .ref Mac, .ref Mat])), (Mt, .inl (g 0, 160, .inl fmt))] H := ⟨hP2, hD2⟩
      have hS := hS2; clear hP2 hD2 hS2; have hP := hPD.1; have hD := hPD.2; clear hPD
      refine W.widen (k := 0) (n := 0) (Nat.le_of_ble_eq_true rfl) (Nat.le_of_ble_eq_true rfl) ?_
      refine lv_istore (lv' := [(5, .int (itK 0 y_199)), (4, .int 1), (0, .ref Mm), (1, .int 0), (2, .ref Mrr), (3, .int 0)]) hx hb dX7_items_93 hl (by decide) rfl (fun ls hl => ?_)
      refine lv_goto (tgt := 20) hx hb dX7_items_95 (by decide) ?_
      refine lv_aload_n hx hb dX7_items_20 rfl (lv_at hl 2 rfl) ?_
      refine va_get (D := D) (ci := 7) (v := .int zwrx_20) (C := RX7) (T := TX7) (N := 21) hx hb hts iX7 hown hK hP 1 rfl rfl 4 (by decide) f71 (fun _ h9 => h9) rfl dX7_items_21 ?_
      refine lv_iconst (v := (-1)) hx hb dX7_items_24 (by decide) ?_
      refine lv_icmp_ne (tgt := 98) hx hb dX7_items_25 (by decide) (fun _ => ?_) (fun cb => absurd cb (cw_26))
      have hPD9 : PD D A [(Mm, .inr (7, [.int zth, .ref Mt, .int (nI tp), .int (nI max_195), .int zwrx_20, .ref Mrr, .ref Mrh, .ref Mrc, .int (nI rh), .int (nI rc), .ref Mn, .ref Mf, .ref Mr, .ref Mh, .int zhp, .int zcc, .ref Ma, .ref Mas, .ref Msn, .ref Mac, .ref Mat])), (Mt, .inl (g 0, 160, .inl fmt)), (Mrr, .inl (g 0, 3, .inl (upd frrx_2 0 (nI nx_21))))] H := ⟨hP.sub [1, 2, 0] rfl, hD.sub [1, 2, 0] (by decide) rfl⟩
      have hP9 := hPD9.1; have hD9 := hPD9.2
      subst hQ
      refine W.widen (k := 0) (n := 0) (Nat.le_of_ble_eq_true rfl) (Nat.le_of_ble_eq_true rfl) ?_
      exact W.vret hx hb hr (fun tS htS _ => ⟨⟨_, rfl, ⟨max_195, zwrx_20, (upd frrx_2 0 (nI nx_21)), rfl, ⟨(n1_upd (hf_3) (n := nx_21) (show nx_21 ≤ 99 by omega)), (show max_195 ≤ tp by omega), (show ma ≤ max_195 by omega), (((itR_w (f := 3) (m := 0) (q := 0) hf_9 hil_14.1 hil_14.2 (by decide) (by decide) (fun q => cw_26 (hf_22.2.2.2.1.trans q))).trans hf_22.2.2.2.1.symm)).symm, (fun q => absurd q cw_26), (fun q => absurd q cw_26)⟩⟩, by rw [htS]; exact hP9, hD9⟩, hS.F htS⟩) hS.2.2 dX7_items_98
  · skip
    refine lv_eqi (y := 1) (qi_13) ?_
    have hil_201 := iv_lt (k := 0) (q := 1) hey_10.symm qi_13 (by decide); have hil_201a := hil_201.1
    refine lv_istore (lv' := [(5, .int 1), (4, .int 0), (0, .ref Mm), (1, .int 0), (2, .ref Mrr), (3, .int 0)]) hx hb dX7_items_18 hl (by decide) rfl (fun ls hl => ?_)
    refine lv_aload_n hx hb dX7_items_20 rfl (lv_at hl 2 rfl) ?_
    refine va_get (D := D) (ci := 7) (v := .int (-1)) (C := RX7) (T := TX7) (N := 21) hx hb hts iX7 hown hK hP 1 rfl rfl 4 (by decide) f71 (fun _ h9 => h9) rfl dX7_items_21 ?_
    refine lv_iconst (v := (-1)) hx hb dX7_items_24 (by decide) ?_
    refine lv_icmp_ne (tgt := 98) hx hb dX7_items_25 (by decide) (fun cb => absurd (by decide) cb) (fun _ => ?_)
    refine lv_iload hx hb dX7_items_28 (lv_at hl 0 rfl) ?_
    refine lv_iconst (v := (-1)) hx hb dX7_items_30 (by decide) ?_
    refine lv_icmp_eq (tgt := 98) hx hb dX7_items_31 (by decide) (fun cb => absurd cb (by decide)) (fun _ => ?_)
    refine lv_iload hx hb dX7_items_34 (lv_at hl 1 rfl) ?_
    refine lv_iload hx hb dX7_items_36 (lv_at hl 0 rfl) ?_
    refine ky_Si (As := [.int 0, .int 1]) (rest := []) ⟨hx, hb, hml, hown, hts⟩ ⟨hK, hN⟩ hZ hP hD hS hA [] [0, 1, 2] (wc := []) (wr := [(Mrr, .inl (g 0, 3, .inl frrx_2)), (Mm, .inr (7, [.int zth, .ref Mt, .int (nI tp), .int (nI max_6), .int (-1), .ref Mrr, .ref Mrh, .ref Mrc, .int (nI rh), .int (nI rc), .ref Mn, .ref Mf, .ref Mr, .ref Mh, .int zhp, .int zcc, .ref Ma, .ref Mas, .ref Msn, .ref Mac, .ref Mat])), (Mt, .inl (g 0, 160, .inl fmt))]) rfl rfl rfl rfl (by decide) (r_X7_has_01 l D g H.size) (va_cwS 2 hts gX7_items_X7_has rfl rfl rfl (by decide +kernel) ⟨(Nat.le_of_ble_eq_true rfl), (Nat.le_of_ble_eq_true rfl)⟩) rfl hl.1 rfl (Nat.le_of_ble_eq_true rfl) dX7_items_38 ⟨(Nat.le_of_ble_eq_true rfl), (Nat.le_of_ble_eq_true rfl)⟩ (fun r_202 u H locs hw hP2 hD2 hS2 => ?_)
    clear hP hD hS
    obtain ⟨rfl, rfl⟩ := hw
    have hPD : PD D A [(Mrr, .inl (g 0, 3, .inl frrx_2)), (Mm, .inr (7, [.int zth, .ref Mt, .int (nI tp), .int (nI max_6), .int (-1), .ref Mrr, .ref Mrh, .ref Mrc, .int (nI rh), .int (nI rc), .ref Mn, .ref Mf, .ref Mr, .ref Mh, .int zhp, .int zcc, .ref Ma, .ref Mas, .ref Msn, .ref Mac, .ref Mat])), (Mt, .inl (g 0, 160, .inl fmt))] H := ⟨hP2, hD2⟩
    have hS := hS2; clear hP2 hD2 hS2; have hP := hPD.1; have hD := hPD.2; clear hPD
    refine W.widen (k := 0) (n := 0) (Nat.le_of_ble_eq_true rfl) (Nat.le_of_ble_eq_true rfl) ?_
    refine lv_if_ne (tgt := 98) hx hb dX7_items_41 (by decide) (fun cb => absurd (by decide) cb) (fun _ => ?_)
    refine lv_iload hx hb dX7_items_44 (lv_at hl 1 rfl) ?_
    refine lv_iconst (v := 1) hx hb dX7_items_46 (by decide) ?_
    refine lv_iload hx hb dX7_items_47 (lv_at hl 0 rfl) ?_
    refine lv_ishl hx hb dX7_items_49 ?_
    refine lv_eqi (y := 2) (by decide) ?_
    refine lv_ior hx hb dX7_items_50 ?_
    refine lv_eqi (y := 2) (by decide) ?_
    refine lv_istore (lv' := [(4, .int 2), (5, .int 1), (0, .ref Mm), (1, .int 0), (2, .ref Mrr), (3, .int 0)]) hx hb dX7_items_51 hl (by decide) rfl (fun ls hl => ?_)
    refine lv_aload_n hx hb dX7_items_53 rfl (lv_at hl 2 rfl) ?_
    refine lv_dup hx hb dX7_items_54 rfl ?_
    refine va_get (D := D) (ci := 7) (v := .int (nI max_6)) (C := RX7) (T := TX7) (N := 21) hx hb hts iX7 hown hK hP 1 rfl rfl 3 (by decide) f64 (fun _ h9 => h9) rfl dX7_items_55 ?_
    refine lv_iconst (v := 1) hx hb dX7_items_58 (by decide) ?_
    refine lv_iadd hx hb dX7_items_59 ?_
    refine lv_eqi (y := (nI (max_6 + 1))) (nI_add (max_6) (1)) ?_
    refine va_put (D := D) (ci := 7) (v := .int (nI (max_6 + 1))) (ty := .int) (C := RX7) (T := TX7) (N := 21) hx hb hts iX7 tyX7 tyX7_ok nmX7 hown hK hP hD hS 1 rfl rfl 3 (by decide) f64 (fun _ h9 => h9) rfl (by decide +kernel) (rfl) (rfl) (Nat.le_of_ble_eq_true rfl) dX7_items_60 (fun H locs hP2 hD2 hS2 => ?_)
    clear hP hD hS
    have hPD : PD D A [(Mrr, .inl (g 0, 3, .inl frrx_2)), (Mm, .inr (7, [.int zth, .ref Mt, .int (nI tp), .int (nI (max_6 + 1)), .int (-1), .ref Mrr, .ref Mrh, .ref Mrc, .int (nI rh), .int (nI rc), .ref Mn, .ref Mf, .ref Mr, .ref Mh, .int zhp, .int zcc, .ref Ma, .ref Mas, .ref Msn, .ref Mac, .ref Mat])), (Mt, .inl (g 0, 160, .inl fmt))] H := ⟨hP2, hD2⟩
    have hS := hS2; clear hP2 hD2 hS2; have hP := hPD.1; have hD := hPD.2; clear hPD
    refine lv_aload_n hx hb dX7_items_63 rfl (lv_at hl 4 rfl) ?_
    refine lv_iload_n hx hb dX7_items_64 rfl (lv_at hl 5 rfl) ?_
    refine lv_iload hx hb dX7_items_65 (lv_at hl 1 rfl) ?_
    refine lv_iadd hx hb dX7_items_67 ?_
    refine lv_eqi (y := 1) (by decide) ?_
    refine lv_aload_n hx hb dX7_items_68 rfl (lv_at hl 2 rfl) ?_
    refine lv_iload_n hx hb dX7_items_69 rfl (lv_at hl 3 rfl) ?_
    refine lv_iload hx hb dX7_items_70 (lv_at hl 1 rfl) ?_
    refine ky_Si (As := [.int 0, .int 1]) (rest := [.ref Mm, .int 1, .ref Mrr]) ⟨hx, hb, hml, hown, hts⟩ ⟨hK, hN⟩ hZ hP hD hS hA [] [0, 1, 2] (wc := []) (wr := [(Mrr, .inl (g 0, 3, .inl frrx_2)), (Mm, .inr (7, [.int zth, .ref Mt, .int (nI tp), .int (nI (max_6 + 1)), .int (-1), .ref Mrr, .ref Mrh, .ref Mrc, .int (nI rh), .int (nI rc), .ref Mn, .ref Mf, .ref Mr, .ref Mh, .int zhp, .int zcc, .ref Ma, .ref Mas, .ref Msn, .ref Mac, .ref Mat])), (Mt, .inl (g 0, 160, .inl fmt))]) rfl rfl rfl rfl (by decide) (r_X7_lowest_01 l D g H.size) (va_cwS 2 hts gX7_items_X7_lowest rfl rfl rfl (by decide +kernel) ⟨(Nat.le_of_ble_eq_true rfl), (Nat.le_of_ble_eq_true rfl)⟩) rfl hl.1 rfl (Nat.le_of_ble_eq_true rfl) dX7_items_72 ⟨(Nat.le_of_ble_eq_true rfl), (Nat.le_of_ble_eq_true rfl)⟩ (fun r_203 u H locs hw hP2 hD2 hS2 => ?_)
    clear hP hD hS
    obtain ⟨rfl, rfl⟩ := hw
    have hPD : PD D A [(Mrr, .inl (g 0, 3, .inl frrx_2)), (Mm, .inr (7, [.int zth, .ref Mt, .int (nI tp), .int (nI (max_6 + 1)), .int (-1), .ref Mrr, .ref Mrh, .ref Mrc, .int (nI rh), .int (nI rc), .ref Mn, .ref Mf, .ref Mr, .ref Mh, .int zhp, .int zcc, .ref Ma, .ref Mas, .ref Msn, .ref Mac, .ref Mat])), (Mt, .inl (g 0, 160, .inl fmt))] H := ⟨hP2, hD2⟩
    have hS := hS2; clear hP2 hD2 hS2; have hP := hPD.1; have hD := hPD.2; clear hPD
    refine W.widen (k := 0) (n := 0) (Nat.le_of_ble_eq_true rfl) (Nat.le_of_ble_eq_true rfl) ?_
    refine lv_iload_n hx hb dX7_items_75 rfl (lv_at hl 3 rfl) ?_
    refine lv_iload hx hb dX7_items_76 (lv_at hl 1 rfl) ?_
    refine ky_Si (As := [.int 0, .int 1]) (rest := [.int 0, .ref Mm, .int 1, .ref Mrr]) ⟨hx, hb, hml, hown, hts⟩ ⟨hK, hN⟩ hZ hP hD hS hA [] [0, 1, 2] (wc := []) (wr := [(Mrr, .inl (g 0, 3, .inl frrx_2)), (Mm, .inr (7, [.int zth, .ref Mt, .int (nI tp), .int (nI (max_6 + 1)), .int (-1), .ref Mrr, .ref Mrh, .ref Mrc, .int (nI rh), .int (nI rc), .ref Mn, .ref Mf, .ref Mr, .ref Mh, .int zhp, .int zcc, .ref Ma, .ref Mas, .ref Msn, .ref Mac, .ref Mat])), (Mt, .inl (g 0, 160, .inl fmt))]) rfl rfl rfl rfl (by decide) (r_X7_highest_01 l D g H.size) (va_cwS 2 hts gX7_items_X7_highest rfl rfl rfl (by decide +kernel) ⟨(Nat.le_of_ble_eq_true rfl), (Nat.le_of_ble_eq_true rfl)⟩) rfl hl.1 rfl (Nat.le_of_ble_eq_true rfl) dX7_items_78 ⟨(Nat.le_of_ble_eq_true rfl), (Nat.le_of_ble_eq_true rfl)⟩ (fun r_204 u H locs hw hP2 hD2 hS2 => ?_)
    clear hP hD hS
    obtain ⟨rfl, rfl⟩ := hw
    have hPD : PD D A [(Mrr, .inl (g 0, 3, .inl frrx_2)), (Mm, .inr (7, [.int zth, .ref Mt, .int (nI tp), .int (nI (max_6 + 1)), .int (-1), .ref Mrr, .ref Mrh, .ref Mrc, .int (nI rh), .int (nI rc), .ref Mn, .ref Mf, .ref Mr, .ref Mh, .int zhp, .int zcc, .ref Ma, .ref Mas, .ref Msn, .ref Mac, .ref Mat])), (Mt, .inl (g 0, 160, .inl fmt))] H := ⟨hP2, hD2⟩
    have hS := hS2; clear hP2 hD2 hS2; have hP := hPD.1; have hD := hPD.2; clear hPD
    refine W.widen (k := 0) (n := 0) (Nat.le_of_ble_eq_true rfl) (Nat.le_of_ble_eq_true rfl) ?_
    refine ky_Vi (As := [.int 0, .int 20]) (rest := [.int 1, .ref Mrr]) ⟨hx, hb, hml, hown, hts⟩ ⟨hK, hN⟩ hZ hP hD hS hA [1, 2] [0] (wc := [(Mm, .inr (7, [.int zth, .ref Mt, .int (nI tp), .int (nI (max_6 + 1)), .int (-1), .ref Mrr, .ref Mrh, .ref Mrc, .int (nI rh), .int (nI rc), .ref Mn, .ref Mf, .ref Mr, .ref Mh, .int zhp, .int zcc, .ref Ma, .ref Mas, .ref Msn, .ref Mac, .ref Mat])), (Mt, .inl (g 0, 160, .inl fmt))]) (wr := [(Mrr, .inl (g 0, 3, .inl frrx_2))]) rfl rfl rfl rfl (by decide) (w_X7_number l D g H.size Mm 0 20 zth Mt tp (max_6 + 1) Mrr Mrh Mrc rh rc Mn Mf Mr Mh zhp zcc Ma Mas Msn Mac Mat fmt (show tp ≤ 160 by omega) (show (max_6 + 1) ≤ tp by omega) (show 0 ≤ 1 by omega)) (cwV 2 hts gX7_items_X7_number rfl rfl rfl (by decide +kernel) ⟨(Nat.le_of_ble_eq_true rfl), (Nat.le_of_ble_eq_true rfl)⟩) 1 7 rfl rfl rfl rfl hl.1 rfl (Nat.le_of_ble_eq_true rfl) dX7_items_81 ⟨(Nat.le_of_ble_eq_true rfl), (Nat.le_of_ble_eq_true rfl)⟩ (fun r_205 u H locs hw hP2 hD2 hS2 => ?_)
    clear hP hD hS
    obtain ⟨max_206, zwrx_207, nx_208, rfl, rfl, hf_209⟩ := hw
    have hg_210 := hf_209.1
    have hg_211 := hf_209.2.1
    have hg_212 := hf_209.2.2.1
    have hPD : PD D A [(Mrr, .inl (g 0, 3, .inl frrx_2)), (Mm, .inr (7, [.int zth, .ref Mt, .int (nI tp), .int (nI max_206), .int zwrx_207, .ref Mrr, .ref Mrh, .ref Mrc, .int (nI rh), .int (nI rc), .ref Mn, .ref Mf, .ref Mr, .ref Mh, .int zhp, .int zcc, .ref Ma, .ref Mas, .ref Msn, .ref Mac, .ref Mat])), (Mt, .inl (g 0, 160, .inl fmt))] H := ⟨hP2, hD2⟩
    have hS := hS2; clear hP2 hD2 hS2; have hP := hPD.1; have hD := hPD.2; clear hPD
    refine W.widen (k := 0) (n := 0) (Nat.le_of_ble_eq_true rfl) (Nat.le_of_ble_eq_true rfl) ?_
    refine va_iast hx hb hK hP hD hS 0 0 rfl rfl (by unfold vp_in; decide) dX7_items_84 (fun H locs hP2 hD2 hS2 => ?_)
    clear hP hD hS
    have hPD : PD D A [(Mrr, .inl (g 0, 3, .inl (upd frrx_2 1 (nI nx_208)))), (Mm, .inr (7, [.int zth, .ref Mt, .int (nI tp), .int (nI max_206), .int zwrx_207, .ref Mrr, .ref Mrh, .ref Mrc, .int (nI rh), .int (nI rc), .ref Mn, .ref Mf, .ref Mr, .ref Mh, .int zhp, .int zcc, .ref Ma, .ref Mas, .ref Msn, .ref Mac, .ref Mat])), (Mt, .inl (g 0, 160, .inl fmt))] H := ⟨hP2, hD2⟩
    have hS := hS2; clear hP2 hD2 hS2; have hP := hPD.1; have hD := hPD.2; clear hPD
    by_cases cw_213 : zwrx_207 = -1
    · skip
      have hPq_214 := hP; have hDq_214 := hD; have hSq_214 := hS; have hlq_214 := hl; clear hP hD hS hl
      subst cw_213
      have hP := hPq_214; have hD := hDq_214; have hS := hSq_214; have hl := hlq_214; clear hPq_214 hDq_214 hSq_214 hlq_214
      have hne_216 := hf_209.2.2.2.2.1 rfl
      have hnv_217 := hf_209.2.2.2.2.2 rfl
      have hR_215 : itR fmt tp 0 4 0 ma = itR fmt tp 0 3 2 max_206 := (itR_go (f := 3) (m := 0) (q := 1) hf_9 hil_201.1 hil_201.2 (by decide) (by decide) hf_209.2.2.2.1.symm).trans (by rw [hne_216])
      have hW_218 : itW fmt tp 0 0 4 0 ma (us3 0 0 frr) = itW fmt tp 0 0 3 2 max_206 (upd frrx_2 1 (nI nx_208)) := hW_12.trans ((itW_go (f := 3) (m := 0) (q := 1) hf_9 hil_201.1 hil_201.2 (by decide) (by decide) hf_209.2.2.2.1.symm).trans (by rw [hne_216, hnv_217]))
      refine lv_iload_n hx hb dX7_items_85 rfl (lv_at hl 3 rfl) ?_
      refine lv_aload_n hx hb dX7_items_86 rfl (lv_at hl 2 rfl) ?_
      refine ky_Vi (As := []) (rest := [.int 0]) ⟨hx, hb, hml, hown, hts⟩ ⟨hK, hN⟩ hZ hP hD hS hA [1, 2] [0] (wc := [(Mm, .inr (7, [.int zth, .ref Mt, .int (nI tp), .int (nI max_206), .int (-1), .ref Mrr, .ref Mrh, .ref Mrc, .int (nI rh), .int (nI rc), .ref Mn, .ref Mf, .ref Mr, .ref Mh, .int zhp, .int zcc, .ref Ma, .ref Mas, .ref Msn, .ref Mac, .ref Mat])), (Mt, .inl (g 0, 160, .inl fmt))]) (wr := [(Mrr, .inl (g 0, 3, .inl (upd frrx_2 1 (nI nx_208))))]) rfl rfl rfl rfl (by decide) (r_X7_ahead l D g H.size Mm zth Mt tp max_206 (-1) Mrr Mrh Mrc rh rc Mn Mf Mr Mh zhp zcc Ma Mas Msn Mac Mat fmt (show tp ≤ 160 by omega) (show max_206 ≤ tp by omega)) (cwV 0 hts gX7_items_X7_ahead rfl rfl rfl (by decide +kernel) ⟨(Nat.le_of_ble_eq_true rfl), (Nat.le_of_ble_eq_true rfl)⟩) 1 7 rfl rfl rfl rfl hl.1 rfl (Nat.le_of_ble_eq_true rfl) dX7_items_87 ⟨(Nat.le_of_ble_eq_true rfl), (Nat.le_of_ble_eq_true rfl)⟩ (fun r_219 u H locs hw hP2 hD2 hS2 => ?_)
      clear hP hD hS
      obtain ⟨max_220, rfl, rfl, hf_221, hf_222, hf_223⟩ := hw
      have hPD : PD D A [(Mrr, .inl (g 0, 3, .inl (upd frrx_2 1 (nI nx_208)))), (Mm, .inr (7, [.int zth, .ref Mt, .int (nI tp), .int (nI max_220), .int (-1), .ref Mrr, .ref Mrh, .ref Mrc, .int (nI rh), .int (nI rc), .ref Mn, .ref Mf, .ref Mr, .ref Mh, .int zhp, .int zcc, .ref Ma, .ref Mas, .ref Msn, .ref Mac, .ref Mat])), (Mt, .inl (g 0, 160, .inl fmt))] H := ⟨hP2, hD2⟩
      have hS := hS2; clear hP2 hD2 hS2; have hP := hPD.1; have hD := hPD.2; clear hPD
      refine W.widen (k := 0) (n := 0) (Nat.le_of_ble_eq_true rfl) (Nat.le_of_ble_eq_true rfl) ?_
      refine lv_topi (fun y_224 hey_224 => ?_)
      refine ky_Si (As := [.int 0, .int y_224]) (rest := []) ⟨hx, hb, hml, hown, hts⟩ ⟨hK, hN⟩ hZ hP hD hS hA [] [0, 1, 2] (wc := []) (wr := [(Mrr, .inl (g 0, 3, .inl (upd frrx_2 1 (nI nx_208)))), (Mm, .inr (7, [.int zth, .ref Mt, .int (nI tp), .int (nI max_220), .int (-1), .ref Mrr, .ref Mrh, .ref Mrc, .int (nI rh), .int (nI rc), .ref Mn, .ref Mf, .ref Mr, .ref Mh, .int zhp, .int zcc, .ref Ma, .ref Mas, .ref Msn, .ref Mac, .ref Mat])), (Mt, .inl (g 0, 160, .inl fmt))]) rfl rfl rfl rfl (by decide) (r_X7_itemBy_0 l D g H.size y_224) (va_cwS 2 hts gX7_items_X7_itemBy rfl rfl rfl (by decide +kernel) ⟨(Nat.le_of_ble_eq_true rfl), (Nat.le_of_ble_eq_true rfl)⟩) rfl hl.1 rfl (Nat.le_of_ble_eq_true rfl) dX7_items_90 ⟨(Nat.le_of_ble_eq_true rfl), (Nat.le_of_ble_eq_true rfl)⟩ (fun r_225 u H locs hw hP2 hD2 hS2 => ?_)
      clear hP hD hS
      obtain ⟨rfl, rfl⟩ := hw
      have hPD : PD D A [(Mrr, .inl (g 0, 3, .inl (upd frrx_2 1 (nI nx_208)))), (Mm, .inr (7, [.int zth, .ref Mt, .int (nI tp), .int (nI max_220), .int (-1), .ref Mrr, .ref Mrh, .ref Mrc, .int (nI rh), .int (nI rc), .ref Mn, .ref Mf, .ref Mr, .ref Mh, .int zhp, .int zcc, .ref Ma, .ref Mas, .ref Msn, .ref Mac, .ref Mat])), (Mt, .inl (g 0, 160, .inl fmt))] H := ⟨hP2, hD2⟩
      have hS := hS2; clear hP2 hD2 hS2; have hP := hPD.1; have hD := hPD.2; clear hPD
      refine W.widen (k := 0) (n := 0) (Nat.le_of_ble_eq_true rfl) (Nat.le_of_ble_eq_true rfl) ?_
      rcases itK_c 0 y_224 with qi_226 | qi_226 | qi_226 | qi_226
      · skip
        refine lv_eqi (y := (-1)) (qi_226) ?_
        refine lv_istore (lv' := [(5, .int (-1)), (4, .int 2), (0, .ref Mm), (1, .int 0), (2, .ref Mrr), (3, .int 0)]) hx hb dX7_items_93 hl (by decide) rfl (fun ls hl => ?_)
        refine lv_goto (tgt := 20) hx hb dX7_items_95 (by decide) ?_
        refine lv_aload_n hx hb dX7_items_20 rfl (lv_at hl 2 rfl) ?_
        refine va_get (D := D) (ci := 7) (v := .int (-1)) (C := RX7) (T := TX7) (N := 21) hx hb hts iX7 hown hK hP 1 rfl rfl 4 (by decide) f71 (fun _ h9 => h9) rfl dX7_items_21 ?_
        refine lv_iconst (v := (-1)) hx hb dX7_items_24 (by decide) ?_
        refine lv_icmp_ne (tgt := 98) hx hb dX7_items_25 (by decide) (fun cb => absurd (by decide) cb) (fun _ => ?_)
        refine lv_iload hx hb dX7_items_28 (lv_at hl 0 rfl) ?_
        refine lv_iconst (v := (-1)) hx hb dX7_items_30 (by decide) ?_
        refine lv_icmp_eq (tgt := 98) hx hb dX7_items_31 (by decide) (fun _ => ?_) (fun cb => absurd (by decide) cb)
        have hPD9 : PD D A [(Mm, .inr (7, [.int zth, .ref Mt, .int (nI tp), .int (nI max_220), .int (-1), .ref Mrr, .ref Mrh, .ref Mrc, .int (nI rh), .int (nI rc), .ref Mn, .ref Mf, .ref Mr, .ref Mh, .int zhp, .int zcc, .ref Ma, .ref Mas, .ref Msn, .ref Mac, .ref Mat])), (Mt, .inl (g 0, 160, .inl fmt)), (Mrr, .inl (g 0, 3, .inl (upd frrx_2 1 (nI nx_208))))] H := ⟨hP.sub [1, 2, 0] rfl, hD.sub [1, 2, 0] (by decide) rfl⟩
        have hP9 := hPD9.1; have hD9 := hPD9.2
        subst hQ
        refine W.widen (k := 0) (n := 0) (Nat.le_of_ble_eq_true rfl) (Nat.le_of_ble_eq_true rfl) ?_
        exact W.vret hx hb hr (fun tS htS _ => ⟨⟨_, rfl, ⟨max_220, (-1), (upd frrx_2 1 (nI nx_208)), rfl, ⟨(n1_upd (hf_3) (n := nx_208) (show nx_208 ≤ 99 by omega)), (show max_220 ≤ tp by omega), (show ma ≤ max_220 by omega), (congrArg Prod.fst (hR_215.trans (iv_m (f := 2) (m := 2) hf_223 hey_224.symm qi_226))).symm, (fun _ => (congrArg Prod.snd (hR_215.trans (iv_m (f := 2) (m := 2) hf_223 hey_224.symm qi_226))).symm), (fun _ => (hW_218.trans (iw_m (f := 2) (m := 2) hf_223 hey_224.symm qi_226)).symm)⟩⟩, by rw [htS]; exact hP9, hD9⟩, hS.F htS⟩) hS.2.2 dX7_items_98
      · skip
        refine lv_eqi (y := 0) (qi_226) ?_
        have hil_227 := iv_lt (k := 0) (q := 0) hey_224.symm qi_226 (by decide); have hil_227a := hil_227.1
        refine lv_istore (lv' := [(5, .int 0), (4, .int 2), (0, .ref Mm), (1, .int 0), (2, .ref Mrr), (3, .int 0)]) hx hb dX7_items_93 hl (by decide) rfl (fun ls hl => ?_)
        refine lv_goto (tgt := 20) hx hb dX7_items_95 (by decide) ?_
        refine lv_aload_n hx hb dX7_items_20 rfl (lv_at hl 2 rfl) ?_
        refine va_get (D := D) (ci := 7) (v := .int (-1)) (C := RX7) (T := TX7) (N := 21) hx hb hts iX7 hown hK hP 1 rfl rfl 4 (by decide) f71 (fun _ h9 => h9) rfl dX7_items_21 ?_
        refine lv_iconst (v := (-1)) hx hb dX7_items_24 (by decide) ?_
        refine lv_icmp_ne (tgt := 98) hx hb dX7_items_25 (by decide) (fun cb => absurd (by decide) cb) (fun _ => ?_)
        refine lv_iload hx hb dX7_items_28 (lv_at hl 0 rfl) ?_
        refine lv_iconst (v := (-1)) hx hb dX7_items_30 (by decide) ?_
        refine lv_icmp_eq (tgt := 98) hx hb dX7_items_31 (by decide) (fun cb => absurd cb (by decide)) (fun _ => ?_)
        refine lv_iload hx hb dX7_items_34 (lv_at hl 1 rfl) ?_
        refine lv_iload hx hb dX7_items_36 (lv_at hl 0 rfl) ?_
        refine ky_Si (As := [.int 2, .int 0]) (rest := []) ⟨hx, hb, hml, hown, hts⟩ ⟨hK, hN⟩ hZ hP hD hS hA [] [0, 1, 2] (wc := []) (wr := [(Mrr, .inl (g 0, 3, .inl (upd frrx_2 1 (nI nx_208)))), (Mm, .inr (7, [.int zth, .ref Mt, .int (nI tp), .int (nI max_220), .int (-1), .ref Mrr, .ref Mrh, .ref Mrc, .int (nI rh), .int (nI rc), .ref Mn, .ref Mf, .ref Mr, .ref Mh, .int zhp, .int zcc, .ref Ma, .ref Mas, .ref Msn, .ref Mac, .ref Mat])), (Mt, .inl (g 0, 160, .inl fmt))]) rfl rfl rfl rfl (by decide) (r_X7_has_20 l D g H.size) (va_cwS 2 hts gX7_items_X7_has rfl rfl rfl (by decide +kernel) ⟨(Nat.le_of_ble_eq_true rfl), (Nat.le_of_ble_eq_true rfl)⟩) rfl hl.1 rfl (Nat.le_of_ble_eq_true rfl) dX7_items_38 ⟨(Nat.le_of_ble_eq_true rfl), (Nat.le_of_ble_eq_true rfl)⟩ (fun r_228 u H locs hw hP2 hD2 hS2 => ?_)
        clear hP hD hS
        obtain ⟨rfl, rfl⟩ := hw
        have hPD : PD D A [(Mrr, .inl (g 0, 3, .inl (upd frrx_2 1 (nI nx_208)))), (Mm, .inr (7, [.int zth, .ref Mt, .int (nI tp), .int (nI max_220), .int (-1), .ref Mrr, .ref Mrh, .ref Mrc, .int (nI rh), .int (nI rc), .ref Mn, .ref Mf, .ref Mr, .ref Mh, .int zhp, .int zcc, .ref Ma, .ref Mas, .ref Msn, .ref Mac, .ref Mat])), (Mt, .inl (g 0, 160, .inl fmt))] H := ⟨hP2, hD2⟩
        have hS := hS2; clear hP2 hD2 hS2; have hP := hPD.1; have hD := hPD.2; clear hPD
        refine W.widen (k := 0) (n := 0) (Nat.le_of_ble_eq_true rfl) (Nat.le_of_ble_eq_true rfl) ?_
        refine lv_if_ne (tgt := 98) hx hb dX7_items_41 (by decide) (fun cb => absurd (by decide) cb) (fun _ => ?_)
        refine lv_iload hx hb dX7_items_44 (lv_at hl 1 rfl) ?_
        refine lv_iconst (v := 1) hx hb dX7_items_46 (by decide) ?_
        refine lv_iload hx hb dX7_items_47 (lv_at hl 0 rfl) ?_
        refine lv_ishl hx hb dX7_items_49 ?_
        refine lv_eqi (y := 1) (by decide) ?_
        refine lv_ior hx hb dX7_items_50 ?_
        refine lv_eqi (y := 3) (by decide) ?_
        refine lv_istore (lv' := [(4, .int 3), (5, .int 0), (0, .ref Mm), (1, .int 0), (2, .ref Mrr), (3, .int 0)]) hx hb dX7_items_51 hl (by decide) rfl (fun ls hl => ?_)
        refine lv_aload_n hx hb dX7_items_53 rfl (lv_at hl 2 rfl) ?_
        refine lv_dup hx hb dX7_items_54 rfl ?_
        refine va_get (D := D) (ci := 7) (v := .int (nI max_220)) (C := RX7) (T := TX7) (N := 21) hx hb hts iX7 hown hK hP 1 rfl rfl 3 (by decide) f64 (fun _ h9 => h9) rfl dX7_items_55 ?_
        refine lv_iconst (v := 1) hx hb dX7_items_58 (by decide) ?_
        refine lv_iadd hx hb dX7_items_59 ?_
        refine lv_eqi (y := (nI (max_220 + 1))) (nI_add (max_220) (1)) ?_
        refine va_put (D := D) (ci := 7) (v := .int (nI (max_220 + 1))) (ty := .int) (C := RX7) (T := TX7) (N := 21) hx hb hts iX7 tyX7 tyX7_ok nmX7 hown hK hP hD hS 1 rfl rfl 3 (by decide) f64 (fun _ h9 => h9) rfl (by decide +kernel) (rfl) (rfl) (Nat.le_of_ble_eq_true rfl) dX7_items_60 (fun H locs hP2 hD2 hS2 => ?_)
        clear hP hD hS
        have hPD : PD D A [(Mrr, .inl (g 0, 3, .inl (upd frrx_2 1 (nI nx_208)))), (Mm, .inr (7, [.int zth, .ref Mt, .int (nI tp), .int (nI (max_220 + 1)), .int (-1), .ref Mrr, .ref Mrh, .ref Mrc, .int (nI rh), .int (nI rc), .ref Mn, .ref Mf, .ref Mr, .ref Mh, .int zhp, .int zcc, .ref Ma, .ref Mas, .ref Msn, .ref Mac, .ref Mat])), (Mt, .inl (g 0, 160, .inl fmt))] H := ⟨hP2, hD2⟩
        have hS := hS2; clear hP2 hD2 hS2; have hP := hPD.1; have hD := hPD.2; clear hPD
        refine lv_aload_n hx hb dX7_items_63 rfl (lv_at hl 4 rfl) ?_
        refine lv_iload_n hx hb dX7_items_64 rfl (lv_at hl 5 rfl) ?_
        refine lv_iload hx hb dX7_items_65 (lv_at hl 1 rfl) ?_
        refine lv_iadd hx hb dX7_items_67 ?_
        refine lv_eqi (y := 0) (by decide) ?_
        refine lv_aload_n hx hb dX7_items_68 rfl (lv_at hl 2 rfl) ?_
        refine lv_iload_n hx hb dX7_items_69 rfl (lv_at hl 3 rfl) ?_
        refine lv_iload hx hb dX7_items_70 (lv_at hl 1 rfl) ?_
        refine ky_Si (As := [.int 0, .int 0]) (rest := [.ref Mm, .int 0, .ref Mrr]) ⟨hx, hb, hml, hown, hts⟩ ⟨hK, hN⟩ hZ hP hD hS hA [] [0, 1, 2] (wc := []) (wr := [(Mrr, .inl (g 0, 3, .inl (upd frrx_2 1 (nI nx_208)))), (Mm, .inr (7, [.int zth, .ref Mt, .int (nI tp), .int (nI (max_220 + 1)), .int (-1), .ref Mrr, .ref Mrh, .ref Mrc, .int (nI rh), .int (nI rc), .ref Mn, .ref Mf, .ref Mr, .ref Mh, .int zhp, .int zcc, .ref Ma, .ref Mas, .ref Msn, .ref Mac, .ref Mat])), (Mt, .inl (g 0, 160, .inl fmt))]) rfl rfl rfl rfl (by decide) (r_X7_lowest_00 l D g H.size) (va_cwS 2 hts gX7_items_X7_lowest rfl rfl rfl (by decide +kernel) ⟨(Nat.le_of_ble_eq_true rfl), (Nat.le_of_ble_eq_true rfl)⟩) rfl hl.1 rfl (Nat.le_of_ble_eq_true rfl) dX7_items_72 ⟨(Nat.le_of_ble_eq_true rfl), (Nat.le_of_ble_eq_true rfl)⟩ (fun r_229 u H locs hw hP2 hD2 hS2 => ?_)
        clear hP hD hS
        obtain ⟨rfl, rfl⟩ := hw
        have hPD : PD D A [(Mrr, .inl (g 0, 3, .inl (upd frrx_2 1 (nI nx_208)))), (Mm, .inr (7, [.int zth, .ref Mt, .int (nI tp), .int (nI (max_220 + 1)), .int (-1), .ref Mrr, .ref Mrh, .ref Mrc, .int (nI rh), .int (nI rc), .ref Mn, .ref Mf, .ref Mr, .ref Mh, .int zhp, .int zcc, .ref Ma, .ref Mas, .ref Msn, .ref Mac, .ref Mat])), (Mt, .inl (g 0, 160, .inl fmt))] H := ⟨hP2, hD2⟩
        have hS := hS2; clear hP2 hD2 hS2; have hP := hPD.1; have hD := hPD.2; clear hPD
        refine W.widen (k := 0) (n := 0) (Nat.le_of_ble_eq_true rfl) (Nat.le_of_ble_eq_true rfl) ?_
        refine lv_iload_n hx hb dX7_items_75 rfl (lv_at hl 3 rfl) ?_
        refine lv_iload hx hb dX7_items_76 (lv_at hl 1 rfl) ?_
        refine ky_Si (As := [.int 0, .int 0]) (rest := [.int 1, .ref Mm, .int 0, .ref Mrr]) ⟨hx, hb, hml, hown, hts⟩ ⟨hK, hN⟩ hZ hP hD hS hA [] [0, 1, 2] (wc := []) (wr := [(Mrr, .inl (g 0, 3, .inl (upd frrx_2 1 (nI nx_208)))), (Mm, .inr (7, [.int zth, .ref Mt, .int (nI tp), .int (nI (max_220 + 1)), .int (-1), .ref Mrr, .ref Mrh, .ref Mrc, .int (nI rh), .int (nI rc), .ref Mn, .ref Mf, .ref Mr, .ref Mh, .int zhp, .int zcc, .ref Ma, .ref Mas, .ref Msn, .ref Mac, .ref Mat])), (Mt, .inl (g 0, 160, .inl fmt))]) rfl rfl rfl rfl (by decide) (r_X7_highest_00 l D g H.size) (va_cwS 2 hts gX7_items_X7_highest rfl rfl rfl (by decide +kernel) ⟨(Nat.le_of_ble_eq_true rfl), (Nat.le_of_ble_eq_true rfl)⟩) rfl hl.1 rfl (Nat.le_of_ble_eq_true rfl) dX7_items_78 ⟨(Nat.le_of_ble_eq_true rfl), (Nat.le_of_ble_eq_true rfl)⟩ (fun r_230 u H locs hw hP2 hD2 hS2 => ?_)
        clear hP hD hS
        obtain ⟨rfl, rfl⟩ := hw
        have hPD : PD D A [(Mrr, .inl (g 0, 3, .inl (upd frrx_2 1 (nI nx_208)))), (Mm, .inr (7, [.int zth, .ref Mt, .int (nI tp), .int (nI (max_220 + 1)), .int (-1), .ref Mrr, .ref Mrh, .ref Mrc, .int (nI rh), .int (nI rc), .ref Mn, .ref Mf, .ref Mr, .ref Mh, .int zhp, .int zcc, .ref Ma, .ref Mas, .ref Msn, .ref Mac, .ref Mat])), (Mt, .inl (g 0, 160, .inl fmt))] H := ⟨hP2, hD2⟩
        have hS := hS2; clear hP2 hD2 hS2; have hP := hPD.1; have hD := hPD.2; clear hPD
        refine W.widen (k := 0) (n := 0) (Nat.le_of_ble_eq_true rfl) (Nat.le_of_ble_eq_true rfl) ?_
        refine ky_Vi (As := [.int 1, .int 4]) (rest := [.int 0, .ref Mrr]) ⟨hx, hb, hml, hown, hts⟩ ⟨hK, hN⟩ hZ hP hD hS hA [1, 2] [0] (wc := [(Mm, .inr (7, [.int zth, .ref Mt, .int (nI tp), .int (nI (max_220 + 1)), .int (-1), .ref Mrr, .ref Mrh, .ref Mrc, .int (nI rh), .int (nI rc), .ref Mn, .ref Mf, .ref Mr, .ref Mh, .int zhp, .int zcc, .ref Ma, .ref Mas, .ref Msn, .ref Mac, .ref Mat])), (Mt, .inl (g 0, 160, .inl fmt))]) (wr := [(Mrr, .inl (g 0, 3, .inl (upd frrx_2 1 (nI nx_208))))]) rfl rfl rfl rfl (by decide) (w_X7_number l D g H.size Mm 1 4 zth Mt tp (max_220 + 1) Mrr Mrh Mrc rh rc Mn Mf Mr Mh zhp zcc Ma Mas Msn Mac Mat fmt (show tp ≤ 160 by omega) (show (max_220 + 1) ≤ tp by omega) (show 1 ≤ 1 by omega)) (cwV 2 hts gX7_items_X7_number rfl rfl rfl (by decide +kernel) ⟨(Nat.le_of_ble_eq_true rfl), (Nat.le_of_ble_eq_true rfl)⟩) 1 7 rfl rfl rfl rfl hl.1 rfl (Nat.le_of_ble_eq_true rfl) dX7_items_81 ⟨(Nat.le_of_ble_eq_true rfl), (Nat.le_of_ble_eq_true rfl)⟩ (fun r_231 u H locs hw hP2 hD2 hS2 => ?_)
        clear hP hD hS
        obtain ⟨max_232, zwrx_233, nx_234, rfl, rfl, hf_235⟩ := hw
        have hg_236 := hf_235.1
        have hg_237 := hf_235.2.1
        have hg_238 := hf_235.2.2.1
        have hPD : PD D A [(Mrr, .inl (g 0, 3, .inl (upd frrx_2 1 (nI nx_208)))), (Mm, .inr (7, [.int zth, .ref Mt, .int (nI tp), .int (nI max_232), .int zwrx_233, .ref Mrr, .ref Mrh, .ref Mrc, .int (nI rh), .int (nI rc), .ref Mn, .ref Mf, .ref Mr, .ref Mh, .int zhp, .int zcc, .ref Ma, .ref Mas, .ref Msn, .ref Mac, .ref Mat])), (Mt, .inl (g 0, 160, .inl fmt))] H := ⟨hP2, hD2⟩
        have hS := hS2; clear hP2 hD2 hS2; have hP := hPD.1; have hD := hPD.2; clear hPD
        refine W.widen (k := 0) (n := 0) (Nat.le_of_ble_eq_true rfl) (Nat.le_of_ble_eq_true rfl) ?_
        refine va_iast hx hb hK hP hD hS 0 0 rfl rfl (by unfold vp_in; decide) dX7_items_84 (fun H locs hP2 hD2 hS2 => ?_)
        clear hP hD hS
        have hPD : PD D A [(Mrr, .inl (g 0, 3, .inl (upd (upd frrx_2 1 (nI nx_208)) 0 (nI nx_234)))), (Mm, .inr (7, [.int zth, .ref Mt, .int (nI tp), .int (nI max_232), .int zwrx_233, .ref Mrr, .ref Mrh, .ref Mrc, .int (nI rh), .int (nI rc), .ref Mn, .ref Mf, .ref Mr, .ref Mh, .int zhp, .int zcc, .ref Ma, .ref Mas, .ref Msn, .ref Mac, .ref Mat])), (Mt, .inl (g 0, 160, .inl fmt))] H := ⟨hP2, hD2⟩
        have hS := hS2; clear hP2 hD2 hS2; have hP := hPD.1; have hD := hPD.2; clear hPD
        by_cases cw_239 : zwrx_233 = -1
        · skip
          have hPq_240 := hP; have hDq_240 := hD; have hSq_240 := hS; have hlq_240 := hl; clear hP hD hS hl
          subst cw_239
          have hP := hPq_240; have hD := hDq_240; have hS := hSq_240; have hl := hlq_240; clear hPq_240 hDq_240 hSq_240 hlq_240
          have hne_242 := hf_235.2.2.2.2.1 rfl
          have hnv_243 := hf_235.2.2.2.2.2 rfl
          have hR_241 : itR fmt tp 0 4 0 ma = itR fmt tp 0 2 3 max_232 := hR_215.trans ((itR_go (f := 2) (m := 2) (q := 0) hf_223 hil_227.1 hil_227.2 (by decide) (by decide) hf_235.2.2.2.1.symm).trans (by rw [hne_242]))
          have hW_244 : itW fmt tp 0 0 4 0 ma (us3 0 0 frr) = itW fmt tp 0 0 2 3 max_232 (upd (upd frrx_2 1 (nI nx_208)) 0 (nI nx_234)) := hW_218.trans ((itW_go (f := 2) (m := 2) (q := 0) hf_223 hil_227.1 hil_227.2 (by decide) (by decide) hf_235.2.2.2.1.symm).trans (by rw [hne_242, hnv_243]))
          refine lv_iload_n hx hb dX7_items_85 rfl (lv_at hl 3 rfl) ?_
          refine lv_aload_n hx hb dX7_items_86 rfl (lv_at hl 2 rfl) ?_
          refine ky_Vi (As := []) (rest := [.int 0]) ⟨hx, hb, hml, hown, hts⟩ ⟨hK, hN⟩ hZ hP hD hS hA [1, 2] [0] (wc := [(Mm, .inr (7, [.int zth, .ref Mt, .int (nI tp), .int (nI max_232), .int (-1), .ref Mrr, .ref Mrh, .ref Mrc, .int (nI rh), .int (nI rc), .ref Mn, .ref Mf, .ref Mr, .ref Mh, .int zhp, .int zcc, .ref Ma, .ref Mas, .ref Msn, .ref Mac, .ref Mat])), (Mt, .inl (g 0, 160, .inl fmt))]) (wr := [(Mrr, .inl (g 0, 3, .inl (upd (upd frrx_2 1 (nI nx_208)) 0 (nI nx_234))))]) rfl rfl rfl rfl (by decide) (r_X7_ahead l D g H.size Mm zth Mt tp max_232 (-1) Mrr Mrh Mrc rh rc Mn Mf Mr Mh zhp zcc Ma Mas Msn Mac Mat fmt (show tp ≤ 160 by omega) (show max_232 ≤ tp by omega)) (cwV 0 hts gX7_items_X7_ahead rfl rfl rfl (by decide +kernel) ⟨(Nat.le_of_ble_eq_true rfl), (Nat.le_of_ble_eq_true rfl)⟩) 1 7 rfl rfl rfl rfl hl.1 rfl (Nat.le_of_ble_eq_true rfl) dX7_items_87 ⟨(Nat.le_of_ble_eq_true rfl), (Nat.le_of_ble_eq_true rfl)⟩ (fun r_245 u H locs hw hP2 hD2 hS2 => ?_)
          clear hP hD hS
          obtain ⟨max_246, rfl, rfl, hf_247, hf_248, hf_249⟩ := hw
          have hPD : PD D A [(Mrr, .inl (g 0, 3, .inl (upd (upd frrx_2 1 (nI nx_208)) 0 (nI nx_234)))), (Mm, .inr (7, [.int zth, .ref Mt, .int (nI tp), .int (nI max_246), .int (-1), .ref Mrr, .ref Mrh, .ref Mrc, .int (nI rh), .int (nI rc), .ref Mn, .ref Mf, .ref Mr, .ref Mh, .int zhp, .int zcc, .ref Ma, .ref Mas, .ref Msn, .ref Mac, .ref Mat])), (Mt, .inl (g 0, 160, .inl fmt))] H := ⟨hP2, hD2⟩
          have hS := hS2; clear hP2 hD2 hS2; have hP := hPD.1; have hD := hPD.2; clear hPD
          refine W.widen (k := 0) (n := 0) (Nat.le_of_ble_eq_true rfl) (Nat.le_of_ble_eq_true rfl) ?_
          refine lv_topi (fun y_250 hey_250 => ?_)
          refine ky_Si (As := [.int 0, .int y_250]) (rest := []) ⟨hx, hb, hml, hown, hts⟩ ⟨hK, hN⟩ hZ hP hD hS hA [] [0, 1, 2] (wc := []) (wr := [(Mrr, .inl (g 0, 3, .inl (upd (upd frrx_2 1 (nI nx_208)) 0 (nI nx_234)))), (Mm, .inr (7, [.int zth, .ref Mt, .int (nI tp), .int (nI max_246), .int (-1), .ref Mrr, .ref Mrh, .ref Mrc, .int (nI rh), .int (nI rc), .ref Mn, .ref Mf, .ref Mr, .ref Mh, .int zhp, .int zcc, .ref Ma, .ref Mas, .ref Msn, .ref Mac, .ref Mat])), (Mt, .inl (g 0, 160, .inl fmt))]) rfl rfl rfl rfl (by decide) (r_X7_itemBy_0 l D g H.size y_250) (va_cwS 2 hts gX7_items_X7_itemBy rfl rfl rfl (by decide +kernel) ⟨(Nat.le_of_ble_eq_true rfl), (Nat.le_of_ble_eq_true rfl)⟩) rfl hl.1 rfl (Nat.le_of_ble_eq_true rfl) dX7_items_90 ⟨(Nat.le_of_ble_eq_true rfl), (Nat.le_of_ble_eq_true rfl)⟩ (fun r_251 u H locs hw hP2 hD2 hS2 => ?_)
          clear hP hD hS
          obtain ⟨rfl, rfl⟩ := hw
          have hPD : PD D A [(Mrr, .inl (g 0, 3, .inl (upd (upd frrx_2 1 (nI nx_208)) 0 (nI nx_234)))), (Mm, .inr (7, [.int zth, .ref Mt, .int (nI tp), .int (nI max_246), .int (-1), .ref Mrr, .ref Mrh, .ref Mrc, .int (nI rh), .int (nI rc), .ref Mn, .ref Mf, .ref Mr, .ref Mh, .int zhp, .int zcc, .ref Ma, .ref Mas, .ref Msn, .ref Mac, .ref Mat])), (Mt, .inl (g 0, 160, .inl fmt))] H := ⟨hP2, hD2⟩
          have hS := hS2; clear hP2 hD2 hS2; have hP := hPD.1; have hD := hPD.2; clear hPD
          refine W.widen (k := 0) (n := 0) (Nat.le_of_ble_eq_true rfl) (Nat.le_of_ble_eq_true rfl) ?_
          rcases itK_c 0 y_250 with qi_252 | qi_252 | qi_252 | qi_252
          · skip
            refine lv_eqi (y := (-1)) (qi_252) ?_
            refine lv_istore (lv' := [(5, .int (-1)), (4, .int 3), (0, .ref Mm), (1, .int 0), (2, .ref Mrr), (3, .int 0)]) hx hb dX7_items_93 hl (by decide) rfl (fun ls hl => ?_)
            refine lv_goto (tgt := 20) hx hb dX7_items_95 (by decide) ?_
            refine lv_aload_n hx hb dX7_items_20 rfl (lv_at hl 2 rfl) ?_
            refine va_get (D := D) (ci := 7) (v := .int (-1)) (C := RX7) (T := TX7) (N := 21) hx hb hts iX7 hown hK hP 1 rfl rfl 4 (by decide) f71 (fun _ h9 => h9) rfl dX7_items_21 ?_
            refine lv_iconst (v := (-1)) hx hb dX7_items_24 (by decide) ?_
            refine lv_icmp_ne (tgt := 98) hx hb dX7_items_25 (by decide) (fun cb => absurd (by decide) cb) (fun _ => ?_)
            refine lv_iload hx hb dX7_items_28 (lv_at hl 0 rfl) ?_
            refine lv_iconst (v := (-1)) hx hb dX7_items_30 (by decide) ?_
            refine lv_icmp_eq (tgt := 98) hx hb dX7_items_31 (by decide) (fun _ => ?_) (fun cb => absurd (by decide) cb)
            have hPD9 : PD D A [(Mm, .inr (7, [.int zth, .ref Mt, .int (nI tp), .int (nI max_246), .int (-1), .ref Mrr, .ref Mrh, .ref Mrc, .int (nI rh), .int (nI rc), .ref Mn, .ref Mf, .ref Mr, .ref Mh, .int zhp, .int zcc, .ref Ma, .ref Mas, .ref Msn, .ref Mac, .ref Mat])), (Mt, .inl (g 0, 160, .inl fmt)), (Mrr, .inl (g 0, 3, .inl (upd (upd frrx_2 1 (nI nx_208)) 0 (nI nx_234))))] H := ⟨hP.sub [1, 2, 0] rfl, hD.sub [1, 2, 0] (by decide) rfl⟩
            have hP9 := hPD9.1; have hD9 := hPD9.2
            subst hQ
            refine W.widen (k := 0) (n := 0) (Nat.le_of_ble_eq_true rfl) (Nat.le_of_ble_eq_true rfl) ?_
            exact W.vret hx hb hr (fun tS htS _ => ⟨⟨_, rfl, ⟨max_246, (-1), (upd (upd frrx_2 1 (nI nx_208)) 0 (nI nx_234)), rfl, ⟨(n1_upd (n1_upd (hf_3) (n := nx_208) (show nx_208 ≤ 99 by omega)) (n := nx_234) (show nx_234 ≤ 99 by omega)), (show max_246 ≤ tp by omega), (show ma ≤ max_246 by omega), (congrArg Prod.fst (hR_241.trans (iv_m (f := 1) (m := 3) hf_249 hey_250.symm qi_252))).symm, (fun _ => (congrArg Prod.snd (hR_241.trans (iv_m (f := 1) (m := 3) hf_249 hey_250.symm qi_252))).symm), (fun _ => (hW_244.trans (iw_m (f := 1) (m := 3) hf_249 hey_250.symm qi_252)).symm)⟩⟩, by rw [htS]; exact hP9, hD9⟩, hS.F htS⟩) hS.2.2 dX7_items_98
          · skip
            refine lv_eqi (y := 0) (qi_252) ?_
            have hil_253 := iv_lt (k := 0) (q := 0) hey_250.symm qi_252 (by decide); have hil_253a := hil_253.1
            refine lv_istore (lv' := [(5, .int 0), (4, .int 3), (0, .ref Mm), (1, .int 0), (2, .ref Mrr), (3, .int 0)]) hx hb dX7_items_93 hl (by decide) rfl (fun ls hl => ?_)
            refine lv_goto (tgt := 20) hx hb dX7_items_95 (by decide) ?_
            refine lv_aload_n hx hb dX7_items_20 rfl (lv_at hl 2 rfl) ?_
            refine va_get (D := D) (ci := 7) (v := .int (-1)) (C := RX7) (T := TX7) (N := 21) hx hb hts iX7 hown hK hP 1 rfl rfl 4 (by decide) f71 (fun _ h9 => h9) rfl dX7_items_21 ?_
            refine lv_iconst (v := (-1)) hx hb dX7_items_24 (by decide) ?_
            refine lv_icmp_ne (tgt := 98) hx hb dX7_items_25 (by decide) (fun cb => absurd (by decide) cb) (fun _ => ?_)
            refine lv_iload hx hb dX7_items_28 (lv_at hl 0 rfl) ?_
            refine lv_iconst (v := (-1)) hx hb dX7_items_30 (by decide) ?_
            refine lv_icmp_eq (tgt := 98) hx hb dX7_items_31 (by decide) (fun cb => absurd cb (by decide)) (fun _ => ?_)
            refine lv_iload hx hb dX7_items_34 (lv_at hl 1 rfl) ?_
            refine lv_iload hx hb dX7_items_36 (lv_at hl 0 rfl) ?_
            refine ky_Si (As := [.int 3, .int 0]) (rest := []) ⟨hx, hb, hml, hown, hts⟩ ⟨hK, hN⟩ hZ hP hD hS hA [] [0, 1, 2] (wc := []) (wr := [(Mrr, .inl (g 0, 3, .inl (upd (upd frrx_2 1 (nI nx_208)) 0 (nI nx_234)))), (Mm, .inr (7, [.int zth, .ref Mt, .int (nI tp), .int (nI max_246), .int (-1), .ref Mrr, .ref Mrh, .ref Mrc, .int (nI rh), .int (nI rc), .ref Mn, .ref Mf, .ref Mr, .ref Mh, .int zhp, .int zcc, .ref Ma, .ref Mas, .ref Msn, .ref Mac, .ref Mat])), (Mt, .inl (g 0, 160, .inl fmt))]) rfl rfl rfl rfl (by decide) (r_X7_has_30 l D g H.size) (va_cwS 2 hts gX7_items_X7_has rfl rfl rfl (by decide +kernel) ⟨(Nat.le_of_ble_eq_true rfl), (Nat.le_of_ble_eq_true rfl)⟩) rfl hl.1 rfl (Nat.le_of_ble_eq_true rfl) dX7_items_38 ⟨(Nat.le_of_ble_eq_true rfl), (Nat.le_of_ble_eq_true rfl)⟩ (fun r_254 u H locs hw hP2 hD2 hS2 => ?_)
            clear hP hD hS
            obtain ⟨rfl, rfl⟩ := hw
            have hPD : PD D A [(Mrr, .inl (g 0, 3, .inl (upd (upd frrx_2 1 (nI nx_208)) 0 (nI nx_234)))), (Mm, .inr (7, [.int zth, .ref Mt, .int (nI tp), .int (nI max_246), .int (-1), .ref Mrr, .ref Mrh, .ref Mrc, .int (nI rh), .int (nI rc), .ref Mn, .ref Mf, .ref Mr, .ref Mh, .int zhp, .int zcc, .ref Ma, .ref Mas, .ref Msn, .ref Mac, .ref Mat])), (Mt, .inl (g 0, 160, .inl fmt))] H := ⟨hP2, hD2⟩
            have hS := hS2; clear hP2 hD2 hS2; have hP := hPD.1; have hD := hPD.2; clear hPD
            refine W.widen (k := 0) (n := 0) (Nat.le_of_ble_eq_true rfl) (Nat.le_of_ble_eq_true rfl) ?_
            refine lv_if_ne (tgt := 98) hx hb dX7_items_41 (by decide) (fun _ => ?_) (fun cb => absurd cb (by decide))
            have hPD9 : PD D A [(Mm, .inr (7, [.int zth, .ref Mt, .int (nI tp), .int (nI max_246), .int (-1), .ref Mrr, .ref Mrh, .ref Mrc, .int (nI rh), .int (nI rc), .ref Mn, .ref Mf, .ref Mr, .ref Mh, .int zhp, .int zcc, .ref Ma, .ref Mas, .ref Msn, .ref Mac, .ref Mat])), (Mt, .inl (g 0, 160, .inl fmt)), (Mrr, .inl (g 0, 3, .inl (upd (upd frrx_2 1 (nI nx_208)) 0 (nI nx_234))))] H := ⟨hP.sub [1, 2, 0] rfl, hD.sub [1, 2, 0] (by decide) rfl⟩
            have hP9 := hPD9.1; have hD9 := hPD9.2
            subst hQ
            refine W.widen (k := 0) (n := 0) (Nat.le_of_ble_eq_true rfl) (Nat.le_of_ble_eq_true rfl) ?_
            exact W.vret hx hb hr (fun tS htS _ => ⟨⟨_, rfl, ⟨max_246, (-1), (upd (upd frrx_2 1 (nI nx_208)) 0 (nI nx_234)), rfl, ⟨(n1_upd (n1_upd (hf_3) (n := nx_208) (show nx_208 ≤ 99 by omega)) (n := nx_234) (show nx_234 ≤ 99 by omega)), (show max_246 ≤ tp by omega), (show ma ≤ max_246 by omega), (congrArg Prod.fst (hR_241.trans (itR_again (f := 1) (m := 3) (q := 0) hf_249 hil_253.2 (by decide) (by decide)))).symm, (fun _ => (congrArg Prod.snd (hR_241.trans (itR_again (f := 1) (m := 3) (q := 0) hf_249 hil_253.2 (by decide) (by decide)))).symm), (fun _ => (hW_244.trans (itW_again (f := 1) (m := 3) (q := 0) hf_249 hil_253.2 (by decide) (by decide))).symm)⟩⟩, by rw [htS]; exact hP9, hD9⟩, hS.F htS⟩) hS.2.2 dX7_items_98
          · skip
            refine lv_eqi (y := 1) (qi_252) ?_
            have hil_255 := iv_lt (k := 0) (q := 1) hey_250.symm qi_252 (by decide); have hil_255a := hil_255.1
            refine lv_istore (lv' := [(5, .int 1), (4, .int 3), (0, .ref Mm), (1, .int 0), (2, .ref Mrr), (3, .int 0)]) hx hb dX7_items_93 hl (by decide) rfl (fun ls hl => ?_)
            refine lv_goto (tgt := 20) hx hb dX7_items_95 (by decide) ?_
            refine lv_aload_n hx hb dX7_items_20 rfl (lv_at hl 2 rfl) ?_
            refine va_get (D := D) (ci := 7) (v := .int (-1)) (C := RX7) (T := TX7) (N := 21) hx hb hts iX7 hown hK hP 1 rfl rfl 4 (by decide) f71 (fun _ h9 => h9) rfl dX7_items_21 ?_
            refine lv_iconst (v := (-1)) hx hb dX7_items_24 (by decide) ?_
            refine lv_icmp_ne (tgt := 98) hx hb dX7_items_25 (by decide) (fun cb => absurd (by decide) cb) (fun _ => ?_)
            refine lv_iload hx hb dX7_items_28 (lv_at hl 0 rfl) ?_
            refine lv_iconst (v := (-1)) hx hb dX7_items_30 (by decide) ?_
            refine lv_icmp_eq (tgt := 98) hx hb dX7_items_31 (by decide) (fun cb => absurd cb (by decide)) (fun _ => ?_)
            refine lv_iload hx hb dX7_items_34 (lv_at hl 1 rfl) ?_
            refine lv_iload hx hb dX7_items_36 (lv_at hl 0 rfl) ?_
            refine ky_Si (As := [.int 3, .int 1]) (rest := []) ⟨hx, hb, hml, hown, hts⟩ ⟨hK, hN⟩ hZ hP hD hS hA [] [0, 1, 2] (wc := []) (wr := [(Mrr, .inl (g 0, 3, .inl (upd (upd frrx_2 1 (nI nx_208)) 0 (nI nx_234)))), (Mm, .inr (7, [.int zth, .ref Mt, .int (nI tp), .int (nI max_246), .int (-1), .ref Mrr, .ref Mrh, .ref Mrc, .int (nI rh), .int (nI rc), .ref Mn, .ref Mf, .ref Mr, .ref Mh, .int zhp, .int zcc, .ref Ma, .ref Mas, .ref Msn, .ref Mac, .ref Mat])), (Mt, .inl (g 0, 160, .inl fmt))]) rfl rfl rfl rfl (by decide) (r_X7_has_31 l D g H.size) (va_cwS 2 hts gX7_items_X7_has rfl rfl rfl (by decide +kernel) ⟨(Nat.le_of_ble_eq_true rfl), (Nat.le_of_ble_eq_true rfl)⟩) rfl hl.1 rfl (Nat.le_of_ble_eq_true rfl) dX7_items_38 ⟨(Nat.le_of_ble_eq_true rfl), (Nat.le_of_ble_eq_true rfl)⟩ (fun r_256 u H locs hw hP2 hD2 hS2 => ?_)
            clear hP hD hS
            obtain ⟨rfl, rfl⟩ := hw
            have hPD : PD D A [(Mrr, .inl (g 0, 3, .inl (upd (upd frrx_2 1 (nI nx_208)) 0 (nI nx_234)))), (Mm, .inr (7, [.int zth, .ref Mt, .int (nI tp), .int (nI max_246), .int (-1), .ref Mrr, .ref Mrh, .ref Mrc, .int (nI rh), .int (nI rc), .ref Mn, .ref Mf, .ref Mr, .ref Mh, .int zhp, .int zcc, .ref Ma, .ref Mas, .ref Msn, .ref Mac, .ref Mat])), (Mt, .inl (g 0, 160, .inl fmt))] H := ⟨hP2, hD2⟩
            have hS := hS2; clear hP2 hD2 hS2; have hP := hPD.1; have hD := hPD.2; clear hPD
            refine W.widen (k := 0) (n := 0) (Nat.le_of_ble_eq_true rfl) (Nat.le_of_ble_eq_true rfl) ?_
            refine lv_if_ne (tgt := 98) hx hb dX7_items_41 (by decide) (fun _ => ?_) (fun cb => absurd cb (by decide))
            have hPD9 : PD D A [(Mm, .inr (7, [.int zth, .ref Mt, .int (nI tp), .int (nI max_246), .int (-1), .ref Mrr, .ref Mrh, .ref Mrc, .int (nI rh), .int (nI rc), .ref Mn, .ref Mf, .ref Mr, .ref Mh, .int zhp, .int zcc, .ref Ma, .ref Mas, .ref Msn, .ref Mac, .ref Mat])), (Mt, .inl (g 0, 160, .inl fmt)), (Mrr, .inl (g 0, 3, .inl (upd (upd frrx_2 1 (nI nx_208)) 0 (nI nx_234))))] H := ⟨hP.sub [1, 2, 0] rfl, hD.sub [1, 2, 0] (by decide) rfl⟩
            have hP9 := hPD9.1; have hD9 := hPD9.2
            subst hQ
            refine W.widen (k := 0) (n := 0) (Nat.le_of_ble_eq_true rfl) (Nat.le_of_ble_eq_true rfl) ?_
            exact W.vret hx hb hr (fun tS htS _ => ⟨⟨_, rfl, ⟨max_246, (-1), (upd (upd frrx_2 1 (nI nx_208)) 0 (nI nx_234)), rfl, ⟨(n1_upd (n1_upd (hf_3) (n := nx_208) (show nx_208 ≤ 99 by omega)) (n := nx_234) (show nx_234 ≤ 99 by omega)), (show max_246 ≤ tp by omega), (show ma ≤ max_246 by omega), (congrArg Prod.fst (hR_241.trans (itR_again (f := 1) (m := 3) (q := 1) hf_249 hil_255.2 (by decide) (by decide)))).symm, (fun _ => (congrArg Prod.snd (hR_241.trans (itR_again (f := 1) (m := 3) (q := 1) hf_249 hil_255.2 (by decide) (by decide)))).symm), (fun _ => (hW_244.trans (itW_again (f := 1) (m := 3) (q := 1) hf_249 hil_255.2 (by decide) (by decide))).symm)⟩⟩, by rw [htS]; exact hP9, hD9⟩, hS.F htS⟩) hS.2.2 dX7_items_98
          · skip
            refine lv_eqi (y := 2) (qi_252) ?_
            have hil_257 := iv_lt (k := 0) (q := 2) hey_250.symm qi_252 (by decide); have hil_257a := hil_257.1
            refine lv_istore (lv' := [(5, .int 2), (4, .int 3), (0, .ref Mm), (1, .int 0), (2, .ref Mrr), (3, .int 0)]) hx hb dX7_items_93 hl (by decide) rfl (fun ls hl => ?_)
            refine lv_goto (tgt := 20) hx hb dX7_items_95 (by decide) ?_
            refine lv_aload_n hx hb dX7_items_20 rfl (lv_at hl 2 rfl) ?_
            refine va_get (D := D) (ci := 7) (v := .int (-1)) (C := RX7) (T := TX7) (N := 21) hx hb hts iX7 hown hK hP 1 rfl rfl 4 (by decide) f71 (fun _ h9 => h9) rfl dX7_items_21 ?_
            refine lv_iconst (v := (-1)) hx hb dX7_items_24 (by decide) ?_
            refine lv_icmp_ne (tgt := 98) hx hb dX7_items_25 (by decide) (fun cb => absurd (by decide) cb) (fun _ => ?_)
            refine lv_iload hx hb dX7_items_28 (lv_at hl 0 rfl) ?_
            refine lv_iconst (v := (-1)) hx hb dX7_items_30 (by decide) ?_
            refine lv_icmp_eq (tgt := 98) hx hb dX7_items_31 (by decide) (fun cb => absurd cb (by decide)) (fun _ => ?_)
            refine lv_iload hx hb dX7_items_34 (lv_at hl 1 rfl) ?_
            refine lv_iload hx hb dX7_items_36 (lv_at hl 0 rfl) ?_
            refine ky_Si (As := [.int 3, .int 2]) (rest := []) ⟨hx, hb, hml, hown, hts⟩ ⟨hK, hN⟩ hZ hP hD hS hA [] [0, 1, 2] (wc := []) (wr := [(Mrr, .inl (g 0, 3, .inl (upd (upd frrx_2 1 (nI nx_208)) 0 (nI nx_234)))), (Mm, .inr (7, [.int zth, .ref Mt, .int (nI tp), .int (nI max_246), .int (-1), .ref Mrr, .ref Mrh, .ref Mrc, .int (nI rh), .int (nI rc), .ref Mn, .ref Mf, .ref Mr, .ref Mh, .int zhp, .int zcc, .ref Ma, .ref Mas, .ref Msn, .ref Mac, .ref Mat])), (Mt, .inl (g 0, 160, .inl fmt))]) rfl rfl rfl rfl (by decide) (r_X7_has_32 l D g H.size) (va_cwS 2 hts gX7_items_X7_has rfl rfl rfl (by decide +kernel) ⟨(Nat.le_of_ble_eq_true rfl), (Nat.le_of_ble_eq_true rfl)⟩) rfl hl.1 rfl (Nat.le_of_ble_eq_true rfl) dX7_items_38 ⟨(Nat.le_of_ble_eq_true rfl), (Nat.le_of_ble_eq_true rfl)⟩ (fun r_258 u H locs hw hP2 hD2 hS2 => ?_)
            clear hP hD hS
            obtain ⟨rfl, rfl⟩ := hw
            have hPD : PD D A [(Mrr, .inl (g 0, 3, .inl (upd (upd frrx_2 1 (nI nx_208)) 0 (nI nx_234)))), (Mm, .inr (7, [.int zth, .ref Mt, .int (nI tp), .int (nI max_246), .int (-1), .ref Mrr, .ref Mrh, .ref Mrc, .int (nI rh), .int (nI rc), .ref Mn, .ref Mf, .ref Mr, .ref Mh, .int zhp, .int zcc, .ref Ma, .ref Mas, .ref Msn, .ref Mac, .ref Mat])), (Mt, .inl (g 0, 160, .inl fmt))] H := ⟨hP2, hD2⟩
            have hS := hS2; clear hP2 hD2 hS2; have hP := hPD.1; have hD := hPD.2; clear hPD
            refine W.widen (k := 0) (n := 0) (Nat.le_of_ble_eq_true rfl) (Nat.le_of_ble_eq_true rfl) ?_
            refine lv_if_ne (tgt := 98) hx hb dX7_items_41 (by decide) (fun cb => absurd (by decide) cb) (fun _ => ?_)
            refine lv_iload hx hb dX7_items_44 (lv_at hl 1 rfl) ?_
            refine lv_iconst (v := 1) hx hb dX7_items_46 (by decide) ?_
            refine lv_iload hx hb dX7_items_47 (lv_at hl 0 rfl) ?_
            refine lv_ishl hx hb dX7_items_49 ?_
            refine lv_eqi (y := 4) (by decide) ?_
            refine lv_ior hx hb dX7_items_50 ?_
            refine lv_eqi (y := 7) (by decide) ?_
            refine lv_istore (lv' := [(4, .int 7), (5, .int 2), (0, .ref Mm), (1, .int 0), (2, .ref Mrr), (3, .int 0)]) hx hb dX7_items_51 hl (by decide) rfl (fun ls hl => ?_)
            refine lv_aload_n hx hb dX7_items_53 rfl (lv_at hl 2 rfl) ?_
            refine lv_dup hx hb dX7_items_54 rfl ?_
            refine va_get (D := D) (ci := 7) (v := .int (nI max_246)) (C := RX7) (T := TX7) (N := 21) hx hb hts iX7 hown hK hP 1 rfl rfl 3 (by decide) f64 (fun _ h9 => h9) rfl dX7_items_55 ?_
            refine lv_iconst (v := 1) hx hb dX7_items_58 (by decide) ?_
            refine lv_iadd hx hb dX7_items_59 ?_
            refine lv_eqi (y := (nI (max_246 + 1))) (nI_add (max_246) (1)) ?_
            refine va_put (D := D) (ci := 7) (v := .int (nI (max_246 + 1))) (ty := .int) (C := RX7) (T := TX7) (N := 21) hx hb hts iX7 tyX7 tyX7_ok nmX7 hown hK hP hD hS 1 rfl rfl 3 (by decide) f64 (fun _ h9 => h9) rfl (by decide +kernel) (rfl) (rfl) (Nat.le_of_ble_eq_true rfl) dX7_items_60 (fun H locs hP2 hD2 hS2 => ?_)
            clear hP hD hS
            have hPD : PD D A [(Mrr, .inl (g 0, 3, .inl (upd (upd frrx_2 1 (nI nx_208)) 0 (nI nx_234)))), (Mm, .inr (7, [.int zth, .ref Mt, .int (nI tp), .int (nI (max_246 + 1)), .int (-1), .ref Mrr, .ref Mrh, .ref Mrc, .int (nI rh), .int (nI rc), .ref Mn, .ref Mf, .ref Mr, .ref Mh, .int zhp, .int zcc, .ref Ma, .ref Mas, .ref Msn, .ref Mac, .ref Mat])), (Mt, .inl (g 0, 160, .inl fmt))] H := ⟨hP2, hD2⟩
            have hS := hS2; clear hP2 hD2 hS2; have hP := hPD.1; have hD := hPD.2; clear hPD
            refine lv_aload_n hx hb dX7_items_63 rfl (lv_at hl 4 rfl) ?_
            refine lv_iload_n hx hb dX7_items_64 rfl (lv_at hl 5 rfl) ?_
            refine lv_iload hx hb dX7_items_65 (lv_at hl 1 rfl) ?_
            refine lv_iadd hx hb dX7_items_67 ?_
            refine lv_eqi (y := 2) (by decide) ?_
            refine lv_aload_n hx hb dX7_items_68 rfl (lv_at hl 2 rfl) ?_
            refine lv_iload_n hx hb dX7_items_69 rfl (lv_at hl 3 rfl) ?_
            refine lv_iload hx hb dX7_items_70 (lv_at hl 1 rfl) ?_
            refine ky_Si (As := [.int 0, .int 2]) (rest := [.ref Mm, .int 2, .ref Mrr]) ⟨hx, hb, hml, hown, hts⟩ ⟨hK, hN⟩ hZ hP hD hS hA [] [0, 1, 2] (wc := []) (wr := [(Mrr, .inl (g 0, 3, .inl (upd (upd frrx_2 1 (nI nx_208)) 0 (nI nx_234)))), (Mm, .inr (7, [.int zth, .ref Mt, .int (nI tp), .int (nI (max_246 + 1)), .int (-1), .ref Mrr, .ref Mrh, .ref Mrc, .int (nI rh), .int (nI rc), .ref Mn, .ref Mf, .ref Mr, .ref Mh, .int zhp, .int zcc, .ref Ma, .ref Mas, .ref Msn, .ref Mac, .ref Mat])), (Mt, .inl (g 0, 160, .inl fmt))]) rfl rfl rfl rfl (by decide) (r_X7_lowest_02 l D g H.size) (va_cwS 2 hts gX7_items_X7_lowest rfl rfl rfl (by decide +kernel) ⟨(Nat.le_of_ble_eq_true rfl), (Nat.le_of_ble_eq_true rfl)⟩) rfl hl.1 rfl (Nat.le_of_ble_eq_true rfl) dX7_items_72 ⟨(Nat.le_of_ble_eq_true rfl), (Nat.le_of_ble_eq_true rfl)⟩ (fun r_259 u H locs hw hP2 hD2 hS2 => ?_)
            clear hP hD hS
            obtain ⟨rfl, rfl⟩ := hw
            have hPD : PD D A [(Mrr, .inl (g 0, 3, .inl (upd (upd frrx_2 1 (nI nx_208)) 0 (nI nx_234)))), (Mm, .inr (7, [.int zth, .ref Mt, .int (nI tp), .int (nI (max_246 + 1)), .int (-1), .ref Mrr, .ref Mrh, .ref Mrc, .int (nI rh), .int (nI rc), .ref Mn, .ref Mf, .ref Mr, .ref Mh, .int zhp, .int zcc, .ref Ma, .ref Mas, .ref Msn, .ref Mac, .ref Mat])), (Mt, .inl (g 0, 160, .inl fmt))] H := ⟨hP2, hD2⟩
            have hS := hS2; clear hP2 hD2 hS2; have hP := hPD.1; have hD := hPD.2; clear hPD
            refine W.widen (k := 0) (n := 0) (Nat.le_of_ble_eq_true rfl) (Nat.le_of_ble_eq_true rfl) ?_
            refine lv_iload_n hx hb dX7_items_75 rfl (lv_at hl 3 rfl) ?_
            refine lv_iload hx hb dX7_items_76 (lv_at hl 1 rfl) ?_
            refine ky_Si (As := [.int 0, .int 2]) (rest := [.int 0, .ref Mm, .int 2, .ref Mrr]) ⟨hx, hb, hml, hown, hts⟩ ⟨hK, hN⟩ hZ hP hD hS hA [] [0, 1, 2] (wc := []) (wr := [(Mrr, .inl (g 0, 3, .inl (upd (upd frrx_2 1 (nI nx_208)) 0 (nI nx_234)))), (Mm, .inr (7, [.int zth, .ref Mt, .int (nI tp), .int (nI (max_246 + 1)), .int (-1), .ref Mrr, .ref Mrh, .ref Mrc, .int (nI rh), .int (nI rc), .ref Mn, .ref Mf, .ref Mr, .ref Mh, .int zhp, .int zcc, .ref Ma, .ref Mas, .ref Msn, .ref Mac, .ref Mat])), (Mt, .inl (g 0, 160, .inl fmt))]) rfl rfl rfl rfl (by decide) (r_X7_highest_02 l D g H.size) (va_cwS 2 hts gX7_items_X7_highest rfl rfl rfl (by decide +kernel) ⟨(Nat.le_of_ble_eq_true rfl), (Nat.le_of_ble_eq_true rfl)⟩) rfl hl.1 rfl (Nat.le_of_ble_eq_true rfl) dX7_items_78 ⟨(Nat.le_of_ble_eq_true rfl), (Nat.le_of_ble_eq_true rfl)⟩ (fun r_260 u H locs hw hP2 hD2 hS2 => ?_)
            clear hP hD hS
            obtain ⟨rfl, rfl⟩ := hw
            have hPD : PD D A [(Mrr, .inl (g 0, 3, .inl (upd (upd frrx_2 1 (nI nx_208)) 0 (nI nx_234)))), (Mm, .inr (7, [.int zth, .ref Mt, .int (nI tp), .int (nI (max_246 + 1)), .int (-1), .ref Mrr, .ref Mrh, .ref Mrc, .int (nI rh), .int (nI rc), .ref Mn, .ref Mf, .ref Mr, .ref Mh, .int zhp, .int zcc, .ref Ma, .ref Mas, .ref Msn, .ref Mac, .ref Mat])), (Mt, .inl (g 0, 160, .inl fmt))] H := ⟨hP2, hD2⟩
            have hS := hS2; clear hP2 hD2 hS2; have hP := hPD.1; have hD := hPD.2; clear hPD
            refine W.widen (k := 0) (n := 0) (Nat.le_of_ble_eq_true rfl) (Nat.le_of_ble_eq_true rfl) ?_
            refine ky_Vi (As := [.int 0, .int 9]) (rest := [.int 2, .ref Mrr]) ⟨hx, hb, hml, hown, hts⟩ ⟨hK, hN⟩ hZ hP hD hS hA [1, 2] [0] (wc := [(Mm, .inr (7, [.int zth, .ref Mt, .int (nI tp), .int (nI (max_246 + 1)), .int (-1), .ref Mrr, .ref Mrh, .ref Mrc, .int (nI rh), .int (nI rc), .ref Mn, .ref Mf, .ref Mr, .ref Mh, .int zhp, .int zcc, .ref Ma, .ref Mas, .ref Msn, .ref Mac, .ref Mat])), (Mt, .inl (g 0, 160, .inl fmt))]) (wr := [(Mrr, .inl (g 0, 3, .inl (upd (upd frrx_2 1 (nI nx_208)) 0 (nI nx_234))))]) rfl rfl rfl rfl (by decide) (w_X7_number l D g H.size Mm 0 9 zth Mt tp (max_246 + 1) Mrr Mrh Mrc rh rc Mn Mf Mr Mh zhp zcc Ma Mas Msn Mac Mat fmt (show tp ≤ 160 by omega) (show (max_246 + 1) ≤ tp by omega) (show 0 ≤ 1 by omega)) (cwV 2 hts gX7_items_X7_number rfl rfl rfl (by decide +kernel) ⟨(Nat.le_of_ble_eq_true rfl), (Nat.le_of_ble_eq_true rfl)⟩) 1 7 rfl rfl rfl rfl hl.1 rfl (Nat.le_of_ble_eq_true rfl) dX7_items_81 ⟨(Nat.le_of_ble_eq_true rfl), (Nat.le_of_ble_eq_true rfl)⟩ (fun r_261 u H locs hw hP2 hD2 hS2 => ?_)
            clear hP hD hS
            obtain ⟨max_262, zwrx_263, nx_264, rfl, rfl, hf_265⟩ := hw
            have hg_266 := hf_265.1
            have hg_267 := hf_265.2.1
            have hg_268 := hf_265.2.2.1
            have hPD : PD D A [(Mrr, .inl (g 0, 3, .inl (upd (upd frrx_2 1 (nI nx_208)) 0 (nI nx_234)))), (Mm, .inr (7, [.int zth, .ref Mt, .int (nI tp), .int (nI max_262), .int zwrx_263, .ref Mrr, .ref Mrh, .ref Mrc, .int (nI rh), .int (nI rc), .ref Mn, .ref Mf, .ref Mr, .ref Mh, .int zhp, .int zcc, .ref Ma, .ref Mas, .ref Msn, .ref Mac, .ref Mat])), (Mt, .inl (g 0, 160, .inl fmt))] H := ⟨hP2, hD2⟩
            have hS := hS2; clear hP2 hD2 hS2; have hP := hPD.1; have hD := hPD.2; clear hPD
            refine W.widen (k := 0) (n := 0) (Nat.le_of_ble_eq_true rfl) (Nat.le_of_ble_eq_true rfl) ?_
            refine va_iast hx hb hK hP hD hS 0 0 rfl rfl (by unfold vp_in; decide) dX7_items_84 (fun H locs hP2 hD2 hS2 => ?_)
            clear hP hD hS
            have hPD : PD D A [(Mrr, .inl (g 0, 3, .inl (upd (upd (upd frrx_2 1 (nI nx_208)) 0 (nI nx_234)) 2 (nI nx_264)))), (Mm, .inr (7, [.int zth, .ref Mt, .int (nI tp), .int (nI max_262), .int zwrx_263, .ref Mrr, .ref Mrh, .ref Mrc, .int (nI rh), .int (nI rc), .ref Mn, .ref Mf, .ref Mr, .ref Mh, .int zhp, .int zcc, .ref Ma, .ref Mas, .ref Msn, .ref Mac, .ref Mat])), (Mt, .inl (g 0, 160, .inl fmt))] H := ⟨hP2, hD2⟩
            have hS := hS2; clear hP2 hD2 hS2; have hP := hPD.1; have hD := hPD.2; clear hPD
            by_cases cw_269 : zwrx_263 = -1
            · skip
              have hPq_270 := hP; have hDq_270 := hD; have hSq_270 := hS; have hlq_270 := hl; clear hP hD hS hl
              subst cw_269
              have hP := hPq_270; have hD := hDq_270; have hS := hSq_270; have hl := hlq_270; clear hPq_270 hDq_270 hSq_270 hlq_270
              have hne_272 := hf_265.2.2.2.2.1 rfl
              have hnv_273 := hf_265.2.2.2.2.2 rfl
              have hR_271 : itR fmt tp 0 4 0 ma = itR fmt tp 0 1 7 max_262 := hR_241.trans ((itR_go (f := 1) (m := 3) (q := 2) hf_249 hil_257.1 hil_257.2 (by decide) (by decide) hf_265.2.2.2.1.symm).trans (by rw [hne_272]))
              have hW_274 : itW fmt tp 0 0 4 0 ma (us3 0 0 frr) = itW fmt tp 0 0 1 7 max_262 (upd (upd (upd frrx_2 1 (nI nx_208)) 0 (nI nx_234)) 2 (nI nx_264)) := hW_244.trans ((itW_go (f := 1) (m := 3) (q := 2) hf_249 hil_257.1 hil_257.2 (by decide) (by decide) hf_265.2.2.2.1.symm).trans (by rw [hne_272, hnv_273]))
              refine lv_iload_n hx hb dX7_items_85 rfl (lv_at hl 3 rfl) ?_
              refine lv_aload_n hx hb dX7_items_86 rfl (lv_at hl 2 rfl) ?_
              refine ky_Vi (As := []) (rest := [.int 0]) ⟨hx, hb, hml, hown, hts⟩ ⟨hK, hN⟩ hZ hP hD hS hA [1, 2] [0] (wc := [(Mm, .inr (7, [.int zth, .ref Mt, .int (nI tp), .int (nI max_262), .int (-1), .ref Mrr, .ref Mrh, .ref Mrc, .int (nI rh), .int (nI rc), .ref Mn, .ref Mf, .ref Mr, .ref Mh, .int zhp, .int zcc, .ref Ma, .ref Mas, .ref Msn, .ref Mac, .ref Mat])), (Mt, .inl (g 0, 160, .inl fmt))]) (wr := [(Mrr, .inl (g 0, 3, .inl (upd (upd (upd frrx_2 1 (nI nx_208)) 0 (nI nx_234)) 2 (nI nx_264))))]) rfl rfl rfl rfl (by decide) (r_X7_ahead l D g H.size Mm zth Mt tp max_262 (-1) Mrr Mrh Mrc rh rc Mn Mf Mr Mh zhp zcc Ma Mas Msn Mac Mat fmt (show tp ≤ 160 by omega) (show max_262 ≤ tp by omega)) (cwV 0 hts gX7_items_X7_ahead rfl rfl rfl (by decide +kernel) ⟨(Nat.le_of_ble_eq_true rfl), (Nat.le_of_ble_eq_true rfl)⟩) 1 7 rfl rfl rfl rfl hl.1 rfl (Nat.le_of_ble_eq_true rfl) dX7_items_87 ⟨(Nat.le_of_ble_eq_true rfl), (Nat.le_of_ble_eq_true rfl)⟩ (fun r_275 u H locs hw hP2 hD2 hS2 => ?_)
              clear hP hD hS
              obtain ⟨max_276, rfl, rfl, hf_277, hf_278, hf_279⟩ := hw
              have hPD : PD D A [(Mrr, .inl (g 0, 3, .inl (upd (upd (upd frrx_2 1 (nI nx_208)) 0 (nI nx_234)) 2 (nI nx_264)))), (Mm, .inr (7, [.int zth, .ref Mt, .int (nI tp), .int (nI max_276), .int (-1), .ref Mrr, .ref Mrh, .ref Mrc, .int (nI rh), .int (nI rc), .ref Mn, .ref Mf, .ref Mr, .ref Mh, .int zhp, .int zcc, .ref Ma, .ref Mas, .ref Msn, .ref Mac, .ref Mat])), (Mt, .inl (g 0, 160, .inl fmt))] H := ⟨hP2, hD2⟩
              have hS := hS2; clear hP2 hD2 hS2; have hP := hPD.1; have hD := hPD.2; clear hPD
              refine W.widen (k := 0) (n := 0) (Nat.le_of_ble_eq_true rfl) (Nat.le_of_ble_eq_true rfl) ?_
              refine lv_topi (fun y_280 hey_280 => ?_)
              refine ky_Si (As := [.int 0, .int y_280]) (rest := []) ⟨hx, hb, hml, hown, hts⟩ ⟨hK, hN⟩ hZ hP hD hS hA [] [0, 1, 2] (wc := []) (wr := [(Mrr, .inl (g 0, 3, .inl (upd (upd (upd frrx_2 1 (nI nx_208)) 0 (nI nx_234)) 2 (nI nx_264)))), (Mm, .inr (7, [.int zth, .ref Mt, .int (nI tp), .int (nI max_276), .int (-1), .ref Mrr, .ref Mrh, .ref Mrc, .int (nI rh), .int (nI rc), .ref Mn, .ref Mf, .ref Mr, .ref Mh, .int zhp, .int zcc, .ref Ma, .ref Mas, .ref Msn, .ref Mac, .ref Mat])), (Mt, .inl (g 0, 160, .inl fmt))]) rfl rfl rfl rfl (by decide) (r_X7_itemBy_0 l D g H.size y_280) (va_cwS 2 hts gX7_items_X7_itemBy rfl rfl rfl (by decide +kernel) ⟨(Nat.le_of_ble_eq_true rfl), (Nat.le_of_ble_eq_true rfl)⟩) rfl hl.1 rfl (Nat.le_of_ble_eq_true rfl) dX7_items_90 ⟨(Nat.le_of_ble_eq_true rfl), (Nat.le_of_ble_eq_true rfl)⟩ (fun r_281 u H locs hw hP2 hD2 hS2 => ?_)
              clear hP hD hS
              obtain ⟨rfl, rfl⟩ := hw
              have hPD : PD D A [(Mrr, .inl (g 0, 3, .inl (upd (upd (upd frrx_2 1 (nI nx_208)) 0 (nI nx_234)) 2 (nI nx_264)))), (Mm, .inr (7, [.int zth, .ref Mt, .int (nI tp), .int (nI max_276), .int (-1), .ref Mrr, .ref Mrh, .ref Mrc, .int (nI rh), .int (nI rc), .ref Mn, .ref Mf, .ref Mr, .ref Mh, .int zhp, .int zcc, .ref Ma, .ref Mas, .ref Msn, .ref Mac, .ref Mat])), (Mt, .inl (g 0, 160, .inl fmt))] H := ⟨hP2, hD2⟩
              have hS := hS2; clear hP2 hD2 hS2; have hP := hPD.1; have hD := hPD.2; clear hPD
              refine W.widen (k := 0) (n := 0) (Nat.le_of_ble_eq_true rfl) (Nat.le_of_ble_eq_true rfl) ?_
              rcases itK_c 0 y_280 with qi_282 | qi_282 | qi_282 | qi_282
              · skip
                refine lv_eqi (y := (-1)) (qi_282) ?_
                refine lv_istore (lv' := [(5, .int (-1)), (4, .int 7), (0, .ref Mm), (1, .int 0), (2, .ref Mrr), (3, .int 0)]) hx hb dX7_items_93 hl (by decide) rfl (fun ls hl => ?_)
                refine lv_goto (tgt := 20) hx hb dX7_items_95 (by decide) ?_
                refine lv_aload_n hx hb dX7_items_20 rfl (lv_at hl 2 rfl) ?_
                refine va_get (D := D) (ci := 7) (v := .int (-1)) (C := RX7) (T := TX7) (N := 21) hx hb hts iX7 hown hK hP 1 rfl rfl 4 (by decide) f71 (fun _ h9 => h9) rfl dX7_items_21 ?_
                refine lv_iconst (v := (-1)) hx hb dX7_items_24 (by decide) ?_
                refine lv_icmp_ne (tgt := 98) hx hb dX7_items_25 (by decide) (fun cb => absurd (by decide) cb) (fun _ => ?_)
                refine lv_iload hx hb dX7_items_28 (lv_at hl 0 rfl) ?_
                refine lv_iconst (v := (-1)) hx hb dX7_items_30 (by decide) ?_
                refine lv_icmp_eq (tgt := 98) hx hb dX7_items_31 (by decide) (fun _ => ?_) (fun cb => absurd (by decide) cb)
                have hPD9 : PD D A [(Mm, .inr (7, [.int zth, .ref Mt, .int (nI tp), .int (nI max_276), .int (-1), .ref Mrr, .ref Mrh, .ref Mrc, .int (nI rh), .int (nI rc), .ref Mn, .ref Mf, .ref Mr, .ref Mh, .int zhp, .int zcc, .ref Ma, .ref Mas, .ref Msn, .ref Mac, .ref Mat])), (Mt, .inl (g 0, 160, .inl fmt)), (Mrr, .inl (g 0, 3, .inl (upd (upd (upd frrx_2 1 (nI nx_208)) 0 (nI nx_234)) 2 (nI nx_264))))] H := ⟨hP.sub [1, 2, 0] rfl, hD.sub [1, 2, 0] (by decide) rfl⟩
                have hP9 := hPD9.1; have hD9 := hPD9.2
                subst hQ
                refine W.widen (k := 0) (n := 0) (Nat.le_of_ble_eq_true rfl) (Nat.le_of_ble_eq_true rfl) ?_
                exact W.vret hx hb hr (fun tS htS _ => ⟨⟨_, rfl, ⟨max_276, (-1), (upd (upd (upd frrx_2 1 (nI nx_208)) 0 (nI nx_234)) 2 (nI nx_264)), rfl, ⟨(n1_upd (n1_upd (n1_upd (hf_3) (n := nx_208) (show nx_208 ≤ 99 by omega)) (n := nx_234) (show nx_234 ≤ 99 by omega)) (n := nx_264) (show nx_264 ≤ 99 by omega)), (show max_276 ≤ tp by omega), (show ma ≤ max_276 by omega), (congrArg Prod.fst (hR_271.trans (iv_m (f := 0) (m := 7) hf_279 hey_280.symm qi_282))).symm, (fun _ => (congrArg Prod.snd (hR_271.trans (iv_m (f := 0) (m := 7) hf_279 hey_280.symm qi_282))).symm), (fun _ => (hW_274.trans (iw_m (f := 0) (m := 7) hf_279 hey_280.symm qi_282)).symm)⟩⟩, by rw [htS]; exact hP9, hD9⟩, hS.F htS⟩) hS.2.2 dX7_items_98
              · skip
                refine lv_eqi (y := 0) (qi_282) ?_
                have hil_283 := iv_lt (k := 0) (q := 0) hey_280.symm qi_282 (by decide); have hil_283a := hil_283.1
                refine lv_istore (lv' := [(5, .int 0), (4, .int 7), (0, .ref Mm), (1, .int 0), (2, .ref Mrr), (3, .int 0)]) hx hb dX7_items_93 hl (by decide) rfl (fun ls hl => ?_)
                refine lv_goto (tgt := 20) hx hb dX7_items_95 (by decide) ?_
                refine lv_aload_n hx hb dX7_items_20 rfl (lv_at hl 2 rfl) ?_
                refine va_get (D := D) (ci := 7) (v := .int (-1)) (C := RX7) (T := TX7) (N := 21) hx hb hts iX7 hown hK hP 1 rfl rfl 4 (by decide) f71 (fun _ h9 => h9) rfl dX7_items_21 ?_
                refine lv_iconst (v := (-1)) hx hb dX7_items_24 (by decide) ?_
                refine lv_icmp_ne (tgt := 98) hx hb dX7_items_25 (by decide) (fun cb => absurd (by decide) cb) (fun _ => ?_)
                refine lv_iload hx hb dX7_items_28 (lv_at hl 0 rfl) ?_
                refine lv_iconst (v := (-1)) hx hb dX7_items_30 (by decide) ?_
                refine lv_icmp_eq (tgt := 98) hx hb dX7_items_31 (by decide) (fun cb => absurd cb (by decide)) (fun _ => ?_)
                refine lv_iload hx hb dX7_items_34 (lv_at hl 1 rfl) ?_
                refine lv_iload hx hb dX7_items_36 (lv_at hl 0 rfl) ?_
                refine ky_Si (As := [.int 7, .int 0]) (rest := []) ⟨hx, hb, hml, hown, hts⟩ ⟨hK, hN⟩ hZ hP hD hS hA [] [0, 1, 2] (wc := []) (wr := [(Mrr, .inl (g 0, 3, .inl (upd (upd (upd frrx_2 1 (nI nx_208)) 0 (nI nx_234)) 2 (nI nx_264)))), (Mm, .inr (7, [.int zth, .ref Mt, .int (nI tp), .int (nI max_276), .int (-1), .ref Mrr, .ref Mrh, .ref Mrc, .int (nI rh), .int (nI rc), .ref Mn, .ref Mf, .ref Mr, .ref Mh, .int zhp, .int zcc, .ref Ma, .ref Mas, .ref Msn, .ref Mac, .ref Mat])), (Mt, .inl (g 0, 160, .inl fmt))]) rfl rfl rfl rfl (by decide) (r_X7_has_70 l D g H.size) (va_cwS 2 hts gX7_items_X7_has rfl rfl rfl (by decide +kernel) ⟨(Nat.le_of_ble_eq_true rfl), (Nat.le_of_ble_eq_true rfl)⟩) rfl hl.1 rfl (Nat.le_of_ble_eq_true rfl) dX7_items_38 ⟨(Nat.le_of_ble_eq_true rfl), (Nat.le_of_ble_eq_true rfl)⟩ (fun r_284 u H locs hw hP2 hD2 hS2 => ?_)
                clear hP hD hS
                obtain ⟨rfl, rfl⟩ := hw
                have hPD : PD D A [(Mrr, .inl (g 0, 3, .inl (upd (upd (upd frrx_2 1 (nI nx_208)) 0 (nI nx_234)) 2 (nI nx_264)))), (Mm, .inr (7, [.int zth, .ref Mt, .int (nI tp), .int (nI max_276), .int (-1), .ref Mrr, .ref Mrh, .ref Mrc, .int (nI rh), .int (nI rc), .ref Mn, .ref Mf, .ref Mr, .ref Mh, .int zhp, .int zcc, .ref Ma, .ref Mas, .ref Msn, .ref Mac, .ref Mat])), (Mt, .inl (g 0, 160, .inl fmt))] H := ⟨hP2, hD2⟩
                have hS := hS2; clear hP2 hD2 hS2; have hP := hPD.1; have hD := hPD.2; clear hPD
                refine W.widen (k := 0) (n := 0) (Nat.le_of_ble_eq_true rfl) (Nat.le_of_ble_eq_true rfl) ?_
                refine lv_if_ne (tgt := 98) hx hb dX7_items_41 (by decide) (fun _ => ?_) (fun cb => absurd cb (by decide))
                have hPD9 : PD D A [(Mm, .inr (7, [.int zth, .ref Mt, .int (nI tp), .int (nI max_276), .int (-1), .ref Mrr, .ref Mrh, .ref Mrc, .int (nI rh), .int (nI rc), .ref Mn, .ref Mf, .ref Mr, .ref Mh, .int zhp, .int zcc, .ref Ma, .ref Mas, .ref Msn, .ref Mac, .ref Mat])), (Mt, .inl (g 0, 160, .inl fmt)), (Mrr, .inl (g 0, 3, .inl (upd (upd (upd frrx_2 1 (nI nx_208)) 0 (nI nx_234)) 2 (nI nx_264))))] H := ⟨hP.sub [1, 2, 0] rfl, hD.sub [1, 2, 0] (by decide) rfl⟩
                have hP9 := hPD9.1; have hD9 := hPD9.2
                subst hQ
                refine W.widen (k := 0) (n := 0) (Nat.le_of_ble_eq_true rfl) (Nat.le_of_ble_eq_true rfl) ?_
                exact W.vret hx hb hr (fun tS htS _ => ⟨⟨_, rfl, ⟨max_276, (-1), (upd (upd (upd frrx_2 1 (nI nx_208)) 0 (nI nx_234)) 2 (nI nx_264)), rfl, ⟨(n1_upd (n1_upd (n1_upd (hf_3) (n := nx_208) (show nx_208 ≤ 99 by omega)) (n := nx_234) (show nx_234 ≤ 99 by omega)) (n := nx_264) (show nx_264 ≤ 99 by omega)), (show max_276 ≤ tp by omega), (show ma ≤ max_276 by omega), (congrArg Prod.fst (hR_271.trans (itR_again (f := 0) (m := 7) (q := 0) hf_279 hil_283.2 (by decide) (by decide)))).symm, (fun _ => (congrArg Prod.snd (hR_271.trans (itR_again (f := 0) (m := 7) (q := 0) hf_279 hil_283.2 (by decide) (by decide)))).symm), (fun _ => (hW_274.trans (itW_again (f := 0) (m := 7) (q := 0) hf_279 hil_283.2 (by decide) (by decide))).symm)⟩⟩, by rw [htS]; exact hP9, hD9⟩, hS.F htS⟩) hS.2.2 dX7_items_98
              · skip
                refine lv_eqi (y := 1) (qi_282) ?_
                have hil_285 := iv_lt (k := 0) (q := 1) hey_280.symm qi_282 (by decide); have hil_285a := hil_285.1
                refine lv_istore (lv' := [(5, .int 1), (4, .int 7), (0, .ref Mm), (1, .int 0), (2, .ref Mrr), (3, .int 0)]) hx hb dX7_items_93 hl (by decide) rfl (fun ls hl => ?_)
                refine lv_goto (tgt := 20) hx hb dX7_items_95 (by decide) ?_
                refine lv_aload_n hx hb dX7_items_20 rfl (lv_at hl 2 rfl) ?_
                refine va_get (D := D) (ci := 7) (v := .int (-1)) (C := RX7) (T := TX7) (N := 21) hx hb hts iX7 hown hK hP 1 rfl rfl 4 (by decide) f71 (fun _ h9 => h9) rfl dX7_items_21 ?_
                refine lv_iconst (v := (-1)) hx hb dX7_items_24 (by decide) ?_
                refine lv_icmp_ne (tgt := 98) hx hb dX7_items_25 (by decide) (fun cb => absurd (by decide) cb) (fun _ => ?_)
                refine lv_iload hx hb dX7_items_28 (lv_at hl 0 rfl) ?_
                refine lv_iconst (v := (-1)) hx hb dX7_items_30 (by decide) ?_
                refine lv_icmp_eq (tgt := 98) hx hb dX7_items_31 (by decide) (fun cb => absurd cb (by decide)) (fun _ => ?_)
                refine lv_iload hx hb dX7_items_34 (lv_at hl 1 rfl) ?_
                refine lv_iload hx hb dX7_items_36 (lv_at hl 0 rfl) ?_
                refine ky_Si (As := [.int 7, .int 1]) (rest := []) ⟨hx, hb, hml, hown, hts⟩ ⟨hK, hN⟩ hZ hP hD hS hA [] [0, 1, 2] (wc := []) (wr := [(Mrr, .inl (g 0, 3, .inl (upd (upd (upd frrx_2 1 (nI nx_208)) 0 (nI nx_234)) 2 (nI nx_264)))), (Mm, .inr (7, [.int zth, .ref Mt, .int (nI tp), .int (nI max_276), .int (-1), .ref Mrr, .ref Mrh, .ref Mrc, .int (nI rh), .int (nI rc), .ref Mn, .ref Mf, .ref Mr, .ref Mh, .int zhp, .int zcc, .ref Ma, .ref Mas, .ref Msn, .ref Mac, .ref Mat])), (Mt, .inl (g 0, 160, .inl fmt))]) rfl rfl rfl rfl (by decide) (r_X7_has_71 l D g H.size) (va_cwS 2 hts gX7_items_X7_has rfl rfl rfl (by decide +kernel) ⟨(Nat.le_of_ble_eq_true rfl), (Nat.le_of_ble_eq_true rfl)⟩) rfl hl.1 rfl (Nat.le_of_ble_eq_true rfl) dX7_items_38 ⟨(Nat.le_of_ble_eq_true rfl), (Nat.le_of_ble_eq_true rfl)⟩ (fun r_286 u H locs hw hP2 hD2 hS2 => ?_)
                clear hP hD hS
                obtain ⟨rfl, rfl⟩ := hw
                have hPD : PD D A [(Mrr, .inl (g 0, 3, .inl (upd (upd (upd frrx_2 1 (nI nx_208)) 0 (nI nx_234)) 2 (nI nx_264)))), (Mm, .inr (7, [.int zth, .ref Mt, .int (nI tp), .int (nI max_276), .int (-1), .ref Mrr, .ref Mrh, .ref Mrc, .int (nI rh), .int (nI rc), .ref Mn, .ref Mf, .ref Mr, .ref Mh, .int zhp, .int zcc, .ref Ma, .ref Mas, .ref Msn, .ref Mac, .ref Mat])), (Mt, .inl (g 0, 160, .inl fmt))] H := ⟨hP2, hD2⟩
                have hS := hS2; clear hP2 hD2 hS2; have hP := hPD.1; have hD := hPD.2; clear hPD
                refine W.widen (k := 0) (n := 0) (Nat.le_of_ble_eq_true rfl) (Nat.le_of_ble_eq_true rfl) ?_
                refine lv_if_ne (tgt := 98) hx hb dX7_items_41 (by decide) (fun _ => ?_) (fun cb => absurd cb (by decide))
                have hPD9 : PD D A [(Mm, .inr (7, [.int zth, .ref Mt, .int (nI tp), .int (nI max_276), .int (-1), .ref Mrr, .ref Mrh, .ref Mrc, .int (nI rh), .int (nI rc), .ref Mn, .ref Mf, .ref Mr, .ref Mh, .int zhp, .int zcc, .ref Ma, .ref Mas, .ref Msn, .ref Mac, .ref Mat])), (Mt, .inl (g 0, 160, .inl fmt)), (Mrr, .inl (g 0, 3, .inl (upd (upd (upd frrx_2 1 (nI nx_208)) 0 (nI nx_234)) 2 (nI nx_264))))] H := ⟨hP.sub [1, 2, 0] rfl, hD.sub [1, 2, 0] (by decide) rfl⟩
                have hP9 := hPD9.1; have hD9 := hPD9.2
                subst hQ
                refine W.widen (k := 0) (n := 0) (Nat.le_of_ble_eq_true rfl) (Nat.le_of_ble_eq_true rfl) ?_
                exact W.vret hx hb hr (fun tS htS _ => ⟨⟨_, rfl, ⟨max_276, (-1), (upd (upd (upd frrx_2 1 (nI nx_208)) 0 (nI nx_234)) 2 (nI nx_264)), rfl, ⟨(n1_upd (n1_upd (n1_upd (hf_3) (n := nx_208) (show nx_208 ≤ 99 by omega)) (n := nx_234) (show nx_234 ≤ 99 by omega)) (n := nx_264) (show nx_264 ≤ 99 by omega)), (show max_276 ≤ tp by omega), (show ma ≤ max_276 by omega), (congrArg Prod.fst (hR_271.trans (itR_again (f := 0) (m := 7) (q := 1) hf_279 hil_285.2 (by decide) (by decide)))).symm, (fun _ => (congrArg Prod.snd (hR_271.trans (itR_again (f := 0) (m := 7) (q := 1) hf_279 hil_285.2 (by decide) (by decide)))).symm), (fun _ => (hW_274.trans (itW_again (f := 0) (m := 7) (q := 1) hf_279 hil_285.2 (by decide) (by decide))).symm)⟩⟩, by rw [htS]; exact hP9, hD9⟩, hS.F htS⟩) hS.2.2 dX7_items_98
              · skip
                refine lv_eqi (y := 2) (qi_282) ?_
                have hil_287 := iv_lt (k := 0) (q := 2) hey_280.symm qi_282 (by decide); have hil_287a := hil_287.1
                refine lv_istore (lv' := [(5, .int 2), (4, .int 7), (0, .ref Mm), (1, .int 0), (2, .ref Mrr), (3, .int 0)]) hx hb dX7_items_93 hl (by decide) rfl (fun ls hl => ?_)
                refine lv_goto (tgt := 20) hx hb dX7_items_95 (by decide) ?_
                refine lv_aload_n hx hb dX7_items_20 rfl (lv_at hl 2 rfl) ?_
                refine va_get (D := D) (ci := 7) (v := .int (-1)) (C := RX7) (T := TX7) (N := 21) hx hb hts iX7 hown hK hP 1 rfl rfl 4 (by decide) f71 (fun _ h9 => h9) rfl dX7_items_21 ?_
                refine lv_iconst (v := (-1)) hx hb dX7_items_24 (by decide) ?_
                refine lv_icmp_ne (tgt := 98) hx hb dX7_items_25 (by decide) (fun cb => absurd (by decide) cb) (fun _ => ?_)
                refine lv_iload hx hb dX7_items_28 (lv_at hl 0 rfl) ?_
                refine lv_iconst (v := (-1)) hx hb dX7_items_30 (by decide) ?_
                refine lv_icmp_eq (tgt := 98) hx hb dX7_items_31 (by decide) (fun cb => absurd cb (by decide)) (fun _ => ?_)
                refine lv_iload hx hb dX7_items_34 (lv_at hl 1 rfl) ?_
                refine lv_iload hx hb dX7_items_36 (lv_at hl 0 rfl) ?_
                refine ky_Si (As := [.int 7, .int 2]) (rest := []) ⟨hx, hb, hml, hown, hts⟩ ⟨hK, hN⟩ hZ hP hD hS hA [] [0, 1, 2] (wc := []) (wr := [(Mrr, .inl (g 0, 3, .inl (upd (upd (upd frrx_2 1 (nI nx_208)) 0 (nI nx_234)) 2 (nI nx_264)))), (Mm, .inr (7, [.int zth, .ref Mt, .int (nI tp), .int (nI max_276), .int (-1), .ref Mrr, .ref Mrh, .ref Mrc, .int (nI rh), .int (nI rc), .ref Mn, .ref Mf, .ref Mr, .ref Mh, .int zhp, .int zcc, .ref Ma, .ref Mas, .ref Msn, .ref Mac, .ref Mat])), (Mt, .inl (g 0, 160, .inl fmt))]) rfl rfl rfl rfl (by decide) (r_X7_has_72 l D g H.size) (va_cwS 2 hts gX7_items_X7_has rfl rfl rfl (by decide +kernel) ⟨(Nat.le_of_ble_eq_true rfl), (Nat.le_of_ble_eq_true rfl)⟩) rfl hl.1 rfl (Nat.le_of_ble_eq_true rfl) dX7_items_38 ⟨(Nat.le_of_ble_eq_true rfl), (Nat.le_of_ble_eq_true rfl)⟩ (fun r_288 u H locs hw hP2 hD2 hS2 => ?_)
                clear hP hD hS
                obtain ⟨rfl, rfl⟩ := hw
                have hPD : PD D A [(Mrr, .inl (g 0, 3, .inl (upd (upd (upd frrx_2 1 (nI nx_208)) 0 (nI nx_234)) 2 (nI nx_264)))), (Mm, .inr (7, [.int zth, .ref Mt, .int (nI tp), .int (nI max_276), .int (-1), .ref Mrr, .ref Mrh, .ref Mrc, .int (nI rh), .int (nI rc), .ref Mn, .ref Mf, .ref Mr, .ref Mh, .int zhp, .int zcc, .ref Ma, .ref Mas, .ref Msn, .ref Mac, .ref Mat])), (Mt, .inl (g 0, 160, .inl fmt))] H := ⟨hP2, hD2⟩
                have hS := hS2; clear hP2 hD2 hS2; have hP := hPD.1; have hD := hPD.2; clear hPD
                refine W.widen (k := 0) (n := 0) (Nat.le_of_ble_eq_true rfl) (Nat.le_of_ble_eq_true rfl) ?_
                refine lv_if_ne (tgt := 98) hx hb dX7_items_41 (by decide) (fun _ => ?_) (fun cb => absurd cb (by decide))
                have hPD9 : PD D A [(Mm, .inr (7, [.int zth, .ref Mt, .int (nI tp), .int (nI max_276), .int (-1), .ref Mrr, .ref Mrh, .ref Mrc, .int (nI rh), .int (nI rc), .ref Mn, .ref Mf, .ref Mr, .ref Mh, .int zhp, .int zcc, .ref Ma, .ref Mas, .ref Msn, .ref Mac, .ref Mat])), (Mt, .inl (g 0, 160, .inl fmt)), (Mrr, .inl (g 0, 3, .inl (upd (upd (upd frrx_2 1 (nI nx_208)) 0 (nI nx_234)) 2 (nI nx_264))))] H := ⟨hP.sub [1, 2, 0] rfl, hD.sub [1, 2, 0] (by decide) rfl⟩
                have hP9 := hPD9.1; have hD9 := hPD9.2
                subst hQ
                refine W.widen (k := 0) (n := 0) (Nat.le_of_ble_eq_true rfl) (Nat.le_of_ble_eq_true rfl) ?_
                exact W.vret hx hb hr (fun tS htS _ => ⟨⟨_, rfl, ⟨max_276, (-1), (upd (upd (upd frrx_2 1 (nI nx_208)) 0 (nI nx_234)) 2 (nI nx_264)), rfl, ⟨(n1_upd (n1_upd (n1_upd (hf_3) (n := nx_208) (show nx_208 ≤ 99 by omega)) (n := nx_234) (show nx_234 ≤ 99 by omega)) (n := nx_264) (show nx_264 ≤ 99 by omega)), (show max_276 ≤ tp by omega), (show ma ≤ max_276 by omega), (congrArg Prod.fst (hR_271.trans (itR_again (f := 0) (m := 7) (q := 2) hf_279 hil_287.2 (by decide) (by decide)))).symm, (fun _ => (congrArg Prod.snd (hR_271.trans (itR_again (f := 0) (m := 7) (q := 2) hf_279 hil_287.2 (by decide) (by decide)))).symm), (fun _ => (hW_274.trans (itW_again (f := 0) (m := 7) (q := 2) hf_279 hil_287.2 (by decide) (by decide))).symm)⟩⟩, by rw [htS]; exact hP9, hD9⟩, hS.F htS⟩) hS.2.2 dX7_items_98
            · skip
              refine lv_iload_n hx hb dX7_items_85 rfl (lv_at hl 3 rfl) ?_
              refine lv_aload_n hx hb dX7_items_86 rfl (lv_at hl 2 rfl) ?_
              refine ky_Vi (As := []) (rest := [.int 0]) ⟨hx, hb, hml, hown, hts⟩ ⟨hK, hN⟩ hZ hP hD hS hA [1, 2] [0] (wc := [(Mm, .inr (7, [.int zth, .ref Mt, .int (nI tp), .int (nI max_262), .int zwrx_263, .ref Mrr, .ref Mrh, .ref Mrc, .int (nI rh), .int (nI rc), .ref Mn, .ref Mf, .ref Mr, .ref Mh, .int zhp, .int zcc, .ref Ma, .ref Mas, .ref Msn, .ref Mac, .ref Mat])), (Mt, .inl (g 0, 160, .inl fmt))]) (wr := [(Mrr, .inl (g 0, 3, .inl (upd (upd (upd frrx_2 1 (nI nx_208)) 0 (nI nx_234)) 2 (nI nx_264))))]) rfl rfl rfl rfl (by decide) (r_X7_ahead l D g H.size Mm zth Mt tp max_262 zwrx_263 Mrr Mrh Mrc rh rc Mn Mf Mr Mh zhp zcc Ma Mas Msn Mac Mat fmt (show tp ≤ 160 by omega) (show max_262 ≤ tp by omega)) (cwV 0 hts gX7_items_X7_ahead rfl rfl rfl (by decide +kernel) ⟨(Nat.le_of_ble_eq_true rfl), (Nat.le_of_ble_eq_true rfl)⟩) 1 7 rfl rfl rfl rfl hl.1 rfl (Nat.le_of_ble_eq_true rfl) dX7_items_87 ⟨(Nat.le_of_ble_eq_true rfl), (Nat.le_of_ble_eq_true rfl)⟩ (fun r_289 u H locs hw hP2 hD2 hS2 => ?_)
              clear hP hD hS
              obtain ⟨max_290, rfl, rfl, hf_291, hf_292, hf_293⟩ := hw
              have hPD : PD D A [(Mrr, .inl (g 0, 3, .inl (upd (upd (upd frrx_2 1 (nI nx_208)) 0 (nI nx_234)) 2 (nI nx_264)))), (Mm, .inr (7, [.int zth, .ref Mt, .int (nI tp), .int (nI max_290), .int zwrx_263, .ref Mrr, .ref Mrh, .ref Mrc, .int (nI rh), .int (nI rc), .ref Mn, .ref Mf, .ref Mr, .ref Mh, .int zhp, .int zcc, .ref Ma, .ref Mas, .ref Msn, .ref Mac, .ref Mat])), (Mt, .inl (g 0, 160, .inl fmt))] H := ⟨hP2, hD2⟩
              have hS := hS2; clear hP2 hD2 hS2; have hP := hPD.1; have hD := hPD.2; clear hPD
              refine W.widen (k := 0) (n := 0) (Nat.le_of_ble_eq_true rfl) (Nat.le_of_ble_eq_true rfl) ?_
              refine lv_topi (fun y_294 hey_294 => ?_)
              refine ky_Si (As := [.int 0, .int y_294]) (rest := []) ⟨hx, hb, hml, hown, hts⟩ ⟨hK, hN⟩ hZ hP hD hS hA [] [0, 1, 2] (wc := []) (wr := [(Mrr, .inl (g 0, 3, .inl (upd (upd (upd frrx_2 1 (nI nx_208)) 0 (nI nx_234)) 2 (nI nx_264)))), (Mm, .inr (7, [.int zth, .ref Mt, .int (nI tp), .int (nI max_290), .int zwrx_263, .ref Mrr, .ref Mrh, .ref Mrc, .int (nI rh), .int (nI rc), .ref Mn, .ref Mf, .ref Mr, .ref Mh, .int zhp, .int zcc, .ref Ma, .ref Mas, .ref Msn, .ref Mac, .ref Mat])), (Mt, .inl (g 0, 160, .inl fmt))]) rfl rfl rfl rfl (by decide) (r_X7_itemBy_0 l D g H.size y_294) (va_cwS 2 hts gX7_items_X7_itemBy rfl rfl rfl (by decide +kernel) ⟨(Nat.le_of_ble_eq_true rfl), (Nat.le_of_ble_eq_true rfl)⟩) rfl hl.1 rfl (Nat.le_of_ble_eq_true rfl) dX7_items_90 ⟨(Nat.le_of_ble_eq_true rfl), (Nat.le_of_ble_eq_true rfl)⟩ (fun r_295 u H locs hw hP2 hD2 hS2 => ?_)
              clear hP hD hS
              obtain ⟨rfl, rfl⟩ := hw
              have hPD : PD D A [(Mrr, .inl (g 0, 3, .inl (upd (upd (upd frrx_2 1 (nI nx_208)) 0 (nI nx_234)) 2 (nI nx_264)))), (Mm, .inr (7, [.int zth, .ref Mt, .int (nI tp), .int (nI max_290), .int zwrx_263, .ref Mrr, .ref Mrh, .ref Mrc, .int (nI rh), .int (nI rc), .ref Mn, .ref Mf, .ref Mr, .ref Mh, .int zhp, .int zcc, .ref Ma, .ref Mas, .ref Msn, .ref Mac, .ref Mat])), (Mt, .inl (g 0, 160, .inl fmt))] H := ⟨hP2, hD2⟩
              have hS := hS2; clear hP2 hD2 hS2; have hP := hPD.1; have hD := hPD.2; clear hPD
              refine W.widen (k := 0) (n := 0) (Nat.le_of_ble_eq_true rfl) (Nat.le_of_ble_eq_true rfl) ?_
              refine lv_istore (lv' := [(5, .int (itK 0 y_294)), (4, .int 7), (0, .ref Mm), (1, .int 0), (2, .ref Mrr), (3, .int 0)]) hx hb dX7_items_93 hl (by decide) rfl (fun ls hl => ?_)
              refine lv_goto (tgt := 20) hx hb dX7_items_95 (by decide) ?_
              refine lv_aload_n hx hb dX7_items_20 rfl (lv_at hl 2 rfl) ?_
              refine va_get (D := D) (ci := 7) (v := .int zwrx_263) (C := RX7) (T := TX7) (N := 21) hx hb hts iX7 hown hK hP 1 rfl rfl 4 (by decide) f71 (fun _ h9 => h9) rfl dX7_items_21 ?_
              refine lv_iconst (v := (-1)) hx hb dX7_items_24 (by decide) ?_
              refine lv_icmp_ne (tgt := 98) hx hb dX7_items_25 (by decide) (fun _ => ?_) (fun cb => absurd cb (cw_269))
              have hPD9 : PD D A [(Mm, .inr (7, [.int zth, .ref Mt, .int (nI tp), .int (nI max_290), .int zwrx_263, .ref Mrr, .ref Mrh, .ref Mrc, .int (nI rh), .int (nI rc), .ref Mn, .ref Mf, .ref Mr, .ref Mh, .int zhp, .int zcc, .ref Ma, .ref Mas, .ref Msn, .ref Mac, .ref Mat])), (Mt, .inl (g 0, 160, .inl fmt)), (Mrr, .inl (g 0, 3, .inl (upd (upd (upd frrx_2 1 (nI nx_208)) 0 (nI nx_234)) 2 (nI nx_264))))] H := ⟨hP.sub [1, 2, 0] rfl, hD.sub [1, 2, 0] (by decide) rfl⟩
              have hP9 := hPD9.1; have hD9 := hPD9.2
              subst hQ
              refine W.widen (k := 0) (n := 0) (Nat.le_of_ble_eq_true rfl) (Nat.le_of_ble_eq_true rfl) ?_
              exact W.vret hx hb hr (fun tS htS _ => ⟨⟨_, rfl, ⟨max_290, zwrx_263, (upd (upd (upd frrx_2 1 (nI nx_208)) 0 (nI nx_234)) 2 (nI nx_264)), rfl, ⟨(n1_upd (n1_upd (n1_upd (hf_3) (n := nx_208) (show nx_208 ≤ 99 by omega)) (n := nx_234) (show nx_234 ≤ 99 by omega)) (n := nx_264) (show nx_264 ≤ 99 by omega)), (show max_290 ≤ tp by omega), (show ma ≤ max_290 by omega), ((congrArg Prod.fst hR_241).trans ((itR_w (f := 1) (m := 3) (q := 2) hf_249 hil_257.1 hil_257.2 (by decide) (by decide) (fun q => cw_269 (hf_265.2.2.2.1.trans q))).trans hf_265.2.2.2.1.symm)).symm, (fun q => absurd q cw_269), (fun q => absurd q cw_269)⟩⟩, by rw [htS]; exact hP9, hD9⟩, hS.F htS⟩) hS.2.2 dX7_items_98
        · skip
          refine lv_iload_n hx hb dX7_items_85 rfl (lv_at hl 3 rfl) ?_
          refine lv_aload_n hx hb dX7_items_86 rfl (lv_at hl 2 rfl) ?_
          refine ky_Vi (As := []) (rest := [.int 0]) ⟨hx, hb, hml, hown, hts⟩ ⟨hK, hN⟩ hZ hP hD hS hA [1, 2] [0] (wc := [(Mm, .inr (7, [.int zth, .ref Mt, .int (nI tp), .int (nI max_232), .int zwrx_233, .ref Mrr, .ref Mrh, .ref Mrc, .int (nI rh), .int (nI rc), .ref Mn, .ref Mf, .ref Mr, .ref Mh, .int zhp, .int zcc, .ref Ma, .ref Mas, .ref Msn, .ref Mac, .ref Mat])), (Mt, .inl (g 0, 160, .inl fmt))]) (wr := [(Mrr, .inl (g 0, 3, .inl (upd (upd frrx_2 1 (nI nx_208)) 0 (nI nx_234))))]) rfl rfl rfl rfl (by decide) (r_X7_ahead l D g H.size Mm zth Mt tp max_232 zwrx_233 Mrr Mrh Mrc rh rc Mn Mf Mr Mh zhp zcc Ma Mas Msn Mac Mat fmt (show tp ≤ 160 by omega) (show max_232 ≤ tp by omega)) (cwV 0 hts gX7_items_X7_ahead rfl rfl rfl (by decide +kernel) ⟨(Nat.le_of_ble_eq_true rfl), (Nat.le_of_ble_eq_true rfl)⟩) 1 7 rfl rfl rfl rfl hl.1 rfl (Nat.le_of_ble_eq_true rfl) dX7_items_87 ⟨(Nat.le_of_ble_eq_true rfl), (Nat.le_of_ble_eq_true rfl)⟩ (fun r_296 u H locs hw hP2 hD2 hS2 => ?_)
          clear hP hD hS
          obtain ⟨max_297, rfl, rfl, hf_298, hf_299, hf_300⟩ := hw
          have hPD : PD D A [(Mrr, .inl (g 0, 3, .inl (upd (upd frrx_2 1 (nI nx_208)) 0 (nI nx_234)))), (Mm, .inr (7, [.int zth, .ref Mt, .int (nI tp), .int (nI max_297), .int zwrx_233, .ref Mrr, .ref Mrh, .ref Mrc, .int (nI rh), .int (nI rc), .ref Mn, .ref Mf, .ref Mr, .ref Mh, .int zhp, .int zcc, .ref Ma, .ref Mas, .ref Msn, .ref Mac, .ref Mat])), (Mt, .inl (g 0, 160, .inl fmt))] H := ⟨hP2, hD2⟩
          have hS := hS2; clear hP2 hD2 hS2; have hP := hPD.1; have hD := hPD.2; clear hPD
          refine W.widen (k := 0) (n := 0) (Nat.le_of_ble_eq_true rfl) (Nat.le_of_ble_eq_true rfl) ?_
          refine lv_topi (fun y_301 hey_301 => ?_)
          refine ky_Si (As := [.int 0, .int y_301]) (rest := []) ⟨hx, hb, hml, hown, hts⟩ ⟨hK, hN⟩ hZ hP hD hS hA [] [0, 1, 2] (wc := []) (wr := [(Mrr, .inl (g 0, 3, .inl (upd (upd frrx_2 1 (nI nx_208)) 0 (nI nx_234)))), (Mm, .inr (7, [.int zth, .ref Mt, .int (nI tp), .int (nI max_297), .int zwrx_233, .ref Mrr, .ref Mrh, .ref Mrc, .int (nI rh), .int (nI rc), .ref Mn, .ref Mf, .ref Mr, .ref Mh, .int zhp, .int zcc, .ref Ma, .ref Mas, .ref Msn, .ref Mac, .ref Mat])), (Mt, .inl (g 0, 160, .inl fmt))]) rfl rfl rfl rfl (by decide) (r_X7_itemBy_0 l D g H.size y_301) (va_cwS 2 hts gX7_items_X7_itemBy rfl rfl rfl (by decide +kernel) ⟨(Nat.le_of_ble_eq_true rfl), (Nat.le_of_ble_eq_true rfl)⟩) rfl hl.1 rfl (Nat.le_of_ble_eq_true rfl) dX7_items_90 ⟨(Nat.le_of_ble_eq_true rfl), (Nat.le_of_ble_eq_true rfl)⟩ (fun r_302 u H locs hw hP2 hD2 hS2 => ?_)
          clear hP hD hS
          obtain ⟨rfl, rfl⟩ := hw
          have hPD : PD D A [(Mrr, .inl (g 0, 3, .inl (upd (upd frrx_2 1 (nI nx_208)) 0 (nI nx_234)))), (Mm, .inr (7, [.int zth, .ref Mt, .int (nI tp), .int (nI max_297), .int zwrx_233, .ref Mrr, .ref Mrh, .ref Mrc, .int (nI rh), .int (nI rc), .ref Mn, .ref Mf, .ref Mr, .ref Mh, .int zhp, .int zcc, .ref Ma, .ref Mas, .ref Msn, .ref Mac, .ref Mat])), (Mt, .inl (g 0, 160, .inl fmt))] H := ⟨hP2, hD2⟩
          have hS := hS2; clear hP2 hD2 hS2; have hP := hPD.1; have hD := hPD.2; clear hPD
          refine W.widen (k := 0) (n := 0) (Nat.le_of_ble_eq_true rfl) (Nat.le_of_ble_eq_true rfl) ?_
          refine lv_istore (lv' := [(5, .int (itK 0 y_301)), (4, .int 3), (0, .ref Mm), (1, .int 0), (2, .ref Mrr), (3, .int 0)]) hx hb dX7_items_93 hl (by decide) rfl (fun ls hl => ?_)
          refine lv_goto (tgt := 20) hx hb dX7_items_95 (by decide) ?_
          refine lv_aload_n hx hb dX7_items_20 rfl (lv_at hl 2 rfl) ?_
          refine va_get (D := D) (ci := 7) (v := .int zwrx_233) (C := RX7) (T := TX7) (N := 21) hx hb hts iX7 hown hK hP 1 rfl rfl 4 (by decide) f71 (fun _ h9 => h9) rfl dX7_items_21 ?_
          refine lv_iconst (v := (-1)) hx hb dX7_items_24 (by decide) ?_
          refine lv_icmp_ne (tgt := 98) hx hb dX7_items_25 (by decide) (fun _ => ?_) (fun cb => absurd cb (cw_239))
          have hPD9 : PD D A [(Mm, .inr (7, [.int zth, .ref Mt, .int (nI tp), .int (nI max_297), .int zwrx_233, .ref Mrr, .ref Mrh, .ref Mrc, .int (nI rh), .int (nI rc), .ref Mn, .ref Mf, .ref Mr, .ref Mh, .int zhp, .int zcc, .ref Ma, .ref Mas, .ref Msn, .ref Mac, .ref Mat])), (Mt, .inl (g 0, 160, .inl fmt)), (Mrr, .inl (g 0, 3, .inl (upd (upd frrx_2 1 (nI nx_208)) 0 (nI nx_234))))] H := ⟨hP.sub [1, 2, 0] rfl, hD.sub [1, 2, 0] (by decide) rfl⟩
          have hP9 := hPD9.1; have hD9 := hPD9.2
          subst hQ
          refine W.widen (k := 0) (n := 0) (Nat.le_of_ble_eq_true rfl) (Nat.le_of_ble_eq_true rfl) ?_
          exact W.vret hx hb hr (fun tS htS _ => ⟨⟨_, rfl, ⟨max_297, zwrx_233, (upd (upd frrx_2 1 (nI nx_208)) 0 (nI nx_234)), rfl, ⟨(n1_upd (n1_upd (hf_3) (n := nx_208) (show nx_208 ≤ 99 by omega)) (n := nx_234) (show nx_234 ≤ 99 by omega)), (show max_297 ≤ tp by omega), (show ma ≤ max_297 by omega), ((congrArg Prod.fst hR_215).trans ((itR_w (f := 2) (m := 2) (q := 0) hf_223 hil_227.1 hil_227.2 (by decide) (by decide) (fun q => cw_239 (hf_235.2.2.2.1.trans q))).trans hf_235.2.2.2.1.symm)).symm, (fun q => absurd q cw_239), (fun q => absurd q cw_239)⟩⟩, by rw [htS]; exact hP9, hD9⟩, hS.F htS⟩) hS.2.2 dX7_items_98
      · skip
        refine lv_eqi (y := 1) (qi_226) ?_
        have hil_303 := iv_lt (k := 0) (q := 1) hey_224.symm qi_226 (by decide); have hil_303a := hil_303.1
        refine lv_istore (lv' := [(5, .int 1), (4, .int 2), (0, .ref Mm), (1, .int 0), (2, .ref Mrr), (3, .int 0)]) hx hb dX7_items_93 hl (by decide) rfl (fun ls hl => ?_)
        refine lv_goto (tgt := 20) hx hb dX7_items_95 (by decide) ?_
        refine lv_aload_n hx hb dX7_items_20 rfl (lv_at hl 2 rfl) ?_
        refine va_get (D := D) (ci := 7) (v := .int (-1)) (C := RX7) (T := TX7) (N := 21) hx hb hts iX7 hown hK hP 1 rfl rfl 4 (by decide) f71 (fun _ h9 => h9) rfl dX7_items_21 ?_
        refine lv_iconst (v := (-1)) hx hb dX7_items_24 (by decide) ?_
        refine lv_icmp_ne (tgt := 98) hx hb dX7_items_25 (by decide) (fun cb => absurd (by decide) cb) (fun _ => ?_)
        refine lv_iload hx hb dX7_items_28 (lv_at hl 0 rfl) ?_
        refine lv_iconst (v := (-1)) hx hb dX7_items_30 (by decide) ?_
        refine lv_icmp_eq (tgt := 98) hx hb dX7_items_31 (by decide) (fun cb => absurd cb (by decide)) (fun _ => ?_)
        refine lv_iload hx hb dX7_items_34 (lv_at hl 1 rfl) ?_
        refine lv_iload hx hb dX7_items_36 (lv_at hl 0 rfl) ?_
        refine ky_Si (As := [.int 2, .int 1]) (rest := []) ⟨hx, hb, hml, hown, hts⟩ ⟨hK, hN⟩ hZ hP hD hS hA [] [0, 1, 2] (wc := []) (wr := [(Mrr, .inl (g 0, 3, .inl (upd frrx_2 1 (nI nx_208)))), (Mm, .inr (7, [.int zth, .ref Mt, .int (nI tp), .int (nI max_220), .int (-1), .ref Mrr, .ref Mrh, .ref Mrc, .int (nI rh), .int (nI rc), .ref Mn, .ref Mf, .ref Mr, .ref Mh, .int zhp, .int zcc, .ref Ma, .ref Mas, .ref Msn, .ref Mac, .ref Mat])), (Mt, .inl (g 0, 160, .inl fmt))]) rfl rfl rfl rfl (by decide) (r_X7_has_21 l D g H.size) (va_cwS 2 hts gX7_items_X7_has rfl rfl rfl (by decide +kernel) ⟨(Nat.le_of_ble_eq_true rfl), (Nat.le_of_ble_eq_true rfl)⟩) rfl hl.1 rfl (Nat.le_of_ble_eq_true rfl) dX7_items_38 ⟨(Nat.le_of_ble_eq_true rfl), (Nat.le_of_ble_eq_true rfl)⟩ (fun r_304 u H locs hw hP2 hD2 hS2 => ?_)
        clear hP hD hS
        obtain ⟨rfl, rfl⟩ := hw
        have hPD : PD D A [(Mrr, .inl (g 0, 3, .inl (upd frrx_2 1 (nI nx_208)))), (Mm, .inr (7, [.int zth, .ref Mt, .int (nI tp), .int (nI max_220), .int (-1), .ref Mrr, .ref Mrh, .ref Mrc, .int (nI rh), .int (nI rc), .ref Mn, .ref Mf, .ref Mr, .ref Mh, .int zhp, .int zcc, .ref Ma, .ref Mas, .ref Msn, .ref Mac, .ref Mat])), (Mt, .inl (g 0, 160, .inl fmt))] H := ⟨hP2, hD2⟩
        have hS := hS2; clear hP2 hD2 hS2; have hP := hPD.1; have hD := hPD.2; clear hPD
        refine W.widen (k := 0) (n := 0) (Nat.le_of_ble_eq_true rfl) (Nat.le_of_ble_eq_true rfl) ?_
        refine lv_if_ne (tgt := 98) hx hb dX7_items_41 (by decide) (fun _ => ?_) (fun cb => absurd cb (by decide))
        have hPD9 : PD D A [(Mm, .inr (7, [.int zth, .ref Mt, .int (nI tp), .int (nI max_220), .int (-1), .ref Mrr, .ref Mrh, .ref Mrc, .int (nI rh), .int (nI rc), .ref Mn, .ref Mf, .ref Mr, .ref Mh, .int zhp, .int zcc, .ref Ma, .ref Mas, .ref Msn, .ref Mac, .ref Mat])), (Mt, .inl (g 0, 160, .inl fmt)), (Mrr, .inl (g 0, 3, .inl (upd frrx_2 1 (nI nx_208))))] H := ⟨hP.sub [1, 2, 0] rfl, hD.sub [1, 2, 0] (by decide) rfl⟩
        have hP9 := hPD9.1; have hD9 := hPD9.2
        subst hQ
        refine W.widen (k := 0) (n := 0) (Nat.le_of_ble_eq_true rfl) (Nat.le_of_ble_eq_true rfl) ?_
        exact W.vret hx hb hr (fun tS htS _ => ⟨⟨_, rfl, ⟨max_220, (-1), (upd frrx_2 1 (nI nx_208)), rfl, ⟨(n1_upd (hf_3) (n := nx_208) (show nx_208 ≤ 99 by omega)), (show max_220 ≤ tp by omega), (show ma ≤ max_220 by omega), (congrArg Prod.fst (hR_215.trans (itR_again (f := 2) (m := 2) (q := 1) hf_223 hil_303.2 (by decide) (by decide)))).symm, (fun _ => (congrArg Prod.snd (hR_215.trans (itR_again (f := 2) (m := 2) (q := 1) hf_223 hil_303.2 (by decide) (by decide)))).symm), (fun _ => (hW_218.trans (itW_again (f := 2) (m := 2) (q := 1) hf_223 hil_303.2 (by decide) (by decide))).symm)⟩⟩, by rw [htS]; exact hP9, hD9⟩, hS.F htS⟩) hS.2.2 dX7_items_98
      · skip
        refine lv_eqi (y := 2) (qi_226) ?_
        have hil_305 := iv_lt (k := 0) (q := 2) hey_224.symm qi_226 (by decide); have hil_305a := hil_305.1
        refine lv_istore (lv' := [(5, .int 2), (4, .int 2), (0, .ref Mm), (1, .int 0), (2, .ref Mrr), (3, .int 0)]) hx hb dX7_items_93 hl (by decide) rfl (fun ls hl => ?_)
        refine lv_goto (tgt := 20) hx hb dX7_items_95 (by decide) ?_
        refine lv_aload_n hx hb dX7_items_20 rfl (lv_at hl 2 rfl) ?_
        refine va_get (D := D) (ci := 7) (v := .int (-1)) (C := RX7) (T := TX7) (N := 21) hx hb hts iX7 hown hK hP 1 rfl rfl 4 (by decide) f71 (fun _ h9 => h9) rfl dX7_items_21 ?_
        refine lv_iconst (v := (-1)) hx hb dX7_items_24 (by decide) ?_
        refine lv_icmp_ne (tgt := 98) hx hb dX7_items_25 (by decide) (fun cb => absurd (by decide) cb) (fun _ => ?_)
        refine lv_iload hx hb dX7_items_28 (lv_at hl 0 rfl) ?_
        refine lv_iconst (v := (-1)) hx hb dX7_items_30 (by decide) ?_
        refine lv_icmp_eq (tgt := 98) hx hb dX7_items_31 (by decide) (fun cb => absurd cb (by decide)) (fun _ => ?_)
        refine lv_iload hx hb dX7_items_34 (lv_at hl 1 rfl) ?_
        refine lv_iload hx hb dX7_items_36 (lv_at hl 0 rfl) ?_
        refine ky_Si (As := [.int 2, .int 2]) (rest := []) ⟨hx, hb, hml, hown, hts⟩ ⟨hK, hN⟩ hZ hP hD hS hA [] [0, 1, 2] (wc := []) (wr := [(Mrr, .inl (g 0, 3, .inl (upd frrx_2 1 (nI nx_208)))), (Mm, .inr (7, [.int zth, .ref Mt, .int (nI tp), .int (nI max_220), .int (-1), .ref Mrr, .ref Mrh, .ref Mrc, .int (nI rh), .int (nI rc), .ref Mn, .ref Mf, .ref Mr, .ref Mh, .int zhp, .int zcc, .ref Ma, .ref Mas, .ref Msn, .ref Mac, .ref Mat])), (Mt, .inl (g 0, 160, .inl fmt))]) rfl rfl rfl rfl (by decide) (r_X7_has_22 l D g H.size) (va_cwS 2 hts gX7_items_X7_has rfl rfl rfl (by decide +kernel) ⟨(Nat.le_of_ble_eq_true rfl), (Nat.le_of_ble_eq_true rfl)⟩) rfl hl.1 rfl (Nat.le_of_ble_eq_true rfl) dX7_items_38 ⟨(Nat.le_of_ble_eq_true rfl), (Nat.le_of_ble_eq_true rfl)⟩ (fun r_306 u H locs hw hP2 hD2 hS2 => ?_)
        clear hP hD hS
        obtain ⟨rfl, rfl⟩ := hw
        have hPD : PD D A [(Mrr, .inl (g 0, 3, .inl (upd frrx_2 1 (nI nx_208)))), (Mm, .inr (7, [.int zth, .ref Mt, .int (nI tp), .int (nI max_220), .int (-1), .ref Mrr, .ref Mrh, .ref Mrc, .int (nI rh), .int (nI rc), .ref Mn, .ref Mf, .ref Mr, .ref Mh, .int zhp, .int zcc, .ref Ma, .ref Mas, .ref Msn, .ref Mac, .ref Mat])), (Mt, .inl (g 0, 160, .inl fmt))] H := ⟨hP2, hD2⟩
        have hS := hS2; clear hP2 hD2 hS2; have hP := hPD.1; have hD := hPD.2; clear hPD
        refine W.widen (k := 0) (n := 0) (Nat.le_of_ble_eq_true rfl) (Nat.le_of_ble_eq_true rfl) ?_
        refine lv_if_ne (tgt := 98) hx hb dX7_items_41 (by decide) (fun cb => absurd (by decide) cb) (fun _ => ?_)
        refine lv_iload hx hb dX7_items_44 (lv_at hl 1 rfl) ?_
        refine lv_iconst (v := 1) hx hb dX7_items_46 (by decide) ?_
        refine lv_iload hx hb dX7_items_47 (lv_at hl 0 rfl) ?_
        refine lv_ishl hx hb dX7_items_49 ?_
        refine lv_eqi (y := 4) (by decide) ?_
        refine lv_ior hx hb dX7_items_50 ?_
        refine lv_eqi (y := 6) (by decide) ?_
        refine lv_istore (lv' := [(4, .int 6), (5, .int 2), (0, .ref Mm), (1, .int 0), (2, .ref Mrr), (3, .int 0)]) hx hb dX7_items_51 hl (by decide) rfl (fun ls hl => ?_)
        refine lv_aload_n hx hb dX7_items_53 rfl (lv_at hl 2 rfl) ?_
        refine lv_dup hx hb dX7_items_54 rfl ?_
        refine va_get (D := D) (ci := 7) (v := .int (nI max_220)) (C := RX7) (T := TX7) (N := 21) hx hb hts iX7 hown hK hP 1 rfl rfl 3 (by decide) f64 (fun _ h9 => h9) rfl dX7_items_55 ?_
        refine lv_iconst (v := 1) hx hb dX7_items_58 (by decide) ?_
        refine lv_iadd hx hb dX7_items_59 ?_
        refine lv_eqi (y := (nI (max_220 + 1))) (nI_add (max_220) (1)) ?_
        refine va_put (D := D) (ci := 7) (v := .int (nI (max_220 + 1))) (ty := .int) (C := RX7) (T := TX7) (N := 21) hx hb hts iX7 tyX7 tyX7_ok nmX7 hown hK hP hD hS 1 rfl rfl 3 (by decide) f64 (fun _ h9 => h9) rfl (by decide +kernel) (rfl) (rfl) (Nat.le_of_ble_eq_true rfl) dX7_items_60 (fun H locs hP2 hD2 hS2 => ?_)
        clear hP hD hS
        have hPD : PD D A [(Mrr, .inl (g 0, 3, .inl (upd frrx_2 1 (nI nx_208)))), (Mm, .inr (7, [.int zth, .ref Mt, .int (nI tp), .int (nI (max_220 + 1)), .int (-1), .ref Mrr, .ref Mrh, .ref Mrc, .int (nI rh), .int (nI rc), .ref Mn, .ref Mf, .ref Mr, .ref Mh, .int zhp, .int zcc, .ref Ma, .ref Mas, .ref Msn, .ref Mac, .ref Mat])), (Mt, .inl (g 0, 160, .inl fmt))] H := ⟨hP2, hD2⟩
        have hS := hS2; clear hP2 hD2 hS2; have hP := hPD.1; have hD := hPD.2; clear hPD
        refine lv_aload_n hx hb dX7_items_63 rfl (lv_at hl 4 rfl) ?_
        refine lv_iload_n hx hb dX7_items_64 rfl (lv_at hl 5 rfl) ?_
        refine lv_iload hx hb dX7_items_65 (lv_at hl 1 rfl) ?_
        refine lv_iadd hx hb dX7_items_67 ?_
        refine lv_eqi (y := 2) (by decide) ?_
        refine lv_aload_n hx hb dX7_items_68 rfl (lv_at hl 2 rfl) ?_
        refine lv_iload_n hx hb dX7_items_69 rfl (lv_at hl 3 rfl) ?_
        refine lv_iload hx hb dX7_items_70 (lv_at hl 1 rfl) ?_
        refine ky_Si (As := [.int 0, .int 2]) (rest := [.ref Mm, .int 2, .ref Mrr]) ⟨hx, hb, hml, hown, hts⟩ ⟨hK, hN⟩ hZ hP hD hS hA [] [0, 1, 2] (wc := []) (wr := [(Mrr, .inl (g 0, 3, .inl (upd frrx_2 1 (nI nx_208)))), (Mm, .inr (7, [.int zth, .ref Mt, .int (nI tp), .int (nI (max_220 + 1)), .int (-1), .ref Mrr, .ref Mrh, .ref Mrc, .int (nI rh), .int (nI rc), .ref Mn, .ref Mf, .ref Mr, .ref Mh, .int zhp, .int zcc, .ref Ma, .ref Mas, .ref Msn, .ref Mac, .ref Mat])), (Mt, .inl (g 0, 160, .inl fmt))]) rfl rfl rfl rfl (by decide) (r_X7_lowest_02 l D g H.size) (va_cwS 2 hts gX7_items_X7_lowest rfl rfl rfl (by decide +kernel) ⟨(Nat.le_of_ble_eq_true rfl), (Nat.le_of_ble_eq_true rfl)⟩) rfl hl.1 rfl (Nat.le_of_ble_eq_true rfl) dX7_items_72 ⟨(Nat.le_of_ble_eq_true rfl), (Nat.le_of_ble_eq_true rfl)⟩ (fun r_307 u H locs hw hP2 hD2 hS2 => ?_)
        clear hP hD hS
        obtain ⟨rfl, rfl⟩ := hw
        have hPD : PD D A [(Mrr, .inl (g 0, 3, .inl (upd frrx_2 1 (nI nx_208)))), (Mm, .inr (7, [.int zth, .ref Mt, .int (nI tp), .int (nI (max_220 + 1)), .int (-1), .ref Mrr, .ref Mrh, .ref Mrc, .int (nI rh), .int (nI rc), .ref Mn, .ref Mf, .ref Mr, .ref Mh, .int zhp, .int zcc, .ref Ma, .ref Mas, .ref Msn, .ref Mac, .ref Mat])), (Mt, .inl (g 0, 160, .inl fmt))] H := ⟨hP2, hD2⟩
        have hS := hS2; clear hP2 hD2 hS2; have hP := hPD.1; have hD := hPD.2; clear hPD
        refine W.widen (k := 0) (n := 0) (Nat.le_of_ble_eq_true rfl) (Nat.le_of_ble_eq_true rfl) ?_
        refine lv_iload_n hx hb dX7_items_75 rfl (lv_at hl 3 rfl) ?_
        refine lv_iload hx hb dX7_items_76 (lv_at hl 1 rfl) ?_
        refine ky_Si (As := [.int 0, .int 2]) (rest := [.int 0, .ref Mm, .int 2, .ref Mrr]) ⟨hx, hb, hml, hown, hts⟩ ⟨hK, hN⟩ hZ hP hD hS hA [] [0, 1, 2] (wc := []) (wr := [(Mrr, .inl (g 0, 3, .inl (upd frrx_2 1 (nI nx_208)))), (Mm, .inr (7, [.int zth, .ref Mt, .int (nI tp), .int (nI (max_220 + 1)), .int (-1), .ref Mrr, .ref Mrh, .ref Mrc, .int (nI rh), .int (nI rc), .ref Mn, .ref Mf, .ref Mr, .ref Mh, .int zhp, .int zcc, .ref Ma, .ref Mas, .ref Msn, .ref Mac, .ref Mat])), (Mt, .inl (g 0, 160, .inl fmt))]) rfl rfl rfl rfl (by decide) (r_X7_highest_02 l D g H.size) (va_cwS 2 hts gX7_items_X7_highest rfl rfl rfl (by decide +kernel) ⟨(Nat.le_of_ble_eq_true rfl), (Nat.le_of_ble_eq_true rfl)⟩) rfl hl.1 rfl (Nat.le_of_ble_eq_true rfl) dX7_items_78 ⟨(Nat.le_of_ble_eq_true rfl), (Nat.le_of_ble_eq_true rfl)⟩ (fun r_308 u H locs hw hP2 hD2 hS2 => ?_)
        clear hP hD hS
        obtain ⟨rfl, rfl⟩ := hw
        have hPD : PD D A [(Mrr, .inl (g 0, 3, .inl (upd frrx_2 1 (nI nx_208)))), (Mm, .inr (7, [.int zth, .ref Mt, .int (nI tp), .int (nI (max_220 + 1)), .int (-1), .ref Mrr, .ref Mrh, .ref Mrc, .int (nI rh), .int (nI rc), .ref Mn, .ref Mf, .ref Mr, .ref Mh, .int zhp, .int zcc, .ref Ma, .ref Mas, .ref Msn, .ref Mac, .ref Mat])), (Mt, .inl (g 0, 160, .inl fmt))] H := ⟨hP2, hD2⟩
        have hS := hS2; clear hP2 hD2 hS2; have hP := hPD.1; have hD := hPD.2; clear hPD
        refine W.widen (k := 0) (n := 0) (Nat.le_of_ble_eq_true rfl) (Nat.le_of_ble_eq_true rfl) ?_
        refine ky_Vi (As := [.int 0, .int 9]) (rest := [.int 2, .ref Mrr]) ⟨hx, hb, hml, hown, hts⟩ ⟨hK, hN⟩ hZ hP hD hS hA [1, 2] [0] (wc := [(Mm, .inr (7, [.int zth, .ref Mt, .int (nI tp), .int (nI (max_220 + 1)), .int (-1), .ref Mrr, .ref Mrh, .ref Mrc, .int (nI rh), .int (nI rc), .ref Mn, .ref Mf, .ref Mr, .ref Mh, .int zhp, .int zcc, .ref Ma, .ref Mas, .ref Msn, .ref Mac, .ref Mat])), (Mt, .inl (g 0, 160, .inl fmt))]) (wr := [(Mrr, .inl (g 0, 3, .inl (upd frrx_2 1 (nI nx_208))))]) rfl rfl rfl rfl (by decide) (w_X7_number l D g H.size Mm 0 9 zth Mt tp (max_220 + 1) Mrr Mrh Mrc rh rc Mn Mf Mr Mh zhp zcc Ma Mas Msn Mac Mat fmt (show tp ≤ 160 by omega) (show (max_220 + 1) ≤ tp by omega) (show 0 ≤ 1 by omega)) (cwV 2 hts gX7_items_X7_number rfl rfl rfl (by decide +kernel) ⟨(Nat.le_of_ble_eq_true rfl), (Nat.le_of_ble_eq_true rfl)⟩) 1 7 rfl rfl rfl rfl hl.1 rfl (Nat.le_of_ble_eq_true rfl) dX7_items_81 ⟨(Nat.le_of_ble_eq_true rfl), (Nat.le_of_ble_eq_true rfl)⟩ (fun r_309 u H locs hw hP2 hD2 hS2 => ?_)
        clear hP hD hS
        obtain ⟨max_310, zwrx_311, nx_312, rfl, rfl, hf_313⟩ := hw
        have hg_314 := hf_313.1
        have hg_315 := hf_313.2.1
        have hg_316 := hf_313.2.2.1
        have hPD : PD D A [(Mrr, .inl (g 0, 3, .inl (upd frrx_2 1 (nI nx_208)))), (Mm, .inr (7, [.int zth, .ref Mt, .int (nI tp), .int (nI max_310), .int zwrx_311, .ref Mrr, .ref Mrh, .ref Mrc, .int (nI rh), .int (nI rc), .ref Mn, .ref Mf, .ref Mr, .ref Mh, .int zhp, .int zcc, .ref Ma, .ref Mas, .ref Msn, .ref Mac, .ref Mat])), (Mt, .inl (g 0, 160, .inl fmt))] H := ⟨hP2, hD2⟩
        have hS := hS2; clear hP2 hD2 hS2; have hP := hPD.1; have hD := hPD.2; clear hPD
        refine W.widen (k := 0) (n := 0) (Nat.le_of_ble_eq_true rfl) (Nat.le_of_ble_eq_true rfl) ?_
        refine va_iast hx hb hK hP hD hS 0 0 rfl rfl (by unfold vp_in; decide) dX7_items_84 (fun H locs hP2 hD2 hS2 => ?_)
        clear hP hD hS
        have hPD : PD D A [(Mrr, .inl (g 0, 3, .inl (upd (upd frrx_2 1 (nI nx_208)) 2 (nI nx_312)))), (Mm, .inr (7, [.int zth, .ref Mt, .int (nI tp), .int (nI max_310), .int zwrx_311, .ref Mrr, .ref Mrh, .ref Mrc, .int (nI rh), .int (nI rc), .ref Mn, .ref Mf, .ref Mr, .ref Mh, .int zhp, .int zcc, .ref Ma, .ref Mas, .ref Msn, .ref Mac, .ref Mat])), (Mt, .inl (g 0, 160, .inl fmt))] H := ⟨hP2, hD2⟩
        have hS := hS2; clear hP2 hD2 hS2; have hP := hPD.1; have hD := hPD.2; clear hPD
        by_cases cw_317 : zwrx_311 = -1
        · skip
          have hPq_318 := hP; have hDq_318 := hD; have hSq_318 := hS; have hlq_318 := hl; clear hP hD hS hl
          subst cw_317
          have hP := hPq_318; have hD := hDq_318; have hS := hSq_318; have hl := hlq_318; clear hPq_318 hDq_318 hSq_318 hlq_318
          have hne_320 := hf_313.2.2.2.2.1 rfl
          have hnv_321 := hf_313.2.2.2.2.2 rfl
          have hR_319 : itR fmt tp 0 4 0 ma = itR fmt tp 0 2 6 max_310 := hR_215.trans ((itR_go (f := 2) (m := 2) (q := 2) hf_223 hil_305.1 hil_305.2 (by decide) (by decide) hf_313.2.2.2.1.symm).trans (by rw [hne_320]))
          have hW_322 : itW fmt tp 0 0 4 0 ma (us3 0 0 frr) = itW fmt tp 0 0 2 6 max_310 (upd (upd frrx_2 1 (nI nx_208)) 2 (nI nx_312)) := hW_218.trans ((itW_go (f := 2) (m := 2) (q := 2) hf_223 hil_305.1 hil_305.2 (by decide) (by decide) hf_313.2.2.2.1.symm).trans (by rw [hne_320, hnv_321]))
          refine lv_iload_n hx hb dX7_items_85 rfl (lv_at hl 3 rfl) ?_
          refine lv_aload_n hx hb dX7_items_86 rfl (lv_at hl 2 rfl) ?_
          refine ky_Vi (As := []) (rest := [.int 0]) ⟨hx, hb, hml, hown, hts⟩ ⟨hK, hN⟩ hZ hP hD hS hA [1, 2] [0] (wc := [(Mm, .inr (7, [.int zth, .ref Mt, .int (nI tp), .int (nI max_310), .int (-1), .ref Mrr, .ref Mrh, .ref Mrc, .int (nI rh), .int (nI rc), .ref Mn, .ref Mf, .ref Mr, .ref Mh, .int zhp, .int zcc, .ref Ma, .ref Mas, .ref Msn, .ref Mac, .ref Mat])), (Mt, .inl (g 0, 160, .inl fmt))]) (wr := [(Mrr, .inl (g 0, 3, .inl (upd (upd frrx_2 1 (nI nx_208)) 2 (nI nx_312))))]) rfl rfl rfl rfl (by decide) (r_X7_ahead l D g H.size Mm zth Mt tp max_310 (-1) Mrr Mrh Mrc rh rc Mn Mf Mr Mh zhp zcc Ma Mas Msn Mac Mat fmt (show tp ≤ 160 by omega) (show max_310 ≤ tp by omega)) (cwV 0 hts gX7_items_X7_ahead rfl rfl rfl (by decide +kernel) ⟨(Nat.le_of_ble_eq_true rfl), (Nat.le_of_ble_eq_true rfl)⟩) 1 7 rfl rfl rfl rfl hl.1 rfl (Nat.le_of_ble_eq_true rfl) dX7_items_87 ⟨(Nat.le_of_ble_eq_true rfl), (Nat.le_of_ble_eq_true rfl)⟩ (fun r_323 u H locs hw hP2 hD2 hS2 => ?_)
          clear hP hD hS
          obtain ⟨max_324, rfl, rfl, hf_325, hf_326, hf_327⟩ := hw
          have hPD : PD D A [(Mrr, .inl (g 0, 3, .inl (upd (upd frrx_2 1 (nI nx_208)) 2 (nI nx_312)))), (Mm, .inr (7, [.int zth, .ref Mt, .int (nI tp), .int (nI max_324), .int (-1), .ref Mrr, .ref Mrh, .ref Mrc, .int (nI rh), .int (nI rc), .ref Mn, .ref Mf, .ref Mr, .ref Mh, .int zhp, .int zcc, .ref Ma, .ref Mas, .ref Msn, .ref Mac, .ref Mat])), (Mt, .inl (g 0, 160, .inl fmt))] H := ⟨hP2, hD2⟩
          have hS := hS2; clear hP2 hD2 hS2; have hP := hPD.1; have hD := hPD.2; clear hPD
          refine W.widen (k := 0) (n := 0) (Nat.le_of_ble_eq_true rfl) (Nat.le_of_ble_eq_true rfl) ?_
          refine lv_topi (fun y_328 hey_328 => ?_)
          refine ky_Si (As := [.int 0, .int y_328]) (rest := []) ⟨hx, hb, hml, hown, hts⟩ ⟨hK, hN⟩ hZ hP hD hS hA [] [0, 1, 2] (wc := []) (wr := [(Mrr, .inl (g 0, 3, .inl (upd (upd frrx_2 1 (nI nx_208)) 2 (nI nx_312)))), (Mm, .inr (7, [.int zth, .ref Mt, .int (nI tp), .int (nI max_324), .int (-1), .ref Mrr, .ref Mrh, .ref Mrc, .int (nI rh), .int (nI rc), .ref Mn, .ref Mf, .ref Mr, .ref Mh, .int zhp, .int zcc, .ref Ma, .ref Mas, .ref Msn, .ref Mac, .ref Mat])), (Mt, .inl (g 0, 160, .inl fmt))]) rfl rfl rfl rfl (by decide) (r_X7_itemBy_0 l D g H.size y_328) (va_cwS 2 hts gX7_items_X7_itemBy rfl rfl rfl (by decide +kernel) ⟨(Nat.le_of_ble_eq_true rfl), (Nat.le_of_ble_eq_true rfl)⟩) rfl hl.1 rfl (Nat.le_of_ble_eq_true rfl) dX7_items_90 ⟨(Nat.le_of_ble_eq_true rfl), (Nat.le_of_ble_eq_true rfl)⟩ (fun r_329 u H locs hw hP2 hD2 hS2 => ?_)
          clear hP hD hS
          obtain ⟨rfl, rfl⟩ := hw
          have hPD : PD D A [(Mrr, .inl (g 0, 3, .inl (upd (upd frrx_2 1 (nI nx_208)) 2 (nI nx_312)))), (Mm, .inr (7, [.int zth, .ref Mt, .int (nI tp), .int (nI max_324), .int (-1), .ref Mrr, .ref Mrh, .ref Mrc, .int (nI rh), .int (nI rc), .ref Mn, .ref Mf, .ref Mr, .ref Mh, .int zhp, .int zcc, .ref Ma, .ref Mas, .ref Msn, .ref Mac, .ref Mat])), (Mt, .inl (g 0, 160, .inl fmt))] H := ⟨hP2, hD2⟩
          have hS := hS2; clear hP2 hD2 hS2; have hP := hPD.1; have hD := hPD.2; clear hPD
          refine W.widen (k := 0) (n := 0) (Nat.le_of_ble_eq_true rfl) (Nat.le_of_ble_eq_true rfl) ?_
          rcases itK_c 0 y_328 with qi_330 | qi_330 | qi_330 | qi_330
          · skip
            refine lv_eqi (y := (-1)) (qi_330) ?_
            refine lv_istore (lv' := [(5, .int (-1)), (4, .int 6), (0, .ref Mm), (1, .int 0), (2, .ref Mrr), (3, .int 0)]) hx hb dX7_items_93 hl (by decide) rfl (fun ls hl => ?_)
            refine lv_goto (tgt := 20) hx hb dX7_items_95 (by decide) ?_
            refine lv_aload_n hx hb dX7_items_20 rfl (lv_at hl 2 rfl) ?_
            refine va_get (D := D) (ci := 7) (v := .int (-1)) (C := RX7) (T := TX7) (N := 21) hx hb hts iX7 hown hK hP 1 rfl rfl 4 (by decide) f71 (fun _ h9 => h9) rfl dX7_items_21 ?_
            refine lv_iconst (v := (-1)) hx hb dX7_items_24 (by decide) ?_
            refine lv_icmp_ne (tgt := 98) hx hb dX7_items_25 (by decide) (fun cb => absurd (by decide) cb) (fun _ => ?_)
            refine lv_iload hx hb dX7_items_28 (lv_at hl 0 rfl) ?_
            refine lv_iconst (v := (-1)) hx hb dX7_items_30 (by decide) ?_
            refine lv_icmp_eq (tgt := 98) hx hb dX7_items_31 (by decide) (fun _ => ?_) (fun cb => absurd (by decide) cb)
            have hPD9 : PD D A [(Mm, .inr (7, [.int zth, .ref Mt, .int (nI tp), .int (nI max_324), .int (-1), .ref Mrr, .ref Mrh, .ref Mrc, .int (nI rh), .int (nI rc), .ref Mn, .ref Mf, .ref Mr, .ref Mh, .int zhp, .int zcc, .ref Ma, .ref Mas, .ref Msn, .ref Mac, .ref Mat])), (Mt, .inl (g 0, 160, .inl fmt)), (Mrr, .inl (g 0, 3, .inl (upd (upd frrx_2 1 (nI nx_208)) 2 (nI nx_312))))] H := ⟨hP.sub [1, 2, 0] rfl, hD.sub [1, 2, 0] (by decide) rfl⟩
            have hP9 := hPD9.1; have hD9 := hPD9.2
            subst hQ
            refine W.widen (k := 0) (n := 0) (Nat.le_of_ble_eq_true rfl) (Nat.le_of_ble_eq_true rfl) ?_
            exact W.vret hx hb hr (fun tS htS _ => ⟨⟨_, rfl, ⟨max_324, (-1), (upd (upd frrx_2 1 (nI nx_208)) 2 (nI nx_312)), rfl, ⟨(n1_upd (n1_upd (hf_3) (n := nx_208) (show nx_208 ≤ 99 by omega)) (n := nx_312) (show nx_312 ≤ 99 by omega)), (show max_324 ≤ tp by omega), (show ma ≤ max_324 by omega), (congrArg Prod.fst (hR_319.trans (iv_m (f := 1) (m := 6) hf_327 hey_328.symm qi_330))).symm, (fun _ => (congrArg Prod.snd (hR_319.trans (iv_m (f := 1) (m := 6) hf_327 hey_328.symm qi_330))).symm), (fun _ => (hW_322.trans (iw_m (f := 1) (m := 6) hf_327 hey_328.symm qi_330)).symm)⟩⟩, by rw [htS]; exact hP9, hD9⟩, hS.F htS⟩) hS.2.2 dX7_items_98
          · skip
            refine lv_eqi (y := 0) (qi_330) ?_
            have hil_331 := iv_lt (k := 0) (q := 0) hey_328.symm qi_330 (by decide); have hil_331a := hil_331.1
            refine lv_istore (lv' := [(5, .int 0), (4, .int 6), (0, .ref Mm), (1, .int 0), (2, .ref Mrr), (3, .int 0)]) hx hb dX7_items_93 hl (by decide) rfl (fun ls hl => ?_)
            refine lv_goto (tgt := 20) hx hb dX7_items_95 (by decide) ?_
            refine lv_aload_n hx hb dX7_items_20 rfl (lv_at hl 2 rfl) ?_
            refine va_get (D := D) (ci := 7) (v := .int (-1)) (C := RX7) (T := TX7) (N := 21) hx hb hts iX7 hown hK hP 1 rfl rfl 4 (by decide) f71 (fun _ h9 => h9) rfl dX7_items_21 ?_
            refine lv_iconst (v := (-1)) hx hb dX7_items_24 (by decide) ?_
            refine lv_icmp_ne (tgt := 98) hx hb dX7_items_25 (by decide) (fun cb => absurd (by decide) cb) (fun _ => ?_)
            refine lv_iload hx hb dX7_items_28 (lv_at hl 0 rfl) ?_
            refine lv_iconst (v := (-1)) hx hb dX7_items_30 (by decide) ?_
            refine lv_icmp_eq (tgt := 98) hx hb dX7_items_31 (by decide) (fun cb => absurd cb (by decide)) (fun _ => ?_)
            refine lv_iload hx hb dX7_items_34 (lv_at hl 1 rfl) ?_
            refine lv_iload hx hb dX7_items_36 (lv_at hl 0 rfl) ?_
            refine ky_Si (As := [.int 6, .int 0]) (rest := []) ⟨hx, hb, hml, hown, hts⟩ ⟨hK, hN⟩ hZ hP hD hS hA [] [0, 1, 2] (wc := []) (wr := [(Mrr, .inl (g 0, 3, .inl (upd (upd frrx_2 1 (nI nx_208)) 2 (nI nx_312)))), (Mm, .inr (7, [.int zth, .ref Mt, .int (nI tp), .int (nI max_324), .int (-1), .ref Mrr, .ref Mrh, .ref Mrc, .int (nI rh), .int (nI rc), .ref Mn, .ref Mf, .ref Mr, .ref Mh, .int zhp, .int zcc, .ref Ma, .ref Mas, .ref Msn, .ref Mac, .ref Mat])), (Mt, .inl (g 0, 160, .inl fmt))]) rfl rfl rfl rfl (by decide) (r_X7_has_60 l D g H.size) (va_cwS 2 hts gX7_items_X7_has rfl rfl rfl (by decide +kernel) ⟨(Nat.le_of_ble_eq_true rfl), (Nat.le_of_ble_eq_true rfl)⟩) rfl hl.1 rfl (Nat.le_of_ble_eq_true rfl) dX7_items_38 ⟨(Nat.le_of_ble_eq_true rfl), (Nat.le_of_ble_eq_true rfl)⟩ (fun r_332 u H locs hw hP2 hD2 hS2 => ?_)
            clear hP hD hS
            obtain ⟨rfl, rfl⟩ := hw
            have hPD : PD D A [(Mrr, .inl (g 0, 3, .inl (upd (upd frrx_2 1 (nI nx_208)) 2 (nI nx_312)))), (Mm, .inr (7, [.int zth, .ref Mt, .int (nI tp), .int (nI max_324), .int (-1), .ref Mrr, .ref Mrh, .ref Mrc, .int (nI rh), .int (nI rc), .ref Mn, .ref Mf, .ref Mr, .ref Mh, .int zhp, .int zcc, .ref Ma, .ref Mas, .ref Msn, .ref Mac, .ref Mat])), (Mt, .inl (g 0, 160, .inl fmt))] H := ⟨hP2, hD2⟩
            have hS := hS2; clear hP2 hD2 hS2; have hP := hPD.1; have hD := hPD.2; clear hPD
            refine W.widen (k := 0) (n := 0) (Nat.le_of_ble_eq_true rfl) (Nat.le_of_ble_eq_true rfl) ?_
            refine lv_if_ne (tgt := 98) hx hb dX7_items_41 (by decide) (fun cb => absurd (by decide) cb) (fun _ => ?_)
            refine lv_iload hx hb dX7_items_44 (lv_at hl 1 rfl) ?_
            refine lv_iconst (v := 1) hx hb dX7_items_46 (by decide) ?_
            refine lv_iload hx hb dX7_items_47 (lv_at hl 0 rfl) ?_
            refine lv_ishl hx hb dX7_items_49 ?_
            refine lv_eqi (y := 1) (by decide) ?_
            refine lv_ior hx hb dX7_items_50 ?_
            refine lv_eqi (y := 7) (by decide) ?_
            refine lv_istore (lv' := [(4, .int 7), (5, .int 0), (0, .ref Mm), (1, .int 0), (2, .ref Mrr), (3, .int 0)]) hx hb dX7_items_51 hl (by decide) rfl (fun ls hl => ?_)
            refine lv_aload_n hx hb dX7_items_53 rfl (lv_at hl 2 rfl) ?_
            refine lv_dup hx hb dX7_items_54 rfl ?_
            refine va_get (D := D) (ci := 7) (v := .int (nI max_324)) (C := RX7) (T := TX7) (N := 21) hx hb hts iX7 hown hK hP 1 rfl rfl 3 (by decide) f64 (fun _ h9 => h9) rfl dX7_items_55 ?_
            refine lv_iconst (v := 1) hx hb dX7_items_58 (by decide) ?_
            refine lv_iadd hx hb dX7_items_59 ?_
            refine lv_eqi (y := (nI (max_324 + 1))) (nI_add (max_324) (1)) ?_
            refine va_put (D := D) (ci := 7) (v := .int (nI (max_324 + 1))) (ty := .int) (C := RX7) (T := TX7) (N := 21) hx hb hts iX7 tyX7 tyX7_ok nmX7 hown hK hP hD hS 1 rfl rfl 3 (by decide) f64 (fun _ h9 => h9) rfl (by decide +kernel) (rfl) (rfl) (Nat.le_of_ble_eq_true rfl) dX7_items_60 (fun H locs hP2 hD2 hS2 => ?_)
            clear hP hD hS
            have hPD : PD D A [(Mrr, .inl (g 0, 3, .inl (upd (upd frrx_2 1 (nI nx_208)) 2 (nI nx_312)))), (Mm, .inr (7, [.int zth, .ref Mt, .int (nI tp), .int (nI (max_324 + 1)), .int (-1), .ref Mrr, .ref Mrh, .ref Mrc, .int (nI rh), .int (nI rc), .ref Mn, .ref Mf, .ref Mr, .ref Mh, .int zhp, .int zcc, .ref Ma, .ref Mas, .ref Msn, .ref Mac, .ref Mat])), (Mt, .inl (g 0, 160, .inl fmt))] H := ⟨hP2, hD2⟩
            have hS := hS2; clear hP2 hD2 hS2; have hP := hPD.1; have hD := hPD.2; clear hPD
            refine lv_aload_n hx hb dX7_items_63 rfl (lv_at hl 4 rfl) ?_
            refine lv_iload_n hx hb dX7_items_64 rfl (lv_at hl 5 rfl) ?_
            refine lv_iload hx hb dX7_items_65 (lv_at hl 1 rfl) ?_
            refine lv_iadd hx hb dX7_items_67 ?_
            refine lv_eqi (y := 0) (by decide) ?_
            refine lv_aload_n hx hb dX7_items_68 rfl (lv_at hl 2 rfl) ?_
            refine lv_iload_n hx hb dX7_items_69 rfl (lv_at hl 3 rfl) ?_
            refine lv_iload hx hb dX7_items_70 (lv_at hl 1 rfl) ?_
            refine ky_Si (As := [.int 0, .int 0]) (rest := [.ref Mm, .int 0, .ref Mrr]) ⟨hx, hb, hml, hown, hts⟩ ⟨hK, hN⟩ hZ hP hD hS hA [] [0, 1, 2] (wc := []) (wr := [(Mrr, .inl (g 0, 3, .inl (upd (upd frrx_2 1 (nI nx_208)) 2 (nI nx_312)))), (Mm, .inr (7, [.int zth, .ref Mt, .int (nI tp), .int (nI (max_324 + 1)), .int (-1), .ref Mrr, .ref Mrh, .ref Mrc, .int (nI rh), .int (nI rc), .ref Mn, .ref Mf, .ref Mr, .ref Mh, .int zhp, .int zcc, .ref Ma, .ref Mas, .ref Msn, .ref Mac, .ref Mat])), (Mt, .inl (g 0, 160, .inl fmt))]) rfl rfl rfl rfl (by decide) (r_X7_lowest_00 l D g H.size) (va_cwS 2 hts gX7_items_X7_lowest rfl rfl rfl (by decide +kernel) ⟨(Nat.le_of_ble_eq_true rfl), (Nat.le_of_ble_eq_true rfl)⟩) rfl hl.1 rfl (Nat.le_of_ble_eq_true rfl) dX7_items_72 ⟨(Nat.le_of_ble_eq_true rfl), (Nat.le_of_ble_eq_true rfl)⟩ (fun r_333 u H locs hw hP2 hD2 hS2 => ?_)
            clear hP hD hS
            obtain ⟨rfl, rfl⟩ := hw
            have hPD : PD D A [(Mrr, .inl (g 0, 3, .inl (upd (upd frrx_2 1 (nI nx_208)) 2 (nI nx_312)))), (Mm, .inr (7, [.int zth, .ref Mt, .int (nI tp), .int (nI (max_324 + 1)), .int (-1), .ref Mrr, .ref Mrh, .ref Mrc, .int (nI rh), .int (nI rc), .ref Mn, .ref Mf, .ref Mr, .ref Mh, .int zhp, .int zcc, .ref Ma, .ref Mas, .ref Msn, .ref Mac, .ref Mat])), (Mt, .inl (g 0, 160, .inl fmt))] H := ⟨hP2, hD2⟩
            have hS := hS2; clear hP2 hD2 hS2; have hP := hPD.1; have hD := hPD.2; clear hPD
            refine W.widen (k := 0) (n := 0) (Nat.le_of_ble_eq_true rfl) (Nat.le_of_ble_eq_true rfl) ?_
            refine lv_iload_n hx hb dX7_items_75 rfl (lv_at hl 3 rfl) ?_
            refine lv_iload hx hb dX7_items_76 (lv_at hl 1 rfl) ?_
            refine ky_Si (As := [.int 0, .int 0]) (rest := [.int 1, .ref Mm, .int 0, .ref Mrr]) ⟨hx, hb, hml, hown, hts⟩ ⟨hK, hN⟩ hZ hP hD hS hA [] [0, 1, 2] (wc := []) (wr := [(Mrr, .inl (g 0, 3, .inl (upd (upd frrx_2 1 (nI nx_208)) 2 (nI nx_312)))), (Mm, .inr (7, [.int zth, .ref Mt, .int (nI tp), .int (nI (max_324 + 1)), .int (-1), .ref Mrr, .ref Mrh, .ref Mrc, .int (nI rh), .int (nI rc), .ref Mn, .ref Mf, .ref Mr, .ref Mh, .int zhp, .int zcc, .ref Ma, .ref Mas, .ref Msn, .ref Mac, .ref Mat])), (Mt, .inl (g 0, 160, .inl fmt))]) rfl rfl rfl rfl (by decide) (r_X7_highest_00 l D g H.size) (va_cwS 2 hts gX7_items_X7_highest rfl rfl rfl (by decide +kernel) ⟨(Nat.le_of_ble_eq_true rfl), (Nat.le_of_ble_eq_true rfl)⟩) rfl hl.1 rfl (Nat.le_of_ble_eq_true rfl) dX7_items_78 ⟨(Nat.le_of_ble_eq_true rfl), (Nat.le_of_ble_eq_true rfl)⟩ (fun r_334 u H locs hw hP2 hD2 hS2 => ?_)
            clear hP hD hS
            obtain ⟨rfl, rfl⟩ := hw
            have hPD : PD D A [(Mrr, .inl (g 0, 3, .inl (upd (upd frrx_2 1 (nI nx_208)) 2 (nI nx_312)))), (Mm, .inr (7, [.int zth, .ref Mt, .int (nI tp), .int (nI (max_324 + 1)), .int (-1), .ref Mrr, .ref Mrh, .ref Mrc, .int (nI rh), .int (nI rc), .ref Mn, .ref Mf, .ref Mr, .ref Mh, .int zhp, .int zcc, .ref Ma, .ref Mas, .ref Msn, .ref Mac, .ref Mat])), (Mt, .inl (g 0, 160, .inl fmt))] H := ⟨hP2, hD2⟩
            have hS := hS2; clear hP2 hD2 hS2; have hP := hPD.1; have hD := hPD.2; clear hPD
            refine W.widen (k := 0) (n := 0) (Nat.le_of_ble_eq_true rfl) (Nat.le_of_ble_eq_true rfl) ?_
            refine ky_Vi (As := [.int 1, .int 4]) (rest := [.int 0, .ref Mrr]) ⟨hx, hb, hml, hown, hts⟩ ⟨hK, hN⟩ hZ hP hD hS hA [1, 2] [0] (wc := [(Mm, .inr (7, [.int zth, .ref Mt, .int (nI tp), .int (nI (max_324 + 1)), .int (-1), .ref Mrr, .ref Mrh, .ref Mrc, .int (nI rh), .int (nI rc), .ref Mn, .ref Mf, .ref Mr, .ref Mh, .int zhp, .int zcc, .ref Ma, .ref Mas, .ref Msn, .ref Mac, .ref Mat])), (Mt, .inl (g 0, 160, .inl fmt))]) (wr := [(Mrr, .inl (g 0, 3, .inl (upd (upd frrx_2 1 (nI nx_208)) 2 (nI nx_312))))]) rfl rfl rfl rfl (by decide) (w_X7_number l D g H.size Mm 1 4 zth Mt tp (max_324 + 1) Mrr Mrh Mrc rh rc Mn Mf Mr Mh zhp zcc Ma Mas Msn Mac Mat fmt (show tp ≤ 160 by omega) (show (max_324 + 1) ≤ tp by omega) (show 1 ≤ 1 by omega)) (cwV 2 hts gX7_items_X7_number rfl rfl rfl (by decide +kernel) ⟨(Nat.le_of_ble_eq_true rfl), (Nat.le_of_ble_eq_true rfl)⟩) 1 7 rfl rfl rfl rfl hl.1 rfl (Nat.le_of_ble_eq_true rfl) dX7_items_81 ⟨(Nat.le_of_ble_eq_true rfl), (Nat.le_of_ble_eq_true rfl)⟩ (fun r_335 u H locs hw hP2 hD2 hS2 => ?_)
            clear hP hD hS
            obtain ⟨max_336, zwrx_337, nx_338, rfl, rfl, hf_339⟩ := hw
            have hg_340 := hf_339.1
            have hg_341 := hf_339.2.1
            have hg_342 := hf_339.2.2.1
            have hPD : PD D A [(Mrr, .inl (g 0, 3, .inl (upd (upd frrx_2 1 (nI nx_208)) 2 (nI nx_312)))), (Mm, .inr (7, [.int zth, .ref Mt, .int (nI tp), .int (nI max_336), .int zwrx_337, .ref Mrr, .ref Mrh, .ref Mrc, .int (nI rh), .int (nI rc), .ref Mn, .ref Mf, .ref Mr, .ref Mh, .int zhp, .int zcc, .ref Ma, .ref Mas, .ref Msn, .ref Mac, .ref Mat])), (Mt, .inl (g 0, 160, .inl fmt))] H := ⟨hP2, hD2⟩
            have hS := hS2; clear hP2 hD2 hS2; have hP := hPD.1; have hD := hPD.2; clear hPD
            refine W.widen (k := 0) (n := 0) (Nat.le_of_ble_eq_true rfl) (Nat.le_of_ble_eq_true rfl) ?_
            refine va_iast hx hb hK hP hD hS 0 0 rfl rfl (by unfold vp_in; decide) dX7_items_84 (fun H locs hP2 hD2 hS2 => ?_)
            clear hP hD hS
            have hPD : PD D A [(Mrr, .inl (g 0, 3, .inl (upd (upd (upd frrx_2 1 (nI nx_208)) 2 (nI nx_312)) 0 (nI nx_338)))), (Mm, .inr (7, [.int zth, .ref Mt, .int (nI tp), .int (nI max_336), .int zwrx_337, .ref Mrr, .ref Mrh, .ref Mrc, .int (nI rh), .int (nI rc), .ref Mn, .ref Mf, .ref Mr, .ref Mh, .int zhp, .int zcc, .ref Ma, .ref Mas, .ref Msn, .ref Mac, .ref Mat])), (Mt, .inl (g 0, 160, .inl fmt))] H := ⟨hP2, hD2⟩
            have hS := hS2; clear hP2 hD2 hS2; have hP := hPD.1; have hD := hPD.2; clear hPD
            by_cases cw_343 : zwrx_337 = -1
            · skip
              have hPq_344 := hP; have hDq_344 := hD; have hSq_344 := hS; have hlq_344 := hl; clear hP hD hS hl
              subst cw_343
              have hP := hPq_344; have hD := hDq_344; have hS := hSq_344; have hl := hlq_344; clear hPq_344 hDq_344 hSq_344 hlq_344
              have hne_346 := hf_339.2.2.2.2.1 rfl
              have hnv_347 := hf_339.2.2.2.2.2 rfl
              have hR_345 : itR fmt tp 0 4 0 ma = itR fmt tp 0 1 7 max_336 := hR_319.trans ((itR_go (f := 1) (m := 6) (q := 0) hf_327 hil_331.1 hil_331.2 (by decide) (by decide) hf_339.2.2.2.1.symm).trans (by rw [hne_346]))
              have hW_348 : itW fmt tp 0 0 4 0 ma (us3 0 0 frr) = itW fmt tp 0 0 1 7 max_336 (upd (upd (upd frrx_2 1 (nI nx_208)) 2 (nI nx_312)) 0 (nI nx_338)) := hW_322.trans ((itW_go (f := 1) (m := 6) (q := 0) hf_327 hil_331.1 hil_331.2 (by decide) (by decide) hf_339.2.2.2.1.symm).trans (by rw [hne_346, hnv_347]))
              refine lv_iload_n hx hb dX7_items_85 rfl (lv_at hl 3 rfl) ?_
              refine lv_aload_n hx hb dX7_items_86 rfl (lv_at hl 2 rfl) ?_
              refine ky_Vi (As := []) (rest := [.int 0]) ⟨hx, hb, hml, hown, hts⟩ ⟨hK, hN⟩ hZ hP hD hS hA [1, 2] [0] (wc := [(Mm, .inr (7, [.int zth, .ref Mt, .int (nI tp), .int (nI max_336), .int (-1), .ref Mrr, .ref Mrh, .ref Mrc, .int (nI rh), .int (nI rc), .ref Mn, .ref Mf, .ref Mr, .ref Mh, .int zhp, .int zcc, .ref Ma, .ref Mas, .ref Msn, .ref Mac, .ref Mat])), (Mt, .inl (g 0, 160, .inl fmt))]) (wr := [(Mrr, .inl (g 0, 3, .inl (upd (upd (upd frrx_2 1 (nI nx_208)) 2 (nI nx_312)) 0 (nI nx_338))))]) rfl rfl rfl rfl (by decide) (r_X7_ahead l D g H.size Mm zth Mt tp max_336 (-1) Mrr Mrh Mrc rh rc Mn Mf Mr Mh zhp zcc Ma Mas Msn Mac Mat fmt (show tp ≤ 160 by omega) (show max_336 ≤ tp by omega)) (cwV 0 hts gX7_items_X7_ahead rfl rfl rfl (by decide +kernel) ⟨(Nat.le_of_ble_eq_true rfl), (Nat.le_of_ble_eq_true rfl)⟩) 1 7 rfl rfl rfl rfl hl.1 rfl (Nat.le_of_ble_eq_true rfl) dX7_items_87 ⟨(Nat.le_of_ble_eq_true rfl), (Nat.le_of_ble_eq_true rfl)⟩ (fun r_349 u H locs hw hP2 hD2 hS2 => ?_)
              clear hP hD hS
              obtain ⟨max_350, rfl, rfl, hf_351, hf_352, hf_353⟩ := hw
              have hPD : PD D A [(Mrr, .inl (g 0, 3, .inl (upd (upd (upd frrx_2 1 (nI nx_208)) 2 (nI nx_312)) 0 (nI nx_338)))), (Mm, .inr (7, [.int zth, .ref Mt, .int (nI tp), .int (nI max_350), .int (-1), .ref Mrr, .ref Mrh, .ref Mrc, .int (nI rh), .int (nI rc), .ref Mn, .ref Mf, .ref Mr, .ref Mh, .int zhp, .int zcc, .ref Ma, .ref Mas, .ref Msn, .ref Mac, .ref Mat])), (Mt, .inl (g 0, 160, .inl fmt))] H := ⟨hP2, hD2⟩
              have hS := hS2; clear hP2 hD2 hS2; have hP := hPD.1; have hD := hPD.2; clear hPD
              refine W.widen (k := 0) (n := 0) (Nat.le_of_ble_eq_true rfl) (Nat.le_of_ble_eq_true rfl) ?_
              refine lv_topi (fun y_354 hey_354 => ?_)
              refine ky_Si (As := [.int 0, .int y_354]) (rest := []) ⟨hx, hb, hml, hown, hts⟩ ⟨hK, hN⟩ hZ hP hD hS hA [] [0, 1, 2] (wc := []) (wr := [(Mrr, .inl (g 0, 3, .inl (upd (upd (upd frrx_2 1 (nI nx_208)) 2 (nI nx_312)) 0 (nI nx_338)))), (Mm, .inr (7, [.int zth, .ref Mt, .int (nI tp), .int (nI max_350), .int (-1), .ref Mrr, .ref Mrh, .ref Mrc, .int (nI rh), .int (nI rc), .ref Mn, .ref Mf, .ref Mr, .ref Mh, .int zhp, .int zcc, .ref Ma, .ref Mas, .ref Msn, .ref Mac, .ref Mat])), (Mt, .inl (g 0, 160, .inl fmt))]) rfl rfl rfl rfl (by decide) (r_X7_itemBy_0 l D g H.size y_354) (va_cwS 2 hts gX7_items_X7_itemBy rfl rfl rfl (by decide +kernel) ⟨(Nat.le_of_ble_eq_true rfl), (Nat.le_of_ble_eq_true rfl)⟩) rfl hl.1 rfl (Nat.le_of_ble_eq_true rfl) dX7_items_90 ⟨(Nat.le_of_ble_eq_true rfl), (Nat.le_of_ble_eq_true rfl)⟩ (fun r_355 u H locs hw hP2 hD2 hS2 => ?_)
              clear hP hD hS
              obtain ⟨rfl, rfl⟩ := hw
              have hPD : PD D A [(Mrr, .inl (g 0, 3, .inl (upd (upd (upd frrx_2 1 (nI nx_208)) 2 (nI nx_312)) 0 (nI nx_338)))), (Mm, .inr (7, [.int zth, .ref Mt, .int (nI tp), .int (nI max_350), .int (-1), .ref Mrr, .ref Mrh, .ref Mrc, .int (nI rh), .int (nI rc), .ref Mn, .ref Mf, .ref Mr, .ref Mh, .int zhp, .int zcc, .ref Ma, .ref Mas, .ref Msn, .ref Mac, .ref Mat])), (Mt, .inl (g 0, 160, .inl fmt))] H := ⟨hP2, hD2⟩
              have hS := hS2; clear hP2 hD2 hS2; have hP := hPD.1; have hD := hPD.2; clear hPD
              refine W.widen (k := 0) (n := 0) (Nat.le_of_ble_eq_true rfl) (Nat.le_of_ble_eq_true rfl) ?_
              rcases itK_c 0 y_354 with qi_356 | qi_356 | qi_356 | qi_356
              · skip
                refine lv_eqi (y := (-1)) (qi_356) ?_
                refine lv_istore (lv' := [(5, .int (-1)), (4, .int 7), (0, .ref Mm), (1, .int 0), (2, .ref Mrr), (3, .int 0)]) hx hb dX7_items_93 hl (by decide) rfl (fun ls hl => ?_)
                refine lv_goto (tgt := 20) hx hb dX7_items_95 (by decide) ?_
                refine lv_aload_n hx hb dX7_items_20 rfl (lv_at hl 2 rfl) ?_
                refine va_get (D := D) (ci := 7) (v := .int (-1)) (C := RX7) (T := TX7) (N := 21) hx hb hts iX7 hown hK hP 1 rfl rfl 4 (by decide) f71 (fun _ h9 => h9) rfl dX7_items_21 ?_
                refine lv_iconst (v := (-1)) hx hb dX7_items_24 (by decide) ?_
                refine lv_icmp_ne (tgt := 98) hx hb dX7_items_25 (by decide) (fun cb => absurd (by decide) cb) (fun _ => ?_)
                refine lv_iload hx hb dX7_items_28 (lv_at hl 0 rfl) ?_
                refine lv_iconst (v := (-1)) hx hb dX7_items_30 (by decide) ?_
                refine lv_icmp_eq (tgt := 98) hx hb dX7_items_31 (by decide) (fun _ => ?_) (fun cb => absurd (by decide) cb)
                have hPD9 : PD D A [(Mm, .inr (7, [.int zth, .ref Mt, .int (nI tp), .int (nI max_350), .int (-1), .ref Mrr, .ref Mrh, .ref Mrc, .int (nI rh), .int (nI rc), .ref Mn, .ref Mf, .ref Mr, .ref Mh, .int zhp, .int zcc, .ref Ma, .ref Mas, .ref Msn, .ref Mac, .ref Mat])), (Mt, .inl (g 0, 160, .inl fmt)), (Mrr, .inl (g 0, 3, .inl (upd (upd (upd frrx_2 1 (nI nx_208)) 2 (nI nx_312)) 0 (nI nx_338))))] H := ⟨hP.sub [1, 2, 0] rfl, hD.sub [1, 2, 0] (by decide) rfl⟩
                have hP9 := hPD9.1; have hD9 := hPD9.2
                subst hQ
                refine W.widen (k := 0) (n := 0) (Nat.le_of_ble_eq_true rfl) (Nat.le_of_ble_eq_true rfl) ?_
                exact W.vret hx hb hr (fun tS htS _ => ⟨⟨_, rfl, ⟨max_350, (-1), (upd (upd (upd frrx_2 1 (nI nx_208)) 2 (nI nx_312)) 0 (nI nx_338)), rfl, ⟨(n1_upd (n1_upd (n1_upd (hf_3) (n := nx_208) (show nx_208 ≤ 99 by omega)) (n := nx_312) (show nx_312 ≤ 99 by omega)) (n := nx_338) (show nx_338 ≤ 99 by omega)), (show max_350 ≤ tp by omega), (show ma ≤ max_350 by omega), (congrArg Prod.fst (hR_345.trans (iv_m (f := 0) (m := 7) hf_353 hey_354.symm qi_356))).symm, (fun _ => (congrArg Prod.snd (hR_345.trans (iv_m (f := 0) (m := 7) hf_353 hey_354.symm qi_356))).symm), (fun _ => (hW_348.trans (iw_m (f := 0) (m := 7) hf_353 hey_354.symm qi_356)).symm)⟩⟩, by rw [htS]; exact hP9, hD9⟩, hS.F htS⟩) hS.2.2 dX7_items_98
              · skip
                refine lv_eqi (y := 0) (qi_356) ?_
                have hil_357 := iv_lt (k := 0) (q := 0) hey_354.symm qi_356 (by decide); have hil_357a := hil_357.1
                refine lv_istore (lv' := [(5, .int 0), (4, .int 7), (0, .ref Mm), (1, .int 0), (2, .ref Mrr), (3, .int 0)]) hx hb dX7_items_93 hl (by decide) rfl (fun ls hl => ?_)
                refine lv_goto (tgt := 20) hx hb dX7_items_95 (by decide) ?_
                refine lv_aload_n hx hb dX7_items_20 rfl (lv_at hl 2 rfl) ?_
                refine va_get (D := D) (ci := 7) (v := .int (-1)) (C := RX7) (T := TX7) (N := 21) hx hb hts iX7 hown hK hP 1 rfl rfl 4 (by decide) f71 (fun _ h9 => h9) rfl dX7_items_21 ?_
                refine lv_iconst (v := (-1)) hx hb dX7_items_24 (by decide) ?_
                refine lv_icmp_ne (tgt := 98) hx hb dX7_items_25 (by decide) (fun cb => absurd (by decide) cb) (fun _ => ?_)
                refine lv_iload hx hb dX7_items_28 (lv_at hl 0 rfl) ?_
                refine lv_iconst (v := (-1)) hx hb dX7_items_30 (by decide) ?_
                refine lv_icmp_eq (tgt := 98) hx hb dX7_items_31 (by decide) (fun cb => absurd cb (by decide)) (fun _ => ?_)
                refine lv_iload hx hb dX7_items_34 (lv_at hl 1 rfl) ?_
                refine lv_iload hx hb dX7_items_36 (lv_at hl 0 rfl) ?_
                refine ky_Si (As := [.int 7, .int 0]) (rest := []) ⟨hx, hb, hml, hown, hts⟩ ⟨hK, hN⟩ hZ hP hD hS hA [] [0, 1, 2] (wc := []) (wr := [(Mrr, .inl (g 0, 3, .inl (upd (upd (upd frrx_2 1 (nI nx_208)) 2 (nI nx_312)) 0 (nI nx_338)))), (Mm, .inr (7, [.int zth, .ref Mt, .int (nI tp), .int (nI max_350), .int (-1), .ref Mrr, .ref Mrh, .ref Mrc, .int (nI rh), .int (nI rc), .ref Mn, .ref Mf, .ref Mr, .ref Mh, .int zhp, .int zcc, .ref Ma, .ref Mas, .ref Msn, .ref Mac, .ref Mat])), (Mt, .inl (g 0, 160, .inl fmt))]) rfl rfl rfl rfl (by decide) (r_X7_has_70 l D g H.size) (va_cwS 2 hts gX7_items_X7_has rfl rfl rfl (by decide +kernel) ⟨(Nat.le_of_ble_eq_true rfl), (Nat.le_of_ble_eq_true rfl)⟩) rfl hl.1 rfl (Nat.le_of_ble_eq_true rfl) dX7_items_38 ⟨(Nat.le_of_ble_eq_true rfl), (Nat.le_of_ble_eq_true rfl)⟩ (fun r_358 u H locs hw hP2 hD2 hS2 => ?_)
                clear hP hD hS
                obtain ⟨rfl, rfl⟩ := hw
                have hPD : PD D A [(Mrr, .inl (g 0, 3, .inl (upd (upd (upd frrx_2 1 (nI nx_208)) 2 (nI nx_312)) 0 (nI nx_338)))), (Mm, .inr (7, [.int zth, .ref Mt, .int (nI tp), .int (nI max_350), .int (-1), .ref Mrr, .ref Mrh, .ref Mrc, .int (nI rh), .int (nI rc), .ref Mn, .ref Mf, .ref Mr, .ref Mh, .int zhp, .int zcc, .ref Ma, .ref Mas, .ref Msn, .ref Mac, .ref Mat])), (Mt, .inl (g 0, 160, .inl fmt))] H := ⟨hP2, hD2⟩
                have hS := hS2; clear hP2 hD2 hS2; have hP := hPD.1; have hD := hPD.2; clear hPD
                refine W.widen (k := 0) (n := 0) (Nat.le_of_ble_eq_true rfl) (Nat.le_of_ble_eq_true rfl) ?_
                refine lv_if_ne (tgt := 98) hx hb dX7_items_41 (by decide) (fun _ => ?_) (fun cb => absurd cb (by decide))
                have hPD9 : PD D A [(Mm, .inr (7, [.int zth, .ref Mt, .int (nI tp), .int (nI max_350), .int (-1), .ref Mrr, .ref Mrh, .ref Mrc, .int (nI rh), .int (nI rc), .ref Mn, .ref Mf, .ref Mr, .ref Mh, .int zhp, .int zcc, .ref Ma, .ref Mas, .ref Msn, .ref Mac, .ref Mat])), (Mt, .inl (g 0, 160, .inl fmt)), (Mrr, .inl (g 0, 3, .inl (upd (upd (upd frrx_2 1 (nI nx_208)) 2 (nI nx_312)) 0 (nI nx_338))))] H := ⟨hP.sub [1, 2, 0] rfl, hD.sub [1, 2, 0] (by decide) rfl⟩
                have hP9 := hPD9.1; have hD9 := hPD9.2
                subst hQ
                refine W.widen (k := 0) (n := 0) (Nat.le_of_ble_eq_true rfl) (Nat.le_of_ble_eq_true rfl) ?_
                exact W.vret hx hb hr (fun tS htS _ => ⟨⟨_, rfl, ⟨max_350, (-1), (upd (upd (upd frrx_2 1 (nI nx_208)) 2 (nI nx_312)) 0 (nI nx_338)), rfl, ⟨(n1_upd (n1_upd (n1_upd (hf_3) (n := nx_208) (show nx_208 ≤ 99 by omega)) (n := nx_312) (show nx_312 ≤ 99 by omega)) (n := nx_338) (show nx_338 ≤ 99 by omega)), (show max_350 ≤ tp by omega), (show ma ≤ max_350 by omega), (congrArg Prod.fst (hR_345.trans (itR_again (f := 0) (m := 7) (q := 0) hf_353 hil_357.2 (by decide) (by decide)))).symm, (fun _ => (congrArg Prod.snd (hR_345.trans (itR_again (f := 0) (m := 7) (q := 0) hf_353 hil_357.2 (by decide) (by decide)))).symm), (fun _ => (hW_348.trans (itW_again (f := 0) (m := 7) (q := 0) hf_353 hil_357.2 (by decide) (by decide))).symm)⟩⟩, by rw [htS]; exact hP9, hD9⟩, hS.F htS⟩) hS.2.2 dX7_items_98
              · skip
                refine lv_eqi (y := 1) (qi_356) ?_
                have hil_359 := iv_lt (k := 0) (q := 1) hey_354.symm qi_356 (by decide); have hil_359a := hil_359.1
                refine lv_istore (lv' := [(5, .int 1), (4, .int 7), (0, .ref Mm), (1, .int 0), (2, .ref Mrr), (3, .int 0)]) hx hb dX7_items_93 hl (by decide) rfl (fun ls hl => ?_)
                refine lv_goto (tgt := 20) hx hb dX7_items_95 (by decide) ?_
                refine lv_aload_n hx hb dX7_items_20 rfl (lv_at hl 2 rfl) ?_
                refine va_get (D := D) (ci := 7) (v := .int (-1)) (C := RX7) (T := TX7) (N := 21) hx hb hts iX7 hown hK hP 1 rfl rfl 4 (by decide) f71 (fun _ h9 => h9) rfl dX7_items_21 ?_
                refine lv_iconst (v := (-1)) hx hb dX7_items_24 (by decide) ?_
                refine lv_icmp_ne (tgt := 98) hx hb dX7_items_25 (by decide) (fun cb => absurd (by decide) cb) (fun _ => ?_)
                refine lv_iload hx hb dX7_items_28 (lv_at hl 0 rfl) ?_
                refine lv_iconst (v := (-1)) hx hb dX7_items_30 (by decide) ?_
                refine lv_icmp_eq (tgt := 98) hx hb dX7_items_31 (by decide) (fun cb => absurd cb (by decide)) (fun _ => ?_)
                refine lv_iload hx hb dX7_items_34 (lv_at hl 1 rfl) ?_
                refine lv_iload hx hb dX7_items_36 (lv_at hl 0 rfl) ?_
                refine ky_Si (As := [.int 7, .int 1]) (rest := []) ⟨hx, hb, hml, hown, hts⟩ ⟨hK, hN⟩ hZ hP hD hS hA [] [0, 1, 2] (wc := []) (wr := [(Mrr, .inl (g 0, 3, .inl (upd (upd (upd frrx_2 1 (nI nx_208)) 2 (nI nx_312)) 0 (nI nx_338)))), (Mm, .inr (7, [.int zth, .ref Mt, .int (nI tp), .int (nI max_350), .int (-1), .ref Mrr, .ref Mrh, .ref Mrc, .int (nI rh), .int (nI rc), .ref Mn, .ref Mf, .ref Mr, .ref Mh, .int zhp, .int zcc, .ref Ma, .ref Mas, .ref Msn, .ref Mac, .ref Mat])), (Mt, .inl (g 0, 160, .inl fmt))]) rfl rfl rfl rfl (by decide) (r_X7_has_71 l D g H.size) (va_cwS 2 hts gX7_items_X7_has rfl rfl rfl (by decide +kernel) ⟨(Nat.le_of_ble_eq_true rfl), (Nat.le_of_ble_eq_true rfl)⟩) rfl hl.1 rfl (Nat.le_of_ble_eq_true rfl) dX7_items_38 ⟨(Nat.le_of_ble_eq_true rfl), (Nat.le_of_ble_eq_true rfl)⟩ (fun r_360 u H locs hw hP2 hD2 hS2 => ?_)
                clear hP hD hS
                obtain ⟨rfl, rfl⟩ := hw
                have hPD : PD D A [(Mrr, .inl (g 0, 3, .inl (upd (upd (upd frrx_2 1 (nI nx_208)) 2 (nI nx_312)) 0 (nI nx_338)))), (Mm, .inr (7, [.int zth, .ref Mt, .int (nI tp), .int (nI max_350), .int (-1), .ref Mrr, .ref Mrh, .ref Mrc, .int (nI rh), .int (nI rc), .ref Mn, .ref Mf, .ref Mr, .ref Mh, .int zhp, .int zcc, .ref Ma, .ref Mas, .ref Msn, .ref Mac, .ref Mat])), (Mt, .inl (g 0, 160, .inl fmt))] H := ⟨hP2, hD2⟩
                have hS := hS2; clear hP2 hD2 hS2; have hP := hPD.1; have hD := hPD.2; clear hPD
                refine W.widen (k := 0) (n := 0) (Nat.le_of_ble_eq_true rfl) (Nat.le_of_ble_eq_true rfl) ?_
                refine lv_if_ne (tgt := 98) hx hb dX7_items_41 (by decide) (fun _ => ?_) (fun cb => absurd cb (by decide))
                have hPD9 : PD D A [(Mm, .inr (7, [.int zth, .ref Mt, .int (nI tp), .int (nI max_350), .int (-1), .ref Mrr, .ref Mrh, .ref Mrc, .int (nI rh), .int (nI rc), .ref Mn, .ref Mf, .ref Mr, .ref Mh, .int zhp, .int zcc, .ref Ma, .ref Mas, .ref Msn, .ref Mac, .ref Mat])), (Mt, .inl (g 0, 160, .inl fmt)), (Mrr, .inl (g 0, 3, .inl (upd (upd (upd frrx_2 1 (nI nx_208)) 2 (nI nx_312)) 0 (nI nx_338))))] H := ⟨hP.sub [1, 2, 0] rfl, hD.sub [1, 2, 0] (by decide) rfl⟩
                have hP9 := hPD9.1; have hD9 := hPD9.2
                subst hQ
                refine W.widen (k := 0) (n := 0) (Nat.le_of_ble_eq_true rfl) (Nat.le_of_ble_eq_true rfl) ?_
                exact W.vret hx hb hr (fun tS htS _ => ⟨⟨_, rfl, ⟨max_350, (-1), (upd (upd (upd frrx_2 1 (nI nx_208)) 2 (nI nx_312)) 0 (nI nx_338)), rfl, ⟨(n1_upd (n1_upd (n1_upd (hf_3) (n := nx_208) (show nx_208 ≤ 99 by omega)) (n := nx_312) (show nx_312 ≤ 99 by omega)) (n := nx_338) (show nx_338 ≤ 99 by omega)), (show max_350 ≤ tp by omega), (show ma ≤ max_350 by omega), (congrArg Prod.fst (hR_345.trans (itR_again (f := 0) (m := 7) (q := 1) hf_353 hil_359.2 (by decide) (by decide)))).symm, (fun _ => (congrArg Prod.snd (hR_345.trans (itR_again (f := 0) (m := 7) (q := 1) hf_353 hil_359.2 (by decide) (by decide)))).symm), (fun _ => (hW_348.trans (itW_again (f := 0) (m := 7) (q := 1) hf_353 hil_359.2 (by decide) (by decide))).symm)⟩⟩, by rw [htS]; exact hP9, hD9⟩, hS.F htS⟩) hS.2.2 dX7_items_98
              · skip
                refine lv_eqi (y := 2) (qi_356) ?_
                have hil_361 := iv_lt (k := 0) (q := 2) hey_354.symm qi_356 (by decide); have hil_361a := hil_361.1
                refine lv_istore (lv' := [(5, .int 2), (4, .int 7), (0, .ref Mm), (1, .int 0), (2, .ref Mrr), (3, .int 0)]) hx hb dX7_items_93 hl (by decide) rfl (fun ls hl => ?_)
                refine lv_goto (tgt := 20) hx hb dX7_items_95 (by decide) ?_
                refine lv_aload_n hx hb dX7_items_20 rfl (lv_at hl 2 rfl) ?_
                refine va_get (D := D) (ci := 7) (v := .int (-1)) (C := RX7) (T := TX7) (N := 21) hx hb hts iX7 hown hK hP 1 rfl rfl 4 (by decide) f71 (fun _ h9 => h9) rfl dX7_items_21 ?_
                refine lv_iconst (v := (-1)) hx hb dX7_items_24 (by decide) ?_
                refine lv_icmp_ne (tgt := 98) hx hb dX7_items_25 (by decide) (fun cb => absurd (by decide) cb) (fun _ => ?_)
                refine lv_iload hx hb dX7_items_28 (lv_at hl 0 rfl) ?_
                refine lv_iconst (v := (-1)) hx hb dX7_items_30 (by decide) ?_
                refine lv_icmp_eq (tgt := 98) hx hb dX7_items_31 (by decide) (fun cb => absurd cb (by decide)) (fun _ => ?_)
                refine lv_iload hx hb dX7_items_34 (lv_at hl 1 rfl) ?_
                refine lv_iload hx hb dX7_items_36 (lv_at hl 0 rfl) ?_
                refine ky_Si (As := [.int 7, .int 2]) (rest := []) ⟨hx, hb, hml, hown, hts⟩ ⟨hK, hN⟩ hZ hP hD hS hA [] [0, 1, 2] (wc := []) (wr := [(Mrr, .inl (g 0, 3, .inl (upd (upd (upd frrx_2 1 (nI nx_208)) 2 (nI nx_312)) 0 (nI nx_338)))), (Mm, .inr (7, [.int zth, .ref Mt, .int (nI tp), .int (nI max_350), .int (-1), .ref Mrr, .ref Mrh, .ref Mrc, .int (nI rh), .int (nI rc), .ref Mn, .ref Mf, .ref Mr, .ref Mh, .int zhp, .int zcc, .ref Ma, .ref Mas, .ref Msn, .ref Mac, .ref Mat])), (Mt, .inl (g 0, 160, .inl fmt))]) rfl rfl rfl rfl (by decide) (r_X7_has_72 l D g H.size) (va_cwS 2 hts gX7_items_X7_has rfl rfl rfl (by decide +kernel) ⟨(Nat.le_of_ble_eq_true rfl), (Nat.le_of_ble_eq_true rfl)⟩) rfl hl.1 rfl (Nat.le_of_ble_eq_true rfl) dX7_items_38 ⟨(Nat.le_of_ble_eq_true rfl), (Nat.le_of_ble_eq_true rfl)⟩ (fun r_362 u H locs hw hP2 hD2 hS2 => ?_)
                clear hP hD hS
                obtain ⟨rfl, rfl⟩ := hw
                have hPD : PD D A [(Mrr, .inl (g 0, 3, .inl (upd (upd (upd frrx_2 1 (nI nx_208)) 2 (nI nx_312)) 0 (nI nx_338)))), (Mm, .inr (7, [.int zth, .ref Mt, .int (nI tp), .int (nI max_350), .int (-1), .ref Mrr, .ref Mrh, .ref Mrc, .int (nI rh), .int (nI rc), .ref Mn, .ref Mf, .ref Mr, .ref Mh, .int zhp, .int zcc, .ref Ma, .ref Mas, .ref Msn, .ref Mac, .ref Mat])), (Mt, .inl (g 0, 160, .inl fmt))] H := ⟨hP2, hD2⟩
                have hS := hS2; clear hP2 hD2 hS2; have hP := hPD.1; have hD := hPD.2; clear hPD
                refine W.widen (k := 0) (n := 0) (Nat.le_of_ble_eq_true rfl) (Nat.le_of_ble_eq_true rfl) ?_
                refine lv_if_ne (tgt := 98) hx hb dX7_items_41 (by decide) (fun _ => ?_) (fun cb => absurd cb (by decide))
                have hPD9 : PD D A [(Mm, .inr (7, [.int zth, .ref Mt, .int (nI tp), .int (nI max_350), .int (-1), .ref Mrr, .ref Mrh, .ref Mrc, .int (nI rh), .int (nI rc), .ref Mn, .ref Mf, .ref Mr, .ref Mh, .int zhp, .int zcc, .ref Ma, .ref Mas, .ref Msn, .ref Mac, .ref Mat])), (Mt, .inl (g 0, 160, .inl fmt)), (Mrr, .inl (g 0, 3, .inl (upd (upd (upd frrx_2 1 (nI nx_208)) 2 (nI nx_312)) 0 (nI nx_338))))] H := ⟨hP.sub [1, 2, 0] rfl, hD.sub [1, 2, 0] (by decide) rfl⟩
                have hP9 := hPD9.1; have hD9 := hPD9.2
                subst hQ
                refine W.widen (k := 0) (n := 0) (Nat.le_of_ble_eq_true rfl) (Nat.le_of_ble_eq_true rfl) ?_
                exact W.vret hx hb hr (fun tS htS _ => ⟨⟨_, rfl, ⟨max_350, (-1), (upd (upd (upd frrx_2 1 (nI nx_208)) 2 (nI nx_312)) 0 (nI nx_338)), rfl, ⟨(n1_upd (n1_upd (n1_upd (hf_3) (n := nx_208) (show nx_208 ≤ 99 by omega)) (n := nx_312) (show nx_312 ≤ 99 by omega)) (n := nx_338) (show nx_338 ≤ 99 by omega)), (show max_350 ≤ tp by omega), (show ma ≤ max_350 by omega), (congrArg Prod.fst (hR_345.trans (itR_again (f := 0) (m := 7) (q := 2) hf_353 hil_361.2 (by decide) (by decide)))).symm, (fun _ => (congrArg Prod.snd (hR_345.trans (itR_again (f := 0) (m := 7) (q := 2) hf_353 hil_361.2 (by decide) (by decide)))).symm), (fun _ => (hW_348.trans (itW_again (f := 0) (m := 7) (q := 2) hf_353 hil_361.2 (by decide) (by decide))).symm)⟩⟩, by rw [htS]; exact hP9, hD9⟩, hS.F htS⟩) hS.2.2 dX7_items_98
            · skip
              refine lv_iload_n hx hb dX7_items_85 rfl (lv_at hl 3 rfl) ?_
              refine lv_aload_n hx hb dX7_items_86 rfl (lv_at hl 2 rfl) ?_
              refine ky_Vi (As := []) (rest := [.int 0]) ⟨hx, hb, hml, hown, hts⟩ ⟨hK, hN⟩ hZ hP hD hS hA [1, 2] [0] (wc := [(Mm, .inr (7, [.int zth, .ref Mt, .int (nI tp), .int (nI max_336), .int zwrx_337, .ref Mrr, .ref Mrh, .ref Mrc, .int (nI rh), .int (nI rc), .ref Mn, .ref Mf, .ref Mr, .ref Mh, .int zhp, .int zcc, .ref Ma, .ref Mas, .ref Msn, .ref Mac, .ref Mat])), (Mt, .inl (g 0, 160, .inl fmt))]) (wr := [(Mrr, .inl (g 0, 3, .inl (upd (upd (upd frrx_2 1 (nI nx_208)) 2 (nI nx_312)) 0 (nI nx_338))))]) rfl rfl rfl rfl (by decide) (r_X7_ahead l D g H.size Mm zth Mt tp max_336 zwrx_337 Mrr Mrh Mrc rh rc Mn Mf Mr Mh zhp zcc Ma Mas Msn Mac Mat fmt (show tp ≤ 160 by omega) (show max_336 ≤ tp by omega)) (cwV 0 hts gX7_items_X7_ahead rfl rfl rfl (by decide +kernel) ⟨(Nat.le_of_ble_eq_true rfl), (Nat.le_of_ble_eq_true rfl)⟩) 1 7 rfl rfl rfl rfl hl.1 rfl (Nat.le_of_ble_eq_true rfl) dX7_items_87 ⟨(Nat.le_of_ble_eq_true rfl), (Nat.le_of_ble_eq_true rfl)⟩ (fun r_363 u H locs hw hP2 hD2 hS2 => ?_)
              clear hP hD hS
              obtain ⟨max_364, rfl, rfl, hf_365, hf_366, hf_367⟩ := hw
              have hPD : PD D A [(Mrr, .inl (g 0, 3, .inl (upd (upd (upd frrx_2 1 (nI nx_208)) 2 (nI nx_312)) 0 (nI nx_338)))), (Mm, .inr (7, [.int zth, .ref Mt, .int (nI tp), .int (nI max_364), .int zwrx_337, .ref Mrr, .ref Mrh, .ref Mrc, .int (nI rh), .int (nI rc), .ref Mn, .ref Mf, .ref Mr, .ref Mh, .int zhp, .int zcc, .ref Ma, .ref Mas, .ref Msn, .ref Mac, .ref Mat])), (Mt, .inl (g 0, 160, .inl fmt))] H := ⟨hP2, hD2⟩
              have hS := hS2; clear hP2 hD2 hS2; have hP := hPD.1; have hD := hPD.2; clear hPD
              refine W.widen (k := 0) (n := 0) (Nat.le_of_ble_eq_true rfl) (Nat.le_of_ble_eq_true rfl) ?_
              refine lv_topi (fun y_368 hey_368 => ?_)
              refine ky_Si (As := [.int 0, .int y_368]) (rest := []) ⟨hx, hb, hml, hown, hts⟩ ⟨hK, hN⟩ hZ hP hD hS hA [] [0, 1, 2] (wc := []) (wr := [(Mrr, .inl (g 0, 3, .inl (upd (upd (upd frrx_2 1 (nI nx_208)) 2 (nI nx_312)) 0 (nI nx_338)))), (Mm, .inr (7, [.int zth, .ref Mt, .int (nI tp), .int (nI max_364), .int zwrx_337, .ref Mrr, .ref Mrh, .ref Mrc, .int (nI rh), .int (nI rc), .ref Mn, .ref Mf, .ref Mr, .ref Mh, .int zhp, .int zcc, .ref Ma, .ref Mas, .ref Msn, .ref Mac, .ref Mat])), (Mt, .inl (g 0, 160, .inl fmt))]) rfl rfl rfl rfl (by decide) (r_X7_itemBy_0 l D g H.size y_368) (va_cwS 2 hts gX7_items_X7_itemBy rfl rfl rfl (by decide +kernel) ⟨(Nat.le_of_ble_eq_true rfl), (Nat.le_of_ble_eq_true rfl)⟩) rfl hl.1 rfl (Nat.le_of_ble_eq_true rfl) dX7_items_90 ⟨(Nat.le_of_ble_eq_true rfl), (Nat.le_of_ble_eq_true rfl)⟩ (fun r_369 u H locs hw hP2 hD2 hS2 => ?_)
              clear hP hD hS
              obtain ⟨rfl, rfl⟩ := hw
              have hPD : PD D A [(Mrr, .inl (g 0, 3, .inl (upd (upd (upd frrx_2 1 (nI nx_208)) 2 (nI nx_312)) 0 (nI nx_338)))), (Mm, .inr (7, [.int zth, .ref Mt, .int (nI tp), .int (nI max_364), .int zwrx_337, .ref Mrr, .ref Mrh, .ref Mrc, .int (nI rh), .int (nI rc), .ref Mn, .ref Mf, .ref Mr, .ref Mh, .int zhp, .int zcc, .ref Ma, .ref Mas, .ref Msn, .ref Mac, .ref Mat])), (Mt, .inl (g 0, 160, .inl fmt))] H := ⟨hP2, hD2⟩
              have hS := hS2; clear hP2 hD2 hS2; have hP := hPD.1; have hD := hPD.2; clear hPD
              refine W.widen (k := 0) (n := 0) (Nat.le_of_ble_eq_true rfl) (Nat.le_of_ble_eq_true rfl) ?_
              refine lv_istore (lv' := [(5, .int (itK 0 y_368)), (4, .int 7), (0, .ref Mm), (1, .int 0), (2, .ref Mrr), (3, .int 0)]) hx hb dX7_items_93 hl (by decide) rfl (fun ls hl => ?_)
              refine lv_goto (tgt := 20) hx hb dX7_items_95 (by decide) ?_
              refine lv_aload_n hx hb dX7_items_20 rfl (lv_at hl 2 rfl) ?_
              refine va_get (D := D) (ci := 7) (v := .int zwrx_337) (C := RX7) (T := TX7) (N := 21) hx hb hts iX7 hown hK hP 1 rfl rfl 4 (by decide) f71 (fun _ h9 => h9) rfl dX7_items_21 ?_
              refine lv_iconst (v := (-1)) hx hb dX7_items_24 (by decide) ?_
              refine lv_icmp_ne (tgt := 98) hx hb dX7_items_25 (by decide) (fun _ => ?_) (fun cb => absurd cb (cw_343))
              have hPD9 : PD D A [(Mm, .inr (7, [.int zth, .ref Mt, .int (nI tp), .int (nI max_364), .int zwrx_337, .ref Mrr, .ref Mrh, .ref Mrc, .int (nI rh), .int (nI rc), .ref Mn, .ref Mf, .ref Mr, .ref Mh, .int zhp, .int zcc, .ref Ma, .ref Mas, .ref Msn, .ref Mac, .ref Mat])), (Mt, .inl (g 0, 160, .inl fmt)), (Mrr, .inl (g 0, 3, .inl (upd (upd (upd frrx_2 1 (nI nx_208)) 2 (nI nx_312)) 0 (nI nx_338))))] H := ⟨hP.sub [1, 2, 0] rfl, hD.sub [1, 2, 0] (by decide) rfl⟩
              have hP9 := hPD9.1; have hD9 := hPD9.2
              subst hQ
              refine W.widen (k := 0) (n := 0) (Nat.le_of_ble_eq_true rfl) (Nat.le_of_ble_eq_true rfl) ?_
              exact W.vret hx hb hr (fun tS htS _ => ⟨⟨_, rfl, ⟨max_364, zwrx_337, (upd (upd (upd frrx_2 1 (nI nx_208)) 2 (nI nx_312)) 0 (nI nx_338)), rfl, ⟨(n1_upd (n1_upd (n1_upd (hf_3) (n := nx_208) (show nx_208 ≤ 99 by omega)) (n := nx_312) (show nx_312 ≤ 99 by omega)) (n := nx_338) (show nx_338 ≤ 99 by omega)), (show max_364 ≤ tp by omega), (show ma ≤ max_364 by omega), ((congrArg Prod.fst hR_319).trans ((itR_w (f := 1) (m := 6) (q := 0) hf_327 hil_331.1 hil_331.2 (by decide) (by decide) (fun q => cw_343 (hf_339.2.2.2.1.trans q))).trans hf_339.2.2.2.1.symm)).symm, (fun q => absurd q cw_343), (fun q => absurd q cw_343)⟩⟩, by rw [htS]; exact hP9, hD9⟩, hS.F htS⟩) hS.2.2 dX7_items_98
          · skip
            refine lv_eqi (y := 1) (qi_330) ?_
            have hil_370 := iv_lt (k := 0) (q := 1) hey_328.symm qi_330 (by decide); have hil_370a := hil_370.1
            refine lv_istore (lv' := [(5, .int 1), (4, .int 6), (0, .ref Mm), (1, .int 0), (2, .ref Mrr), (3, .int 0)]) hx hb dX7_items_93 hl (by decide) rfl (fun ls hl => ?_)
            refine lv_goto (tgt := 20) hx hb dX7_items_95 (by decide) ?_
            refine lv_aload_n hx hb dX7_items_20 rfl (lv_at hl 2 rfl) ?_
            refine va_get (D := D) (ci := 7) (v := .int (-1)) (C := RX7) (T := TX7) (N := 21) hx hb hts iX7 hown hK hP 1 rfl rfl 4 (by decide) f71 (fun _ h9 => h9) rfl dX7_items_21 ?_
            refine lv_iconst (v := (-1)) hx hb dX7_items_24 (by decide) ?_
            refine lv_icmp_ne (tgt := 98) hx hb dX7_items_25 (by decide) (fun cb => absurd (by decide) cb) (fun _ => ?_)
            refine lv_iload hx hb dX7_items_28 (lv_at hl 0 rfl) ?_
            refine lv_iconst (v := (-1)) hx hb dX7_items_30 (by decide) ?_
            refine lv_icmp_eq (tgt := 98) hx hb dX7_items_31 (by decide) (fun cb => absurd cb (by decide)) (fun _ => ?_)
            refine lv_iload hx hb dX7_items_34 (lv_at hl 1 rfl) ?_
            refine lv_iload hx hb dX7_items_36 (lv_at hl 0 rfl) ?_
            refine ky_Si (As := [.int 6, .int 1]) (rest := []) ⟨hx, hb, hml, hown, hts⟩ ⟨hK, hN⟩ hZ hP hD hS hA [] [0, 1, 2] (wc := []) (wr := [(Mrr, .inl (g 0, 3, .inl (upd (upd frrx_2 1 (nI nx_208)) 2 (nI nx_312)))), (Mm, .inr (7, [.int zth, .ref Mt, .int (nI tp), .int (nI max_324), .int (-1), .ref Mrr, .ref Mrh, .ref Mrc, .int (nI rh), .int (nI rc), .ref Mn, .ref Mf, .ref Mr, .ref Mh, .int zhp, .int zcc, .ref Ma, .ref Mas, .ref Msn, .ref Mac, .ref Mat])), (Mt, .inl (g 0, 160, .inl fmt))]) rfl rfl rfl rfl (by decide) (r_X7_has_61 l D g H.size) (va_cwS 2 hts gX7_items_X7_has rfl rfl rfl (by decide +kernel) ⟨(Nat.le_of_ble_eq_true rfl), (Nat.le_of_ble_eq_true rfl)⟩) rfl hl.1 rfl (Nat.le_of_ble_eq_true rfl) dX7_items_38 ⟨(Nat.le_of_ble_eq_true rfl), (Nat.le_of_ble_eq_true rfl)⟩ (fun r_371 u H locs hw hP2 hD2 hS2 => ?_)
            clear hP hD hS
            obtain ⟨rfl, rfl⟩ := hw
            have hPD : PD D A [(Mrr, .inl (g 0, 3, .inl (upd (upd frrx_2 1 (nI nx_208)) 2 (nI nx_312)))), (Mm, .inr (7, [.int zth, .ref Mt, .int (nI tp), .int (nI max_324), .int (-1), .ref Mrr, .ref Mrh, .ref Mrc, .int (nI rh), .int (nI rc), .ref Mn, .ref Mf, .ref Mr, .ref Mh, .int zhp, .int zcc, .ref Ma, .ref Mas, .ref Msn, .ref Mac, .ref Mat])), (Mt, .inl (g 0, 160, .inl fmt))] H := ⟨hP2, hD2⟩
            have hS := hS2; clear hP2 hD2 hS2; have hP := hPD.1; have hD := hPD.2; clear hPD
            refine W.widen (k := 0) (n := 0) (Nat.le_of_ble_eq_true rfl) (Nat.le_of_ble_eq_true rfl) ?_
            refine lv_if_ne (tgt := 98) hx hb dX7_items_41 (by decide) (fun _ => ?_) (fun cb => absurd cb (by decide))
            have hPD9 : PD D A [(Mm, .inr (7, [.int zth, .ref Mt, .int (nI tp), .int (nI max_324), .int (-1), .ref Mrr, .ref Mrh, .ref Mrc, .int (nI rh), .int (nI rc), .ref Mn, .ref Mf, .ref Mr, .ref Mh, .int zhp, .int zcc, .ref Ma, .ref Mas, .ref Msn, .ref Mac, .ref Mat])), (Mt, .inl (g 0, 160, .inl fmt)), (Mrr, .inl (g 0, 3, .inl (upd (upd frrx_2 1 (nI nx_208)) 2 (nI nx_312))))] H := ⟨hP.sub [1, 2, 0] rfl, hD.sub [1, 2, 0] (by decide) rfl⟩
            have hP9 := hPD9.1; have hD9 := hPD9.2
            subst hQ
            refine W.widen (k := 0) (n := 0) (Nat.le_of_ble_eq_true rfl) (Nat.le_of_ble_eq_true rfl) ?_
            exact W.vret hx hb hr (fun tS htS _ => ⟨⟨_, rfl, ⟨max_324, (-1), (upd (upd frrx_2 1 (nI nx_208)) 2 (nI nx_312)), rfl, ⟨(n1_upd (n1_upd (hf_3) (n := nx_208) (show nx_208 ≤ 99 by omega)) (n := nx_312) (show nx_312 ≤ 99 by omega)), (show max_324 ≤ tp by omega), (show ma ≤ max_324 by omega), (congrArg Prod.fst (hR_319.trans (itR_again (f := 1) (m := 6) (q := 1) hf_327 hil_370.2 (by decide) (by decide)))).symm, (fun _ => (congrArg Prod.snd (hR_319.trans (itR_again (f := 1) (m := 6) (q := 1) hf_327 hil_370.2 (by decide) (by decide)))).symm), (fun _ => (hW_322.trans (itW_again (f := 1) (m := 6) (q := 1) hf_327 hil_370.2 (by decide) (by decide))).symm)⟩⟩, by rw [htS]; exact hP9, hD9⟩, hS.F htS⟩) hS.2.2 dX7_items_98
          · skip
            refine lv_eqi (y := 2) (qi_330) ?_
            have hil_372 := iv_lt (k := 0) (q := 2) hey_328.symm qi_330 (by decide); have hil_372a := hil_372.1
            refine lv_istore (lv' := [(5, .int 2), (4, .int 6), (0, .ref Mm), (1, .int 0), (2, .ref Mrr), (3, .int 0)]) hx hb dX7_items_93 hl (by decide) rfl (fun ls hl => ?_)
            refine lv_goto (tgt := 20) hx hb dX7_items_95 (by decide) ?_
            refine lv_aload_n hx hb dX7_items_20 rfl (lv_at hl 2 rfl) ?_
            refine va_get (D := D) (ci := 7) (v := .int (-1)) (C := RX7) (T := TX7) (N := 21) hx hb hts iX7 hown hK hP 1 rfl rfl 4 (by decide) f71 (fun _ h9 => h9) rfl dX7_items_21 ?_
            refine lv_iconst (v := (-1)) hx hb dX7_items_24 (by decide) ?_
            refine lv_icmp_ne (tgt := 98) hx hb dX7_items_25 (by decide) (fun cb => absurd (by decide) cb) (fun _ => ?_)
            refine lv_iload hx hb dX7_items_28 (lv_at hl 0 rfl) ?_
            refine lv_iconst (v := (-1)) hx hb dX7_items_30 (by decide) ?_
            refine lv_icmp_eq (tgt := 98) hx hb dX7_items_31 (by decide) (fun cb => absurd cb (by decide)) (fun _ => ?_)
            refine lv_iload hx hb dX7_items_34 (lv_at hl 1 rfl) ?_
            refine lv_iload hx hb dX7_items_36 (lv_at hl 0 rfl) ?_
            refine ky_Si (As := [.int 6, .int 2]) (rest := []) ⟨hx, hb, hml, hown, hts⟩ ⟨hK, hN⟩ hZ hP hD hS hA [] [0, 1, 2] (wc := []) (wr := [(Mrr, .inl (g 0, 3, .inl (upd (upd frrx_2 1 (nI nx_208)) 2 (nI nx_312)))), (Mm, .inr (7, [.int zth, .ref Mt, .int (nI tp), .int (nI max_324), .int (-1), .ref Mrr, .ref Mrh, .ref Mrc, .int (nI rh), .int (nI rc), .ref Mn, .ref Mf, .ref Mr, .ref Mh, .int zhp, .int zcc, .ref Ma, .ref Mas, .ref Msn, .ref Mac, .ref Mat])), (Mt, .inl (g 0, 160, .inl fmt))]) rfl rfl rfl rfl (by decide) (r_X7_has_62 l D g H.size) (va_cwS 2 hts gX7_items_X7_has rfl rfl rfl (by decide +kernel) ⟨(Nat.le_of_ble_eq_true rfl), (Nat.le_of_ble_eq_true rfl)⟩) rfl hl.1 rfl (Nat.le_of_ble_eq_true rfl) dX7_items_38 ⟨(Nat.le_of_ble_eq_true rfl), (Nat.le_of_ble_eq_true rfl)⟩ (fun r_373 u H locs hw hP2 hD2 hS2 => ?_)
            clear hP hD hS
            obtain ⟨rfl, rfl⟩ := hw
            have hPD : PD D A [(Mrr, .inl (g 0, 3, .inl (upd (upd frrx_2 1 (nI nx_208)) 2 (nI nx_312)))), (Mm, .inr (7, [.int zth, .ref Mt, .int (nI tp), .int (nI max_324), .int (-1), .ref Mrr, .ref Mrh, .ref Mrc, .int (nI rh), .int (nI rc), .ref Mn, .ref Mf, .ref Mr, .ref Mh, .int zhp, .int zcc, .ref Ma, .ref Mas, .ref Msn, .ref Mac, .ref Mat])), (Mt, .inl (g 0, 160, .inl fmt))] H := ⟨hP2, hD2⟩
            have hS := hS2; clear hP2 hD2 hS2; have hP := hPD.1; have hD := hPD.2; clear hPD
            refine W.widen (k := 0) (n := 0) (Nat.le_of_ble_eq_true rfl) (Nat.le_of_ble_eq_true rfl) ?_
            refine lv_if_ne (tgt := 98) hx hb dX7_items_41 (by decide) (fun _ => ?_) (fun cb => absurd cb (by decide))
            have hPD9 : PD D A [(Mm, .inr (7, [.int zth, .ref Mt, .int (nI tp), .int (nI max_324), .int (-1), .ref Mrr, .ref Mrh, .ref Mrc, .int (nI rh), .int (nI rc), .ref Mn, .ref Mf, .ref Mr, .ref Mh, .int zhp, .int zcc, .ref Ma, .ref Mas, .ref Msn, .ref Mac, .ref Mat])), (Mt, .inl (g 0, 160, .inl fmt)), (Mrr, .inl (g 0, 3, .inl (upd (upd frrx_2 1 (nI nx_208)) 2 (nI nx_312))))] H := ⟨hP.sub [1, 2, 0] rfl, hD.sub [1, 2, 0] (by decide) rfl⟩
            have hP9 := hPD9.1; have hD9 := hPD9.2
            subst hQ
            refine W.widen (k := 0) (n := 0) (Nat.le_of_ble_eq_true rfl) (Nat.le_of_ble_eq_true rfl) ?_
            exact W.vret hx hb hr (fun tS htS _ => ⟨⟨_, rfl, ⟨max_324, (-1), (upd (upd frrx_2 1 (nI nx_208)) 2 (nI nx_312)), rfl, ⟨(n1_upd (n1_upd (hf_3) (n := nx_208) (show nx_208 ≤ 99 by omega)) (n := nx_312) (show nx_312 ≤ 99 by omega)), (show max_324 ≤ tp by omega), (show ma ≤ max_324 by omega), (congrArg Prod.fst (hR_319.trans (itR_again (f := 1) (m := 6) (q := 2) hf_327 hil_372.2 (by decide) (by decide)))).symm, (fun _ => (congrArg Prod.snd (hR_319.trans (itR_again (f := 1) (m := 6) (q := 2) hf_327 hil_372.2 (by decide) (by decide)))).symm), (fun _ => (hW_322.trans (itW_again (f := 1) (m := 6) (q := 2) hf_327 hil_372.2 (by decide) (by decide))).symm)⟩⟩, by rw [htS]; exact hP9, hD9⟩, hS.F htS⟩) hS.2.2 dX7_items_98
        · skip
          refine lv_iload_n hx hb dX7_items_85 rfl (lv_at hl 3 rfl) ?_
          refine lv_aload_n hx hb dX7_items_86 rfl (lv_at hl 2 rfl) ?_
          refine ky_Vi (As := []) (rest := [.int 0]) ⟨hx, hb, hml, hown, hts⟩ ⟨hK, hN⟩ hZ hP hD hS hA [1, 2] [0] (wc := [(Mm, .inr (7, [.int zth, .ref Mt, .int (nI tp), .int (nI max_310), .int zwrx_311, .ref Mrr, .ref Mrh, .ref Mrc, .int (nI rh), .int (nI rc), .ref Mn, .ref Mf, .ref Mr, .ref Mh, .int zhp, .int zcc, .ref Ma, .ref Mas, .ref Msn, .ref Mac, .ref Mat])), (Mt, .inl (g 0, 160, .inl fmt))]) (wr := [(Mrr, .inl (g 0, 3, .inl (upd (upd frrx_2 1 (nI nx_208)) 2 (nI nx_312))))]) rfl rfl rfl rfl (by decide) (r_X7_ahead l D g H.size Mm zth Mt tp max_310 zwrx_311 Mrr Mrh Mrc rh rc Mn Mf Mr Mh zhp zcc Ma Mas Msn Mac Mat fmt (show tp ≤ 160 by omega) (show max_310 ≤ tp by omega)) (cwV 0 hts gX7_items_X7_ahead rfl rfl rfl (by decide +kernel) ⟨(Nat.le_of_ble_eq_true rfl), (Nat.le_of_ble_eq_true rfl)⟩) 1 7 rfl rfl rfl rfl hl.1 rfl (Nat.le_of_ble_eq_true rfl) dX7_items_87 ⟨(Nat.le_of_ble_eq_true rfl), (Nat.le_of_ble_eq_true rfl)⟩ (fun r_374 u H locs hw hP2 hD2 hS2 => ?_)
          clear hP hD hS
          obtain ⟨max_375, rfl, rfl, hf_376, hf_377, hf_378⟩ := hw
          have hPD : PD D A [(Mrr, .inl (g 0, 3, .inl (upd (upd frrx_2 1 (nI nx_208)) 2 (nI nx_312)))), (Mm, .inr (7, [.int zth, .ref Mt, .int (nI tp), .int (nI max_375), .int zwrx_311, .ref Mrr, .ref Mrh, .ref Mrc, .int (nI rh), .int (nI rc), .ref Mn, .ref Mf, .ref Mr, .ref Mh, .int zhp, .int zcc, .ref Ma, .ref Mas, .ref Msn, .ref Mac, .ref Mat])), (Mt, .inl (g 0, 160, .inl fmt))] H := ⟨hP2, hD2⟩
          have hS := hS2; clear hP2 hD2 hS2; have hP := hPD.1; have hD := hPD.2; clear hPD
          refine W.widen (k := 0) (n := 0) (Nat.le_of_ble_eq_true rfl) (Nat.le_of_ble_eq_true rfl) ?_
          refine lv_topi (fun y_379 hey_379 => ?_)
          refine ky_Si (As := [.int 0, .int y_379]) (rest := []) ⟨hx, hb, hml, hown, hts⟩ ⟨hK, hN⟩ hZ hP hD hS hA [] [0, 1, 2] (wc := []) (wr := [(Mrr, .inl (g 0, 3, .inl (upd (upd frrx_2 1 (nI nx_208)) 2 (nI nx_312)))), (Mm, .inr (7, [.int zth, .ref Mt, .int (nI tp), .int (nI max_375), .int zwrx_311, .ref Mrr, .ref Mrh, .ref Mrc, .int (nI rh), .int (nI rc), .ref Mn, .ref Mf, .ref Mr, .ref Mh, .int zhp, .int zcc, .ref Ma, .ref Mas, .ref Msn, .ref Mac, .ref Mat])), (Mt, .inl (g 0, 160, .inl fmt))]) rfl rfl rfl rfl (by decide) (r_X7_itemBy_0 l D g H.size y_379) (va_cwS 2 hts gX7_items_X7_itemBy rfl rfl rfl (by decide +kernel) ⟨(Nat.le_of_ble_eq_true rfl), (Nat.le_of_ble_eq_true rfl)⟩) rfl hl.1 rfl (Nat.le_of_ble_eq_true rfl) dX7_items_90 ⟨(Nat.le_of_ble_eq_true rfl), (Nat.le_of_ble_eq_true rfl)⟩ (fun r_380 u H locs hw hP2 hD2 hS2 => ?_)
          clear hP hD hS
          obtain ⟨rfl, rfl⟩ := hw
          have hPD : PD D A [(Mrr, .inl (g 0, 3, .inl (upd (upd frrx_2 1 (nI nx_208)) 2 (nI nx_312)))), (Mm, .inr (7, [.int zth, .ref Mt, .int (nI tp), .int (nI max_375), .int zwrx_311, .ref Mrr, .ref Mrh, .ref Mrc, .int (nI rh), .int (nI rc), .ref Mn, .ref Mf, .ref Mr, .ref Mh, .int zhp, .int zcc, .ref Ma, .ref Mas, .ref Msn, .ref Mac, .ref Mat])), (Mt, .inl (g 0, 160, .inl fmt))] H := ⟨hP2, hD2⟩
          have hS := hS2; clear hP2 hD2 hS2; have hP := hPD.1; have hD := hPD.2; clear hPD
          refine W.widen (k := 0) (n := 0) (Nat.le_of_ble_eq_true rfl) (Nat.le_of_ble_eq_true rfl) ?_
          refine lv_istore (lv' := [(5, .int (itK 0 y_379)), (4, .int 6), (0, .ref Mm), (1, .int 0), (2, .ref Mrr), (3, .int 0)]) hx hb dX7_items_93 hl (by decide) rfl (fun ls hl => ?_)
          refine lv_goto (tgt := 20) hx hb dX7_items_95 (by decide) ?_
          refine lv_aload_n hx hb dX7_items_20 rfl (lv_at hl 2 rfl) ?_
          refine va_get (D := D) (ci := 7) (v := .int zwrx_311) (C := RX7) (T := TX7) (N := 21) hx hb hts iX7 hown hK hP 1 rfl rfl 4 (by decide) f71 (fun _ h9 => h9) rfl dX7_items_21 ?_
          refine lv_iconst (v := (-1)) hx hb dX7_items_24 (by decide) ?_
          refine lv_icmp_ne (tgt := 98) hx hb dX7_items_25 (by decide) (fun _ => ?_) (fun cb => absurd cb (cw_317))
          have hPD9 : PD D A [(Mm, .inr (7, [.int zth, .ref Mt, .int (nI tp), .int (nI max_375), .int zwrx_311, .ref Mrr, .ref Mrh, .ref Mrc, .int (nI rh), .int (nI rc), .ref Mn, .ref Mf, .ref Mr, .ref Mh, .int zhp, .int zcc, .ref Ma, .ref Mas, .ref Msn, .ref Mac, .ref Mat])), (Mt, .inl (g 0, 160, .inl fmt)), (Mrr, .inl (g 0, 3, .inl (upd (upd frrx_2 1 (nI nx_208)) 2 (nI nx_312))))] H := ⟨hP.sub [1, 2, 0] rfl, hD.sub [1, 2, 0] (by decide) rfl⟩
          have hP9 := hPD9.1; have hD9 := hPD9.2
          subst hQ
          refine W.widen (k := 0) (n := 0) (Nat.le_of_ble_eq_true rfl) (Nat.le_of_ble_eq_true rfl) ?_
          exact W.vret hx hb hr (fun tS htS _ => ⟨⟨_, rfl, ⟨max_375, zwrx_311, (upd (upd frrx_2 1 (nI nx_208)) 2 (nI nx_312)), rfl, ⟨(n1_upd (n1_upd (hf_3) (n := nx_208) (show nx_208 ≤ 99 by omega)) (n := nx_312) (show nx_312 ≤ 99 by omega)), (show max_375 ≤ tp by omega), (show ma ≤ max_375 by omega), ((congrArg Prod.fst hR_215).trans ((itR_w (f := 2) (m := 2) (q := 2) hf_223 hil_305.1 hil_305.2 (by decide) (by decide) (fun q => cw_317 (hf_313.2.2.2.1.trans q))).trans hf_313.2.2.2.1.symm)).symm, (fun q => absurd q cw_317), (fun q => absurd q cw_317)⟩⟩, by rw [htS]; exact hP9, hD9⟩, hS.F htS⟩) hS.2.2 dX7_items_98
    · skip
      refine lv_iload_n hx hb dX7_items_85 rfl (lv_at hl 3 rfl) ?_
      refine lv_aload_n hx hb dX7_items_86 rfl (lv_at hl 2 rfl) ?_
      refine ky_Vi (As := []) (rest := [.int 0]) ⟨hx, hb, hml, hown, hts⟩ ⟨hK, hN⟩ hZ hP hD hS hA [1, 2] [0] (wc := [(Mm, .inr (7, [.int zth, .ref Mt, .int (nI tp), .int (nI max_206), .int zwrx_207, .ref Mrr, .ref Mrh, .ref Mrc, .int (nI rh), .int (nI rc), .ref Mn, .ref Mf, .ref Mr, .ref Mh, .int zhp, .int zcc, .ref Ma, .ref Mas, .ref Msn, .ref Mac, .ref Mat])), (Mt, .inl (g 0, 160, .inl fmt))]) (wr := [(Mrr, .inl (g 0, 3, .inl (upd frrx_2 1 (nI nx_208))))]) rfl rfl rfl rfl (by decide) (r_X7_ahead l D g H.size Mm zth Mt tp max_206 zwrx_207 Mrr Mrh Mrc rh rc Mn Mf Mr Mh zhp zcc Ma Mas Msn Mac Mat fmt (show tp ≤ 160 by omega) (show max_206 ≤ tp by omega)) (cwV 0 hts gX7_items_X7_ahead rfl rfl rfl (by decide +kernel) ⟨(Nat.le_of_ble_eq_true rfl), (Nat.le_of_ble_eq_true rfl)⟩) 1 7 rfl rfl rfl rfl hl.1 rfl (Nat.le_of_ble_eq_true rfl) dX7_items_87 ⟨(Nat.le_of_ble_eq_true rfl), (Nat.le_of_ble_eq_true rfl)⟩ (fun r_381 u H locs hw hP2 hD2 hS2 => ?_)
      clear hP hD hS
      obtain ⟨max_382, rfl, rfl, hf_383, hf_384, hf_385⟩ := hw
      have hPD : PD D A [(Mrr, .inl (g 0, 3, .inl (upd frrx_2 1 (nI nx_208)))), (Mm, .inr (7, [.int zth, .ref Mt, .int (nI tp), .int (nI max_382), .int zwrx_207, .ref Mrr, .ref Mrh, .ref Mrc, .int (nI rh), .int (nI rc), .ref Mn, .ref Mf, .ref Mr, .ref Mh, .int zhp, .int zcc, .ref Ma, .ref Mas, .ref Msn, .ref Mac, .ref Mat])), (Mt, .inl (g 0, 160, .inl fmt))] H := ⟨hP2, hD2⟩
      have hS := hS2; clear hP2 hD2 hS2; have hP := hPD.1; have hD := hPD.2; clear hPD
      refine W.widen (k := 0) (n := 0) (Nat.le_of_ble_eq_true rfl) (Nat.le_of_ble_eq_true rfl) ?_
      refine lv_topi (fun y_386 hey_386 => ?_)
      refine ky_Si (As := [.int 0, .int y_386]) (rest := []) ⟨hx, hb, hml, hown, hts⟩ ⟨hK, hN⟩ hZ hP hD hS hA [] [0, 1, 2] (wc := []) (wr := [(Mrr, .inl (g 0, 3, .inl (upd frrx_2 1 (nI nx_208)))), (Mm, .inr (7, [.int zth, .ref Mt, .int (nI tp), .int (nI max_382), .int zwrx_207, .ref Mrr, .ref Mrh, .ref Mrc, .int (nI rh), .int (nI rc), .ref Mn, .ref Mf, .ref Mr, .ref Mh, .int zhp, .int zcc, .ref Ma, .ref Mas, .ref Msn, .ref Mac, .ref Mat])), (Mt, .inl (g 0, 160, .inl fmt))]) rfl rfl rfl rfl (by decide) (r_X7_itemBy_0 l D g H.size y_386) (va_cwS 2 hts gX7_items_X7_itemBy rfl rfl rfl (by decide +kernel) ⟨(Nat.le_of_ble_eq_true rfl), (Nat.le_of_ble_eq_true rfl)⟩) rfl hl.1 rfl (Nat.le_of_ble_eq_true rfl) dX7_items_90 ⟨(Nat.le_of_ble_eq_true rfl), (Nat.le_of_ble_eq_true rfl)⟩ (fun r_387 u H locs hw hP2 hD2 hS2 => ?_)
      clear hP hD hS
      obtain ⟨rfl, rfl⟩ := hw
      have hPD : PD D A [(Mrr, .inl (g 0, 3, .inl (upd frrx_2 1 (nI nx_208)))), (Mm, .inr (7, [.int zth, .ref Mt, .int (nI tp), .int (nI max_382), .int zwrx_207, .ref Mrr, .ref Mrh, .ref Mrc, .int (nI rh), .int (nI rc), .ref Mn, .ref Mf, .ref Mr, .ref Mh, .int zhp, .int zcc, .ref Ma, .ref Mas, .ref Msn, .ref Mac, .ref Mat])), (Mt, .inl (g 0, 160, .inl fmt))] H := ⟨hP2, hD2⟩
      have hS := hS2; clear hP2 hD2 hS2; have hP := hPD.1; have hD := hPD.2; clear hPD
      refine W.widen (k := 0) (n := 0) (Nat.le_of_ble_eq_true rfl) (Nat.le_of_ble_eq_true rfl) ?_
      refine lv_istore (lv' := [(5, .int (itK 0 y_386)), (4, .int 2), (0, .ref Mm), (1, .int 0), (2, .ref Mrr), (3, .int 0)]) hx hb dX7_items_93 hl (by decide) rfl (fun ls hl => ?_)
      refine lv_goto (tgt := 20) hx hb dX7_items_95 (by decide) ?_
      refine lv_aload_n hx hb dX7_items_20 rfl (lv_at hl 2 rfl) ?_
      refine va_get (D := D) (ci := 7) (v := .int zwrx_207) (C := RX7) (T := TX7) (N := 21) hx hb hts iX7 hown hK hP 1 rfl rfl 4 (by decide) f71 (fun _ h9 => h9) rfl dX7_items_21 ?_
      refine lv_iconst (v := (-1)) hx hb dX7_items_24 (by decide) ?_
      refine lv_icmp_ne (tgt := 98) hx hb dX7_items_25 (by decide) (fun _ => ?_) (fun cb => absurd cb (cw_213))
      have hPD9 : PD D A [(Mm, .inr (7, [.int zth, .ref Mt, .int (nI tp), .int (nI max_382), .int zwrx_207, .ref Mrr, .ref Mrh, .ref Mrc, .int (nI rh), .int (nI rc), .ref Mn, .ref Mf, .ref Mr, .ref Mh, .int zhp, .int zcc, .ref Ma, .ref Mas, .ref Msn, .ref Mac, .ref Mat])), (Mt, .inl (g 0, 160, .inl fmt)), (Mrr, .inl (g 0, 3, .inl (upd frrx_2 1 (nI nx_208))))] H := ⟨hP.sub [1, 2, 0] rfl, hD.sub [1, 2, 0] (by decide) rfl⟩
      have hP9 := hPD9.1; have hD9 := hPD9.2
      subst hQ
      refine W.widen (k := 0) (n := 0) (Nat.le_of_ble_eq_true rfl) (Nat.le_of_ble_eq_true rfl) ?_
      exact W.vret hx hb hr (fun tS htS _ => ⟨⟨_, rfl, ⟨max_382, zwrx_207, (upd frrx_2 1 (nI nx_208)), rfl, ⟨(n1_upd (hf_3) (n := nx_208) (show nx_208 ≤ 99 by omega)), (show max_382 ≤ tp by omega), (show ma ≤ max_382 by omega), (((itR_w (f := 3) (m := 0) (q := 1) hf_9 hil_201.1 hil_201.2 (by decide) (by decide) (fun q => cw_213 (hf_209.2.2.2.1.trans q))).trans hf_209.2.2.2.1.symm)).symm, (fun q => absurd q cw_213), (fun q => absurd q cw_213)⟩⟩, by rw [htS]; exact hP9, hD9⟩, hS.F htS⟩) hS.2.2 dX7_items_98
  · skip
    refine lv_eqi (y := 2) (qi_13) ?_
    have hil_388 := iv_lt (k := 0) (q := 2) hey_10.symm qi_13 (by decide); have hil_388a := hil_388.1
    refine lv_istore (lv' := [(5, .int 2), (4, .int 0), (0, .ref Mm), (1, .int 0), (2, .ref Mrr), (3, .int 0)]) hx hb dX7_items_18 hl (by decide) rfl (fun ls hl => ?_)
    refine lv_aload_n hx hb dX7_items_20 rfl (lv_at hl 2 rfl) ?_
    refine va_get (D := D) (ci := 7) (v := .int (-1)) (C := RX7) (T := TX7) (N := 21) hx hb hts iX7 hown hK hP 1 rfl rfl 4 (by decide) f71 (fun _ h9 => h9) rfl dX7_items_21 ?_
    refine lv_iconst (v := (-1)) hx hb dX7_items_24 (by decide) ?_
    refine lv_icmp_ne (tgt := 98) hx hb dX7_items_25 (by decide) (fun cb => absurd (by decide) cb) (fun _ => ?_)
    refine lv_iload hx hb dX7_items_28 (lv_at hl 0 rfl) ?_
    refine lv_iconst (v := (-1)) hx hb dX7_items_30 (by decide) ?_
    refine lv_icmp_eq (tgt := 98) hx hb dX7_items_31 (by decide) (fun cb => absurd cb (by decide)) (fun _ => ?_)
    refine lv_iload hx hb dX7_items_34 (lv_at hl 1 rfl) ?_
    refine lv_iload hx hb dX7_items_36 (lv_at hl 0 rfl) ?_
    refine ky_Si (As := [.int 0, .int 2]) (rest := []) ⟨hx, hb, hml, hown, hts⟩ ⟨hK, hN⟩ hZ hP hD hS hA [] [0, 1, 2] (wc := []) (wr := [(Mrr, .inl (g 0, 3, .inl frrx_2)), (Mm, .inr (7, [.int zth, .ref Mt, .int (nI tp), .int (nI max_6), .int (-1), .ref Mrr, .ref Mrh, .ref Mrc, .int (nI rh), .int (nI rc), .ref Mn, .ref Mf, .ref Mr, .ref Mh, .int zhp, .int zcc, .ref Ma, .ref Mas, .ref Msn, .ref Mac, .ref Mat])), (Mt, .inl (g 0, 160, .inl fmt))]) rfl rfl rfl rfl (by decide) (r_X7_has_02 l D g H.size) (va_cwS 2 hts gX7_items_X7_has rfl rfl rfl (by decide +kernel) ⟨(Nat.le_of_ble_eq_true rfl), (Nat.le_of_ble_eq_true rfl)⟩) rfl hl.1 rfl (Nat.le_of_ble_eq_true rfl) dX7_items_38 ⟨(Nat.le_of_ble_eq_true rfl), (Nat.le_of_ble_eq_true rfl)⟩ (fun r_389 u H locs hw hP2 hD2 hS2 => ?_)
    clear hP hD hS
    obtain ⟨rfl, rfl⟩ := hw
    have hPD : PD D A [(Mrr, .inl (g 0, 3, .inl frrx_2)), (Mm, .inr (7, [.int zth, .ref Mt, .int (nI tp), .int (nI max_6), .int (-1), .ref Mrr, .ref Mrh, .ref Mrc, .int (nI rh), .int (nI rc), .ref Mn, .ref Mf, .ref Mr, .ref Mh, .int zhp, .int zcc, .ref Ma, .ref Mas, .ref Msn, .ref Mac, .ref Mat])), (Mt, .inl (g 0, 160, .inl fmt))] H := ⟨hP2, hD2⟩
    have hS := hS2; clear hP2 hD2 hS2; have hP := hPD.1; have hD := hPD.2; clear hPD
    refine W.widen (k := 0) (n := 0) (Nat.le_of_ble_eq_true rfl) (Nat.le_of_ble_eq_true rfl) ?_
    refine lv_if_ne (tgt := 98) hx hb dX7_items_41 (by decide) (fun cb => absurd (by decide) cb) (fun _ => ?_)
    refine lv_iload hx hb dX7_items_44 (lv_at hl 1 rfl) ?_
    refine lv_iconst (v := 1) hx hb dX7_items_46 (by decide) ?_
    refine lv_iload hx hb dX7_items_47 (lv_at hl 0 rfl) ?_
    refine lv_ishl hx hb dX7_items_49 ?_
    refine lv_eqi (y := 4) (by decide) ?_
    refine lv_ior hx hb dX7_items_50 ?_
    refine lv_eqi (y := 4) (by decide) ?_
    refine lv_istore (lv' := [(4, .int 4), (5, .int 2), (0, .ref Mm), (1, .int 0), (2, .ref Mrr), (3, .int 0)]) hx hb dX7_items_51 hl (by decide) rfl (fun ls hl => ?_)
    refine lv_aload_n hx hb dX7_items_53 rfl (lv_at hl 2 rfl) ?_
    refine lv_dup hx hb dX7_items_54 rfl ?_
    refine va_get (D := D) (ci := 7) (v := .int (nI max_6)) (C := RX7) (T := TX7) (N := 21) hx hb hts iX7 hown hK hP 1 rfl rfl 3 (by decide) f64 (fun _ h9 => h9) rfl dX7_items_55 ?_
    refine lv_iconst (v := 1) hx hb dX7_items_58 (by decide) ?_
    refine lv_iadd hx hb dX7_items_59 ?_
    refine lv_eqi (y := (nI (max_6 + 1))) (nI_add (max_6) (1)) ?_
    refine va_put (D := D) (ci := 7) (v := .int (nI (max_6 + 1))) (ty := .int) (C := RX7) (T := TX7) (N := 21) hx hb hts iX7 tyX7 tyX7_ok nmX7 hown hK hP hD hS 1 rfl rfl 3 (by decide) f64 (fun _ h9 => h9) rfl (by decide +kernel) (rfl) (rfl) (Nat.le_of_ble_eq_true rfl) dX7_items_60 (fun H locs hP2 hD2 hS2 => ?_)
    clear hP hD hS
    have hPD : PD D A [(Mrr, .inl (g 0, 3, .inl frrx_2)), (Mm, .inr (7, [.int zth, .ref Mt, .int (nI tp), .int (nI (max_6 + 1)), .int (-1), .ref Mrr, .ref Mrh, .ref Mrc, .int (nI rh), .int (nI rc), .ref Mn, .ref Mf, .ref Mr, .ref Mh, .int zhp, .int zcc, .ref Ma, .ref Mas, .ref Msn, .ref Mac, .ref Mat])), (Mt, .inl (g 0, 160, .inl fmt))] H := ⟨hP2, hD2⟩
    have hS := hS2; clear hP2 hD2 hS2; have hP := hPD.1; have hD := hPD.2; clear hPD
    refine lv_aload_n hx hb dX7_items_63 rfl (lv_at hl 4 rfl) ?_
    refine lv_iload_n hx hb dX7_items_64 rfl (lv_at hl 5 rfl) ?_
    refine lv_iload hx hb dX7_items_65 (lv_at hl 1 rfl) ?_
    refine lv_iadd hx hb dX7_items_67 ?_
    refine lv_eqi (y := 2) (by decide) ?_
    refine lv_aload_n hx hb dX7_items_68 rfl (lv_at hl 2 rfl) ?_
    refine lv_iload_n hx hb dX7_items_69 rfl (lv_at hl 3 rfl) ?_
    refine lv_iload hx hb dX7_items_70 (lv_at hl 1 rfl) ?_
    refine ky_Si (As := [.int 0, .int 2]) (rest := [.ref Mm, .int 2, .ref Mrr]) ⟨hx, hb, hml, hown, hts⟩ ⟨hK, hN⟩ hZ hP hD hS hA [] [0, 1, 2] (wc := []) (wr := [(Mrr, .inl (g 0, 3, .inl frrx_2)), (Mm, .inr (7, [.int zth, .ref Mt, .int (nI tp), .int (nI (max_6 + 1)), .int (-1), .ref Mrr, .ref Mrh, .ref Mrc, .int (nI rh), .int (nI rc), .ref Mn, .ref Mf, .ref Mr, .ref Mh, .int zhp, .int zcc, .ref Ma, .ref Mas, .ref Msn, .ref Mac, .ref Mat])), (Mt, .inl (g 0, 160, .inl fmt))]) rfl rfl rfl rfl (by decide) (r_X7_lowest_02 l D g H.size) (va_cwS 2 hts gX7_items_X7_lowest rfl rfl rfl (by decide +kernel) ⟨(Nat.le_of_ble_eq_true rfl), (Nat.le_of_ble_eq_true rfl)⟩) rfl hl.1 rfl (Nat.le_of_ble_eq_true rfl) dX7_items_72 ⟨(Nat.le_of_ble_eq_true rfl), (Nat.le_of_ble_eq_true rfl)⟩ (fun r_390 u H locs hw hP2 hD2 hS2 => ?_)
    clear hP hD hS
    obtain ⟨rfl, rfl⟩ := hw
    have hPD : PD D A [(Mrr, .inl (g 0, 3, .inl frrx_2)), (Mm, .inr (7, [.int zth, .ref Mt, .int (nI tp), .int (nI (max_6 + 1)), .int (-1), .ref Mrr, .ref Mrh, .ref Mrc, .int (nI rh), .int (nI rc), .ref Mn, .ref Mf, .ref Mr, .ref Mh, .int zhp, .int zcc, .ref Ma, .ref Mas, .ref Msn, .ref Mac, .ref Mat])), (Mt, .inl (g 0, 160, .inl fmt))] H := ⟨hP2, hD2⟩
    have hS := hS2; clear hP2 hD2 hS2; have hP := hPD.1; have hD := hPD.2; clear hPD
    refine W.widen (k := 0) (n := 0) (Nat.le_of_ble_eq_true rfl) (Nat.le_of_ble_eq_true rfl) ?_
    refine lv_iload_n hx hb dX7_items_75 rfl (lv_at hl 3 rfl) ?_
    refine lv_iload hx hb dX7_items_76 (lv_at hl 1 rfl) ?_
    refine ky_Si (As := [.int 0, .int 2]) (rest := [.int 0, .ref Mm, .int 2, .ref Mrr]) ⟨hx, hb, hml, hown, hts⟩ ⟨hK, hN⟩ hZ hP hD hS hA [] [0, 1, 2] (wc := []) (wr := [(Mrr, .inl (g 0, 3, .inl frrx_2)), (Mm, .inr (7, [.int zth, .ref Mt, .int (nI tp), .int (nI (max_6 + 1)), .int (-1), .ref Mrr, .ref Mrh, .ref Mrc, .int (nI rh), .int (nI rc), .ref Mn, .ref Mf, .ref Mr, .ref Mh, .int zhp, .int zcc, .ref Ma, .ref Mas, .ref Msn, .ref Mac, .ref Mat])), (Mt, .inl (g 0, 160, .inl fmt))]) rfl rfl rfl rfl (by decide) (r_X7_highest_02 l D g H.size) (va_cwS 2 hts gX7_items_X7_highest rfl rfl rfl (by decide +kernel) ⟨(Nat.le_of_ble_eq_true rfl), (Nat.le_of_ble_eq_true rfl)⟩) rfl hl.1 rfl (Nat.le_of_ble_eq_true rfl) dX7_items_78 ⟨(Nat.le_of_ble_eq_true rfl), (Nat.le_of_ble_eq_true rfl)⟩ (fun r_391 u H locs hw hP2 hD2 hS2 => ?_)
    clear hP hD hS
    obtain ⟨rfl, rfl⟩ := hw
    have hPD : PD D A [(Mrr, .inl (g 0, 3, .inl frrx_2)), (Mm, .inr (7, [.int zth, .ref Mt, .int (nI tp), .int (nI (max_6 + 1)), .int (-1), .ref Mrr, .ref Mrh, .ref Mrc, .int (nI rh), .int (nI rc), .ref Mn, .ref Mf, .ref Mr, .ref Mh, .int zhp, .int zcc, .ref Ma, .ref Mas, .ref Msn, .ref Mac, .ref Mat])), (Mt, .inl (g 0, 160, .inl fmt))] H := ⟨hP2, hD2⟩
    have hS := hS2; clear hP2 hD2 hS2; have hP := hPD.1; have hD := hPD.2; clear hPD
    refine W.widen (k := 0) (n := 0) (Nat.le_of_ble_eq_true rfl) (Nat.le_of_ble_eq_true rfl) ?_
    refine ky_Vi (As := [.int 0, .int 9]) (rest := [.int 2, .ref Mrr]) ⟨hx, hb, hml, hown, hts⟩ ⟨hK, hN⟩ hZ hP hD hS hA [1, 2] [0] (wc := [(Mm, .inr (7, [.int zth, .ref Mt, .int (nI tp), .int (nI (max_6 + 1)), .int (-1), .ref Mrr, .ref Mrh, .ref Mrc, .int (nI rh), .int (nI rc), .ref Mn, .ref Mf, .ref Mr, .ref Mh, .int zhp, .int zcc, .ref Ma, .ref Mas, .ref Msn, .ref Mac, .ref Mat])), (Mt, .inl (g 0, 160, .inl fmt))]) (wr := [(Mrr, .inl (g 0, 3, .inl frrx_2))]) rfl rfl rfl rfl (by decide) (w_X7_number l D g H.size Mm 0 9 zth Mt tp (max_6 + 1) Mrr Mrh Mrc rh rc Mn Mf Mr Mh zhp zcc Ma Mas Msn Mac Mat fmt (show tp ≤ 160 by omega) (show (max_6 + 1) ≤ tp by omega) (show 0 ≤ 1 by omega)) (cwV 2 hts gX7_items_X7_number rfl rfl rfl (by decide +kernel) ⟨(Nat.le_of_ble_eq_true rfl), (Nat.le_of_ble_eq_true rfl)⟩) 1 7 rfl rfl rfl rfl hl.1 rfl (Nat.le_of_ble_eq_true rfl) dX7_items_81 ⟨(Nat.le_of_ble_eq_true rfl), (Nat.le_of_ble_eq_true rfl)⟩ (fun r_392 u H locs hw hP2 hD2 hS2 => ?_)
    clear hP hD hS
    obtain ⟨max_393, zwrx_394, nx_395, rfl, rfl, hf_396⟩ := hw
    have hg_397 := hf_396.1
    have hg_398 := hf_396.2.1
    have hg_399 := hf_396.2.2.1
    have hPD : PD D A [(Mrr, .inl (g 0, 3, .inl frrx_2)), (Mm, .inr (7, [.int zth, .ref Mt, .int (nI tp), .int (nI max_393), .int zwrx_394, .ref Mrr, .ref Mrh, .ref Mrc, .int (nI rh), .int (nI rc), .ref Mn, .ref Mf, .ref Mr, .ref Mh, .int zhp, .int zcc, .ref Ma, .ref Mas, .ref Msn, .ref Mac, .ref Mat])), (Mt, .inl (g 0, 160, .inl fmt))] H := ⟨hP2, hD2⟩
    have hS := hS2; clear hP2 hD2 hS2; have hP := hPD.1; have hD := hPD.2; clear hPD
    refine W.widen (k := 0) (n := 0) (Nat.le_of_ble_eq_true rfl) (Nat.le_of_ble_eq_true rfl) ?_
    refine va_iast hx hb hK hP hD hS 0 0 rfl rfl (by unfold vp_in; decide) dX7_items_84 (fun H locs hP2 hD2 hS2 => ?_)
    clear hP hD hS
    have hPD : PD D A [(Mrr, .inl (g 0, 3, .inl (upd frrx_2 2 (nI nx_395)))), (Mm, .inr (7, [.int zth, .ref Mt, .int (nI tp), .int (nI max_393), .int zwrx_394, .ref Mrr, .ref Mrh, .ref Mrc, .int (nI rh), .int (nI rc), .ref Mn, .ref Mf, .ref Mr, .ref Mh, .int zhp, .int zcc, .ref Ma, .ref Mas, .ref Msn, .ref Mac, .ref Mat])), (Mt, .inl (g 0, 160, .inl fmt))] H := ⟨hP2, hD2⟩
    have hS := hS2; clear hP2 hD2 hS2; have hP := hPD.1; have hD := hPD.2; clear hPD
    by_cases cw_400 : zwrx_394 = -1
    · skip
      have hPq_401 := hP; have hDq_401 := hD; have hSq_401 := hS; have hlq_401 := hl; clear hP hD hS hl
      subst cw_400
      have hP := hPq_401; have hD := hDq_401; have hS := hSq_401; have hl := hlq_401; clear hPq_401 hDq_401 hSq_401 hlq_401
      have hne_403 := hf_396.2.2.2.2.1 rfl
      have hnv_404 := hf_396.2.2.2.2.2 rfl
      have hR_402 : itR fmt tp 0 4 0 ma = itR fmt tp 0 3 4 max_393 := (itR_go (f := 3) (m := 0) (q := 2) hf_9 hil_388.1 hil_388.2 (by decide) (by decide) hf_396.2.2.2.1.symm).trans (by rw [hne_403])
      have hW_405 : itW fmt tp 0 0 4 0 ma (us3 0 0 frr) = itW fmt tp 0 0 3 4 max_393 (upd frrx_2 2 (nI nx_395)) := hW_12.trans ((itW_go (f := 3) (m := 0) (q := 2) hf_9 hil_388.1 hil_388.2 (by decide) (by decide) hf_396.2.2.2.1.symm).trans (by rw [hne_403, hnv_404]))
      refine lv_iload_n hx hb dX7_items_85 rfl (lv_at hl 3 rfl) ?_
      refine lv_aload_n hx hb dX7_items_86 rfl (lv_at hl 2 rfl) ?_
      refine ky_Vi (As := []) (rest := [.int 0]) ⟨hx, hb, hml, hown, hts⟩ ⟨hK, hN⟩ hZ hP hD hS hA [1, 2] [0] (wc := [(Mm, .inr (7, [.int zth, .ref Mt, .int (nI tp), .int (nI max_393), .int (-1), .ref Mrr, .ref Mrh, .ref Mrc, .int (nI rh), .int (nI rc), .ref Mn, .ref Mf, .ref Mr, .ref Mh, .int zhp, .int zcc, .ref Ma, .ref Mas, .ref Msn, .ref Mac, .ref Mat])), (Mt, .inl (g 0, 160, .inl fmt))]) (wr := [(Mrr, .inl (g 0, 3, .inl (upd frrx_2 2 (nI nx_395))))]) rfl rfl rfl rfl (by decide) (r_X7_ahead l D g H.size Mm zth Mt tp max_393 (-1) Mrr Mrh Mrc rh rc Mn Mf Mr Mh zhp zcc Ma Mas Msn Mac Mat fmt (show tp ≤ 160 by omega) (show max_393 ≤ tp by omega)) (cwV 0 hts gX7_items_X7_ahead rfl rfl rfl (by decide +kernel) ⟨(Nat.le_of_ble_eq_true rfl), (Nat.le_of_ble_eq_true rfl)⟩) 1 7 rfl rfl rfl rfl hl.1 rfl (Nat.le_of_ble_eq_true rfl) dX7_items_87 ⟨(Nat.le_of_ble_eq_true rfl), (Nat.le_of_ble_eq_true rfl)⟩ (fun r_406 u H locs hw hP2 hD2 hS2 => ?_)
      clear hP hD hS
      obtain ⟨max_407, rfl, rfl, hf_408, hf_409, hf_410⟩ := hw
      have hPD : PD D A [(Mrr, .inl (g 0, 3, .inl (upd frrx_2 2 (nI nx_395)))), (Mm, .inr (7, [.int zth, .ref Mt, .int (nI tp), .int (nI max_407), .int (-1), .ref Mrr, .ref Mrh, .ref Mrc, .int (nI rh), .int (nI rc), .ref Mn, .ref Mf, .ref Mr, .ref Mh, .int zhp, .int zcc, .ref Ma, .ref Mas, .ref Msn, .ref Mac, .ref Mat])), (Mt, .inl (g 0, 160, .inl fmt))] H := ⟨hP2, hD2⟩
      have hS := hS2; clear hP2 hD2 hS2; have hP := hPD.1; have hD := hPD.2; clear hPD
      refine W.widen (k := 0) (n := 0) (Nat.le_of_ble_eq_true rfl) (Nat.le_of_ble_eq_true rfl) ?_
      refine lv_topi (fun y_411 hey_411 => ?_)
      refine ky_Si (As := [.int 0, .int y_411]) (rest := []) ⟨hx, hb, hml, hown, hts⟩ ⟨hK, hN⟩ hZ hP hD hS hA [] [0, 1, 2] (wc := []) (wr := [(Mrr, .inl (g 0, 3, .inl (upd frrx_2 2 (nI nx_395)))), (Mm, .inr (7, [.int zth, .ref Mt, .int (nI tp), .int (nI max_407), .int (-1), .ref Mrr, .ref Mrh, .ref Mrc, .int (nI rh), .int (nI rc), .ref Mn, .ref Mf, .ref Mr, .ref Mh, .int zhp, .int zcc, .ref Ma, .ref Mas, .ref Msn, .ref Mac, .ref Mat])), (Mt, .inl (g 0, 160, .inl fmt))]) rfl rfl rfl rfl (by decide) (r_X7_itemBy_0 l D g H.size y_411) (va_cwS 2 hts gX7_items_X7_itemBy rfl rfl rfl (by decide +kernel) ⟨(Nat.le_of_ble_eq_true rfl), (Nat.le_of_ble_eq_true rfl)⟩) rfl hl.1 rfl (Nat.le_of_ble_eq_true rfl) dX7_items_90 ⟨(Nat.le_of_ble_eq_true rfl), (Nat.le_of_ble_eq_true rfl)⟩ (fun r_412 u H locs hw hP2 hD2 hS2 => ?_)
      clear hP hD hS
      obtain ⟨rfl, rfl⟩ := hw
      have hPD : PD D A [(Mrr, .inl (g 0, 3, .inl (upd frrx_2 2 (nI nx_395)))), (Mm, .inr (7, [.int zth, .ref Mt, .int (nI tp), .int (nI max_407), .int (-1), .ref Mrr, .ref Mrh, .ref Mrc, .int (nI rh), .int (nI rc), .ref Mn, .ref Mf, .ref Mr, .ref Mh, .int zhp, .int zcc, .ref Ma, .ref Mas, .ref Msn, .ref Mac, .ref Mat])), (Mt, .inl (g 0, 160, .inl fmt))] H := ⟨hP2, hD2⟩
      have hS := hS2; clear hP2 hD2 hS2; have hP := hPD.1; have hD := hPD.2; clear hPD
      refine W.widen (k := 0) (n := 0) (Nat.le_of_ble_eq_true rfl) (Nat.le_of_ble_eq_true rfl) ?_
      rcases itK_c 0 y_411 with qi_413 | qi_413 | qi_413 | qi_413
      · skip
        refine lv_eqi (y := (-1)) (qi_413) ?_
        refine lv_istore (lv' := [(5, .int (-1)), (4, .int 4), (0, .ref Mm), (1, .int 0), (2, .ref Mrr), (3, .int 0)]) hx hb dX7_items_93 hl (by decide) rfl (fun ls hl => ?_)
        refine lv_goto (tgt := 20) hx hb dX7_items_95 (by decide) ?_
        refine lv_aload_n hx hb dX7_items_20 rfl (lv_at hl 2 rfl) ?_
        refine va_get (D := D) (ci := 7) (v := .int (-1)) (C := RX7) (T := TX7) (N := 21) hx hb hts iX7 hown hK hP 1 rfl rfl 4 (by decide) f71 (fun _ h9 => h9) rfl dX7_items_21 ?_
        refine lv_iconst (v := (-1)) hx hb dX7_items_24 (by decide) ?_
        refine lv_icmp_ne (tgt := 98) hx hb dX7_items_25 (by decide) (fun cb => absurd (by decide) cb) (fun _ => ?_)
        refine lv_iload hx hb dX7_items_28 (lv_at hl 0 rfl) ?_
        refine lv_iconst (v := (-1)) hx hb dX7_items_30 (by decide) ?_
        refine lv_icmp_eq (tgt := 98) hx hb dX7_items_31 (by decide) (fun _ => ?_) (fun cb => absurd (by decide) cb)
        have hPD9 : PD D A [(Mm, .inr (7, [.int zth, .ref Mt, .int (nI tp), .int (nI max_407), .int (-1), .ref Mrr, .ref Mrh, .ref Mrc, .int (nI rh), .int (nI rc), .ref Mn, .ref Mf, .ref Mr, .ref Mh, .int zhp, .int zcc, .ref Ma, .ref Mas, .ref Msn, .ref Mac, .ref Mat])), (Mt, .inl (g 0, 160, .inl fmt)), (Mrr, .inl (g 0, 3, .inl (upd frrx_2 2 (nI nx_395))))] H := ⟨hP.sub [1, 2, 0] rfl, hD.sub [1, 2, 0] (by decide) rfl⟩
        have hP9 := hPD9.1; have hD9 := hPD9.2
        subst hQ
        refine W.widen (k := 0) (n := 0) (Nat.le_of_ble_eq_true rfl) (Nat.le_of_ble_eq_true rfl) ?_
        exact W.vret hx hb hr (fun tS htS _ => ⟨⟨_, rfl, ⟨max_407, (-1), (upd frrx_2 2 (nI nx_395)), rfl, ⟨(n1_upd (hf_3) (n := nx_395) (show nx_395 ≤ 99 by omega)), (show max_407 ≤ tp by omega), (show ma ≤ max_407 by omega), (congrArg Prod.fst (hR_402.trans (iv_m (f := 2) (m := 4) hf_410 hey_411.symm qi_413))).symm, (fun _ => (congrArg Prod.snd (hR_402.trans (iv_m (f := 2) (m := 4) hf_410 hey_411.symm qi_413))).symm), (fun _ => (hW_405.trans (iw_m (f := 2) (m := 4) hf_410 hey_411.symm qi_413)).symm)⟩⟩, by rw [htS]; exact hP9, hD9⟩, hS.F htS⟩) hS.2.2 dX7_items_98
      · skip
        refine lv_eqi (y := 0) (qi_413) ?_
        have hil_414 := iv_lt (k := 0) (q := 0) hey_411.symm qi_413 (by decide); have hil_414a := hil_414.1
        refine lv_istore (lv' := [(5, .int 0), (4, .int 4), (0, .ref Mm), (1, .int 0), (2, .ref Mrr), (3, .int 0)]) hx hb dX7_items_93 hl (by decide) rfl (fun ls hl => ?_)
        refine lv_goto (tgt := 20) hx hb dX7_items_95 (by decide) ?_
        refine lv_aload_n hx hb dX7_items_20 rfl (lv_at hl 2 rfl) ?_
        refine va_get (D := D) (ci := 7) (v := .int (-1)) (C := RX7) (T := TX7) (N := 21) hx hb hts iX7 hown hK hP 1 rfl rfl 4 (by decide) f71 (fun _ h9 => h9) rfl dX7_items_21 ?_
        refine lv_iconst (v := (-1)) hx hb dX7_items_24 (by decide) ?_
        refine lv_icmp_ne (tgt := 98) hx hb dX7_items_25 (by decide) (fun cb => absurd (by decide) cb) (fun _ => ?_)
        refine lv_iload hx hb dX7_items_28 (lv_at hl 0 rfl) ?_
        refine lv_iconst (v := (-1)) hx hb dX7_items_30 (by decide) ?_
        refine lv_icmp_eq (tgt := 98) hx hb dX7_items_31 (by decide) (fun cb => absurd cb (by decide)) (fun _ => ?_)
        refine lv_iload hx hb dX7_items_34 (lv_at hl 1 rfl) ?_
        refine lv_iload hx hb dX7_items_36 (lv_at hl 0 rfl) ?_
        refine ky_Si (As := [.int 4, .int 0]) (rest := []) ⟨hx, hb, hml, hown, hts⟩ ⟨hK, hN⟩ hZ hP hD hS hA [] [0, 1, 2] (wc := []) (wr := [(Mrr, .inl (g 0, 3, .inl (upd frrx_2 2 (nI nx_395)))), (Mm, .inr (7, [.int zth, .ref Mt, .int (nI tp), .int (nI max_407), .int (-1), .ref Mrr, .ref Mrh, .ref Mrc, .int (nI rh), .int (nI rc), .ref Mn, .ref Mf, .ref Mr, .ref Mh, .int zhp, .int zcc, .ref Ma, .ref Mas, .ref Msn, .ref Mac, .ref Mat])), (Mt, .inl (g 0, 160, .inl fmt))]) rfl rfl rfl rfl (by decide) (r_X7_has_40 l D g H.size) (va_cwS 2 hts gX7_items_X7_has rfl rfl rfl (by decide +kernel) ⟨(Nat.le_of_ble_eq_true rfl), (Nat.le_of_ble_eq_true rfl)⟩) rfl hl.1 rfl (Nat.le_of_ble_eq_true rfl) dX7_items_38 ⟨(Nat.le_of_ble_eq_true rfl), (Nat.le_of_ble_eq_true rfl)⟩ (fun r_415 u H locs hw hP2 hD2 hS2 => ?_)
        clear hP hD hS
        obtain ⟨rfl, rfl⟩ := hw
        have hPD : PD D A [(Mrr, .inl (g 0, 3, .inl (upd frrx_2 2 (nI nx_395)))), (Mm, .inr (7, [.int zth, .ref Mt, .int (nI tp), .int (nI max_407), .int (-1), .ref Mrr, .ref Mrh, .ref Mrc, .int (nI rh), .int (nI rc), .ref Mn, .ref Mf, .ref Mr, .ref Mh, .int zhp, .int zcc, .ref Ma, .ref Mas, .ref Msn, .ref Mac, .ref Mat])), (Mt, .inl (g 0, 160, .inl fmt))] H := ⟨hP2, hD2⟩
        have hS := hS2; clear hP2 hD2 hS2; have hP := hPD.1; have hD := hPD.2; clear hPD
        refine W.widen (k := 0) (n := 0) (Nat.le_of_ble_eq_true rfl) (Nat.le_of_ble_eq_true rfl) ?_
        refine lv_if_ne (tgt := 98) hx hb dX7_items_41 (by decide) (fun cb => absurd (by decide) cb) (fun _ => ?_)
        refine lv_iload hx hb dX7_items_44 (lv_at hl 1 rfl) ?_
        refine lv_iconst (v := 1) hx hb dX7_items_46 (by decide) ?_
        refine lv_iload hx hb dX7_items_47 (lv_at hl 0 rfl) ?_
        refine lv_ishl hx hb dX7_items_49 ?_
        refine lv_eqi (y := 1) (by decide) ?_
        refine lv_ior hx hb dX7_items_50 ?_
        refine lv_eqi (y := 5) (by decide) ?_
        refine lv_istore (lv' := [(4, .int 5), (5, .int 0), (0, .ref Mm), (1, .int 0), (2, .ref Mrr), (3, .int 0)]) hx hb dX7_items_51 hl (by decide) rfl (fun ls hl => ?_)
        refine lv_aload_n hx hb dX7_items_53 rfl (lv_at hl 2 rfl) ?_
        refine lv_dup hx hb dX7_items_54 rfl ?_
        refine va_get (D := D) (ci := 7) (v := .int (nI max_407)) (C := RX7) (T := TX7) (N := 21) hx hb hts iX7 hown hK hP 1 rfl rfl 3 (by decide) f64 (fun _ h9 => h9) rfl dX7_items_55 ?_
        refine lv_iconst (v := 1) hx hb dX7_items_58 (by decide) ?_
        refine lv_iadd hx hb dX7_items_59 ?_
        refine lv_eqi (y := (nI (max_407 + 1))) (nI_add (max_407) (1)) ?_
        refine va_put (D := D) (ci := 7) (v := .int (nI (max_407 + 1))) (ty := .int) (C := RX7) (T := TX7) (N := 21) hx hb hts iX7 tyX7 tyX7_ok nmX7 hown hK hP hD hS 1 rfl rfl 3 (by decide) f64 (fun _ h9 => h9) rfl (by decide +kernel) (rfl) (rfl) (Nat.le_of_ble_eq_true rfl) dX7_items_60 (fun H locs hP2 hD2 hS2 => ?_)
        clear hP hD hS
        have hPD : PD D A [(Mrr, .inl (g 0, 3, .inl (upd frrx_2 2 (nI nx_395)))), (Mm, .inr (7, [.int zth, .ref Mt, .int (nI tp), .int (nI (max_407 + 1)), .int (-1), .ref Mrr, .ref Mrh, .ref Mrc, .int (nI rh), .int (nI rc), .ref Mn, .ref Mf, .ref Mr, .ref Mh, .int zhp, .int zcc, .ref Ma, .ref Mas, .ref Msn, .ref Mac, .ref Mat])), (Mt, .inl (g 0, 160, .inl fmt))] H := ⟨hP2, hD2⟩
        have hS := hS2; clear hP2 hD2 hS2; have hP := hPD.1; have hD := hPD.2; clear hPD
        refine lv_aload_n hx hb dX7_items_63 rfl (lv_at hl 4 rfl) ?_
        refine lv_iload_n hx hb dX7_items_64 rfl (lv_at hl 5 rfl) ?_
        refine lv_iload hx hb dX7_items_65 (lv_at hl 1 rfl) ?_
        refine lv_iadd hx hb dX7_items_67 ?_
        refine lv_eqi (y := 0) (by decide) ?_
        refine lv_aload_n hx hb dX7_items_68 rfl (lv_at hl 2 rfl) ?_
        refine lv_iload_n hx hb dX7_items_69 rfl (lv_at hl 3 rfl) ?_
        refine lv_iload hx hb dX7_items_70 (lv_at hl 1 rfl) ?_
        refine ky_Si (As := [.int 0, .int 0]) (rest := [.ref Mm, .int 0, .ref Mrr]) ⟨hx, hb, hml, hown, hts⟩ ⟨hK, hN⟩ hZ hP hD hS hA [] [0, 1, 2] (wc := []) (wr := [(Mrr, .inl (g 0, 3, .inl (upd frrx_2 2 (nI nx_395)))), (Mm, .inr (7, [.int zth, .ref Mt, .int (nI tp), .int (nI (max_407 + 1)), .int (-1), .ref Mrr, .ref Mrh, .ref Mrc, .int (nI rh), .int (nI rc), .ref Mn, .ref Mf, .ref Mr, .ref Mh, .int zhp, .int zcc, .ref Ma, .ref Mas, .ref Msn, .ref Mac, .ref Mat])), (Mt, .inl (g 0, 160, .inl fmt))]) rfl rfl rfl rfl (by decide) (r_X7_lowest_00 l D g H.size) (va_cwS 2 hts gX7_items_X7_lowest rfl rfl rfl (by decide +kernel) ⟨(Nat.le_of_ble_eq_true rfl), (Nat.le_of_ble_eq_true rfl)⟩) rfl hl.1 rfl (Nat.le_of_ble_eq_true rfl) dX7_items_72 ⟨(Nat.le_of_ble_eq_true rfl), (Nat.le_of_ble_eq_true rfl)⟩ (fun r_416 u H locs hw hP2 hD2 hS2 => ?_)
        clear hP hD hS
        obtain ⟨rfl, rfl⟩ := hw
        have hPD : PD D A [(Mrr, .inl (g 0, 3, .inl (upd frrx_2 2 (nI nx_395)))), (Mm, .inr (7, [.int zth, .ref Mt, .int (nI tp), .int (nI (max_407 + 1)), .int (-1), .ref Mrr, .ref Mrh, .ref Mrc, .int (nI rh), .int (nI rc), .ref Mn, .ref Mf, .ref Mr, .ref Mh, .int zhp, .int zcc, .ref Ma, .ref Mas, .ref Msn, .ref Mac, .ref Mat])), (Mt, .inl (g 0, 160, .inl fmt))] H := ⟨hP2, hD2⟩
        have hS := hS2; clear hP2 hD2 hS2; have hP := hPD.1; have hD := hPD.2; clear hPD
        refine W.widen (k := 0) (n := 0) (Nat.le_of_ble_eq_true rfl) (Nat.le_of_ble_eq_true rfl) ?_
        refine lv_iload_n hx hb dX7_items_75 rfl (lv_at hl 3 rfl) ?_
        refine lv_iload hx hb dX7_items_76 (lv_at hl 1 rfl) ?_
        refine ky_Si (As := [.int 0, .int 0]) (rest := [.int 1, .ref Mm, .int 0, .ref Mrr]) ⟨hx, hb, hml, hown, hts⟩ ⟨hK, hN⟩ hZ hP hD hS hA [] [0, 1, 2] (wc := []) (wr := [(Mrr, .inl (g 0, 3, .inl (upd frrx_2 2 (nI nx_395)))), (Mm, .inr (7, [.int zth, .ref Mt, .int (nI tp), .int (nI (max_407 + 1)), .int (-1), .ref Mrr, .ref Mrh, .ref Mrc, .int (nI rh), .int (nI rc), .ref Mn, .ref Mf, .ref Mr, .ref Mh, .int zhp, .int zcc, .ref Ma, .ref Mas, .ref Msn, .ref Mac, .ref Mat])), (Mt, .inl (g 0, 160, .inl fmt))]) rfl rfl rfl rfl (by decide) (r_X7_highest_00 l D g H.size) (va_cwS 2 hts gX7_items_X7_highest rfl rfl rfl (by decide +kernel) ⟨(Nat.le_of_ble_eq_true rfl), (Nat.le_of_ble_eq_true rfl)⟩) rfl hl.1 rfl (Nat.le_of_ble_eq_true rfl) dX7_items_78 ⟨(Nat.le_of_ble_eq_true rfl), (Nat.le_of_ble_eq_true rfl)⟩ (fun r_417 u H locs hw hP2 hD2 hS2 => ?_)
        clear hP hD hS
        obtain ⟨rfl, rfl⟩ := hw
        have hPD : PD D A [(Mrr, .inl (g 0, 3, .inl (upd frrx_2 2 (nI nx_395)))), (Mm, .inr (7, [.int zth, .ref Mt, .int (nI tp), .int (nI (max_407 + 1)), .int (-1), .ref Mrr, .ref Mrh, .ref Mrc, .int (nI rh), .int (nI rc), .ref Mn, .ref Mf, .ref Mr, .ref Mh, .int zhp, .int zcc, .ref Ma, .ref Mas, .ref Msn, .ref Mac, .ref Mat])), (Mt, .inl (g 0, 160, .inl fmt))] H := ⟨hP2, hD2⟩
        have hS := hS2; clear hP2 hD2 hS2; have hP := hPD.1; have hD := hPD.2; clear hPD
        refine W.widen (k := 0) (n := 0) (Nat.le_of_ble_eq_true rfl) (Nat.le_of_ble_eq_true rfl) ?_
        refine ky_Vi (As := [.int 1, .int 4]) (rest := [.int 0, .ref Mrr]) ⟨hx, hb, hml, hown, hts⟩ ⟨hK, hN⟩ hZ hP hD hS hA [1, 2] [0] (wc := [(Mm, .inr (7, [.int zth, .ref Mt, .int (nI tp), .int (nI (max_407 + 1)), .int (-1), .ref Mrr, .ref Mrh, .ref Mrc, .int (nI rh), .int (nI rc), .ref Mn, .ref Mf, .ref Mr, .ref Mh, .int zhp, .int zcc, .ref Ma, .ref Mas, .ref Msn, .ref Mac, .ref Mat])), (Mt, .inl (g 0, 160, .inl fmt))]) (wr := [(Mrr, .inl (g 0, 3, .inl (upd frrx_2 2 (nI nx_395))))]) rfl rfl rfl rfl (by decide) (w_X7_number l D g H.size Mm 1 4 zth Mt tp (max_407 + 1) Mrr Mrh Mrc rh rc Mn Mf Mr Mh zhp zcc Ma Mas Msn Mac Mat fmt (show tp ≤ 160 by omega) (show (max_407 + 1) ≤ tp by omega) (show 1 ≤ 1 by omega)) (cwV 2 hts gX7_items_X7_number rfl rfl rfl (by decide +kernel) ⟨(Nat.le_of_ble_eq_true rfl), (Nat.le_of_ble_eq_true rfl)⟩) 1 7 rfl rfl rfl rfl hl.1 rfl (Nat.le_of_ble_eq_true rfl) dX7_items_81 ⟨(Nat.le_of_ble_eq_true rfl), (Nat.le_of_ble_eq_true rfl)⟩ (fun r_418 u H locs hw hP2 hD2 hS2 => ?_)
        clear hP hD hS
        obtain ⟨max_419, zwrx_420, nx_421, rfl, rfl, hf_422⟩ := hw
        have hg_423 := hf_422.1
        have hg_424 := hf_422.2.1
        have hg_425 := hf_422.2.2.1
        have hPD : PD D A [(Mrr, .inl (g 0, 3, .inl (upd frrx_2 2 (nI nx_395)))), (Mm, .inr (7, [.int zth, .ref Mt, .int (nI tp), .int (nI max_419), .int zwrx_420, .ref Mrr, .ref Mrh, .ref Mrc, .int (nI rh), .int (nI rc), .ref Mn, .ref Mf, .ref Mr, .ref Mh, .int zhp, .int zcc, .ref Ma, .ref Mas, .ref Msn, .ref Mac, .ref Mat])), (Mt, .inl (g 0, 160, .inl fmt))] H := ⟨hP2, hD2⟩
        have hS := hS2; clear hP2 hD2 hS2; have hP := hPD.1; have hD := hPD.2; clear hPD
        refine W.widen (k := 0) (n := 0) (Nat.le_of_ble_eq_true rfl) (Nat.le_of_ble_eq_true rfl) ?_
        refine va_iast hx hb hK hP hD hS 0 0 rfl rfl (by unfold vp_in; decide) dX7_items_84 (fun H locs hP2 hD2 hS2 => ?_)
        clear hP hD hS
        have hPD : PD D A [(Mrr, .inl (g 0, 3, .inl (upd (upd frrx_2 2 (nI nx_395)) 0 (nI nx_421)))), (Mm, .inr (7, [.int zth, .ref Mt, .int (nI tp), .int (nI max_419), .int zwrx_420, .ref Mrr, .ref Mrh, .ref Mrc, .int (nI rh), .int (nI rc), .ref Mn, .ref Mf, .ref Mr, .ref Mh, .int zhp, .int zcc, .ref Ma, .ref Mas, .ref Msn, .ref Mac, .ref Mat])), (Mt, .inl (g 0, 160, .inl fmt))] H := ⟨hP2, hD2⟩
        have hS := hS2; clear hP2 hD2 hS2; have hP := hPD.1; have hD := hPD.2; clear hPD
        by_cases cw_426 : zwrx_420 = -1
        · skip
          have hPq_427 := hP; have hDq_427 := hD; have hSq_427 := hS; have hlq_427 := hl; clear hP hD hS hl
          subst cw_426
          have hP := hPq_427; have hD := hDq_427; have hS := hSq_427; have hl := hlq_427; clear hPq_427 hDq_427 hSq_427 hlq_427
          have hne_429 := hf_422.2.2.2.2.1 rfl
          have hnv_430 := hf_422.2.2.2.2.2 rfl
          have hR_428 : itR fmt tp 0 4 0 ma = itR fmt tp 0 2 5 max_419 := hR_402.trans ((itR_go (f := 2) (m := 4) (q := 0) hf_410 hil_414.1 hil_414.2 (by decide) (by decide) hf_422.2.2.2.1.symm).trans (by rw [hne_429]))
          have hW_431 : itW fmt tp 0 0 4 0 ma (us3 0 0 frr) = itW fmt tp 0 0 2 5 max_419 (upd (upd frrx_2 2 (nI nx_395)) 0 (nI nx_421)) := hW_405.trans ((itW_go (f := 2) (m := 4) (q := 0) hf_410 hil_414.1 hil_414.2 (by decide) (by decide) hf_422.2.2.2.1.symm).trans (by rw [hne_429, hnv_430]))
          refine lv_iload_n hx hb dX7_items_85 rfl (lv_at hl 3 rfl) ?_
          refine lv_aload_n hx hb dX7_items_86 rfl (lv_at hl 2 rfl) ?_
          refine ky_Vi (As := []) (rest := [.int 0]) ⟨hx, hb, hml, hown, hts⟩ ⟨hK, hN⟩ hZ hP hD hS hA [1, 2] [0] (wc := [(Mm, .inr (7, [.int zth, .ref Mt, .int (nI tp), .int (nI max_419), .int (-1), .ref Mrr, .ref Mrh, .ref Mrc, .int (nI rh), .int (nI rc), .ref Mn, .ref Mf, .ref Mr, .ref Mh, .int zhp, .int zcc, .ref Ma, .ref Mas, .ref Msn, .ref Mac, .ref Mat])), (Mt, .inl (g 0, 160, .inl fmt))]) (wr := [(Mrr, .inl (g 0, 3, .inl (upd (upd frrx_2 2 (nI nx_395)) 0 (nI nx_421))))]) rfl rfl rfl rfl (by decide) (r_X7_ahead l D g H.size Mm zth Mt tp max_419 (-1) Mrr Mrh Mrc rh rc Mn Mf Mr Mh zhp zcc Ma Mas Msn Mac Mat fmt (show tp ≤ 160 by omega) (show max_419 ≤ tp by omega)) (cwV 0 hts gX7_items_X7_ahead rfl rfl rfl (by decide +kernel) ⟨(Nat.le_of_ble_eq_true rfl), (Nat.le_of_ble_eq_true rfl)⟩) 1 7 rfl rfl rfl rfl hl.1 rfl (Nat.le_of_ble_eq_true rfl) dX7_items_87 ⟨(Nat.le_of_ble_eq_true rfl), (Nat.le_of_ble_eq_true rfl)⟩ (fun r_432 u H locs hw hP2 hD2 hS2 => ?_)
          clear hP hD hS
          obtain ⟨max_433, rfl, rfl, hf_434, hf_435, hf_436⟩ := hw
          have hPD : PD D A [(Mrr, .inl (g 0, 3, .inl (upd (upd frrx_2 2 (nI nx_395)) 0 (nI nx_421)))), (Mm, .inr (7, [.int zth, .ref Mt, .int (nI tp), .int (nI max_433), .int (-1), .ref Mrr, .ref Mrh, .ref Mrc, .int (nI rh), .int (nI rc), .ref Mn, .ref Mf, .ref Mr, .ref Mh, .int zhp, .int zcc, .ref Ma, .ref Mas, .ref Msn, .ref Mac, .ref Mat])), (Mt, .inl (g 0, 160, .inl fmt))] H := ⟨hP2, hD2⟩
          have hS := hS2; clear hP2 hD2 hS2; have hP := hPD.1; have hD := hPD.2; clear hPD
          refine W.widen (k := 0) (n := 0) (Nat.le_of_ble_eq_true rfl) (Nat.le_of_ble_eq_true rfl) ?_
          refine lv_topi (fun y_437 hey_437 => ?_)
          refine ky_Si (As := [.int 0, .int y_437]) (rest := []) ⟨hx, hb, hml, hown, hts⟩ ⟨hK, hN⟩ hZ hP hD hS hA [] [0, 1, 2] (wc := []) (wr := [(Mrr, .inl (g 0, 3, .inl (upd (upd frrx_2 2 (nI nx_395)) 0 (nI nx_421)))), (Mm, .inr (7, [.int zth, .ref Mt, .int (nI tp), .int (nI max_433), .int (-1), .ref Mrr, .ref Mrh, .ref Mrc, .int (nI rh), .int (nI rc), .ref Mn, .ref Mf, .ref Mr, .ref Mh, .int zhp, .int zcc, .ref Ma, .ref Mas, .ref Msn, .ref Mac, .ref Mat])), (Mt, .inl (g 0, 160, .inl fmt))]) rfl rfl rfl rfl (by decide) (r_X7_itemBy_0 l D g H.size y_437) (va_cwS 2 hts gX7_items_X7_itemBy rfl rfl rfl (by decide +kernel) ⟨(Nat.le_of_ble_eq_true rfl), (Nat.le_of_ble_eq_true rfl)⟩) rfl hl.1 rfl (Nat.le_of_ble_eq_true rfl) dX7_items_90 ⟨(Nat.le_of_ble_eq_true rfl), (Nat.le_of_ble_eq_true rfl)⟩ (fun r_438 u H locs hw hP2 hD2 hS2 => ?_)
          clear hP hD hS
          obtain ⟨rfl, rfl⟩ := hw
          have hPD : PD D A [(Mrr, .inl (g 0, 3, .inl (upd (upd frrx_2 2 (nI nx_395)) 0 (nI nx_421)))), (Mm, .inr (7, [.int zth, .ref Mt, .int (nI tp), .int (nI max_433), .int (-1), .ref Mrr, .ref Mrh, .ref Mrc, .int (nI rh), .int (nI rc), .ref Mn, .ref Mf, .ref Mr, .ref Mh, .int zhp, .int zcc, .ref Ma, .ref Mas, .ref Msn, .ref Mac, .ref Mat])), (Mt, .inl (g 0, 160, .inl fmt))] H := ⟨hP2, hD2⟩
          have hS := hS2; clear hP2 hD2 hS2; have hP := hPD.1; have hD := hPD.2; clear hPD
          refine W.widen (k := 0) (n := 0) (Nat.le_of_ble_eq_true rfl) (Nat.le_of_ble_eq_true rfl) ?_
          rcases itK_c 0 y_437 with qi_439 | qi_439 | qi_439 | qi_439
          · skip
            refine lv_eqi (y := (-1)) (qi_439) ?_
            refine lv_istore (lv' := [(5, .int (-1)), (4, .int 5), (0, .ref Mm), (1, .int 0), (2, .ref Mrr), (3, .int 0)]) hx hb dX7_items_93 hl (by decide) rfl (fun ls hl => ?_)
            refine lv_goto (tgt := 20) hx hb dX7_items_95 (by decide) ?_
            refine lv_aload_n hx hb dX7_items_20 rfl (lv_at hl 2 rfl) ?_
            refine va_get (D := D) (ci := 7) (v := .int (-1)) (C := RX7) (T := TX7) (N := 21) hx hb hts iX7 hown hK hP 1 rfl rfl 4 (by decide) f71 (fun _ h9 => h9) rfl dX7_items_21 ?_
            refine lv_iconst (v := (-1)) hx hb dX7_items_24 (by decide) ?_
            refine lv_icmp_ne (tgt := 98) hx hb dX7_items_25 (by decide) (fun cb => absurd (by decide) cb) (fun _ => ?_)
            refine lv_iload hx hb dX7_items_28 (lv_at hl 0 rfl) ?_
            refine lv_iconst (v := (-1)) hx hb dX7_items_30 (by decide) ?_
            refine lv_icmp_eq (tgt := 98) hx hb dX7_items_31 (by decide) (fun _ => ?_) (fun cb => absurd (by decide) cb)
            have hPD9 : PD D A [(Mm, .inr (7, [.int zth, .ref Mt, .int (nI tp), .int (nI max_433), .int (-1), .ref Mrr, .ref Mrh, .ref Mrc, .int (nI rh), .int (nI rc), .ref Mn, .ref Mf, .ref Mr, .ref Mh, .int zhp, .int zcc, .ref Ma, .ref Mas, .ref Msn, .ref Mac, .ref Mat])), (Mt, .inl (g 0, 160, .inl fmt)), (Mrr, .inl (g 0, 3, .inl (upd (upd frrx_2 2 (nI nx_395)) 0 (nI nx_421))))] H := ⟨hP.sub [1, 2, 0] rfl, hD.sub [1, 2, 0] (by decide) rfl⟩
            have hP9 := hPD9.1; have hD9 := hPD9.2
            subst hQ
            refine W.widen (k := 0) (n := 0) (Nat.le_of_ble_eq_true rfl) (Nat.le_of_ble_eq_true rfl) ?_
            exact W.vret hx hb hr (fun tS htS _ => ⟨⟨_, rfl, ⟨max_433, (-1), (upd (upd frrx_2 2 (nI nx_395)) 0 (nI nx_421)), rfl, ⟨(n1_upd (n1_upd (hf_3) (n := nx_395) (show nx_395 ≤ 99 by omega)) (n := nx_421) (show nx_421 ≤ 99 by omega)), (show max_433 ≤ tp by omega), (show ma ≤ max_433 by omega), (congrArg Prod.fst (hR_428.trans (iv_m (f := 1) (m := 5) hf_436 hey_437.symm qi_439))).symm, (fun _ => (congrArg Prod.snd (hR_428.trans (iv_m (f := 1) (m := 5) hf_436 hey_437.symm qi_439))).symm), (fun _ => (hW_431.trans (iw_m (f := 1) (m := 5) hf_436 hey_437.symm qi_439)).symm)⟩⟩, by rw [htS]; exact hP9, hD9⟩, hS.F htS⟩) hS.2.2 dX7_items_98
          · skip
            refine lv_eqi (y := 0) (qi_439) ?_
            have hil_440 := iv_lt (k := 0) (q := 0) hey_437.symm qi_439 (by decide); have hil_440a := hil_440.1
            refine lv_istore (lv' := [(5, .int 0), (4, .int 5), (0, .ref Mm), (1, .int 0), (2, .ref Mrr), (3, .int 0)]) hx hb dX7_items_93 hl (by decide) rfl (fun ls hl => ?_)
            refine lv_goto (tgt := 20) hx hb dX7_items_95 (by decide) ?_
            refine lv_aload_n hx hb dX7_items_20 rfl (lv_at hl 2 rfl) ?_
            refine va_get (D := D) (ci := 7) (v := .int (-1)) (C := RX7) (T := TX7) (N := 21) hx hb hts iX7 hown hK hP 1 rfl rfl 4 (by decide) f71 (fun _ h9 => h9) rfl dX7_items_21 ?_
            refine lv_iconst (v := (-1)) hx hb dX7_items_24 (by decide) ?_
            refine lv_icmp_ne (tgt := 98) hx hb dX7_items_25 (by decide) (fun cb => absurd (by decide) cb) (fun _ => ?_)
            refine lv_iload hx hb dX7_items_28 (lv_at hl 0 rfl) ?_
            refine lv_iconst (v := (-1)) hx hb dX7_items_30 (by decide) ?_
            refine lv_icmp_eq (tgt := 98) hx hb dX7_items_31 (by decide) (fun cb => absurd cb (by decide)) (fun _ => ?_)
            refine lv_iload hx hb dX7_items_34 (lv_at hl 1 rfl) ?_
            refine lv_iload hx hb dX7_items_36 (lv_at hl 0 rfl) ?_
            refine ky_Si (As := [.int 5, .int 0]) (rest := []) ⟨hx, hb, hml, hown, hts⟩ ⟨hK, hN⟩ hZ hP hD hS hA [] [0, 1, 2] (wc := []) (wr := [(Mrr, .inl (g 0, 3, .inl (upd (upd frrx_2 2 (nI nx_395)) 0 (nI nx_421)))), (Mm, .inr (7, [.int zth, .ref Mt, .int (nI tp), .int (nI max_433), .int (-1), .ref Mrr, .ref Mrh, .ref Mrc, .int (nI rh), .int (nI rc), .ref Mn, .ref Mf, .ref Mr, .ref Mh, .int zhp, .int zcc, .ref Ma, .ref Mas, .ref Msn, .ref Mac, .ref Mat])), (Mt, .inl (g 0, 160, .inl fmt))]) rfl rfl rfl rfl (by decide) (r_X7_has_50 l D g H.size) (va_cwS 2 hts gX7_items_X7_has rfl rfl rfl (by decide +kernel) ⟨(Nat.le_of_ble_eq_true rfl), (Nat.le_of_ble_eq_true rfl)⟩) rfl hl.1 rfl (Nat.le_of_ble_eq_true rfl) dX7_items_38 ⟨(Nat.le_of_ble_eq_true rfl), (Nat.le_of_ble_eq_true rfl)⟩ (fun r_441 u H locs hw hP2 hD2 hS2 => ?_)
            clear hP hD hS
            obtain ⟨rfl, rfl⟩ := hw
            have hPD : PD D A [(Mrr, .inl (g 0, 3, .inl (upd (upd frrx_2 2 (nI nx_395)) 0 (nI nx_421)))), (Mm, .inr (7, [.int zth, .ref Mt, .int (nI tp), .int (nI max_433), .int (-1), .ref Mrr, .ref Mrh, .ref Mrc, .int (nI rh), .int (nI rc), .ref Mn, .ref Mf, .ref Mr, .ref Mh, .int zhp, .int zcc, .ref Ma, .ref Mas, .ref Msn, .ref Mac, .ref Mat])), (Mt, .inl (g 0, 160, .inl fmt))] H := ⟨hP2, hD2⟩
            have hS := hS2; clear hP2 hD2 hS2; have hP := hPD.1; have hD := hPD.2; clear hPD
            refine W.widen (k := 0) (n := 0) (Nat.le_of_ble_eq_true rfl) (Nat.le_of_ble_eq_true rfl) ?_
            refine lv_if_ne (tgt := 98) hx hb dX7_items_41 (by decide) (fun _ => ?_) (fun cb => absurd cb (by decide))
            have hPD9 : PD D A [(Mm, .inr (7, [.int zth, .ref Mt, .int (nI tp), .int (nI max_433), .int (-1), .ref Mrr, .ref Mrh, .ref Mrc, .int (nI rh), .int (nI rc), .ref Mn, .ref Mf, .ref Mr, .ref Mh, .int zhp, .int zcc, .ref Ma, .ref Mas, .ref Msn, .ref Mac, .ref Mat])), (Mt, .inl (g 0, 160, .inl fmt)), (Mrr, .inl (g 0, 3, .inl (upd (upd frrx_2 2 (nI nx_395)) 0 (nI nx_421))))] H := ⟨hP.sub [1, 2, 0] rfl, hD.sub [1, 2, 0] (by decide) rfl⟩
            have hP9 := hPD9.1; have hD9 := hPD9.2
            subst hQ
            refine W.widen (k := 0) (n := 0) (Nat.le_of_ble_eq_true rfl) (Nat.le_of_ble_eq_true rfl) ?_
            exact W.vret hx hb hr (fun tS htS _ => ⟨⟨_, rfl, ⟨max_433, (-1), (upd (upd frrx_2 2 (nI nx_395)) 0 (nI nx_421)), rfl, ⟨(n1_upd (n1_upd (hf_3) (n := nx_395) (show nx_395 ≤ 99 by omega)) (n := nx_421) (show nx_421 ≤ 99 by omega)), (show max_433 ≤ tp by omega), (show ma ≤ max_433 by omega), (congrArg Prod.fst (hR_428.trans (itR_again (f := 1) (m := 5) (q := 0) hf_436 hil_440.2 (by decide) (by decide)))).symm, (fun _ => (congrArg Prod.snd (hR_428.trans (itR_again (f := 1) (m := 5) (q := 0) hf_436 hil_440.2 (by decide) (by decide)))).symm), (fun _ => (hW_431.trans (itW_again (f := 1) (m := 5) (q := 0) hf_436 hil_440.2 (by decide) (by decide))).symm)⟩⟩, by rw [htS]; exact hP9, hD9⟩, hS.F htS⟩) hS.2.2 dX7_items_98
          · skip
            refine lv_eqi (y := 1) (qi_439) ?_
            have hil_442 := iv_lt (k := 0) (q := 1) hey_437.symm qi_439 (by decide); have hil_442a := hil_442.1
            refine lv_istore (lv' := [(5, .int 1), (4, .int 5), (0, .ref Mm), (1, .int 0), (2, .ref Mrr), (3, .int 0)]) hx hb dX7_items_93 hl (by decide) rfl (fun ls hl => ?_)
            refine lv_goto (tgt := 20) hx hb dX7_items_95 (by decide) ?_
            refine lv_aload_n hx hb dX7_items_20 rfl (lv_at hl 2 rfl) ?_
            refine va_get (D := D) (ci := 7) (v := .int (-1)) (C := RX7) (T := TX7) (N := 21) hx hb hts iX7 hown hK hP 1 rfl rfl 4 (by decide) f71 (fun _ h9 => h9) rfl dX7_items_21 ?_
            refine lv_iconst (v := (-1)) hx hb dX7_items_24 (by decide) ?_
            refine lv_icmp_ne (tgt := 98) hx hb dX7_items_25 (by decide) (fun cb => absurd (by decide) cb) (fun _ => ?_)
            refine lv_iload hx hb dX7_items_28 (lv_at hl 0 rfl) ?_
            refine lv_iconst (v := (-1)) hx hb dX7_items_30 (by decide) ?_
            refine lv_icmp_eq (tgt := 98) hx hb dX7_items_31 (by decide) (fun cb => absurd cb (by decide)) (fun _ => ?_)
            refine lv_iload hx hb dX7_items_34 (lv_at hl 1 rfl) ?_
            refine lv_iload hx hb dX7_items_36 (lv_at hl 0 rfl) ?_
            refine ky_Si (As := [.int 5, .int 1]) (rest := []) ⟨hx, hb, hml, hown, hts⟩ ⟨hK, hN⟩ hZ hP hD hS hA [] [0, 1, 2] (wc := []) (wr := [(Mrr, .inl (g 0, 3, .inl (upd (upd frrx_2 2 (nI nx_395)) 0 (nI nx_421)))), (Mm, .inr (7, [.int zth, .ref Mt, .int (nI tp), .int (nI max_433), .int (-1), .ref Mrr, .ref Mrh, .ref Mrc, .int (nI rh), .int (nI rc), .ref Mn, .ref Mf, .ref Mr, .ref Mh, .int zhp, .int zcc, .ref Ma, .ref Mas, .ref Msn, .ref Mac, .ref Mat])), (Mt, .inl (g 0, 160, .inl fmt))]) rfl rfl rfl rfl (by decide) (r_X7_has_51 l D g H.size) (va_cwS 2 hts gX7_items_X7_has rfl rfl rfl (by decide +kernel) ⟨(Nat.le_of_ble_eq_true rfl), (Nat.le_of_ble_eq_true rfl)⟩) rfl hl.1 rfl (Nat.le_of_ble_eq_true rfl) dX7_items_38 ⟨(Nat.le_of_ble_eq_true rfl), (Nat.le_of_ble_eq_true rfl)⟩ (fun r_443 u H locs hw hP2 hD2 hS2 => ?_)
            clear hP hD hS
            obtain ⟨rfl, rfl⟩ := hw
            have hPD : PD D A [(Mrr, .inl (g 0, 3, .inl (upd (upd frrx_2 2 (nI nx_395)) 0 (nI nx_421)))), (Mm, .inr (7, [.int zth, .ref Mt, .int (nI tp), .int (nI max_433), .int (-1), .ref Mrr, .ref Mrh, .ref Mrc, .int (nI rh), .int (nI rc), .ref Mn, .ref Mf, .ref Mr, .ref Mh, .int zhp, .int zcc, .ref Ma, .ref Mas, .ref Msn, .ref Mac, .ref Mat])), (Mt, .inl (g 0, 160, .inl fmt))] H := ⟨hP2, hD2⟩
            have hS := hS2; clear hP2 hD2 hS2; have hP := hPD.1; have hD := hPD.2; clear hPD
            refine W.widen (k := 0) (n := 0) (Nat.le_of_ble_eq_true rfl) (Nat.le_of_ble_eq_true rfl) ?_
            refine lv_if_ne (tgt := 98) hx hb dX7_items_41 (by decide) (fun cb => absurd (by decide) cb) (fun _ => ?_)
            refine lv_iload hx hb dX7_items_44 (lv_at hl 1 rfl) ?_
            refine lv_iconst (v := 1) hx hb dX7_items_46 (by decide) ?_
            refine lv_iload hx hb dX7_items_47 (lv_at hl 0 rfl) ?_
            refine lv_ishl hx hb dX7_items_49 ?_
            refine lv_eqi (y := 2) (by decide) ?_
            refine lv_ior hx hb dX7_items_50 ?_
            refine lv_eqi (y := 7) (by decide) ?_
            refine lv_istore (lv' := [(4, .int 7), (5, .int 1), (0, .ref Mm), (1, .int 0), (2, .ref Mrr), (3, .int 0)]) hx hb dX7_items_51 hl (by decide) rfl (fun ls hl => ?_)
            refine lv_aload_n hx hb dX7_items_53 rfl (lv_at hl 2 rfl) ?_
            refine lv_dup hx hb dX7_items_54 rfl ?_
            refine va_get (D := D) (ci := 7) (v := .int (nI max_433)) (C := RX7) (T := TX7) (N := 21) hx hb hts iX7 hown hK hP 1 rfl rfl 3 (by decide) f64 (fun _ h9 => h9) rfl dX7_items_55 ?_
            refine lv_iconst (v := 1) hx hb dX7_items_58 (by decide) ?_
            refine lv_iadd hx hb dX7_items_59 ?_
            refine lv_eqi (y := (nI (max_433 + 1))) (nI_add (max_433) (1)) ?_
            refine va_put (D := D) (ci := 7) (v := .int (nI (max_433 + 1))) (ty := .int) (C := RX7) (T := TX7) (N := 21) hx hb hts iX7 tyX7 tyX7_ok nmX7 hown hK hP hD hS 1 rfl rfl 3 (by decide) f64 (fun _ h9 => h9) rfl (by decide +kernel) (rfl) (rfl) (Nat.le_of_ble_eq_true rfl) dX7_items_60 (fun H locs hP2 hD2 hS2 => ?_)
            clear hP hD hS
            have hPD : PD D A [(Mrr, .inl (g 0, 3, .inl (upd (upd frrx_2 2 (nI nx_395)) 0 (nI nx_421)))), (Mm, .inr (7, [.int zth, .ref Mt, .int (nI tp), .int (nI (max_433 + 1)), .int (-1), .ref Mrr, .ref Mrh, .ref Mrc, .int (nI rh), .int (nI rc), .ref Mn, .ref Mf, .ref Mr, .ref Mh, .int zhp, .int zcc, .ref Ma, .ref Mas, .ref Msn, .ref Mac, .ref Mat])), (Mt, .inl (g 0, 160, .inl fmt))] H := ⟨hP2, hD2⟩
            have hS := hS2; clear hP2 hD2 hS2; have hP := hPD.1; have hD := hPD.2; clear hPD
            refine lv_aload_n hx hb dX7_items_63 rfl (lv_at hl 4 rfl) ?_
            refine lv_iload_n hx hb dX7_items_64 rfl (lv_at hl 5 rfl) ?_
            refine lv_iload hx hb dX7_items_65 (lv_at hl 1 rfl) ?_
            refine lv_iadd hx hb dX7_items_67 ?_
            refine lv_eqi (y := 1) (by decide) ?_
            refine lv_aload_n hx hb dX7_items_68 rfl (lv_at hl 2 rfl) ?_
            refine lv_iload_n hx hb dX7_items_69 rfl (lv_at hl 3 rfl) ?_
            refine lv_iload hx hb dX7_items_70 (lv_at hl 1 rfl) ?_
            refine ky_Si (As := [.int 0, .int 1]) (rest := [.ref Mm, .int 1, .ref Mrr]) ⟨hx, hb, hml, hown, hts⟩ ⟨hK, hN⟩ hZ hP hD hS hA [] [0, 1, 2] (wc := []) (wr := [(Mrr, .inl (g 0, 3, .inl (upd (upd frrx_2 2 (nI nx_395)) 0 (nI nx_421)))), (Mm, .inr (7, [.int zth, .ref Mt, .int (nI tp), .int (nI (max_433 + 1)), .int (-1), .ref Mrr, .ref Mrh, .ref Mrc, .int (nI rh), .int (nI rc), .ref Mn, .ref Mf, .ref Mr, .ref Mh, .int zhp, .int zcc, .ref Ma, .ref Mas, .ref Msn, .ref Mac, .ref Mat])), (Mt, .inl (g 0, 160, .inl fmt))]) rfl rfl rfl rfl (by decide) (r_X7_lowest_01 l D g H.size) (va_cwS 2 hts gX7_items_X7_lowest rfl rfl rfl (by decide +kernel) ⟨(Nat.le_of_ble_eq_true rfl), (Nat.le_of_ble_eq_true rfl)⟩) rfl hl.1 rfl (Nat.le_of_ble_eq_true rfl) dX7_items_72 ⟨(Nat.le_of_ble_eq_true rfl), (Nat.le_of_ble_eq_true rfl)⟩ (fun r_444 u H locs hw hP2 hD2 hS2 => ?_)
            clear hP hD hS
            obtain ⟨rfl, rfl⟩ := hw
            have hPD : PD D A [(Mrr, .inl (g 0, 3, .inl (upd (upd frrx_2 2 (nI nx_395)) 0 (nI nx_421)))), (Mm, .inr (7, [.int zth, .ref Mt, .int (nI tp), .int (nI (max_433 + 1)), .int (-1), .ref Mrr, .ref Mrh, .ref Mrc, .int (nI rh), .int (nI rc), .ref Mn, .ref Mf, .ref Mr, .ref Mh, .int zhp, .int zcc, .ref Ma, .ref Mas, .ref Msn, .ref Mac, .ref Mat])), (Mt, .inl (g 0, 160, .inl fmt))] H := ⟨hP2, hD2⟩
            have hS := hS2; clear hP2 hD2 hS2; have hP := hPD.1; have hD := hPD.2; clear hPD
            refine W.widen (k := 0) (n := 0) (Nat.le_of_ble_eq_true rfl) (Nat.le_of_ble_eq_true rfl) ?_
            refine lv_iload_n hx hb dX7_items_75 rfl (lv_at hl 3 rfl) ?_
            refine lv_iload hx hb dX7_items_76 (lv_at hl 1 rfl) ?_
            refine ky_Si (As := [.int 0, .int 1]) (rest := [.int 0, .ref Mm, .int 1, .ref Mrr]) ⟨hx, hb, hml, hown, hts⟩ ⟨hK, hN⟩ hZ hP hD hS hA [] [0, 1, 2] (wc := []) (wr := [(Mrr, .inl (g 0, 3, .inl (upd (upd frrx_2 2 (nI nx_395)) 0 (nI nx_421)))), (Mm, .inr (7, [.int zth, .ref Mt, .int (nI tp), .int (nI (max_433 + 1)), .int (-1), .ref Mrr, .ref Mrh, .ref Mrc, .int (nI rh), .int (nI rc), .ref Mn, .ref Mf, .ref Mr, .ref Mh, .int zhp, .int zcc, .ref Ma, .ref Mas, .ref Msn, .ref Mac, .ref Mat])), (Mt, .inl (g 0, 160, .inl fmt))]) rfl rfl rfl rfl (by decide) (r_X7_highest_01 l D g H.size) (va_cwS 2 hts gX7_items_X7_highest rfl rfl rfl (by decide +kernel) ⟨(Nat.le_of_ble_eq_true rfl), (Nat.le_of_ble_eq_true rfl)⟩) rfl hl.1 rfl (Nat.le_of_ble_eq_true rfl) dX7_items_78 ⟨(Nat.le_of_ble_eq_true rfl), (Nat.le_of_ble_eq_true rfl)⟩ (fun r_445 u H locs hw hP2 hD2 hS2 => ?_)
            clear hP hD hS
            obtain ⟨rfl, rfl⟩ := hw
            have hPD : PD D A [(Mrr, .inl (g 0, 3, .inl (upd (upd frrx_2 2 (nI nx_395)) 0 (nI nx_421)))), (Mm, .inr (7, [.int zth, .ref Mt, .int (nI tp), .int (nI (max_433 + 1)), .int (-1), .ref Mrr, .ref Mrh, .ref Mrc, .int (nI rh), .int (nI rc), .ref Mn, .ref Mf, .ref Mr, .ref Mh, .int zhp, .int zcc, .ref Ma, .ref Mas, .ref Msn, .ref Mac, .ref Mat])), (Mt, .inl (g 0, 160, .inl fmt))] H := ⟨hP2, hD2⟩
            have hS := hS2; clear hP2 hD2 hS2; have hP := hPD.1; have hD := hPD.2; clear hPD
            refine W.widen (k := 0) (n := 0) (Nat.le_of_ble_eq_true rfl) (Nat.le_of_ble_eq_true rfl) ?_
            refine ky_Vi (As := [.int 0, .int 20]) (rest := [.int 1, .ref Mrr]) ⟨hx, hb, hml, hown, hts⟩ ⟨hK, hN⟩ hZ hP hD hS hA [1, 2] [0] (wc := [(Mm, .inr (7, [.int zth, .ref Mt, .int (nI tp), .int (nI (max_433 + 1)), .int (-1), .ref Mrr, .ref Mrh, .ref Mrc, .int (nI rh), .int (nI rc), .ref Mn, .ref Mf, .ref Mr, .ref Mh, .int zhp, .int zcc, .ref Ma, .ref Mas, .ref Msn, .ref Mac, .ref Mat])), (Mt, .inl (g 0, 160, .inl fmt))]) (wr := [(Mrr, .inl (g 0, 3, .inl (upd (upd frrx_2 2 (nI nx_395)) 0 (nI nx_421))))]) rfl rfl rfl rfl (by decide) (w_X7_number l D g H.size Mm 0 20 zth Mt tp (max_433 + 1) Mrr Mrh Mrc rh rc Mn Mf Mr Mh zhp zcc Ma Mas Msn Mac Mat fmt (show tp ≤ 160 by omega) (show (max_433 + 1) ≤ tp by omega) (show 0 ≤ 1 by omega)) (cwV 2 hts gX7_items_X7_number rfl rfl rfl (by decide +kernel) ⟨(Nat.le_of_ble_eq_true rfl), (Nat.le_of_ble_eq_true rfl)⟩) 1 7 rfl rfl rfl rfl hl.1 rfl (Nat.le_of_ble_eq_true rfl) dX7_items_81 ⟨(Nat.le_of_ble_eq_true rfl), (Nat.le_of_ble_eq_true rfl)⟩ (fun r_446 u H locs hw hP2 hD2 hS2 => ?_)
            clear hP hD hS
            obtain ⟨max_447, zwrx_448, nx_449, rfl, rfl, hf_450⟩ := hw
            have hg_451 := hf_450.1
            have hg_452 := hf_450.2.1
            have hg_453 := hf_450.2.2.1
            have hPD : PD D A [(Mrr, .inl (g 0, 3, .inl (upd (upd frrx_2 2 (nI nx_395)) 0 (nI nx_421)))), (Mm, .inr (7, [.int zth, .ref Mt, .int (nI tp), .int (nI max_447), .int zwrx_448, .ref Mrr, .ref Mrh, .ref Mrc, .int (nI rh), .int (nI rc), .ref Mn, .ref Mf, .ref Mr, .ref Mh, .int zhp, .int zcc, .ref Ma, .ref Mas, .ref Msn, .ref Mac, .ref Mat])), (Mt, .inl (g 0, 160, .inl fmt))] H := ⟨hP2, hD2⟩
            have hS := hS2; clear hP2 hD2 hS2; have hP := hPD.1; have hD := hPD.2; clear hPD
            refine W.widen (k := 0) (n := 0) (Nat.le_of_ble_eq_true rfl) (Nat.le_of_ble_eq_true rfl) ?_
            refine va_iast hx hb hK hP hD hS 0 0 rfl rfl (by unfold vp_in; decide) dX7_items_84 (fun H locs hP2 hD2 hS2 => ?_)
            clear hP hD hS
            have hPD : PD D A [(Mrr, .inl (g 0, 3, .inl (upd (upd (upd frrx_2 2 (nI nx_395)) 0 (nI nx_421)) 1 (nI nx_449)))), (Mm, .inr (7, [.int zth, .ref Mt, .int (nI tp), .int (nI max_447), .int zwrx_448, .ref Mrr, .ref Mrh, .ref Mrc, .int (nI rh), .int (nI rc), .ref Mn, .ref Mf, .ref Mr, .ref Mh, .int zhp, .int zcc, .ref Ma, .ref Mas, .ref Msn, .ref Mac, .ref Mat])), (Mt, .inl (g 0, 160, .inl fmt))] H := ⟨hP2, hD2⟩
            have hS := hS2; clear hP2 hD2 hS2; have hP := hPD.1; have hD := hPD.2; clear hPD
            by_cases cw_454 : zwrx_448 = -1
            · skip
              have hPq_455 := hP; have hDq_455 := hD; have hSq_455 := hS; have hlq_455 := hl; clear hP hD hS hl
              subst cw_454
              have hP := hPq_455; have hD := hDq_455; have hS := hSq_455; have hl := hlq_455; clear hPq_455 hDq_455 hSq_455 hlq_455
              have hne_457 := hf_450.2.2.2.2.1 rfl
              have hnv_458 := hf_450.2.2.2.2.2 rfl
              have hR_456 : itR fmt tp 0 4 0 ma = itR fmt tp 0 1 7 max_447 := hR_428.trans ((itR_go (f := 1) (m := 5) (q := 1) hf_436 hil_442.1 hil_442.2 (by decide) (by decide) hf_450.2.2.2.1.symm).trans (by rw [hne_457]))
              have hW_459 : itW fmt tp 0 0 4 0 ma (us3 0 0 frr) = itW fmt tp 0 0 1 7 max_447 (upd (upd (upd frrx_2 2 (nI nx_395)) 0 (nI nx_421)) 1 (nI nx_449)) := hW_431.trans ((itW_go (f := 1) (m := 5) (q := 1) hf_436 hil_442.1 hil_442.2 (by decide) (by decide) hf_450.2.2.2.1.symm).trans (by rw [hne_457, hnv_458]))
              refine lv_iload_n hx hb dX7_items_85 rfl (lv_at hl 3 rfl) ?_
              refine lv_aload_n hx hb dX7_items_86 rfl (lv_at hl 2 rfl) ?_
              refine ky_Vi (As := []) (rest := [.int 0]) ⟨hx, hb, hml, hown, hts⟩ ⟨hK, hN⟩ hZ hP hD hS hA [1, 2] [0] (wc := [(Mm, .inr (7, [.int zth, .ref Mt, .int (nI tp), .int (nI max_447), .int (-1), .ref Mrr, .ref Mrh, .ref Mrc, .int (nI rh), .int (nI rc), .ref Mn, .ref Mf, .ref Mr, .ref Mh, .int zhp, .int zcc, .ref Ma, .ref Mas, .ref Msn, .ref Mac, .ref Mat])), (Mt, .inl (g 0, 160, .inl fmt))]) (wr := [(Mrr, .inl (g 0, 3, .inl (upd (upd (upd frrx_2 2 (nI nx_395)) 0 (nI nx_421)) 1 (nI nx_449))))]) rfl rfl rfl rfl (by decide) (r_X7_ahead l D g H.size Mm zth Mt tp max_447 (-1) Mrr Mrh Mrc rh rc Mn Mf Mr Mh zhp zcc Ma Mas Msn Mac Mat fmt (show tp ≤ 160 by omega) (show max_447 ≤ tp by omega)) (cwV 0 hts gX7_items_X7_ahead rfl rfl rfl (by decide +kernel) ⟨(Nat.le_of_ble_eq_true rfl), (Nat.le_of_ble_eq_true rfl)⟩) 1 7 rfl rfl rfl rfl hl.1 rfl (Nat.le_of_ble_eq_true rfl) dX7_items_87 ⟨(Nat.le_of_ble_eq_true rfl), (Nat.le_of_ble_eq_true rfl)⟩ (fun r_460 u H locs hw hP2 hD2 hS2 => ?_)
              clear hP hD hS
              obtain ⟨max_461, rfl, rfl, hf_462, hf_463, hf_464⟩ := hw
              have hPD : PD D A [(Mrr, .inl (g 0, 3, .inl (upd (upd (upd frrx_2 2 (nI nx_395)) 0 (nI nx_421)) 1 (nI nx_449)))), (Mm, .inr (7, [.int zth, .ref Mt, .int (nI tp), .int (nI max_461), .int (-1), .ref Mrr, .ref Mrh, .ref Mrc, .int (nI rh), .int (nI rc), .ref Mn, .ref Mf, .ref Mr, .ref Mh, .int zhp, .int zcc, .ref Ma, .ref Mas, .ref Msn, .ref Mac, .ref Mat])), (Mt, .inl (g 0, 160, .inl fmt))] H := ⟨hP2, hD2⟩
              have hS := hS2; clear hP2 hD2 hS2; have hP := hPD.1; have hD := hPD.2; clear hPD
              refine W.widen (k := 0) (n := 0) (Nat.le_of_ble_eq_true rfl) (Nat.le_of_ble_eq_true rfl) ?_
              refine lv_topi (fun y_465 hey_465 => ?_)
              refine ky_Si (As := [.int 0, .int y_465]) (rest := []) ⟨hx, hb, hml, hown, hts⟩ ⟨hK, hN⟩ hZ hP hD hS hA [] [0, 1, 2] (wc := []) (wr := [(Mrr, .inl (g 0, 3, .inl (upd (upd (upd frrx_2 2 (nI nx_395)) 0 (nI nx_421)) 1 (nI nx_449)))), (Mm, .inr (7, [.int zth, .ref Mt, .int (nI tp), .int (nI max_461), .int (-1), .ref Mrr, .ref Mrh, .ref Mrc, .int (nI rh), .int (nI rc), .ref Mn, .ref Mf, .ref Mr, .ref Mh, .int zhp, .int zcc, .ref Ma, .ref Mas, .ref Msn, .ref Mac, .ref Mat])), (Mt, .inl (g 0, 160, .inl fmt))]) rfl rfl rfl rfl (by decide) (r_X7_itemBy_0 l D g H.size y_465) (va_cwS 2 hts gX7_items_X7_itemBy rfl rfl rfl (by decide +kernel) ⟨(Nat.le_of_ble_eq_true rfl), (Nat.le_of_ble_eq_true rfl)⟩) rfl hl.1 rfl (Nat.le_of_ble_eq_true rfl) dX7_items_90 ⟨(Nat.le_of_ble_eq_true rfl), (Nat.le_of_ble_eq_true rfl)⟩ (fun r_466 u H locs hw hP2 hD2 hS2 => ?_)
              clear hP hD hS
              obtain ⟨rfl, rfl⟩ := hw
              have hPD : PD D A [(Mrr, .inl (g 0, 3, .inl (upd (upd (upd frrx_2 2 (nI nx_395)) 0 (nI nx_421)) 1 (nI nx_449)))), (Mm, .inr (7, [.int zth, .ref Mt, .int (nI tp), .int (nI max_461), .int (-1), .ref Mrr, .ref Mrh, .ref Mrc, .int (nI rh), .int (nI rc), .ref Mn, .ref Mf, .ref Mr, .ref Mh, .int zhp, .int zcc, .ref Ma, .ref Mas, .ref Msn, .ref Mac, .ref Mat])), (Mt, .inl (g 0, 160, .inl fmt))] H := ⟨hP2, hD2⟩
              have hS := hS2; clear hP2 hD2 hS2; have hP := hPD.1; have hD := hPD.2; clear hPD
              refine W.widen (k := 0) (n := 0) (Nat.le_of_ble_eq_true rfl) (Nat.le_of_ble_eq_true rfl) ?_
              rcases itK_c 0 y_465 with qi_467 | qi_467 | qi_467 | qi_467
              · skip
                refine lv_eqi (y := (-1)) (qi_467) ?_
                refine lv_istore (lv' := [(5, .int (-1)), (4, .int 7), (0, .ref Mm), (1, .int 0), (2, .ref Mrr), (3, .int 0)]) hx hb dX7_items_93 hl (by decide) rfl (fun ls hl => ?_)
                refine lv_goto (tgt := 20) hx hb dX7_items_95 (by decide) ?_
                refine lv_aload_n hx hb dX7_items_20 rfl (lv_at hl 2 rfl) ?_
                refine va_get (D := D) (ci := 7) (v := .int (-1)) (C := RX7) (T := TX7) (N := 21) hx hb hts iX7 hown hK hP 1 rfl rfl 4 (by decide) f71 (fun _ h9 => h9) rfl dX7_items_21 ?_
                refine lv_iconst (v := (-1)) hx hb dX7_items_24 (by decide) ?_
                refine lv_icmp_ne (tgt := 98) hx hb dX7_items_25 (by decide) (fun cb => absurd (by decide) cb) (fun _ => ?_)
                refine lv_iload hx hb dX7_items_28 (lv_at hl 0 rfl) ?_
                refine lv_iconst (v := (-1)) hx hb dX7_items_30 (by decide) ?_
                refine lv_icmp_eq (tgt := 98) hx hb dX7_items_31 (by decide) (fun _ => ?_) (fun cb => absurd (by decide) cb)
                have hPD9 : PD D A [(Mm, .inr (7, [.int zth, .ref Mt, .int (nI tp), .int (nI max_461), .int (-1), .ref Mrr, .ref Mrh, .ref Mrc, .int (nI rh), .int (nI rc), .ref Mn, .ref Mf, .ref Mr, .ref Mh, .int zhp, .int zcc, .ref Ma, .ref Mas, .ref Msn, .ref Mac, .ref Mat])), (Mt, .inl (g 0, 160, .inl fmt)), (Mrr, .inl (g 0, 3, .inl (upd (upd (upd frrx_2 2 (nI nx_395)) 0 (nI nx_421)) 1 (nI nx_449))))] H := ⟨hP.sub [1, 2, 0] rfl, hD.sub [1, 2, 0] (by decide) rfl⟩
                have hP9 := hPD9.1; have hD9 := hPD9.2
                subst hQ
                refine W.widen (k := 0) (n := 0) (Nat.le_of_ble_eq_true rfl) (Nat.le_of_ble_eq_true rfl) ?_
                exact W.vret hx hb hr (fun tS htS _ => ⟨⟨_, rfl, ⟨max_461, (-1), (upd (upd (upd frrx_2 2 (nI nx_395)) 0 (nI nx_421)) 1 (nI nx_449)), rfl, ⟨(n1_upd (n1_upd (n1_upd (hf_3) (n := nx_395) (show nx_395 ≤ 99 by omega)) (n := nx_421) (show nx_421 ≤ 99 by omega)) (n := nx_449) (show nx_449 ≤ 99 by omega)), (show max_461 ≤ tp by omega), (show ma ≤ max_461 by omega), (congrArg Prod.fst (hR_456.trans (iv_m (f := 0) (m := 7) hf_464 hey_465.symm qi_467))).symm, (fun _ => (congrArg Prod.snd (hR_456.trans (iv_m (f := 0) (m := 7) hf_464 hey_465.symm qi_467))).symm), (fun _ => (hW_459.trans (iw_m (f := 0) (m := 7) hf_464 hey_465.symm qi_467)).symm)⟩⟩, by rw [htS]; exact hP9, hD9⟩, hS.F htS⟩) hS.2.2 dX7_items_98
              · skip
                refine lv_eqi (y := 0) (qi_467) ?_
                have hil_468 := iv_lt (k := 0) (q := 0) hey_465.symm qi_467 (by decide); have hil_468a := hil_468.1
                refine lv_istore (lv' := [(5, .int 0), (4, .int 7), (0, .ref Mm), (1, .int 0), (2, .ref Mrr), (3, .int 0)]) hx hb dX7_items_93 hl (by decide) rfl (fun ls hl => ?_)
                refine lv_goto (tgt := 20) hx hb dX7_items_95 (by decide) ?_
                refine lv_aload_n hx hb dX7_items_20 rfl (lv_at hl 2 rfl) ?_
                refine va_get (D := D) (ci := 7) (v := .int (-1)) (C := RX7) (T := TX7) (N := 21) hx hb hts iX7 hown hK hP 1 rfl rfl 4 (by decide) f71 (fun _ h9 => h9) rfl dX7_items_21 ?_
                refine lv_iconst (v := (-1)) hx hb dX7_items_24 (by decide) ?_
                refine lv_icmp_ne (tgt := 98) hx hb dX7_items_25 (by decide) (fun cb => absurd (by decide) cb) (fun _ => ?_)
                refine lv_iload hx hb dX7_items_28 (lv_at hl 0 rfl) ?_
                refine lv_iconst (v := (-1)) hx hb dX7_items_30 (by decide) ?_
                refine lv_icmp_eq (tgt := 98) hx hb dX7_items_31 (by decide) (fun cb => absurd cb (by decide)) (fun _ => ?_)
                refine lv_iload hx hb dX7_items_34 (lv_at hl 1 rfl) ?_
                refine lv_iload hx hb dX7_items_36 (lv_at hl 0 rfl) ?_
                refine ky_Si (As := [.int 7, .int 0]) (rest := []) ⟨hx, hb, hml, hown, hts⟩ ⟨hK, hN⟩ hZ hP hD hS hA [] [0, 1, 2] (wc := []) (wr := [(Mrr, .inl (g 0, 3, .inl (upd (upd (upd frrx_2 2 (nI nx_395)) 0 (nI nx_421)) 1 (nI nx_449)))), (Mm, .inr (7, [.int zth, .ref Mt, .int (nI tp), .int (nI max_461), .int (-1), .ref Mrr, .ref Mrh, .ref Mrc, .int (nI rh), .int (nI rc), .ref Mn, .ref Mf, .ref Mr, .ref Mh, .int zhp, .int zcc, .ref Ma, .ref Mas, .ref Msn, .ref Mac, .ref Mat])), (Mt, .inl (g 0, 160, .inl fmt))]) rfl rfl rfl rfl (by decide) (r_X7_has_70 l D g H.size) (va_cwS 2 hts gX7_items_X7_has rfl rfl rfl (by decide +kernel) ⟨(Nat.le_of_ble_eq_true rfl), (Nat.le_of_ble_eq_true rfl)⟩) rfl hl.1 rfl (Nat.le_of_ble_eq_true rfl) dX7_items_38 ⟨(Nat.le_of_ble_eq_true rfl), (Nat.le_of_ble_eq_true rfl)⟩ (fun r_469 u H locs hw hP2 hD2 hS2 => ?_)
                clear hP hD hS
                obtain ⟨rfl, rfl⟩ := hw
                have hPD : PD D A [(Mrr, .inl (g 0, 3, .inl (upd (upd (upd frrx_2 2 (nI nx_395)) 0 (nI nx_421)) 1 (nI nx_449)))), (Mm, .inr (7, [.int zth, .ref Mt, .int (nI tp), .int (nI max_461), .int (-1), .ref Mrr, .ref Mrh, .ref Mrc, .int (nI rh), .int (nI rc), .ref Mn, .ref Mf, .ref Mr, .ref Mh, .int zhp, .int zcc, .ref Ma, .ref Mas, .ref Msn, .ref Mac, .ref Mat])), (Mt, .inl (g 0, 160, .inl fmt))] H := ⟨hP2, hD2⟩
                have hS := hS2; clear hP2 hD2 hS2; have hP := hPD.1; have hD := hPD.2; clear hPD
                refine W.widen (k := 0) (n := 0) (Nat.le_of_ble_eq_true rfl) (Nat.le_of_ble_eq_true rfl) ?_
                refine lv_if_ne (tgt := 98) hx hb dX7_items_41 (by decide) (fun _ => ?_) (fun cb => absurd cb (by decide))
                have hPD9 : PD D A [(Mm, .inr (7, [.int zth, .ref Mt, .int (nI tp), .int (nI max_461), .int (-1), .ref Mrr, .ref Mrh, .ref Mrc, .int (nI rh), .int (nI rc), .ref Mn, .ref Mf, .ref Mr, .ref Mh, .int zhp, .int zcc, .ref Ma, .ref Mas, .ref Msn, .ref Mac, .ref Mat])), (Mt, .inl (g 0, 160, .inl fmt)), (Mrr, .inl (g 0, 3, .inl (upd (upd (upd frrx_2 2 (nI nx_395)) 0 (nI nx_421)) 1 (nI nx_449))))] H := ⟨hP.sub [1, 2, 0] rfl, hD.sub [1, 2, 0] (by decide) rfl⟩
                have hP9 := hPD9.1; have hD9 := hPD9.2
                subst hQ
                refine W.widen (k := 0) (n := 0) (Nat.le_of_ble_eq_true rfl) (Nat.le_of_ble_eq_true rfl) ?_
                exact W.vret hx hb hr (fun tS htS _ => ⟨⟨_, rfl, ⟨max_461, (-1), (upd (upd (upd frrx_2 2 (nI nx_395)) 0 (nI nx_421)) 1 (nI nx_449)), rfl, ⟨(n1_upd (n1_upd (n1_upd (hf_3) (n := nx_395) (show nx_395 ≤ 99 by omega)) (n := nx_421) (show nx_421 ≤ 99 by omega)) (n := nx_449) (show nx_449 ≤ 99 by omega)), (show max_461 ≤ tp by omega), (show ma ≤ max_461 by omega), (congrArg Prod.fst (hR_456.trans (itR_again (f := 0) (m := 7) (q := 0) hf_464 hil_468.2 (by decide) (by decide)))).symm, (fun _ => (congrArg Prod.snd (hR_456.trans (itR_again (f := 0) (m := 7) (q := 0) hf_464 hil_468.2 (by decide) (by decide)))).symm), (fun _ => (hW_459.trans (itW_again (f := 0) (m := 7) (q := 0) hf_464 hil_468.2 (by decide) (by decide))).symm)⟩⟩, by rw [htS]; exact hP9, hD9⟩, hS.F htS⟩) hS.2.2 dX7_items_98
              · skip
                refine lv_eqi (y := 1) (qi_467) ?_
                have hil_470 := iv_lt (k := 0) (q := 1) hey_465.symm qi_467 (by decide); have hil_470a := hil_470.1
                refine lv_istore (lv' := [(5, .int 1), (4, .int 7), (0, .ref Mm), (1, .int 0), (2, .ref Mrr), (3, .int 0)]) hx hb dX7_items_93 hl (by decide) rfl (fun ls hl => ?_)
                refine lv_goto (tgt := 20) hx hb dX7_items_95 (by decide) ?_
                refine lv_aload_n hx hb dX7_items_20 rfl (lv_at hl 2 rfl) ?_
                refine va_get (D := D) (ci := 7) (v := .int (-1)) (C := RX7) (T := TX7) (N := 21) hx hb hts iX7 hown hK hP 1 rfl rfl 4 (by decide) f71 (fun _ h9 => h9) rfl dX7_items_21 ?_
                refine lv_iconst (v := (-1)) hx hb dX7_items_24 (by decide) ?_
                refine lv_icmp_ne (tgt := 98) hx hb dX7_items_25 (by decide) (fun cb => absurd (by decide) cb) (fun _ => ?_)
                refine lv_iload hx hb dX7_items_28 (lv_at hl 0 rfl) ?_
                refine lv_iconst (v := (-1)) hx hb dX7_items_30 (by decide) ?_
                refine lv_icmp_eq (tgt := 98) hx hb dX7_items_31 (by decide) (fun cb => absurd cb (by decide)) (fun _ => ?_)
                refine lv_iload hx hb dX7_items_34 (lv_at hl 1 rfl) ?_
                refine lv_iload hx hb dX7_items_36 (lv_at hl 0 rfl) ?_
                refine ky_Si (As := [.int 7, .int 1]) (rest := []) ⟨hx, hb, hml, hown, hts⟩ ⟨hK, hN⟩ hZ hP hD hS hA [] [0, 1, 2] (wc := []) (wr := [(Mrr, .inl (g 0, 3, .inl (upd (upd (upd frrx_2 2 (nI nx_395)) 0 (nI nx_421)) 1 (nI nx_449)))), (Mm, .inr (7, [.int zth, .ref Mt, .int (nI tp), .int (nI max_461), .int (-1), .ref Mrr, .ref Mrh, .ref Mrc, .int (nI rh), .int (nI rc), .ref Mn, .ref Mf, .ref Mr, .ref Mh, .int zhp, .int zcc, .ref Ma, .ref Mas, .ref Msn, .ref Mac, .ref Mat])), (Mt, .inl (g 0, 160, .inl fmt))]) rfl rfl rfl rfl (by decide) (r_X7_has_71 l D g H.size) (va_cwS 2 hts gX7_items_X7_has rfl rfl rfl (by decide +kernel) ⟨(Nat.le_of_ble_eq_true rfl), (Nat.le_of_ble_eq_true rfl)⟩) rfl hl.1 rfl (Nat.le_of_ble_eq_true rfl) dX7_items_38 ⟨(Nat.le_of_ble_eq_true rfl), (Nat.le_of_ble_eq_true rfl)⟩ (fun r_471 u H locs hw hP2 hD2 hS2 => ?_)
                clear hP hD hS
                obtain ⟨rfl, rfl⟩ := hw
                have hPD : PD D A [(Mrr, .inl (g 0, 3, .inl (upd (upd (upd frrx_2 2 (nI nx_395)) 0 (nI nx_421)) 1 (nI nx_449)))), (Mm, .inr (7, [.int zth, .ref Mt, .int (nI tp), .int (nI max_461), .int (-1), .ref Mrr, .ref Mrh, .ref Mrc, .int (nI rh), .int (nI rc), .ref Mn, .ref Mf, .ref Mr, .ref Mh, .int zhp, .int zcc, .ref Ma, .ref Mas, .ref Msn, .ref Mac, .ref Mat])), (Mt, .inl (g 0, 160, .inl fmt))] H := ⟨hP2, hD2⟩
                have hS := hS2; clear hP2 hD2 hS2; have hP := hPD.1; have hD := hPD.2; clear hPD
                refine W.widen (k := 0) (n := 0) (Nat.le_of_ble_eq_true rfl) (Nat.le_of_ble_eq_true rfl) ?_
                refine lv_if_ne (tgt := 98) hx hb dX7_items_41 (by decide) (fun _ => ?_) (fun cb => absurd cb (by decide))
                have hPD9 : PD D A [(Mm, .inr (7, [.int zth, .ref Mt, .int (nI tp), .int (nI max_461), .int (-1), .ref Mrr, .ref Mrh, .ref Mrc, .int (nI rh), .int (nI rc), .ref Mn, .ref Mf, .ref Mr, .ref Mh, .int zhp, .int zcc, .ref Ma, .ref Mas, .ref Msn, .ref Mac, .ref Mat])), (Mt, .inl (g 0, 160, .inl fmt)), (Mrr, .inl (g 0, 3, .inl (upd (upd (upd frrx_2 2 (nI nx_395)) 0 (nI nx_421)) 1 (nI nx_449))))] H := ⟨hP.sub [1, 2, 0] rfl, hD.sub [1, 2, 0] (by decide) rfl⟩
                have hP9 := hPD9.1; have hD9 := hPD9.2
                subst hQ
                refine W.widen (k := 0) (n := 0) (Nat.le_of_ble_eq_true rfl) (Nat.le_of_ble_eq_true rfl) ?_
                exact W.vret hx hb hr (fun tS htS _ => ⟨⟨_, rfl, ⟨max_461, (-1), (upd (upd (upd frrx_2 2 (nI nx_395)) 0 (nI nx_421)) 1 (nI nx_449)), rfl, ⟨(n1_upd (n1_upd (n1_upd (hf_3) (n := nx_395) (show nx_395 ≤ 99 by omega)) (n := nx_421) (show nx_421 ≤ 99 by omega)) (n := nx_449) (show nx_449 ≤ 99 by omega)), (show max_461 ≤ tp by omega), (show ma ≤ max_461 by omega), (congrArg Prod.fst (hR_456.trans (itR_again (f := 0) (m := 7) (q := 1) hf_464 hil_470.2 (by decide) (by decide)))).symm, (fun _ => (congrArg Prod.snd (hR_456.trans (itR_again (f := 0) (m := 7) (q := 1) hf_464 hil_470.2 (by decide) (by decide)))).symm), (fun _ => (hW_459.trans (itW_again (f := 0) (m := 7) (q := 1) hf_464 hil_470.2 (by decide) (by decide))).symm)⟩⟩, by rw [htS]; exact hP9, hD9⟩, hS.F htS⟩) hS.2.2 dX7_items_98
              · skip
                refine lv_eqi (y := 2) (qi_467) ?_
                have hil_472 := iv_lt (k := 0) (q := 2) hey_465.symm qi_467 (by decide); have hil_472a := hil_472.1
                refine lv_istore (lv' := [(5, .int 2), (4, .int 7), (0, .ref Mm), (1, .int 0), (2, .ref Mrr), (3, .int 0)]) hx hb dX7_items_93 hl (by decide) rfl (fun ls hl => ?_)
                refine lv_goto (tgt := 20) hx hb dX7_items_95 (by decide) ?_
                refine lv_aload_n hx hb dX7_items_20 rfl (lv_at hl 2 rfl) ?_
                refine va_get (D := D) (ci := 7) (v := .int (-1)) (C := RX7) (T := TX7) (N := 21) hx hb hts iX7 hown hK hP 1 rfl rfl 4 (by decide) f71 (fun _ h9 => h9) rfl dX7_items_21 ?_
                refine lv_iconst (v := (-1)) hx hb dX7_items_24 (by decide) ?_
                refine lv_icmp_ne (tgt := 98) hx hb dX7_items_25 (by decide) (fun cb => absurd (by decide) cb) (fun _ => ?_)
                refine lv_iload hx hb dX7_items_28 (lv_at hl 0 rfl) ?_
                refine lv_iconst (v := (-1)) hx hb dX7_items_30 (by decide) ?_
                refine lv_icmp_eq (tgt := 98) hx hb dX7_items_31 (by decide) (fun cb => absurd cb (by decide)) (fun _ => ?_)
                refine lv_iload hx hb dX7_items_34 (lv_at hl 1 rfl) ?_
                refine lv_iload hx hb dX7_items_36 (lv_at hl 0 rfl) ?_
                refine ky_Si (As := [.int 7, .int 2]) (rest := []) ⟨hx, hb, hml, hown, hts⟩ ⟨hK, hN⟩ hZ hP hD hS hA [] [0, 1, 2] (wc := []) (wr := [(Mrr, .inl (g 0, 3, .inl (upd (upd (upd frrx_2 2 (nI nx_395)) 0 (nI nx_421)) 1 (nI nx_449)))), (Mm, .inr (7, [.int zth, .ref Mt, .int (nI tp), .int (nI max_461), .int (-1), .ref Mrr, .ref Mrh, .ref Mrc, .int (nI rh), .int (nI rc), .ref Mn, .ref Mf, .ref Mr, .ref Mh, .int zhp, .int zcc, .ref Ma, .ref Mas, .ref Msn, .ref Mac, .ref Mat])), (Mt, .inl (g 0, 160, .inl fmt))]) rfl rfl rfl rfl (by decide) (r_X7_has_72 l D g H.size) (va_cwS 2 hts gX7_items_X7_has rfl rfl rfl (by decide +kernel) ⟨(Nat.le_of_ble_eq_true rfl), (Nat.le_of_ble_eq_true rfl)⟩) rfl hl.1 rfl (Nat.le_of_ble_eq_true rfl) dX7_items_38 ⟨(Nat.le_of_ble_eq_true rfl), (Nat.le_of_ble_eq_true rfl)⟩ (fun r_473 u H locs hw hP2 hD2 hS2 => ?_)
                clear hP hD hS
                obtain ⟨rfl, rfl⟩ := hw
                have hPD : PD D A [(Mrr, .inl (g 0, 3, .inl (upd (upd (upd frrx_2 2 (nI nx_395)) 0 (nI nx_421)) 1 (nI nx_449)))), (Mm, .inr (7, [.int zth, .ref Mt, .int (nI tp), .int (nI max_461), .int (-1), .ref Mrr, .ref Mrh, .ref Mrc, .int (nI rh), .int (nI rc), .ref Mn, .ref Mf, .ref Mr, .ref Mh, .int zhp, .int zcc, .ref Ma, .ref Mas, .ref Msn, .ref Mac, .ref Mat])), (Mt, .inl (g 0, 160, .inl fmt))] H := ⟨hP2, hD2⟩
                have hS := hS2; clear hP2 hD2 hS2; have hP := hPD.1; have hD := hPD.2; clear hPD
                refine W.widen (k := 0) (n := 0) (Nat.le_of_ble_eq_true rfl) (Nat.le_of_ble_eq_true rfl) ?_
                refine lv_if_ne (tgt := 98) hx hb dX7_items_41 (by decide) (fun _ => ?_) (fun cb => absurd cb (by decide))
                have hPD9 : PD D A [(Mm, .inr (7, [.int zth, .ref Mt, .int (nI tp), .int (nI max_461), .int (-1), .ref Mrr, .ref Mrh, .ref Mrc, .int (nI rh), .int (nI rc), .ref Mn, .ref Mf, .ref Mr, .ref Mh, .int zhp, .int zcc, .ref Ma, .ref Mas, .ref Msn, .ref Mac, .ref Mat])), (Mt, .inl (g 0, 160, .inl fmt)), (Mrr, .inl (g 0, 3, .inl (upd (upd (upd frrx_2 2 (nI nx_395)) 0 (nI nx_421)) 1 (nI nx_449))))] H := ⟨hP.sub [1, 2, 0] rfl, hD.sub [1, 2, 0] (by decide) rfl⟩
                have hP9 := hPD9.1; have hD9 := hPD9.2
                subst hQ
                refine W.widen (k := 0) (n := 0) (Nat.le_of_ble_eq_true rfl) (Nat.le_of_ble_eq_true rfl) ?_
                exact W.vret hx hb hr (fun tS htS _ => ⟨⟨_, rfl, ⟨max_461, (-1), (upd (upd (upd frrx_2 2 (nI nx_395)) 0 (nI nx_421)) 1 (nI nx_449)), rfl, ⟨(n1_upd (n1_upd (n1_upd (hf_3) (n := nx_395) (show nx_395 ≤ 99 by omega)) (n := nx_421) (show nx_421 ≤ 99 by omega)) (n := nx_449) (show nx_449 ≤ 99 by omega)), (show max_461 ≤ tp by omega), (show ma ≤ max_461 by omega), (congrArg Prod.fst (hR_456.trans (itR_again (f := 0) (m := 7) (q := 2) hf_464 hil_472.2 (by decide) (by decide)))).symm, (fun _ => (congrArg Prod.snd (hR_456.trans (itR_again (f := 0) (m := 7) (q := 2) hf_464 hil_472.2 (by decide) (by decide)))).symm), (fun _ => (hW_459.trans (itW_again (f := 0) (m := 7) (q := 2) hf_464 hil_472.2 (by decide) (by decide))).symm)⟩⟩, by rw [htS]; exact hP9, hD9⟩, hS.F htS⟩) hS.2.2 dX7_items_98
            · skip
              refine lv_iload_n hx hb dX7_items_85 rfl (lv_at hl 3 rfl) ?_
              refine lv_aload_n hx hb dX7_items_86 rfl (lv_at hl 2 rfl) ?_
              refine ky_Vi (As := []) (rest := [.int 0]) ⟨hx, hb, hml, hown, hts⟩ ⟨hK, hN⟩ hZ hP hD hS hA [1, 2] [0] (wc := [(Mm, .inr (7, [.int zth, .ref Mt, .int (nI tp), .int (nI max_447), .int zwrx_448, .ref Mrr, .ref Mrh, .ref Mrc, .int (nI rh), .int (nI rc), .ref Mn, .ref Mf, .ref Mr, .ref Mh, .int zhp, .int zcc, .ref Ma, .ref Mas, .ref Msn, .ref Mac, .ref Mat])), (Mt, .inl (g 0, 160, .inl fmt))]) (wr := [(Mrr, .inl (g 0, 3, .inl (upd (upd (upd frrx_2 2 (nI nx_395)) 0 (nI nx_421)) 1 (nI nx_449))))]) rfl rfl rfl rfl (by decide) (r_X7_ahead l D g H.size Mm zth Mt tp max_447 zwrx_448 Mrr Mrh Mrc rh rc Mn Mf Mr Mh zhp zcc Ma Mas Msn Mac Mat fmt (show tp ≤ 160 by omega) (show max_447 ≤ tp by omega)) (cwV 0 hts gX7_items_X7_ahead rfl rfl rfl (by decide +kernel) ⟨(Nat.le_of_ble_eq_true rfl), (Nat.le_of_ble_eq_true rfl)⟩) 1 7 rfl rfl rfl rfl hl.1 rfl (Nat.le_of_ble_eq_true rfl) dX7_items_87 ⟨(Nat.le_of_ble_eq_true rfl), (Nat.le_of_ble_eq_true rfl)⟩ (fun r_474 u H locs hw hP2 hD2 hS2 => ?_)
              clear hP hD hS
              obtain ⟨max_475, rfl, rfl, hf_476, hf_477, hf_478⟩ := hw
              have hPD : PD D A [(Mrr, .inl (g 0, 3, .inl (upd (upd (upd frrx_2 2 (nI nx_395)) 0 (nI nx_421)) 1 (nI nx_449)))), (Mm, .inr (7, [.int zth, .ref Mt, .int (nI tp), .int (nI max_475), .int zwrx_448, .ref Mrr, .ref Mrh, .ref Mrc, .int (nI rh), .int (nI rc), .ref Mn, .ref Mf, .ref Mr, .ref Mh, .int zhp, .int zcc, .ref Ma, .ref Mas, .ref Msn, .ref Mac, .ref Mat])), (Mt, .inl (g 0, 160, .inl fmt))] H := ⟨hP2, hD2⟩
              have hS := hS2; clear hP2 hD2 hS2; have hP := hPD.1; have hD := hPD.2; clear hPD
              refine W.widen (k := 0) (n := 0) (Nat.le_of_ble_eq_true rfl) (Nat.le_of_ble_eq_true rfl) ?_
              refine lv_topi (fun y_479 hey_479 => ?_)
              refine ky_Si (As := [.int 0, .int y_479]) (rest := []) ⟨hx, hb, hml, hown, hts⟩ ⟨hK, hN⟩ hZ hP hD hS hA [] [0, 1, 2] (wc := []) (wr := [(Mrr, .inl (g 0, 3, .inl (upd (upd (upd frrx_2 2 (nI nx_395)) 0 (nI nx_421)) 1 (nI nx_449)))), (Mm, .inr (7, [.int zth, .ref Mt, .int (nI tp), .int (nI max_475), .int zwrx_448, .ref Mrr, .ref Mrh, .ref Mrc, .int (nI rh), .int (nI rc), .ref Mn, .ref Mf, .ref Mr, .ref Mh, .int zhp, .int zcc, .ref Ma, .ref Mas, .ref Msn, .ref Mac, .ref Mat])), (Mt, .inl (g 0, 160, .inl fmt))]) rfl rfl rfl rfl (by decide) (r_X7_itemBy_0 l D g H.size y_479) (va_cwS 2 hts gX7_items_X7_itemBy rfl rfl rfl (by decide +kernel) ⟨(Nat.le_of_ble_eq_true rfl), (Nat.le_of_ble_eq_true rfl)⟩) rfl hl.1 rfl (Nat.le_of_ble_eq_true rfl) dX7_items_90 ⟨(Nat.le_of_ble_eq_true rfl), (Nat.le_of_ble_eq_true rfl)⟩ (fun r_480 u H locs hw hP2 hD2 hS2 => ?_)
              clear hP hD hS
              obtain ⟨rfl, rfl⟩ := hw
              have hPD : PD D A [(Mrr, .inl (g 0, 3, .inl (upd (upd (upd frrx_2 2 (nI nx_395)) 0 (nI nx_421)) 1 (nI nx_449)))), (Mm, .inr (7, [.int zth, .ref Mt, .int (nI tp), .int (nI max_475), .int zwrx_448, .ref Mrr, .ref Mrh, .ref Mrc, .int (nI rh), .int (nI rc), .ref Mn, .ref Mf, .ref Mr, .ref Mh, .int zhp, .int zcc, .ref Ma, .ref Mas, .ref Msn, .ref Mac, .ref Mat])), (Mt, .inl (g 0, 160, .inl fmt))] H := ⟨hP2, hD2⟩
              have hS := hS2; clear hP2 hD2 hS2; have hP := hPD.1; have hD := hPD.2; clear hPD
              refine W.widen (k := 0) (n := 0) (Nat.le_of_ble_eq_true rfl) (Nat.le_of_ble_eq_true rfl) ?_
              refine lv_istore (lv' := [(5, .int (itK 0 y_479)), (4, .int 7), (0, .ref Mm), (1, .int 0), (2, .ref Mrr), (3, .int 0)]) hx hb dX7_items_93 hl (by decide) rfl (fun ls hl => ?_)
              refine lv_goto (tgt := 20) hx hb dX7_items_95 (by decide) ?_
              refine lv_aload_n hx hb dX7_items_20 rfl (lv_at hl 2 rfl) ?_
              refine va_get (D := D) (ci := 7) (v := .int zwrx_448) (C := RX7) (T := TX7) (N := 21) hx hb hts iX7 hown hK hP 1 rfl rfl 4 (by decide) f71 (fun _ h9 => h9) rfl dX7_items_21 ?_
              refine lv_iconst (v := (-1)) hx hb dX7_items_24 (by decide) ?_
              refine lv_icmp_ne (tgt := 98) hx hb dX7_items_25 (by decide) (fun _ => ?_) (fun cb => absurd cb (cw_454))
              have hPD9 : PD D A [(Mm, .inr (7, [.int zth, .ref Mt, .int (nI tp), .int (nI max_475), .int zwrx_448, .ref Mrr, .ref Mrh, .ref Mrc, .int (nI rh), .int (nI rc), .ref Mn, .ref Mf, .ref Mr, .ref Mh, .int zhp, .int zcc, .ref Ma, .ref Mas, .ref Msn, .ref Mac, .ref Mat])), (Mt, .inl (g 0, 160, .inl fmt)), (Mrr, .inl (g 0, 3, .inl (upd (upd (upd frrx_2 2 (nI nx_395)) 0 (nI nx_421)) 1 (nI nx_449))))] H := ⟨hP.sub [1, 2, 0] rfl, hD.sub [1, 2, 0] (by decide) rfl⟩
              have hP9 := hPD9.1; have hD9 := hPD9.2
              subst hQ
              refine W.widen (k := 0) (n := 0) (Nat.le_of_ble_eq_true rfl) (Nat.le_of_ble_eq_true rfl) ?_
              exact W.vret hx hb hr (fun tS htS _ => ⟨⟨_, rfl, ⟨max_475, zwrx_448, (upd (upd (upd frrx_2 2 (nI nx_395)) 0 (nI nx_421)) 1 (nI nx_449)), rfl, ⟨(n1_upd (n1_upd (n1_upd (hf_3) (n := nx_395) (show nx_395 ≤ 99 by omega)) (n := nx_421) (show nx_421 ≤ 99 by omega)) (n := nx_449) (show nx_449 ≤ 99 by omega)), (show max_475 ≤ tp by omega), (show ma ≤ max_475 by omega), ((congrArg Prod.fst hR_428).trans ((itR_w (f := 1) (m := 5) (q := 1) hf_436 hil_442.1 hil_442.2 (by decide) (by decide) (fun q => cw_454 (hf_450.2.2.2.1.trans q))).trans hf_450.2.2.2.1.symm)).symm, (fun q => absurd q cw_454), (fun q => absurd q cw_454)⟩⟩, by rw [htS]; exact hP9, hD9⟩, hS.F htS⟩) hS.2.2 dX7_items_98
          · skip
            refine lv_eqi (y := 2) (qi_439) ?_
            have hil_481 := iv_lt (k := 0) (q := 2) hey_437.symm qi_439 (by decide); have hil_481a := hil_481.1
            refine lv_istore (lv' := [(5, .int 2), (4, .int 5), (0, .ref Mm), (1, .int 0), (2, .ref Mrr), (3, .int 0)]) hx hb dX7_items_93 hl (by decide) rfl (fun ls hl => ?_)
            refine lv_goto (tgt := 20) hx hb dX7_items_95 (by decide) ?_
            refine lv_aload_n hx hb dX7_items_20 rfl (lv_at hl 2 rfl) ?_
            refine va_get (D := D) (ci := 7) (v := .int (-1)) (C := RX7) (T := TX7) (N := 21) hx hb hts iX7 hown hK hP 1 rfl rfl 4 (by decide) f71 (fun _ h9 => h9) rfl dX7_items_21 ?_
            refine lv_iconst (v := (-1)) hx hb dX7_items_24 (by decide) ?_
            refine lv_icmp_ne (tgt := 98) hx hb dX7_items_25 (by decide) (fun cb => absurd (by decide) cb) (fun _ => ?_)
            refine lv_iload hx hb dX7_items_28 (lv_at hl 0 rfl) ?_
            refine lv_iconst (v := (-1)) hx hb dX7_items_30 (by decide) ?_
            refine lv_icmp_eq (tgt := 98) hx hb dX7_items_31 (by decide) (fun cb => absurd cb (by decide)) (fun _ => ?_)
            refine lv_iload hx hb dX7_items_34 (lv_at hl 1 rfl) ?_
            refine lv_iload hx hb dX7_items_36 (lv_at hl 0 rfl) ?_
            refine ky_Si (As := [.int 5, .int 2]) (rest := []) ⟨hx, hb, hml, hown, hts⟩ ⟨hK, hN⟩ hZ hP hD hS hA [] [0, 1, 2] (wc := []) (wr := [(Mrr, .inl (g 0, 3, .inl (upd (upd frrx_2 2 (nI nx_395)) 0 (nI nx_421)))), (Mm, .inr (7, [.int zth, .ref Mt, .int (nI tp), .int (nI max_433), .int (-1), .ref Mrr, .ref Mrh, .ref Mrc, .int (nI rh), .int (nI rc), .ref Mn, .ref Mf, .ref Mr, .ref Mh, .int zhp, .int zcc, .ref Ma, .ref Mas, .ref Msn, .ref Mac, .ref Mat])), (Mt, .inl (g 0, 160, .inl fmt))]) rfl rfl rfl rfl (by decide) (r_X7_has_52 l D g H.size) (va_cwS 2 hts gX7_items_X7_has rfl rfl rfl (by decide +kernel) ⟨(Nat.le_of_ble_eq_true rfl), (Nat.le_of_ble_eq_true rfl)⟩) rfl hl.1 rfl (Nat.le_of_ble_eq_true rfl) dX7_items_38 ⟨(Nat.le_of_ble_eq_true rfl), (Nat.le_of_ble_eq_true rfl)⟩ (fun r_482 u H locs hw hP2 hD2 hS2 => ?_)
            clear hP hD hS
            obtain ⟨rfl, rfl⟩ := hw
            have hPD : PD D A [(Mrr, .inl (g 0, 3, .inl (upd (upd frrx_2 2 (nI nx_395)) 0 (nI nx_421)))), (Mm, .inr (7, [.int zth, .ref Mt, .int (nI tp), .int (nI max_433), .int (-1), .ref Mrr, .ref Mrh, .ref Mrc, .int (nI rh), .int (nI rc), .ref Mn, .ref Mf, .ref Mr, .ref Mh, .int zhp, .int zcc, .ref Ma, .ref Mas, .ref Msn, .ref Mac, .ref Mat])), (Mt, .inl (g 0, 160, .inl fmt))] H := ⟨hP2, hD2⟩
            have hS := hS2; clear hP2 hD2 hS2; have hP := hPD.1; have hD := hPD.2; clear hPD
            refine W.widen (k := 0) (n := 0) (Nat.le_of_ble_eq_true rfl) (Nat.le_of_ble_eq_true rfl) ?_
            refine lv_if_ne (tgt := 98) hx hb dX7_items_41 (by decide) (fun _ => ?_) (fun cb => absurd cb (by decide))
            have hPD9 : PD D A [(Mm, .inr (7, [.int zth, .ref Mt, .int (nI tp), .int (nI max_433), .int (-1), .ref Mrr, .ref Mrh, .ref Mrc, .int (nI rh), .int (nI rc), .ref Mn, .ref Mf, .ref Mr, .ref Mh, .int zhp, .int zcc, .ref Ma, .ref Mas, .ref Msn, .ref Mac, .ref Mat])), (Mt, .inl (g 0, 160, .inl fmt)), (Mrr, .inl (g 0, 3, .inl (upd (upd frrx_2 2 (nI nx_395)) 0 (nI nx_421))))] H := ⟨hP.sub [1, 2, 0] rfl, hD.sub [1, 2, 0] (by decide) rfl⟩
            have hP9 := hPD9.1; have hD9 := hPD9.2
            subst hQ
            refine W.widen (k := 0) (n := 0) (Nat.le_of_ble_eq_true rfl) (Nat.le_of_ble_eq_true rfl) ?_
            exact W.vret hx hb hr (fun tS htS _ => ⟨⟨_, rfl, ⟨max_433, (-1), (upd (upd frrx_2 2 (nI nx_395)) 0 (nI nx_421)), rfl, ⟨(n1_upd (n1_upd (hf_3) (n := nx_395) (show nx_395 ≤ 99 by omega)) (n := nx_421) (show nx_421 ≤ 99 by omega)), (show max_433 ≤ tp by omega), (show ma ≤ max_433 by omega), (congrArg Prod.fst (hR_428.trans (itR_again (f := 1) (m := 5) (q := 2) hf_436 hil_481.2 (by decide) (by decide)))).symm, (fun _ => (congrArg Prod.snd (hR_428.trans (itR_again (f := 1) (m := 5) (q := 2) hf_436 hil_481.2 (by decide) (by decide)))).symm), (fun _ => (hW_431.trans (itW_again (f := 1) (m := 5) (q := 2) hf_436 hil_481.2 (by decide) (by decide))).symm)⟩⟩, by rw [htS]; exact hP9, hD9⟩, hS.F htS⟩) hS.2.2 dX7_items_98
        · skip
          refine lv_iload_n hx hb dX7_items_85 rfl (lv_at hl 3 rfl) ?_
          refine lv_aload_n hx hb dX7_items_86 rfl (lv_at hl 2 rfl) ?_
          refine ky_Vi (As := []) (rest := [.int 0]) ⟨hx, hb, hml, hown, hts⟩ ⟨hK, hN⟩ hZ hP hD hS hA [1, 2] [0] (wc := [(Mm, .inr (7, [.int zth, .ref Mt, .int (nI tp), .int (nI max_419), .int zwrx_420, .ref Mrr, .ref Mrh, .ref Mrc, .int (nI rh), .int (nI rc), .ref Mn, .ref Mf, .ref Mr, .ref Mh, .int zhp, .int zcc, .ref Ma, .ref Mas, .ref Msn, .ref Mac, .ref Mat])), (Mt, .inl (g 0, 160, .inl fmt))]) (wr := [(Mrr, .inl (g 0, 3, .inl (upd (upd frrx_2 2 (nI nx_395)) 0 (nI nx_421))))]) rfl rfl rfl rfl (by decide) (r_X7_ahead l D g H.size Mm zth Mt tp max_419 zwrx_420 Mrr Mrh Mrc rh rc Mn Mf Mr Mh zhp zcc Ma Mas Msn Mac Mat fmt (show tp ≤ 160 by omega) (show max_419 ≤ tp by omega)) (cwV 0 hts gX7_items_X7_ahead rfl rfl rfl (by decide +kernel) ⟨(Nat.le_of_ble_eq_true rfl), (Nat.le_of_ble_eq_true rfl)⟩) 1 7 rfl rfl rfl rfl hl.1 rfl (Nat.le_of_ble_eq_true rfl) dX7_items_87 ⟨(Nat.le_of_ble_eq_true rfl), (Nat.le_of_ble_eq_true rfl)⟩ (fun r_483 u H locs hw hP2 hD2 hS2 => ?_)
          clear hP hD hS
          obtain ⟨max_484, rfl, rfl, hf_485, hf_486, hf_487⟩ := hw
          have hPD : PD D A [(Mrr, .inl (g 0, 3, .inl (upd (upd frrx_2 2 (nI nx_395)) 0 (nI nx_421)))), (Mm, .inr (7, [.int zth, .ref Mt, .int (nI tp), .int (nI max_484), .int zwrx_420, .ref Mrr, .ref Mrh, .ref Mrc, .int (nI rh), .int (nI rc), .ref Mn, .ref Mf, .ref Mr, .ref Mh, .int zhp, .int zcc, .ref Ma, .ref Mas, .ref Msn, .ref Mac, .ref Mat])), (Mt, .inl (g 0, 160, .inl fmt))] H := ⟨hP2, hD2⟩
          have hS := hS2; clear hP2 hD2 hS2; have hP := hPD.1; have hD := hPD.2; clear hPD
          refine W.widen (k := 0) (n := 0) (Nat.le_of_ble_eq_true rfl) (Nat.le_of_ble_eq_true rfl) ?_
          refine lv_topi (fun y_488 hey_488 => ?_)
          refine ky_Si (As := [.int 0, .int y_488]) (rest := []) ⟨hx, hb, hml, hown, hts⟩ ⟨hK, hN⟩ hZ hP hD hS hA [] [0, 1, 2] (wc := []) (wr := [(Mrr, .inl (g 0, 3, .inl (upd (upd frrx_2 2 (nI nx_395)) 0 (nI nx_421)))), (Mm, .inr (7, [.int zth, .ref Mt, .int (nI tp), .int (nI max_484), .int zwrx_420, .ref Mrr, .ref Mrh, .ref Mrc, .int (nI rh), .int (nI rc), .ref Mn, .ref Mf, .ref Mr, .ref Mh, .int zhp, .int zcc, .ref Ma, .ref Mas, .ref Msn, .ref Mac, .ref Mat])), (Mt, .inl (g 0, 160, .inl fmt))]) rfl rfl rfl rfl (by decide) (r_X7_itemBy_0 l D g H.size y_488) (va_cwS 2 hts gX7_items_X7_itemBy rfl rfl rfl (by decide +kernel) ⟨(Nat.le_of_ble_eq_true rfl), (Nat.le_of_ble_eq_true rfl)⟩) rfl hl.1 rfl (Nat.le_of_ble_eq_true rfl) dX7_items_90 ⟨(Nat.le_of_ble_eq_true rfl), (Nat.le_of_ble_eq_true rfl)⟩ (fun r_489 u H locs hw hP2 hD2 hS2 => ?_)
          clear hP hD hS
          obtain ⟨rfl, rfl⟩ := hw
          have hPD : PD D A [(Mrr, .inl (g 0, 3, .inl (upd (upd frrx_2 2 (nI nx_395)) 0 (nI nx_421)))), (Mm, .inr (7, [.int zth, .ref Mt, .int (nI tp), .int (nI max_484), .int zwrx_420, .ref Mrr, .ref Mrh, .ref Mrc, .int (nI rh), .int (nI rc), .ref Mn, .ref Mf, .ref Mr, .ref Mh, .int zhp, .int zcc, .ref Ma, .ref Mas, .ref Msn, .ref Mac, .ref Mat])), (Mt, .inl (g 0, 160, .inl fmt))] H := ⟨hP2, hD2⟩
          have hS := hS2; clear hP2 hD2 hS2; have hP := hPD.1; have hD := hPD.2; clear hPD
          refine W.widen (k := 0) (n := 0) (Nat.le_of_ble_eq_true rfl) (Nat.le_of_ble_eq_true rfl) ?_
          refine lv_istore (lv' := [(5, .int (itK 0 y_488)), (4, .int 5), (0, .ref Mm), (1, .int 0), (2, .ref Mrr), (3, .int 0)]) hx hb dX7_items_93 hl (by decide) rfl (fun ls hl => ?_)
          refine lv_goto (tgt := 20) hx hb dX7_items_95 (by decide) ?_
          refine lv_aload_n hx hb dX7_items_20 rfl (lv_at hl 2 rfl) ?_
          refine va_get (D := D) (ci := 7) (v := .int zwrx_420) (C := RX7) (T := TX7) (N := 21) hx hb hts iX7 hown hK hP 1 rfl rfl 4 (by decide) f71 (fun _ h9 => h9) rfl dX7_items_21 ?_
          refine lv_iconst (v := (-1)) hx hb dX7_items_24 (by decide) ?_
          refine lv_icmp_ne (tgt := 98) hx hb dX7_items_25 (by decide) (fun _ => ?_) (fun cb => absurd cb (cw_426))
          have hPD9 : PD D A [(Mm, .inr (7, [.int zth, .ref Mt, .int (nI tp), .int (nI max_484), .int zwrx_420, .ref Mrr, .ref Mrh, .ref Mrc, .int (nI rh), .int (nI rc), .ref Mn, .ref Mf, .ref Mr, .ref Mh, .int zhp, .int zcc, .ref Ma, .ref Mas, .ref Msn, .ref Mac, .ref Mat])), (Mt, .inl (g 0, 160, .inl fmt)), (Mrr, .inl (g 0, 3, .inl (upd (upd frrx_2 2 (nI nx_395)) 0 (nI nx_421))))] H := ⟨hP.sub [1, 2, 0] rfl, hD.sub [1, 2, 0] (by decide) rfl⟩
          have hP9 := hPD9.1; have hD9 := hPD9.2
          subst hQ
          refine W.widen (k := 0) (n := 0) (Nat.le_of_ble_eq_true rfl) (Nat.le_of_ble_eq_true rfl) ?_
          exact W.vret hx hb hr (fun tS htS _ => ⟨⟨_, rfl, ⟨max_484, zwrx_420, (upd (upd frrx_2 2 (nI nx_395)) 0 (nI nx_421)), rfl, ⟨(n1_upd (n1_upd (hf_3) (n := nx_395) (show nx_395 ≤ 99 by omega)) (n := nx_421) (show nx_421 ≤ 99 by omega)), (show max_484 ≤ tp by omega), (show ma ≤ max_484 by omega), ((congrArg Prod.fst hR_402).trans ((itR_w (f := 2) (m := 4) (q := 0) hf_410 hil_414.1 hil_414.2 (by decide) (by decide) (fun q => cw_426 (hf_422.2.2.2.1.trans q))).trans hf_422.2.2.2.1.symm)).symm, (fun q => absurd q cw_426), (fun q => absurd q cw_426)⟩⟩, by rw [htS]; exact hP9, hD9⟩, hS.F htS⟩) hS.2.2 dX7_items_98
      · skip
        refine lv_eqi (y := 1) (qi_413) ?_
        have hil_490 := iv_lt (k := 0) (q := 1) hey_411.symm qi_413 (by decide); have hil_490a := hil_490.1
        refine lv_istore (lv' := [(5, .int 1), (4, .int 4), (0, .ref Mm), (1, .int 0), (2, .ref Mrr), (3, .int 0)]) hx hb dX7_items_93 hl (by decide) rfl (fun ls hl => ?_)
        refine lv_goto (tgt := 20) hx hb dX7_items_95 (by decide) ?_
        refine lv_aload_n hx hb dX7_items_20 rfl (lv_at hl 2 rfl) ?_
        refine va_get (D := D) (ci := 7) (v := .int (-1)) (C := RX7) (T := TX7) (N := 21) hx hb hts iX7 hown hK hP 1 rfl rfl 4 (by decide) f71 (fun _ h9 => h9) rfl dX7_items_21 ?_
        refine lv_iconst (v := (-1)) hx hb dX7_items_24 (by decide) ?_
        refine lv_icmp_ne (tgt := 98) hx hb dX7_items_25 (by decide) (fun cb => absurd (by decide) cb) (fun _ => ?_)
        refine lv_iload hx hb dX7_items_28 (lv_at hl 0 rfl) ?_
        refine lv_iconst (v := (-1)) hx hb dX7_items_30 (by decide) ?_
        refine lv_icmp_eq (tgt := 98) hx hb dX7_items_31 (by decide) (fun cb => absurd cb (by decide)) (fun _ => ?_)
        refine lv_iload hx hb dX7_items_34 (lv_at hl 1 rfl) ?_
        refine lv_iload hx hb dX7_items_36 (lv_at hl 0 rfl) ?_
        refine ky_Si (As := [.int 4, .int 1]) (rest := []) ⟨hx, hb, hml, hown, hts⟩ ⟨hK, hN⟩ hZ hP hD hS hA [] [0, 1, 2] (wc := []) (wr := [(Mrr, .inl (g 0, 3, .inl (upd frrx_2 2 (nI nx_395)))), (Mm, .inr (7, [.int zth, .ref Mt, .int (nI tp), .int (nI max_407), .int (-1), .ref Mrr, .ref Mrh, .ref Mrc, .int (nI rh), .int (nI rc), .ref Mn, .ref Mf, .ref Mr, .ref Mh, .int zhp, .int zcc, .ref Ma, .ref Mas, .ref Msn, .ref Mac, .ref Mat])), (Mt, .inl (g 0, 160, .inl fmt))]) rfl rfl rfl rfl (by decide) (r_X7_has_41 l D g H.size) (va_cwS 2 hts gX7_items_X7_has rfl rfl rfl (by decide +kernel) ⟨(Nat.le_of_ble_eq_true rfl), (Nat.le_of_ble_eq_true rfl)⟩) rfl hl.1 rfl (Nat.le_of_ble_eq_true rfl) dX7_items_38 ⟨(Nat.le_of_ble_eq_true rfl), (Nat.le_of_ble_eq_true rfl)⟩ (fun r_491 u H locs hw hP2 hD2 hS2 => ?_)
        clear hP hD hS
        obtain ⟨rfl, rfl⟩ := hw
        have hPD : PD D A [(Mrr, .inl (g 0, 3, .inl (upd frrx_2 2 (nI nx_395)))), (Mm, .inr (7, [.int zth, .ref Mt, .int (nI tp), .int (nI max_407), .int (-1), .ref Mrr, .ref Mrh, .ref Mrc, .int (nI rh), .int (nI rc), .ref Mn, .ref Mf, .ref Mr, .ref Mh, .int zhp, .int zcc, .ref Ma, .ref Mas, .ref Msn, .ref Mac, .ref Mat])), (Mt, .inl (g 0, 160, .inl fmt))] H := ⟨hP2, hD2⟩
        have hS := hS2; clear hP2 hD2 hS2; have hP := hPD.1; have hD := hPD.2; clear hPD
        refine W.widen (k := 0) (n := 0) (Nat.le_of_ble_eq_true rfl) (Nat.le_of_ble_eq_true rfl) ?_
        refine lv_if_ne (tgt := 98) hx hb dX7_items_41 (by decide) (fun cb => absurd (by decide) cb) (fun _ => ?_)
        refine lv_iload hx hb dX7_items_44 (lv_at hl 1 rfl) ?_
        refine lv_iconst (v := 1) hx hb dX7_items_46 (by decide) ?_
        refine lv_iload hx hb dX7_items_47 (lv_at hl 0 rfl) ?_
        refine lv_ishl hx hb dX7_items_49 ?_
        refine lv_eqi (y := 2) (by decide) ?_
        refine lv_ior hx hb dX7_items_50 ?_
        refine lv_eqi (y := 6) (by decide) ?_
        refine lv_istore (lv' := [(4, .int 6), (5, .int 1), (0, .ref Mm), (1, .int 0), (2, .ref Mrr), (3, .int 0)]) hx hb dX7_items_51 hl (by decide) rfl (fun ls hl => ?_)
        refine lv_aload_n hx hb dX7_items_53 rfl (lv_at hl 2 rfl) ?_
        refine lv_dup hx hb dX7_items_54 rfl ?_
        refine va_get (D := D) (ci := 7) (v := .int (nI max_407)) (C := RX7) (T := TX7) (N := 21) hx hb hts iX7 hown hK hP 1 rfl rfl 3 (by decide) f64 (fun _ h9 => h9) rfl dX7_items_55 ?_
        refine lv_iconst (v := 1) hx hb dX7_items_58 (by decide) ?_
        refine lv_iadd hx hb dX7_items_59 ?_
        refine lv_eqi (y := (nI (max_407 + 1))) (nI_add (max_407) (1)) ?_
        refine va_put (D := D) (ci := 7) (v := .int (nI (max_407 + 1))) (ty := .int) (C := RX7) (T := TX7) (N := 21) hx hb hts iX7 tyX7 tyX7_ok nmX7 hown hK hP hD hS 1 rfl rfl 3 (by decide) f64 (fun _ h9 => h9) rfl (by decide +kernel) (rfl) (rfl) (Nat.le_of_ble_eq_true rfl) dX7_items_60 (fun H locs hP2 hD2 hS2 => ?_)
        clear hP hD hS
        have hPD : PD D A [(Mrr, .inl (g 0, 3, .inl (upd frrx_2 2 (nI nx_395)))), (Mm, .inr (7, [.int zth, .ref Mt, .int (nI tp), .int (nI (max_407 + 1)), .int (-1), .ref Mrr, .ref Mrh, .ref Mrc, .int (nI rh), .int (nI rc), .ref Mn, .ref Mf, .ref Mr, .ref Mh, .int zhp, .int zcc, .ref Ma, .ref Mas, .ref Msn, .ref Mac, .ref Mat])), (Mt, .inl (g 0, 160, .inl fmt))] H := ⟨hP2, hD2⟩
        have hS := hS2; clear hP2 hD2 hS2; have hP := hPD.1; have hD := hPD.2; clear hPD
        refine lv_aload_n hx hb dX7_items_63 rfl (lv_at hl 4 rfl) ?_
        refine lv_iload_n hx hb dX7_items_64 rfl (lv_at hl 5 rfl) ?_
        refine lv_iload hx hb dX7_items_65 (lv_at hl 1 rfl) ?_
        refine lv_iadd hx hb dX7_items_67 ?_
        refine lv_eqi (y := 1) (by decide) ?_
        refine lv_aload_n hx hb dX7_items_68 rfl (lv_at hl 2 rfl) ?_
        refine lv_iload_n hx hb dX7_items_69 rfl (lv_at hl 3 rfl) ?_
        refine lv_iload hx hb dX7_items_70 (lv_at hl 1 rfl) ?_
        refine ky_Si (As := [.int 0, .int 1]) (rest := [.ref Mm, .int 1, .ref Mrr]) ⟨hx, hb, hml, hown, hts⟩ ⟨hK, hN⟩ hZ hP hD hS hA [] [0, 1, 2] (wc := []) (wr := [(Mrr, .inl (g 0, 3, .inl (upd frrx_2 2 (nI nx_395)))), (Mm, .inr (7, [.int zth, .ref Mt, .int (nI tp), .int (nI (max_407 + 1)), .int (-1), .ref Mrr, .ref Mrh, .ref Mrc, .int (nI rh), .int (nI rc), .ref Mn, .ref Mf, .ref Mr, .ref Mh, .int zhp, .int zcc, .ref Ma, .ref Mas, .ref Msn, .ref Mac, .ref Mat])), (Mt, .inl (g 0, 160, .inl fmt))]) rfl rfl rfl rfl (by decide) (r_X7_lowest_01 l D g H.size) (va_cwS 2 hts gX7_items_X7_lowest rfl rfl rfl (by decide +kernel) ⟨(Nat.le_of_ble_eq_true rfl), (Nat.le_of_ble_eq_true rfl)⟩) rfl hl.1 rfl (Nat.le_of_ble_eq_true rfl) dX7_items_72 ⟨(Nat.le_of_ble_eq_true rfl), (Nat.le_of_ble_eq_true rfl)⟩ (fun r_492 u H locs hw hP2 hD2 hS2 => ?_)
        clear hP hD hS
        obtain ⟨rfl, rfl⟩ := hw
        have hPD : PD D A [(Mrr, .inl (g 0, 3, .inl (upd frrx_2 2 (nI nx_395)))), (Mm, .inr (7, [.int zth, .ref Mt, .int (nI tp), .int (nI (max_407 + 1)), .int (-1), .ref Mrr, .ref Mrh, .ref Mrc, .int (nI rh), .int (nI rc), .ref Mn, .ref Mf, .ref Mr, .ref Mh, .int zhp, .int zcc, .ref Ma, .ref Mas, .ref Msn, .ref Mac, .ref Mat])), (Mt, .inl (g 0, 160, .inl fmt))] H := ⟨hP2, hD2⟩
        have hS := hS2; clear hP2 hD2 hS2; have hP := hPD.1; have hD := hPD.2; clear hPD
        refine W.widen (k := 0) (n := 0) (Nat.le_of_ble_eq_true rfl) (Nat.le_of_ble_eq_true rfl) ?_
        refine lv_iload_n hx hb dX7_items_75 rfl (lv_at hl 3 rfl) ?_
        refine lv_iload hx hb dX7_items_76 (lv_at hl 1 rfl) ?_
        refine ky_Si (As := [.int 0, .int 1]) (rest := [.int 0, .ref Mm, .int 1, .ref Mrr]) ⟨hx, hb, hml, hown, hts⟩ ⟨hK, hN⟩ hZ hP hD hS hA [] [0, 1, 2] (wc := []) (wr := [(Mrr, .inl (g 0, 3, .inl (upd frrx_2 2 (nI nx_395)))), (Mm, .inr (7, [.int zth, .ref Mt, .int (nI tp), .int (nI (max_407 + 1)), .int (-1), .ref Mrr, .ref Mrh, .ref Mrc, .int (nI rh), .int (nI rc), .ref Mn, .ref Mf, .ref Mr, .ref Mh, .int zhp, .int zcc, .ref Ma, .ref Mas, .ref Msn, .ref Mac, .ref Mat])), (Mt, .inl (g 0, 160, .inl fmt))]) rfl rfl rfl rfl (by decide) (r_X7_highest_01 l D g H.size) (va_cwS 2 hts gX7_items_X7_highest rfl rfl rfl (by decide +kernel) ⟨(Nat.le_of_ble_eq_true rfl), (Nat.le_of_ble_eq_true rfl)⟩) rfl hl.1 rfl (Nat.le_of_ble_eq_true rfl) dX7_items_78 ⟨(Nat.le_of_ble_eq_true rfl), (Nat.le_of_ble_eq_true rfl)⟩ (fun r_493 u H locs hw hP2 hD2 hS2 => ?_)
        clear hP hD hS
        obtain ⟨rfl, rfl⟩ := hw
        have hPD : PD D A [(Mrr, .inl (g 0, 3, .inl (upd frrx_2 2 (nI nx_395)))), (Mm, .inr (7, [.int zth, .ref Mt, .int (nI tp), .int (nI (max_407 + 1)), .int (-1), .ref Mrr, .ref Mrh, .ref Mrc, .int (nI rh), .int (nI rc), .ref Mn, .ref Mf, .ref Mr, .ref Mh, .int zhp, .int zcc, .ref Ma, .ref Mas, .ref Msn, .ref Mac, .ref Mat])), (Mt, .inl (g 0, 160, .inl fmt))] H := ⟨hP2, hD2⟩
        have hS := hS2; clear hP2 hD2 hS2; have hP := hPD.1; have hD := hPD.2; clear hPD
        refine W.widen (k := 0) (n := 0) (Nat.le_of_ble_eq_true rfl) (Nat.le_of_ble_eq_true rfl) ?_
        refine ky_Vi (As := [.int 0, .int 20]) (rest := [.int 1, .ref Mrr]) ⟨hx, hb, hml, hown, hts⟩ ⟨hK, hN⟩ hZ hP hD hS hA [1, 2] [0] (wc := [(Mm, .inr (7, [.int zth, .ref Mt, .int (nI tp), .int (nI (max_407 + 1)), .int (-1), .ref Mrr, .ref Mrh, .ref Mrc, .int (nI rh), .int (nI rc), .ref Mn, .ref Mf, .ref Mr, .ref Mh, .int zhp, .int zcc, .ref Ma, .ref Mas, .ref Msn, .ref Mac, .ref Mat])), (Mt, .inl (g 0, 160, .inl fmt))]) (wr := [(Mrr, .inl (g 0, 3, .inl (upd frrx_2 2 (nI nx_395))))]) rfl rfl rfl rfl (by decide) (w_X7_number l D g H.size Mm 0 20 zth Mt tp (max_407 + 1) Mrr Mrh Mrc rh rc Mn Mf Mr Mh zhp zcc Ma Mas Msn Mac Mat fmt (show tp ≤ 160 by omega) (show (max_407 + 1) ≤ tp by omega) (show 0 ≤ 1 by omega)) (cwV 2 hts gX7_items_X7_number rfl rfl rfl (by decide +kernel) ⟨(Nat.le_of_ble_eq_true rfl), (Nat.le_of_ble_eq_true rfl)⟩) 1 7 rfl rfl rfl rfl hl.1 rfl (Nat.le_of_ble_eq_true rfl) dX7_items_81 ⟨(Nat.le_of_ble_eq_true rfl), (Nat.le_of_ble_eq_true rfl)⟩ (fun r_494 u H locs hw hP2 hD2 hS2 => ?_)
        clear hP hD hS
        obtain ⟨max_495, zwrx_496, nx_497, rfl, rfl, hf_498⟩ := hw
        have hg_499 := hf_498.1
        have hg_500 := hf_498.2.1
        have hg_501 := hf_498.2.2.1
        have hPD : PD D A [(Mrr, .inl (g 0, 3, .inl (upd frrx_2 2 (nI nx_395)))), (Mm, .inr (7, [.int zth, .ref Mt, .int (nI tp), .int (nI max_495), .int zwrx_496, .ref Mrr, .ref Mrh, .ref Mrc, .int (nI rh), .int (nI rc), .ref Mn, .ref Mf, .ref Mr, .ref Mh, .int zhp, .int zcc, .ref Ma, .ref Mas, .ref Msn, .ref Mac, .ref Mat])), (Mt, .inl (g 0, 160, .inl fmt))] H := ⟨hP2, hD2⟩
        have hS := hS2; clear hP2 hD2 hS2; have hP := hPD.1; have hD := hPD.2; clear hPD
        refine W.widen (k := 0) (n := 0) (Nat.le_of_ble_eq_true rfl) (Nat.le_of_ble_eq_true rfl) ?_
        refine va_iast hx hb hK hP hD hS 0 0 rfl rfl (by unfold vp_in; decide) dX7_items_84 (fun H locs hP2 hD2 hS2 => ?_)
        clear hP hD hS
        have hPD : PD D A [(Mrr, .inl (g 0, 3, .inl (upd (upd frrx_2 2 (nI nx_395)) 1 (nI nx_497)))), (Mm, .inr (7, [.int zth, .ref Mt, .int (nI tp), .int (nI max_495), .int zwrx_496, .ref Mrr, .ref Mrh, .ref Mrc, .int (nI rh), .int (nI rc), .ref Mn, .ref Mf, .ref Mr, .ref Mh, .int zhp, .int zcc, .ref Ma, .ref Mas, .ref Msn, .ref Mac, .ref Mat])), (Mt, .inl (g 0, 160, .inl fmt))] H := ⟨hP2, hD2⟩
        have hS := hS2; clear hP2 hD2 hS2; have hP := hPD.1; have hD := hPD.2; clear hPD
        by_cases cw_502 : zwrx_496 = -1
        · skip
          have hPq_503 := hP; have hDq_503 := hD; have hSq_503 := hS; have hlq_503 := hl; clear hP hD hS hl
          subst cw_502
          have hP := hPq_503; have hD := hDq_503; have hS := hSq_503; have hl := hlq_503; clear hPq_503 hDq_503 hSq_503 hlq_503
          have hne_505 := hf_498.2.2.2.2.1 rfl
          have hnv_506 := hf_498.2.2.2.2.2 rfl
          have hR_504 : itR fmt tp 0 4 0 ma = itR fmt tp 0 2 6 max_495 := hR_402.trans ((itR_go (f := 2) (m := 4) (q := 1) hf_410 hil_490.1 hil_490.2 (by decide) (by decide) hf_498.2.2.2.1.symm).trans (by rw [hne_505]))
          have hW_507 : itW fmt tp 0 0 4 0 ma (us3 0 0 frr) = itW fmt tp 0 0 2 6 max_495 (upd (upd frrx_2 2 (nI nx_395)) 1 (nI nx_497)) := hW_405.trans ((itW_go (f := 2) (m := 4) (q := 1) hf_410 hil_490.1 hil_490.2 (by decide) (by decide) hf_498.2.2.2.1.symm).trans (by rw [hne_505, hnv_506]))
          refine lv_iload_n hx hb dX7_items_85 rfl (lv_at hl 3 rfl) ?_
          refine lv_aload_n hx hb dX7_items_86 rfl (lv_at hl 2 rfl) ?_
          refine ky_Vi (As := []) (rest := [.int 0]) ⟨hx, hb, hml, hown, hts⟩ ⟨hK, hN⟩ hZ hP hD hS hA [1, 2] [0] (wc := [(Mm, .inr (7, [.int zth, .ref Mt, .int (nI tp), .int (nI max_495), .int (-1), .ref Mrr, .ref Mrh, .ref Mrc, .int (nI rh), .int (nI rc), .ref Mn, .ref Mf, .ref Mr, .ref Mh, .int zhp, .int zcc, .ref Ma, .ref Mas, .ref Msn, .ref Mac, .ref Mat])), (Mt, .inl (g 0, 160, .inl fmt))]) (wr := [(Mrr, .inl (g 0, 3, .inl (upd (upd frrx_2 2 (nI nx_395)) 1 (nI nx_497))))]) rfl rfl rfl rfl (by decide) (r_X7_ahead l D g H.size Mm zth Mt tp max_495 (-1) Mrr Mrh Mrc rh rc Mn Mf Mr Mh zhp zcc Ma Mas Msn Mac Mat fmt (show tp ≤ 160 by omega) (show max_495 ≤ tp by omega)) (cwV 0 hts gX7_items_X7_ahead rfl rfl rfl (by decide +kernel) ⟨(Nat.le_of_ble_eq_true rfl), (Nat.le_of_ble_eq_true rfl)⟩) 1 7 rfl rfl rfl rfl hl.1 rfl (Nat.le_of_ble_eq_true rfl) dX7_items_87 ⟨(Nat.le_of_ble_eq_true rfl), (Nat.le_of_ble_eq_true rfl)⟩ (fun r_508 u H locs hw hP2 hD2 hS2 => ?_)
          clear hP hD hS
          obtain ⟨max_509, rfl, rfl, hf_510, hf_511, hf_512⟩ := hw
          have hPD : PD D A [(Mrr, .inl (g 0, 3, .inl (upd (upd frrx_2 2 (nI nx_395)) 1 (nI nx_497)))), (Mm, .inr (7, [.int zth, .ref Mt, .int (nI tp), .int (nI max_509), .int (-1), .ref Mrr, .ref Mrh, .ref Mrc, .int (nI rh), .int (nI rc), .ref Mn, .ref Mf, .ref Mr, .ref Mh, .int zhp, .int zcc, .ref Ma, .ref Mas, .ref Msn, .ref Mac, .ref Mat])), (Mt, .inl (g 0, 160, .inl fmt))] H := ⟨hP2, hD2⟩
          have hS := hS2; clear hP2 hD2 hS2; have hP := hPD.1; have hD := hPD.2; clear hPD
          refine W.widen (k := 0) (n := 0) (Nat.le_of_ble_eq_true rfl) (Nat.le_of_ble_eq_true rfl) ?_
          refine lv_topi (fun y_513 hey_513 => ?_)
          refine ky_Si (As := [.int 0, .int y_513]) (rest := []) ⟨hx, hb, hml, hown, hts⟩ ⟨hK, hN⟩ hZ hP hD hS hA [] [0, 1, 2] (wc := []) (wr := [(Mrr, .inl (g 0, 3, .inl (upd (upd frrx_2 2 (nI nx_395)) 1 (nI nx_497)))), (Mm, .inr (7, [.int zth, .ref Mt, .int (nI tp), .int (nI max_509), .int (-1), .ref Mrr, .ref Mrh, .ref Mrc, .int (nI rh), .int (nI rc), .ref Mn, .ref Mf, .ref Mr, .ref Mh, .int zhp, .int zcc, .ref Ma, .ref Mas, .ref Msn, .ref Mac, .ref Mat])), (Mt, .inl (g 0, 160, .inl fmt))]) rfl rfl rfl rfl (by decide) (r_X7_itemBy_0 l D g H.size y_513) (va_cwS 2 hts gX7_items_X7_itemBy rfl rfl rfl (by decide +kernel) ⟨(Nat.le_of_ble_eq_true rfl), (Nat.le_of_ble_eq_true rfl)⟩) rfl hl.1 rfl (Nat.le_of_ble_eq_true rfl) dX7_items_90 ⟨(Nat.le_of_ble_eq_true rfl), (Nat.le_of_ble_eq_true rfl)⟩ (fun r_514 u H locs hw hP2 hD2 hS2 => ?_)
          clear hP hD hS
          obtain ⟨rfl, rfl⟩ := hw
          have hPD : PD D A [(Mrr, .inl (g 0, 3, .inl (upd (upd frrx_2 2 (nI nx_395)) 1 (nI nx_497)))), (Mm, .inr (7, [.int zth, .ref Mt, .int (nI tp), .int (nI max_509), .int (-1), .ref Mrr, .ref Mrh, .ref Mrc, .int (nI rh), .int (nI rc), .ref Mn, .ref Mf, .ref Mr, .ref Mh, .int zhp, .int zcc, .ref Ma, .ref Mas, .ref Msn, .ref Mac, .ref Mat])), (Mt, .inl (g 0, 160, .inl fmt))] H := ⟨hP2, hD2⟩
          have hS := hS2; clear hP2 hD2 hS2; have hP := hPD.1; have hD := hPD.2; clear hPD
          refine W.widen (k := 0) (n := 0) (Nat.le_of_ble_eq_true rfl) (Nat.le_of_ble_eq_true rfl) ?_
          rcases itK_c 0 y_513 with qi_515 | qi_515 | qi_515 | qi_515
          · skip
            refine lv_eqi (y := (-1)) (qi_515) ?_
            refine lv_istore (lv' := [(5, .int (-1)), (4, .int 6), (0, .ref Mm), (1, .int 0), (2, .ref Mrr), (3, .int 0)]) hx hb dX7_items_93 hl (by decide) rfl (fun ls hl => ?_)
            refine lv_goto (tgt := 20) hx hb dX7_items_95 (by decide) ?_
            refine lv_aload_n hx hb dX7_items_20 rfl (lv_at hl 2 rfl) ?_
            refine va_get (D := D) (ci := 7) (v := .int (-1)) (C := RX7) (T := TX7) (N := 21) hx hb hts iX7 hown hK hP 1 rfl rfl 4 (by decide) f71 (fun _ h9 => h9) rfl dX7_items_21 ?_
            refine lv_iconst (v := (-1)) hx hb dX7_items_24 (by decide) ?_
            refine lv_icmp_ne (tgt := 98) hx hb dX7_items_25 (by decide) (fun cb => absurd (by decide) cb) (fun _ => ?_)
            refine lv_iload hx hb dX7_items_28 (lv_at hl 0 rfl) ?_
            refine lv_iconst (v := (-1)) hx hb dX7_items_30 (by decide) ?_
            refine lv_icmp_eq (tgt := 98) hx hb dX7_items_31 (by decide) (fun _ => ?_) (fun cb => absurd (by decide) cb)
            have hPD9 : PD D A [(Mm, .inr (7, [.int zth, .ref Mt, .int (nI tp), .int (nI max_509), .int (-1), .ref Mrr, .ref Mrh, .ref Mrc, .int (nI rh), .int (nI rc), .ref Mn, .ref Mf, .ref Mr, .ref Mh, .int zhp, .int zcc, .ref Ma, .ref Mas, .ref Msn, .ref Mac, .ref Mat])), (Mt, .inl (g 0, 160, .inl fmt)), (Mrr, .inl (g 0, 3, .inl (upd (upd frrx_2 2 (nI nx_395)) 1 (nI nx_497))))] H := ⟨hP.sub [1, 2, 0] rfl, hD.sub [1, 2, 0] (by decide) rfl⟩
            have hP9 := hPD9.1; have hD9 := hPD9.2
            subst hQ
            refine W.widen (k := 0) (n := 0) (Nat.le_of_ble_eq_true rfl) (Nat.le_of_ble_eq_true rfl) ?_
            exact W.vret hx hb hr (fun tS htS _ => ⟨⟨_, rfl, ⟨max_509, (-1), (upd (upd frrx_2 2 (nI nx_395)) 1 (nI nx_497)), rfl, ⟨(n1_upd (n1_upd (hf_3) (n := nx_395) (show nx_395 ≤ 99 by omega)) (n := nx_497) (show nx_497 ≤ 99 by omega)), (show max_509 ≤ tp by omega), (show ma ≤ max_509 by omega), (congrArg Prod.fst (hR_504.trans (iv_m (f := 1) (m := 6) hf_512 hey_513.symm qi_515))).symm, (fun _ => (congrArg Prod.snd (hR_504.trans (iv_m (f := 1) (m := 6) hf_512 hey_513.symm qi_515))).symm), (fun _ => (hW_507.trans (iw_m (f := 1) (m := 6) hf_512 hey_513.symm qi_515)).symm)⟩⟩, by rw [htS]; exact hP9, hD9⟩, hS.F htS⟩) hS.2.2 dX7_items_98
          · skip
            refine lv_eqi (y := 0) (qi_515) ?_
            have hil_516 := iv_lt (k := 0) (q := 0) hey_513.symm qi_515 (by decide); have hil_516a := hil_516.1
            refine lv_istore (lv' := [(5, .int 0), (4, .int 6), (0, .ref Mm), (1, .int 0), (2, .ref Mrr), (3, .int 0)]) hx hb dX7_items_93 hl (by decide) rfl (fun ls hl => ?_)
            refine lv_goto (tgt := 20) hx hb dX7_items_95 (by decide) ?_
            refine lv_aload_n hx hb dX7_items_20 rfl (lv_at hl 2 rfl) ?_
            refine va_get (D := D) (ci := 7) (v := .int (-1)) (C := RX7) (T := TX7) (N := 21) hx hb hts iX7 hown hK hP 1 rfl rfl 4 (by decide) f71 (fun _ h9 => h9) rfl dX7_items_21 ?_
            refine lv_iconst (v := (-1)) hx hb dX7_items_24 (by decide) ?_
            refine lv_icmp_ne (tgt := 98) hx hb dX7_items_25 (by decide) (fun cb => absurd (by decide) cb) (fun _ => ?_)
            refine lv_iload hx hb dX7_items_28 (lv_at hl 0 rfl) ?_
            refine lv_iconst (v := (-1)) hx hb dX7_items_30 (by decide) ?_
            refine lv_icmp_eq (tgt := 98) hx hb dX7_items_31 (by decide) (fun cb => absurd cb (by decide)) (fun _ => ?_)
            refine lv_iload hx hb dX7_items_34 (lv_at hl 1 rfl) ?_
            refine lv_iload hx hb dX7_items_36 (lv_at hl 0 rfl) ?_
            refine ky_Si (As := [.int 6, .int 0]) (rest := []) ⟨hx, hb, hml, hown, hts⟩ ⟨hK, hN⟩ hZ hP hD hS hA [] [0, 1, 2] (wc := []) (wr := [(Mrr, .inl (g 0, 3, .inl (upd (upd frrx_2 2 (nI nx_395)) 1 (nI nx_497)))), (Mm, .inr (7, [.int zth, .ref Mt, .int (nI tp), .int (nI max_509), .int (-1), .ref Mrr, .ref Mrh, .ref Mrc, .int (nI rh), .int (nI rc), .ref Mn, .ref Mf, .ref Mr, .ref Mh, .int zhp, .int zcc, .ref Ma, .ref Mas, .ref Msn, .ref Mac, .ref Mat])), (Mt, .inl (g 0, 160, .inl fmt))]) rfl rfl rfl rfl (by decide) (r_X7_has_60 l D g H.size) (va_cwS 2 hts gX7_items_X7_has rfl rfl rfl (by decide +kernel) ⟨(Nat.le_of_ble_eq_true rfl), (Nat.le_of_ble_eq_true rfl)⟩) rfl hl.1 rfl (Nat.le_of_ble_eq_true rfl) dX7_items_38 ⟨(Nat.le_of_ble_eq_true rfl), (Nat.le_of_ble_eq_true rfl)⟩ (fun r_517 u H locs hw hP2 hD2 hS2 => ?_)
            clear hP hD hS
            obtain ⟨rfl, rfl⟩ := hw
            have hPD : PD D A [(Mrr, .inl (g 0, 3, .inl (upd (upd frrx_2 2 (nI nx_395)) 1 (nI nx_497)))), (Mm, .inr (7, [.int zth, .ref Mt, .int (nI tp), .int (nI max_509), .int (-1), .ref Mrr, .ref Mrh, .ref Mrc, .int (nI rh), .int (nI rc), .ref Mn, .ref Mf, .ref Mr, .ref Mh, .int zhp, .int zcc, .ref Ma, .ref Mas, .ref Msn, .ref Mac, .ref Mat])), (Mt, .inl (g 0, 160, .inl fmt))] H := ⟨hP2, hD2⟩
            have hS := hS2; clear hP2 hD2 hS2; have hP := hPD.1; have hD := hPD.2; clear hPD
            refine W.widen (k := 0) (n := 0) (Nat.le_of_ble_eq_true rfl) (Nat.le_of_ble_eq_true rfl) ?_
            refine lv_if_ne (tgt := 98) hx hb dX7_items_41 (by decide) (fun cb => absurd (by decide) cb) (fun _ => ?_)
            refine lv_iload hx hb dX7_items_44 (lv_at hl 1 rfl) ?_
            refine lv_iconst (v := 1) hx hb dX7_items_46 (by decide) ?_
            refine lv_iload hx hb dX7_items_47 (lv_at hl 0 rfl) ?_
            refine lv_ishl hx hb dX7_items_49 ?_
            refine lv_eqi (y := 1) (by decide) ?_
            refine lv_ior hx hb dX7_items_50 ?_
            refine lv_eqi (y := 7) (by decide) ?_
            refine lv_istore (lv' := [(4, .int 7), (5, .int 0), (0, .ref Mm), (1, .int 0), (2, .ref Mrr), (3, .int 0)]) hx hb dX7_items_51 hl (by decide) rfl (fun ls hl => ?_)
            refine lv_aload_n hx hb dX7_items_53 rfl (lv_at hl 2 rfl) ?_
            refine lv_dup hx hb dX7_items_54 rfl ?_
            refine va_get (D := D) (ci := 7) (v := .int (nI max_509)) (C := RX7) (T := TX7) (N := 21) hx hb hts iX7 hown hK hP 1 rfl rfl 3 (by decide) f64 (fun _ h9 => h9) rfl dX7_items_55 ?_
            refine lv_iconst (v := 1) hx hb dX7_items_58 (by decide) ?_
            refine lv_iadd hx hb dX7_items_59 ?_
            refine lv_eqi (y := (nI (max_509 + 1))) (nI_add (max_509) (1)) ?_
            refine va_put (D := D) (ci := 7) (v := .int (nI (max_509 + 1))) (ty := .int) (C := RX7) (T := TX7) (N := 21) hx hb hts iX7 tyX7 tyX7_ok nmX7 hown hK hP hD hS 1 rfl rfl 3 (by decide) f64 (fun _ h9 => h9) rfl (by decide +kernel) (rfl) (rfl) (Nat.le_of_ble_eq_true rfl) dX7_items_60 (fun H locs hP2 hD2 hS2 => ?_)
            clear hP hD hS
            have hPD : PD D A [(Mrr, .inl (g 0, 3, .inl (upd (upd frrx_2 2 (nI nx_395)) 1 (nI nx_497)))), (Mm, .inr (7, [.int zth, .ref Mt, .int (nI tp), .int (nI (max_509 + 1)), .int (-1), .ref Mrr, .ref Mrh, .ref Mrc, .int (nI rh), .int (nI rc), .ref Mn, .ref Mf, .ref Mr, .ref Mh, .int zhp, .int zcc, .ref Ma, .ref Mas, .ref Msn, .ref Mac, .ref Mat])), (Mt, .inl (g 0, 160, .inl fmt))] H := ⟨hP2, hD2⟩
            have hS := hS2; clear hP2 hD2 hS2; have hP := hPD.1; have hD := hPD.2; clear hPD
            refine lv_aload_n hx hb dX7_items_63 rfl (lv_at hl 4 rfl) ?_
            refine lv_iload_n hx hb dX7_items_64 rfl (lv_at hl 5 rfl) ?_
            refine lv_iload hx hb dX7_items_65 (lv_at hl 1 rfl) ?_
            refine lv_iadd hx hb dX7_items_67 ?_
            refine lv_eqi (y := 0) (by decide) ?_
            refine lv_aload_n hx hb dX7_items_68 rfl (lv_at hl 2 rfl) ?_
            refine lv_iload_n hx hb dX7_items_69 rfl (lv_at hl 3 rfl) ?_
            refine lv_iload hx hb dX7_items_70 (lv_at hl 1 rfl) ?_
            refine ky_Si (As := [.int 0, .int 0]) (rest := [.ref Mm, .int 0, .ref Mrr]) ⟨hx, hb, hml, hown, hts⟩ ⟨hK, hN⟩ hZ hP hD hS hA [] [0, 1, 2] (wc := []) (wr := [(Mrr, .inl (g 0, 3, .inl (upd (upd frrx_2 2 (nI nx_395)) 1 (nI nx_497)))), (Mm, .inr (7, [.int zth, .ref Mt, .int (nI tp), .int (nI (max_509 + 1)), .int (-1), .ref Mrr, .ref Mrh, .ref Mrc, .int (nI rh), .int (nI rc), .ref Mn, .ref Mf, .ref Mr, .ref Mh, .int zhp, .int zcc, .ref Ma, .ref Mas, .ref Msn, .ref Mac, .ref Mat])), (Mt, .inl (g 0, 160, .inl fmt))]) rfl rfl rfl rfl (by decide) (r_X7_lowest_00 l D g H.size) (va_cwS 2 hts gX7_items_X7_lowest rfl rfl rfl (by decide +kernel) ⟨(Nat.le_of_ble_eq_true rfl), (Nat.le_of_ble_eq_true rfl)⟩) rfl hl.1 rfl (Nat.le_of_ble_eq_true rfl) dX7_items_72 ⟨(Nat.le_of_ble_eq_true rfl), (Nat.le_of_ble_eq_true rfl)⟩ (fun r_518 u H locs hw hP2 hD2 hS2 => ?_)
            clear hP hD hS
            obtain ⟨rfl, rfl⟩ := hw
            have hPD : PD D A [(Mrr, .inl (g 0, 3, .inl (upd (upd frrx_2 2 (nI nx_395)) 1 (nI nx_497)))), (Mm, .inr (7, [.int zth, .ref Mt, .int (nI tp), .int (nI (max_509 + 1)), .int (-1), .ref Mrr, .ref Mrh, .ref Mrc, .int (nI rh), .int (nI rc), .ref Mn, .ref Mf, .ref Mr, .ref Mh, .int zhp, .int zcc, .ref Ma, .ref Mas, .ref Msn, .ref Mac, .ref Mat])), (Mt, .inl (g 0, 160, .inl fmt))] H := ⟨hP2, hD2⟩
            have hS := hS2; clear hP2 hD2 hS2; have hP := hPD.1; have hD := hPD.2; clear hPD
            refine W.widen (k := 0) (n := 0) (Nat.le_of_ble_eq_true rfl) (Nat.le_of_ble_eq_true rfl) ?_
            refine lv_iload_n hx hb dX7_items_75 rfl (lv_at hl 3 rfl) ?_
            refine lv_iload hx hb dX7_items_76 (lv_at hl 1 rfl) ?_
            refine ky_Si (As := [.int 0, .int 0]) (rest := [.int 1, .ref Mm, .int 0, .ref Mrr]) ⟨hx, hb, hml, hown, hts⟩ ⟨hK, hN⟩ hZ hP hD hS hA [] [0, 1, 2] (wc := []) (wr := [(Mrr, .inl (g 0, 3, .inl (upd (upd frrx_2 2 (nI nx_395)) 1 (nI nx_497)))), (Mm, .inr (7, [.int zth, .ref Mt, .int (nI tp), .int (nI (max_509 + 1)), .int (-1), .ref Mrr, .ref Mrh, .ref Mrc, .int (nI rh), .int (nI rc), .ref Mn, .ref Mf, .ref Mr, .ref Mh, .int zhp, .int zcc, .ref Ma, .ref Mas, .ref Msn, .ref Mac, .ref Mat])), (Mt, .inl (g 0, 160, .inl fmt))]) rfl rfl rfl rfl (by decide) (r_X7_highest_00 l D g H.size) (va_cwS 2 hts gX7_items_X7_highest rfl rfl rfl (by decide +kernel) ⟨(Nat.le_of_ble_eq_true rfl), (Nat.le_of_ble_eq_true rfl)⟩) rfl hl.1 rfl (Nat.le_of_ble_eq_true rfl) dX7_items_78 ⟨(Nat.le_of_ble_eq_true rfl), (Nat.le_of_ble_eq_true rfl)⟩ (fun r_519 u H locs hw hP2 hD2 hS2 => ?_)
            clear hP hD hS
            obtain ⟨rfl, rfl⟩ := hw
            have hPD : PD D A [(Mrr, .inl (g 0, 3, .inl (upd (upd frrx_2 2 (nI nx_395)) 1 (nI nx_497)))), (Mm, .inr (7, [.int zth, .ref Mt, .int (nI tp), .int (nI (max_509 + 1)), .int (-1), .ref Mrr, .ref Mrh, .ref Mrc, .int (nI rh), .int (nI rc), .ref Mn, .ref Mf, .ref Mr, .ref Mh, .int zhp, .int zcc, .ref Ma, .ref Mas, .ref Msn, .ref Mac, .ref Mat])), (Mt, .inl (g 0, 160, .inl fmt))] H := ⟨hP2, hD2⟩
            have hS := hS2; clear hP2 hD2 hS2; have hP := hPD.1; have hD := hPD.2; clear hPD
            refine W.widen (k := 0) (n := 0) (Nat.le_of_ble_eq_true rfl) (Nat.le_of_ble_eq_true rfl) ?_
            refine ky_Vi (As := [.int 1, .int 4]) (rest := [.int 0, .ref Mrr]) ⟨hx, hb, hml, hown, hts⟩ ⟨hK, hN⟩ hZ hP hD hS hA [1, 2] [0] (wc := [(Mm, .inr (7, [.int zth, .ref Mt, .int (nI tp), .int (nI (max_509 + 1)), .int (-1), .ref Mrr, .ref Mrh, .ref Mrc, .int (nI rh), .int (nI rc), .ref Mn, .ref Mf, .ref Mr, .ref Mh, .int zhp, .int zcc, .ref Ma, .ref Mas, .ref Msn, .ref Mac, .ref Mat])), (Mt, .inl (g 0, 160, .inl fmt))]) (wr := [(Mrr, .inl (g 0, 3, .inl (upd (upd frrx_2 2 (nI nx_395)) 1 (nI nx_497))))]) rfl rfl rfl rfl (by decide) (w_X7_number l D g H.size Mm 1 4 zth Mt tp (max_509 + 1) Mrr Mrh Mrc rh rc Mn Mf Mr Mh zhp zcc Ma Mas Msn Mac Mat fmt (show tp ≤ 160 by omega) (show (max_509 + 1) ≤ tp by omega) (show 1 ≤ 1 by omega)) (cwV 2 hts gX7_items_X7_number rfl rfl rfl (by decide +kernel) ⟨(Nat.le_of_ble_eq_true rfl), (Nat.le_of_ble_eq_true rfl)⟩) 1 7 rfl rfl rfl rfl hl.1 rfl (Nat.le_of_ble_eq_true rfl) dX7_items_81 ⟨(Nat.le_of_ble_eq_true rfl), (Nat.le_of_ble_eq_true rfl)⟩ (fun r_520 u H locs hw hP2 hD2 hS2 => ?_)
            clear hP hD hS
            obtain ⟨max_521, zwrx_522, nx_523, rfl, rfl, hf_524⟩ := hw
            have hg_525 := hf_524.1
            have hg_526 := hf_524.2.1
            have hg_527 := hf_524.2.2.1
            have hPD : PD D A [(Mrr, .inl (g 0, 3, .inl (upd (upd frrx_2 2 (nI nx_395)) 1 (nI nx_497)))), (Mm, .inr (7, [.int zth, .ref Mt, .int (nI tp), .int (nI max_521), .int zwrx_522, .ref Mrr, .ref Mrh, .ref Mrc, .int (nI rh), .int (nI rc), .ref Mn, .ref Mf, .ref Mr, .ref Mh, .int zhp, .int zcc, .ref Ma, .ref Mas, .ref Msn, .ref Mac, .ref Mat])), (Mt, .inl (g 0, 160, .inl fmt))] H := ⟨hP2, hD2⟩
            have hS := hS2; clear hP2 hD2 hS2; have hP := hPD.1; have hD := hPD.2; clear hPD
            refine W.widen (k := 0) (n := 0) (Nat.le_of_ble_eq_true rfl) (Nat.le_of_ble_eq_true rfl) ?_
            refine va_iast hx hb hK hP hD hS 0 0 rfl rfl (by unfold vp_in; decide) dX7_items_84 (fun H locs hP2 hD2 hS2 => ?_)
            clear hP hD hS
            have hPD : PD D A [(Mrr, .inl (g 0, 3, .inl (upd (upd (upd frrx_2 2 (nI nx_395)) 1 (nI nx_497)) 0 (nI nx_523)))), (Mm, .inr (7, [.int zth, .ref Mt, .int (nI tp), .int (nI max_521), .int zwrx_522, .ref Mrr, .ref Mrh, .ref Mrc, .int (nI rh), .int (nI rc), .ref Mn, .ref Mf, .ref Mr, .ref Mh, .int zhp, .int zcc, .ref Ma, .ref Mas, .ref Msn, .ref Mac, .ref Mat])), (Mt, .inl (g 0, 160, .inl fmt))] H := ⟨hP2, hD2⟩
            have hS := hS2; clear hP2 hD2 hS2; have hP := hPD.1; have hD := hPD.2; clear hPD
            by_cases cw_528 : zwrx_522 = -1
            · skip
              have hPq_529 := hP; have hDq_529 := hD; have hSq_529 := hS; have hlq_529 := hl; clear hP hD hS hl
              subst cw_528
              have hP := hPq_529; have hD := hDq_529; have hS := hSq_529; have hl := hlq_529; clear hPq_529 hDq_529 hSq_529 hlq_529
              have hne_531 := hf_524.2.2.2.2.1 rfl
              have hnv_532 := hf_524.2.2.2.2.2 rfl
              have hR_530 : itR fmt tp 0 4 0 ma = itR fmt tp 0 1 7 max_521 := hR_504.trans ((itR_go (f := 1) (m := 6) (q := 0) hf_512 hil_516.1 hil_516.2 (by decide) (by decide) hf_524.2.2.2.1.symm).trans (by rw [hne_531]))
              have hW_533 : itW fmt tp 0 0 4 0 ma (us3 0 0 frr) = itW fmt tp 0 0 1 7 max_521 (upd (upd (upd frrx_2 2 (nI nx_395)) 1 (nI nx_497)) 0 (nI nx_523)) := hW_507.trans ((itW_go (f := 1) (m := 6) (q := 0) hf_512 hil_516.1 hil_516.2 (by decide) (by decide) hf_524.2.2.2.1.symm).trans (by rw [hne_531, hnv_532]))
              refine lv_iload_n hx hb dX7_items_85 rfl (lv_at hl 3 rfl) ?_
              refine lv_aload_n hx hb dX7_items_86 rfl (lv_at hl 2 rfl) ?_
              refine ky_Vi (As := []) (rest := [.int 0]) ⟨hx, hb, hml, hown, hts⟩ ⟨hK, hN⟩ hZ hP hD hS hA [1, 2] [0] (wc := [(Mm, .inr (7, [.int zth, .ref Mt, .int (nI tp), .int (nI max_521), .int (-1), .ref Mrr, .ref Mrh, .ref Mrc, .int (nI rh), .int (nI rc), .ref Mn, .ref Mf, .ref Mr, .ref Mh, .int zhp, .int zcc, .ref Ma, .ref Mas, .ref Msn, .ref Mac, .ref Mat])), (Mt, .inl (g 0, 160, .inl fmt))]) (wr := [(Mrr, .inl (g 0, 3, .inl (upd (upd (upd frrx_2 2 (nI nx_395)) 1 (nI nx_497)) 0 (nI nx_523))))]) rfl rfl rfl rfl (by decide) (r_X7_ahead l D g H.size Mm zth Mt tp max_521 (-1) Mrr Mrh Mrc rh rc Mn Mf Mr Mh zhp zcc Ma Mas Msn Mac Mat fmt (show tp ≤ 160 by omega) (show max_521 ≤ tp by omega)) (cwV 0 hts gX7_items_X7_ahead rfl rfl rfl (by decide +kernel) ⟨(Nat.le_of_ble_eq_true rfl), (Nat.le_of_ble_eq_true rfl)⟩) 1 7 rfl rfl rfl rfl hl.1 rfl (Nat.le_of_ble_eq_true rfl) dX7_items_87 ⟨(Nat.le_of_ble_eq_true rfl), (Nat.le_of_ble_eq_true rfl)⟩ (fun r_534 u H locs hw hP2 hD2 hS2 => ?_)
              clear hP hD hS
              obtain ⟨max_535, rfl, rfl, hf_536, hf_537, hf_538⟩ := hw
              have hPD : PD D A [(Mrr, .inl (g 0, 3, .inl (upd (upd (upd frrx_2 2 (nI nx_395)) 1 (nI nx_497)) 0 (nI nx_523)))), (Mm, .inr (7, [.int zth, .ref Mt, .int (nI tp), .int (nI max_535), .int (-1), .ref Mrr, .ref Mrh, .ref Mrc, .int (nI rh), .int (nI rc), .ref Mn, .ref Mf, .ref Mr, .ref Mh, .int zhp, .int zcc, .ref Ma, .ref Mas, .ref Msn, .ref Mac, .ref Mat])), (Mt, .inl (g 0, 160, .inl fmt))] H := ⟨hP2, hD2⟩
              have hS := hS2; clear hP2 hD2 hS2; have hP := hPD.1; have hD := hPD.2; clear hPD
              refine W.widen (k := 0) (n := 0) (Nat.le_of_ble_eq_true rfl) (Nat.le_of_ble_eq_true rfl) ?_
              refine lv_topi (fun y_539 hey_539 => ?_)
              refine ky_Si (As := [.int 0, .int y_539]) (rest := []) ⟨hx, hb, hml, hown, hts⟩ ⟨hK, hN⟩ hZ hP hD hS hA [] [0, 1, 2] (wc := []) (wr := [(Mrr, .inl (g 0, 3, .inl (upd (upd (upd frrx_2 2 (nI nx_395)) 1 (nI nx_497)) 0 (nI nx_523)))), (Mm, .inr (7, [.int zth, .ref Mt, .int (nI tp), .int (nI max_535), .int (-1), .ref Mrr, .ref Mrh, .ref Mrc, .int (nI rh), .int (nI rc), .ref Mn, .ref Mf, .ref Mr, .ref Mh, .int zhp, .int zcc, .ref Ma, .ref Mas, .ref Msn, .ref Mac, .ref Mat])), (Mt, .inl (g 0, 160, .inl fmt))]) rfl rfl rfl rfl (by decide) (r_X7_itemBy_0 l D g H.size y_539) (va_cwS 2 hts gX7_items_X7_itemBy rfl rfl rfl (by decide +kernel) ⟨(Nat.le_of_ble_eq_true rfl), (Nat.le_of_ble_eq_true rfl)⟩) rfl hl.1 rfl (Nat.le_of_ble_eq_true rfl) dX7_items_90 ⟨(Nat.le_of_ble_eq_true rfl), (Nat.le_of_ble_eq_true rfl)⟩ (fun r_540 u H locs hw hP2 hD2 hS2 => ?_)
              clear hP hD hS
              obtain ⟨rfl, rfl⟩ := hw
              have hPD : PD D A [(Mrr, .inl (g 0, 3, .inl (upd (upd (upd frrx_2 2 (nI nx_395)) 1 (nI nx_497)) 0 (nI nx_523)))), (Mm, .inr (7, [.int zth, .ref Mt, .int (nI tp), .int (nI max_535), .int (-1), .ref Mrr, .ref Mrh, .ref Mrc, .int (nI rh), .int (nI rc), .ref Mn, .ref Mf, .ref Mr, .ref Mh, .int zhp, .int zcc, .ref Ma, .ref Mas, .ref Msn, .ref Mac, .ref Mat])), (Mt, .inl (g 0, 160, .inl fmt))] H := ⟨hP2, hD2⟩
              have hS := hS2; clear hP2 hD2 hS2; have hP := hPD.1; have hD := hPD.2; clear hPD
              refine W.widen (k := 0) (n := 0) (Nat.le_of_ble_eq_true rfl) (Nat.le_of_ble_eq_true rfl) ?_
              rcases itK_c 0 y_539 with qi_541 | qi_541 | qi_541 | qi_541
              · skip
                refine lv_eqi (y := (-1)) (qi_541) ?_
                refine lv_istore (lv' := [(5, .int (-1)), (4, .int 7), (0, .ref Mm), (1, .int 0), (2, .ref Mrr), (3, .int 0)]) hx hb dX7_items_93 hl (by decide) rfl (fun ls hl => ?_)
                refine lv_goto (tgt := 20) hx hb dX7_items_95 (by decide) ?_
                refine lv_aload_n hx hb dX7_items_20 rfl (lv_at hl 2 rfl) ?_
                refine va_get (D := D) (ci := 7) (v := .int (-1)) (C := RX7) (T := TX7) (N := 21) hx hb hts iX7 hown hK hP 1 rfl rfl 4 (by decide) f71 (fun _ h9 => h9) rfl dX7_items_21 ?_
                refine lv_iconst (v := (-1)) hx hb dX7_items_24 (by decide) ?_
                refine lv_icmp_ne (tgt := 98) hx hb dX7_items_25 (by decide) (fun cb => absurd (by decide) cb) (fun _ => ?_)
                refine lv_iload hx hb dX7_items_28 (lv_at hl 0 rfl) ?_
                refine lv_iconst (v := (-1)) hx hb dX7_items_30 (by decide) ?_
                refine lv_icmp_eq (tgt := 98) hx hb dX7_items_31 (by decide) (fun _ => ?_) (fun cb => absurd (by decide) cb)
                have hPD9 : PD D A [(Mm, .inr (7, [.int zth, .ref Mt, .int (nI tp), .int (nI max_535), .int (-1), .ref Mrr, .ref Mrh, .ref Mrc, .int (nI rh), .int (nI rc), .ref Mn, .ref Mf, .ref Mr, .ref Mh, .int zhp, .int zcc, .ref Ma, .ref Mas, .ref Msn, .ref Mac, .ref Mat])), (Mt, .inl (g 0, 160, .inl fmt)), (Mrr, .inl (g 0, 3, .inl (upd (upd (upd frrx_2 2 (nI nx_395)) 1 (nI nx_497)) 0 (nI nx_523))))] H := ⟨hP.sub [1, 2, 0] rfl, hD.sub [1, 2, 0] (by decide) rfl⟩
                have hP9 := hPD9.1; have hD9 := hPD9.2
                subst hQ
                refine W.widen (k := 0) (n := 0) (Nat.le_of_ble_eq_true rfl) (Nat.le_of_ble_eq_true rfl) ?_
                exact W.vret hx hb hr (fun tS htS _ => ⟨⟨_, rfl, ⟨max_535, (-1), (upd (upd (upd frrx_2 2 (nI nx_395)) 1 (nI nx_497)) 0 (nI nx_523)), rfl, ⟨(n1_upd (n1_upd (n1_upd (hf_3) (n := nx_395) (show nx_395 ≤ 99 by omega)) (n := nx_497) (show nx_497 ≤ 99 by omega)) (n := nx_523) (show nx_523 ≤ 99 by omega)), (show max_535 ≤ tp by omega), (show ma ≤ max_535 by omega), (congrArg Prod.fst (hR_530.trans (iv_m (f := 0) (m := 7) hf_538 hey_539.symm qi_541))).symm, (fun _ => (congrArg Prod.snd (hR_530.trans (iv_m (f := 0) (m := 7) hf_538 hey_539.symm qi_541))).symm), (fun _ => (hW_533.trans (iw_m (f := 0) (m := 7) hf_538 hey_539.symm qi_541)).symm)⟩⟩, by rw [htS]; exact hP9, hD9⟩, hS.F htS⟩) hS.2.2 dX7_items_98
              · skip
                refine lv_eqi (y := 0) (qi_541) ?_
                have hil_542 := iv_lt (k := 0) (q := 0) hey_539.symm qi_541 (by decide); have hil_542a := hil_542.1
                refine lv_istore (lv' := [(5, .int 0), (4, .int 7), (0, .ref Mm), (1, .int 0), (2, .ref Mrr), (3, .int 0)]) hx hb dX7_items_93 hl (by decide) rfl (fun ls hl => ?_)
                refine lv_goto (tgt := 20) hx hb dX7_items_95 (by decide) ?_
                refine lv_aload_n hx hb dX7_items_20 rfl (lv_at hl 2 rfl) ?_
                refine va_get (D := D) (ci := 7) (v := .int (-1)) (C := RX7) (T := TX7) (N := 21) hx hb hts iX7 hown hK hP 1 rfl rfl 4 (by decide) f71 (fun _ h9 => h9) rfl dX7_items_21 ?_
                refine lv_iconst (v := (-1)) hx hb dX7_items_24 (by decide) ?_
                refine lv_icmp_ne (tgt := 98) hx hb dX7_items_25 (by decide) (fun cb => absurd (by decide) cb) (fun _ => ?_)
                refine lv_iload hx hb dX7_items_28 (lv_at hl 0 rfl) ?_
                refine lv_iconst (v := (-1)) hx hb dX7_items_30 (by decide) ?_
                refine lv_icmp_eq (tgt := 98) hx hb dX7_items_31 (by decide) (fun cb => absurd cb (by decide)) (fun _ => ?_)
                refine lv_iload hx hb dX7_items_34 (lv_at hl 1 rfl) ?_
                refine lv_iload hx hb dX7_items_36 (lv_at hl 0 rfl) ?_
                refine ky_Si (As := [.int 7, .int 0]) (rest := []) ⟨hx, hb, hml, hown, hts⟩ ⟨hK, hN⟩ hZ hP hD hS hA [] [0, 1, 2] (wc := []) (wr := [(Mrr, .inl (g 0, 3, .inl (upd (upd (upd frrx_2 2 (nI nx_395)) 1 (nI nx_497)) 0 (nI nx_523)))), (Mm, .inr (7, [.int zth, .ref Mt, .int (nI tp), .int (nI max_535), .int (-1), .ref Mrr, .ref Mrh, .ref Mrc, .int (nI rh), .int (nI rc), .ref Mn, .ref Mf, .ref Mr, .ref Mh, .int zhp, .int zcc, .ref Ma, .ref Mas, .ref Msn, .ref Mac, .ref Mat])), (Mt, .inl (g 0, 160, .inl fmt))]) rfl rfl rfl rfl (by decide) (r_X7_has_70 l D g H.size) (va_cwS 2 hts gX7_items_X7_has rfl rfl rfl (by decide +kernel) ⟨(Nat.le_of_ble_eq_true rfl), (Nat.le_of_ble_eq_true rfl)⟩) rfl hl.1 rfl (Nat.le_of_ble_eq_true rfl) dX7_items_38 ⟨(Nat.le_of_ble_eq_true rfl), (Nat.le_of_ble_eq_true rfl)⟩ (fun r_543 u H locs hw hP2 hD2 hS2 => ?_)
                clear hP hD hS
                obtain ⟨rfl, rfl⟩ := hw
                have hPD : PD D A [(Mrr, .inl (g 0, 3, .inl (upd (upd (upd frrx_2 2 (nI nx_395)) 1 (nI nx_497)) 0 (nI nx_523)))), (Mm, .inr (7, [.int zth, .ref Mt, .int (nI tp), .int (nI max_535), .int (-1), .ref Mrr, .ref Mrh, .ref Mrc, .int (nI rh), .int (nI rc), .ref Mn, .ref Mf, .ref Mr, .ref Mh, .int zhp, .int zcc, .ref Ma, .ref Mas, .ref Msn, .ref Mac, .ref Mat])), (Mt, .inl (g 0, 160, .inl fmt))] H := ⟨hP2, hD2⟩
                have hS := hS2; clear hP2 hD2 hS2; have hP := hPD.1; have hD := hPD.2; clear hPD
                refine W.widen (k := 0) (n := 0) (Nat.le_of_ble_eq_true rfl) (Nat.le_of_ble_eq_true rfl) ?_
                refine lv_if_ne (tgt := 98) hx hb dX7_items_41 (by decide) (fun _ => ?_) (fun cb => absurd cb (by decide))
                have hPD9 : PD D A [(Mm, .inr (7, [.int zth, .ref Mt, .int (nI tp), .int (nI max_535), .int (-1), .ref Mrr, .ref Mrh, .ref Mrc, .int (nI rh), .int (nI rc), .ref Mn, .ref Mf, .ref Mr, .ref Mh, .int zhp, .int zcc, .ref Ma, .ref Mas, .ref Msn, .ref Mac, .ref Mat])), (Mt, .inl (g 0, 160, .inl fmt)), (Mrr, .inl (g 0, 3, .inl (upd (upd (upd frrx_2 2 (nI nx_395)) 1 (nI nx_497)) 0 (nI nx_523))))] H := ⟨hP.sub [1, 2, 0] rfl, hD.sub [1, 2, 0] (by decide) rfl⟩
                have hP9 := hPD9.1; have hD9 := hPD9.2
                subst hQ
                refine W.widen (k := 0) (n := 0) (Nat.le_of_ble_eq_true rfl) (Nat.le_of_ble_eq_true rfl) ?_
                exact W.vret hx hb hr (fun tS htS _ => ⟨⟨_, rfl, ⟨max_535, (-1), (upd (upd (upd frrx_2 2 (nI nx_395)) 1 (nI nx_497)) 0 (nI nx_523)), rfl, ⟨(n1_upd (n1_upd (n1_upd (hf_3) (n := nx_395) (show nx_395 ≤ 99 by omega)) (n := nx_497) (show nx_497 ≤ 99 by omega)) (n := nx_523) (show nx_523 ≤ 99 by omega)), (show max_535 ≤ tp by omega), (show ma ≤ max_535 by omega), (congrArg Prod.fst (hR_530.trans (itR_again (f := 0) (m := 7) (q := 0) hf_538 hil_542.2 (by decide) (by decide)))).symm, (fun _ => (congrArg Prod.snd (hR_530.trans (itR_again (f := 0) (m := 7) (q := 0) hf_538 hil_542.2 (by decide) (by decide)))).symm), (fun _ => (hW_533.trans (itW_again (f := 0) (m := 7) (q := 0) hf_538 hil_542.2 (by decide) (by decide))).symm)⟩⟩, by rw [htS]; exact hP9, hD9⟩, hS.F htS⟩) hS.2.2 dX7_items_98
              · skip
                refine lv_eqi (y := 1) (qi_541) ?_
                have hil_544 := iv_lt (k := 0) (q := 1) hey_539.symm qi_541 (by decide); have hil_544a := hil_544.1
                refine lv_istore (lv' := [(5, .int 1), (4, .int 7), (0, .ref Mm), (1, .int 0), (2, .ref Mrr), (3, .int 0)]) hx hb dX7_items_93 hl (by decide) rfl (fun ls hl => ?_)
                refine lv_goto (tgt := 20) hx hb dX7_items_95 (by decide) ?_
                refine lv_aload_n hx hb dX7_items_20 rfl (lv_at hl 2 rfl) ?_
                refine va_get (D := D) (ci := 7) (v := .int (-1)) (C := RX7) (T := TX7) (N := 21) hx hb hts iX7 hown hK hP 1 rfl rfl 4 (by decide) f71 (fun _ h9 => h9) rfl dX7_items_21 ?_
                refine lv_iconst (v := (-1)) hx hb dX7_items_24 (by decide) ?_
                refine lv_icmp_ne (tgt := 98) hx hb dX7_items_25 (by decide) (fun cb => absurd (by decide) cb) (fun _ => ?_)
                refine lv_iload hx hb dX7_items_28 (lv_at hl 0 rfl) ?_
                refine lv_iconst (v := (-1)) hx hb dX7_items_30 (by decide) ?_
                refine lv_icmp_eq (tgt := 98) hx hb dX7_items_31 (by decide) (fun cb => absurd cb (by decide)) (fun _ => ?_)
                refine lv_iload hx hb dX7_items_34 (lv_at hl 1 rfl) ?_
                refine lv_iload hx hb dX7_items_36 (lv_at hl 0 rfl) ?_
                refine ky_Si (As := [.int 7, .int 1]) (rest := []) ⟨hx, hb, hml, hown, hts⟩ ⟨hK, hN⟩ hZ hP hD hS hA [] [0, 1, 2] (wc := []) (wr := [(Mrr, .inl (g 0, 3, .inl (upd (upd (upd frrx_2 2 (nI nx_395)) 1 (nI nx_497)) 0 (nI nx_523)))), (Mm, .inr (7, [.int zth, .ref Mt, .int (nI tp), .int (nI max_535), .int (-1), .ref Mrr, .ref Mrh, .ref Mrc, .int (nI rh), .int (nI rc), .ref Mn, .ref Mf, .ref Mr, .ref Mh, .int zhp, .int zcc, .ref Ma, .ref Mas, .ref Msn, .ref Mac, .ref Mat])), (Mt, .inl (g 0, 160, .inl fmt))]) rfl rfl rfl rfl (by decide) (r_X7_has_71 l D g H.size) (va_cwS 2 hts gX7_items_X7_has rfl rfl rfl (by decide +kernel) ⟨(Nat.le_of_ble_eq_true rfl), (Nat.le_of_ble_eq_true rfl)⟩) rfl hl.1 rfl (Nat.le_of_ble_eq_true rfl) dX7_items_38 ⟨(Nat.le_of_ble_eq_true rfl), (Nat.le_of_ble_eq_true rfl)⟩ (fun r_545 u H locs hw hP2 hD2 hS2 => ?_)
                clear hP hD hS
                obtain ⟨rfl, rfl⟩ := hw
                have hPD : PD D A [(Mrr, .inl (g 0, 3, .inl (upd (upd (upd frrx_2 2 (nI nx_395)) 1 (nI nx_497)) 0 (nI nx_523)))), (Mm, .inr (7, [.int zth, .ref Mt, .int (nI tp), .int (nI max_535), .int (-1), .ref Mrr, .ref Mrh, .ref Mrc, .int (nI rh), .int (nI rc), .ref Mn, .ref Mf, .ref Mr, .ref Mh, .int zhp, .int zcc, .ref Ma, .ref Mas, .ref Msn, .ref Mac, .ref Mat])), (Mt, .inl (g 0, 160, .inl fmt))] H := ⟨hP2, hD2⟩
                have hS := hS2; clear hP2 hD2 hS2; have hP := hPD.1; have hD := hPD.2; clear hPD
                refine W.widen (k := 0) (n := 0) (Nat.le_of_ble_eq_true rfl) (Nat.le_of_ble_eq_true rfl) ?_
                refine lv_if_ne (tgt := 98) hx hb dX7_items_41 (by decide) (fun _ => ?_) (fun cb => absurd cb (by decide))
                have hPD9 : PD D A [(Mm, .inr (7, [.int zth, .ref Mt, .int (nI tp), .int (nI max_535), .int (-1), .ref Mrr, .ref Mrh, .ref Mrc, .int (nI rh), .int (nI rc), .ref Mn, .ref Mf, .ref Mr, .ref Mh, .int zhp, .int zcc, .ref Ma, .ref Mas, .ref Msn, .ref Mac, .ref Mat])), (Mt, .inl (g 0, 160, .inl fmt)), (Mrr, .inl (g 0, 3, .inl (upd (upd (upd frrx_2 2 (nI nx_395)) 1 (nI nx_497)) 0 (nI nx_523))))] H := ⟨hP.sub [1, 2, 0] rfl, hD.sub [1, 2, 0] (by decide) rfl⟩
                have hP9 := hPD9.1; have hD9 := hPD9.2
                subst hQ
                refine W.widen (k := 0) (n := 0) (Nat.le_of_ble_eq_true rfl) (Nat.le_of_ble_eq_true rfl) ?_
                exact W.vret hx hb hr (fun tS htS _ => ⟨⟨_, rfl, ⟨max_535, (-1), (upd (upd (upd frrx_2 2 (nI nx_395)) 1 (nI nx_497)) 0 (nI nx_523)), rfl, ⟨(n1_upd (n1_upd (n1_upd (hf_3) (n := nx_395) (show nx_395 ≤ 99 by omega)) (n := nx_497) (show nx_497 ≤ 99 by omega)) (n := nx_523) (show nx_523 ≤ 99 by omega)), (show max_535 ≤ tp by omega), (show ma ≤ max_535 by omega), (congrArg Prod.fst (hR_530.trans (itR_again (f := 0) (m := 7) (q := 1) hf_538 hil_544.2 (by decide) (by decide)))).symm, (fun _ => (congrArg Prod.snd (hR_530.trans (itR_again (f := 0) (m := 7) (q := 1) hf_538 hil_544.2 (by decide) (by decide)))).symm), (fun _ => (hW_533.trans (itW_again (f := 0) (m := 7) (q := 1) hf_538 hil_544.2 (by decide) (by decide))).symm)⟩⟩, by rw [htS]; exact hP9, hD9⟩, hS.F htS⟩) hS.2.2 dX7_items_98
              · skip
                refine lv_eqi (y := 2) (qi_541) ?_
                have hil_546 := iv_lt (k := 0) (q := 2) hey_539.symm qi_541 (by decide); have hil_546a := hil_546.1
                refine lv_istore (lv' := [(5, .int 2), (4, .int 7), (0, .ref Mm), (1, .int 0), (2, .ref Mrr), (3, .int 0)]) hx hb dX7_items_93 hl (by decide) rfl (fun ls hl => ?_)
                refine lv_goto (tgt := 20) hx hb dX7_items_95 (by decide) ?_
                refine lv_aload_n hx hb dX7_items_20 rfl (lv_at hl 2 rfl) ?_
                refine va_get (D := D) (ci := 7) (v := .int (-1)) (C := RX7) (T := TX7) (N := 21) hx hb hts iX7 hown hK hP 1 rfl rfl 4 (by decide) f71 (fun _ h9 => h9) rfl dX7_items_21 ?_
                refine lv_iconst (v := (-1)) hx hb dX7_items_24 (by decide) ?_
                refine lv_icmp_ne (tgt := 98) hx hb dX7_items_25 (by decide) (fun cb => absurd (by decide) cb) (fun _ => ?_)
                refine lv_iload hx hb dX7_items_28 (lv_at hl 0 rfl) ?_
                refine lv_iconst (v := (-1)) hx hb dX7_items_30 (by decide) ?_
                refine lv_icmp_eq (tgt := 98) hx hb dX7_items_31 (by decide) (fun cb => absurd cb (by decide)) (fun _ => ?_)
                refine lv_iload hx hb dX7_items_34 (lv_at hl 1 rfl) ?_
                refine lv_iload hx hb dX7_items_36 (lv_at hl 0 rfl) ?_
                refine ky_Si (As := [.int 7, .int 2]) (rest := []) ⟨hx, hb, hml, hown, hts⟩ ⟨hK, hN⟩ hZ hP hD hS hA [] [0, 1, 2] (wc := []) (wr := [(Mrr, .inl (g 0, 3, .inl (upd (upd (upd frrx_2 2 (nI nx_395)) 1 (nI nx_497)) 0 (nI nx_523)))), (Mm, .inr (7, [.int zth, .ref Mt, .int (nI tp), .int (nI max_535), .int (-1), .ref Mrr, .ref Mrh, .ref Mrc, .int (nI rh), .int (nI rc), .ref Mn, .ref Mf, .ref Mr, .ref Mh, .int zhp, .int zcc, .ref Ma, .ref Mas, .ref Msn, .ref Mac, .ref Mat])), (Mt, .inl (g 0, 160, .inl fmt))]) rfl rfl rfl rfl (by decide) (r_X7_has_72 l D g H.size) (va_cwS 2 hts gX7_items_X7_has rfl rfl rfl (by decide +kernel) ⟨(Nat.le_of_ble_eq_true rfl), (Nat.le_of_ble_eq_true rfl)⟩) rfl hl.1 rfl (Nat.le_of_ble_eq_true rfl) dX7_items_38 ⟨(Nat.le_of_ble_eq_true rfl), (Nat.le_of_ble_eq_true rfl)⟩ (fun r_547 u H locs hw hP2 hD2 hS2 => ?_)
                clear hP hD hS
                obtain ⟨rfl, rfl⟩ := hw
                have hPD : PD D A [(Mrr, .inl (g 0, 3, .inl (upd (upd (upd frrx_2 2 (nI nx_395)) 1 (nI nx_497)) 0 (nI nx_523)))), (Mm, .inr (7, [.int zth, .ref Mt, .int (nI tp), .int (nI max_535), .int (-1), .ref Mrr, .ref Mrh, .ref Mrc, .int (nI rh), .int (nI rc), .ref Mn, .ref Mf, .ref Mr, .ref Mh, .int zhp, .int zcc, .ref Ma, .ref Mas, .ref Msn, .ref Mac, .ref Mat])), (Mt, .inl (g 0, 160, .inl fmt))] H := ⟨hP2, hD2⟩
                have hS := hS2; clear hP2 hD2 hS2; have hP := hPD.1; have hD := hPD.2; clear hPD
                refine W.widen (k := 0) (n := 0) (Nat.le_of_ble_eq_true rfl) (Nat.le_of_ble_eq_true rfl) ?_
                refine lv_if_ne (tgt := 98) hx hb dX7_items_41 (by decide) (fun _ => ?_) (fun cb => absurd cb (by decide))
                have hPD9 : PD D A [(Mm, .inr (7, [.int zth, .ref Mt, .int (nI tp), .int (nI max_535), .int (-1), .ref Mrr, .ref Mrh, .ref Mrc, .int (nI rh), .int (nI rc), .ref Mn, .ref Mf, .ref Mr, .ref Mh, .int zhp, .int zcc, .ref Ma, .ref Mas, .ref Msn, .ref Mac, .ref Mat])), (Mt, .inl (g 0, 160, .inl fmt)), (Mrr, .inl (g 0, 3, .inl (upd (upd (upd frrx_2 2 (nI nx_395)) 1 (nI nx_497)) 0 (nI nx_523))))] H := ⟨hP.sub [1, 2, 0] rfl, hD.sub [1, 2, 0] (by decide) rfl⟩
                have hP9 := hPD9.1; have hD9 := hPD9.2
                subst hQ
                refine W.widen (k := 0) (n := 0) (Nat.le_of_ble_eq_true rfl) (Nat.le_of_ble_eq_true rfl) ?_
                exact W.vret hx hb hr (fun tS htS _ => ⟨⟨_, rfl, ⟨max_535, (-1), (upd (upd (upd frrx_2 2 (nI nx_395)) 1 (nI nx_497)) 0 (nI nx_523)), rfl, ⟨(n1_upd (n1_upd (n1_upd (hf_3) (n := nx_395) (show nx_395 ≤ 99 by omega)) (n := nx_497) (show nx_497 ≤ 99 by omega)) (n := nx_523) (show nx_523 ≤ 99 by omega)), (show max_535 ≤ tp by omega), (show ma ≤ max_535 by omega), (congrArg Prod.fst (hR_530.trans (itR_again (f := 0) (m := 7) (q := 2) hf_538 hil_546.2 (by decide) (by decide)))).symm, (fun _ => (congrArg Prod.snd (hR_530.trans (itR_again (f := 0) (m := 7) (q := 2) hf_538 hil_546.2 (by decide) (by decide)))).symm), (fun _ => (hW_533.trans (itW_again (f := 0) (m := 7) (q := 2) hf_538 hil_546.2 (by decide) (by decide))).symm)⟩⟩, by rw [htS]; exact hP9, hD9⟩, hS.F htS⟩) hS.2.2 dX7_items_98
            · skip
              refine lv_iload_n hx hb dX7_items_85 rfl (lv_at hl 3 rfl) ?_
              refine lv_aload_n hx hb dX7_items_86 rfl (lv_at hl 2 rfl) ?_
              refine ky_Vi (As := []) (rest := [.int 0]) ⟨hx, hb, hml, hown, hts⟩ ⟨hK, hN⟩ hZ hP hD hS hA [1, 2] [0] (wc := [(Mm, .inr (7, [.int zth, .ref Mt, .int (nI tp), .int (nI max_521), .int zwrx_522, .ref Mrr, .ref Mrh, .ref Mrc, .int (nI rh), .int (nI rc), .ref Mn, .ref Mf, .ref Mr, .ref Mh, .int zhp, .int zcc, .ref Ma, .ref Mas, .ref Msn, .ref Mac, .ref Mat])), (Mt, .inl (g 0, 160, .inl fmt))]) (wr := [(Mrr, .inl (g 0, 3, .inl (upd (upd (upd frrx_2 2 (nI nx_395)) 1 (nI nx_497)) 0 (nI nx_523))))]) rfl rfl rfl rfl (by decide) (r_X7_ahead l D g H.size Mm zth Mt tp max_521 zwrx_522 Mrr Mrh Mrc rh rc Mn Mf Mr Mh zhp zcc Ma Mas Msn Mac Mat fmt (show tp ≤ 160 by omega) (show max_521 ≤ tp by omega)) (cwV 0 hts gX7_items_X7_ahead rfl rfl rfl (by decide +kernel) ⟨(Nat.le_of_ble_eq_true rfl), (Nat.le_of_ble_eq_true rfl)⟩) 1 7 rfl rfl rfl rfl hl.1 rfl (Nat.le_of_ble_eq_true rfl) dX7_items_87 ⟨(Nat.le_of_ble_eq_true rfl), (Nat.le_of_ble_eq_true rfl)⟩ (fun r_548 u H locs hw hP2 hD2 hS2 => ?_)
              clear hP hD hS
              obtain ⟨max_549, rfl, rfl, hf_550, hf_551, hf_552⟩ := hw
              have hPD : PD D A [(Mrr, .inl (g 0, 3, .inl (upd (upd (upd frrx_2 2 (nI nx_395)) 1 (nI nx_497)) 0 (nI nx_523)))), (Mm, .inr (7, [.int zth, .ref Mt, .int (nI tp), .int (nI max_549), .int zwrx_522, .ref Mrr, .ref Mrh, .ref Mrc, .int (nI rh), .int (nI rc), .ref Mn, .ref Mf, .ref Mr, .ref Mh, .int zhp, .int zcc, .ref Ma, .ref Mas, .ref Msn, .ref Mac, .ref Mat])), (Mt, .inl (g 0, 160, .inl fmt))] H := ⟨hP2, hD2⟩
              have hS := hS2; clear hP2 hD2 hS2; have hP := hPD.1; have hD := hPD.2; clear hPD
              refine W.widen (k := 0) (n := 0) (Nat.le_of_ble_eq_true rfl) (Nat.le_of_ble_eq_true rfl) ?_
              refine lv_topi (fun y_553 hey_553 => ?_)
              refine ky_Si (As := [.int 0, .int y_553]) (rest := []) ⟨hx, hb, hml, hown, hts⟩ ⟨hK, hN⟩ hZ hP hD hS hA [] [0, 1, 2] (wc := []) (wr := [(Mrr, .inl (g 0, 3, .inl (upd (upd (upd frrx_2 2 (nI nx_395)) 1 (nI nx_497)) 0 (nI nx_523)))), (Mm, .inr (7, [.int zth, .ref Mt, .int (nI tp), .int (nI max_549), .int zwrx_522, .ref Mrr, .ref Mrh, .ref Mrc, .int (nI rh), .int (nI rc), .ref Mn, .ref Mf, .ref Mr, .ref Mh, .int zhp, .int zcc, .ref Ma, .ref Mas, .ref Msn, .ref Mac, .ref Mat])), (Mt, .inl (g 0, 160, .inl fmt))]) rfl rfl rfl rfl (by decide) (r_X7_itemBy_0 l D g H.size y_553) (va_cwS 2 hts gX7_items_X7_itemBy rfl rfl rfl (by decide +kernel) ⟨(Nat.le_of_ble_eq_true rfl), (Nat.le_of_ble_eq_true rfl)⟩) rfl hl.1 rfl (Nat.le_of_ble_eq_true rfl) dX7_items_90 ⟨(Nat.le_of_ble_eq_true rfl), (Nat.le_of_ble_eq_true rfl)⟩ (fun r_554 u H locs hw hP2 hD2 hS2 => ?_)
              clear hP hD hS
              obtain ⟨rfl, rfl⟩ := hw
              have hPD : PD D A [(Mrr, .inl (g 0, 3, .inl (upd (upd (upd frrx_2 2 (nI nx_395)) 1 (nI nx_497)) 0 (nI nx_523)))), (Mm, .inr (7, [.int zth, .ref Mt, .int (nI tp), .int (nI max_549), .int zwrx_522, .ref Mrr, .ref Mrh, .ref Mrc, .int (nI rh), .int (nI rc), .ref Mn, .ref Mf, .ref Mr, .ref Mh, .int zhp, .int zcc, .ref Ma, .ref Mas, .ref Msn, .ref Mac, .ref Mat])), (Mt, .inl (g 0, 160, .inl fmt))] H := ⟨hP2, hD2⟩
              have hS := hS2; clear hP2 hD2 hS2; have hP := hPD.1; have hD := hPD.2; clear hPD
              refine W.widen (k := 0) (n := 0) (Nat.le_of_ble_eq_true rfl) (Nat.le_of_ble_eq_true rfl) ?_
              refine lv_istore (lv' := [(5, .int (itK 0 y_553)), (4, .int 7), (0, .ref Mm), (1, .int 0), (2, .ref Mrr), (3, .int 0)]) hx hb dX7_items_93 hl (by decide) rfl (fun ls hl => ?_)
              refine lv_goto (tgt := 20) hx hb dX7_items_95 (by decide) ?_
              refine lv_aload_n hx hb dX7_items_20 rfl (lv_at hl 2 rfl) ?_
              refine va_get (D := D) (ci := 7) (v := .int zwrx_522) (C := RX7) (T := TX7) (N := 21) hx hb hts iX7 hown hK hP 1 rfl rfl 4 (by decide) f71 (fun _ h9 => h9) rfl dX7_items_21 ?_
              refine lv_iconst (v := (-1)) hx hb dX7_items_24 (by decide) ?_
              refine lv_icmp_ne (tgt := 98) hx hb dX7_items_25 (by decide) (fun _ => ?_) (fun cb => absurd cb (cw_528))
              have hPD9 : PD D A [(Mm, .inr (7, [.int zth, .ref Mt, .int (nI tp), .int (nI max_549), .int zwrx_522, .ref Mrr, .ref Mrh, .ref Mrc, .int (nI rh), .int (nI rc), .ref Mn, .ref Mf, .ref Mr, .ref Mh, .int zhp, .int zcc, .ref Ma, .ref Mas, .ref Msn, .ref Mac, .ref Mat])), (Mt, .inl (g 0, 160, .inl fmt)), (Mrr, .inl (g 0, 3, .inl (upd (upd (upd frrx_2 2 (nI nx_395)) 1 (nI nx_497)) 0 (nI nx_523))))] H := ⟨hP.sub [1, 2, 0] rfl, hD.sub [1, 2, 0] (by decide) rfl⟩
              have hP9 := hPD9.1; have hD9 := hPD9.2
              subst hQ
              refine W.widen (k := 0) (n := 0) (Nat.le_of_ble_eq_true rfl) (Nat.le_of_ble_eq_true rfl) ?_
              exact W.vret hx hb hr (fun tS htS _ => ⟨⟨_, rfl, ⟨max_549, zwrx_522, (upd (upd (upd frrx_2 2 (nI nx_395)) 1 (nI nx_497)) 0 (nI nx_523)), rfl, ⟨(n1_upd (n1_upd (n1_upd (hf_3) (n := nx_395) (show nx_395 ≤ 99 by omega)) (n := nx_497) (show nx_497 ≤ 99 by omega)) (n := nx_523) (show nx_523 ≤ 99 by omega)), (show max_549 ≤ tp by omega), (show ma ≤ max_549 by omega), ((congrArg Prod.fst hR_504).trans ((itR_w (f := 1) (m := 6) (q := 0) hf_512 hil_516.1 hil_516.2 (by decide) (by decide) (fun q => cw_528 (hf_524.2.2.2.1.trans q))).trans hf_524.2.2.2.1.symm)).symm, (fun q => absurd q cw_528), (fun q => absurd q cw_528)⟩⟩, by rw [htS]; exact hP9, hD9⟩, hS.F htS⟩) hS.2.2 dX7_items_98
          · skip
            refine lv_eqi (y := 1) (qi_515) ?_
            have hil_555 := iv_lt (k := 0) (q := 1) hey_513.symm qi_515 (by decide); have hil_555a := hil_555.1
            refine lv_istore (lv' := [(5, .int 1), (4, .int 6), (0, .ref Mm), (1, .int 0), (2, .ref Mrr), (3, .int 0)]) hx hb dX7_items_93 hl (by decide) rfl (fun ls hl => ?_)
            refine lv_goto (tgt := 20) hx hb dX7_items_95 (by decide) ?_
            refine lv_aload_n hx hb dX7_items_20 rfl (lv_at hl 2 rfl) ?_
            refine va_get (D := D) (ci := 7) (v := .int (-1)) (C := RX7) (T := TX7) (N := 21) hx hb hts iX7 hown hK hP 1 rfl rfl 4 (by decide) f71 (fun _ h9 => h9) rfl dX7_items_21 ?_
            refine lv_iconst (v := (-1)) hx hb dX7_items_24 (by decide) ?_
            refine lv_icmp_ne (tgt := 98) hx hb dX7_items_25 (by decide) (fun cb => absurd (by decide) cb) (fun _ => ?_)
            refine lv_iload hx hb dX7_items_28 (lv_at hl 0 rfl) ?_
            refine lv_iconst (v := (-1)) hx hb dX7_items_30 (by decide) ?_
            refine lv_icmp_eq (tgt := 98) hx hb dX7_items_31 (by decide) (fun cb => absurd cb (by decide)) (fun _ => ?_)
            refine lv_iload hx hb dX7_items_34 (lv_at hl 1 rfl) ?_
            refine lv_iload hx hb dX7_items_36 (lv_at hl 0 rfl) ?_
            refine ky_Si (As := [.int 6, .int 1]) (rest := []) ⟨hx, hb, hml, hown, hts⟩ ⟨hK, hN⟩ hZ hP hD hS hA [] [0, 1, 2] (wc := []) (wr := [(Mrr, .inl (g 0, 3, .inl (upd (upd frrx_2 2 (nI nx_395)) 1 (nI nx_497)))), (Mm, .inr (7, [.int zth, .ref Mt, .int (nI tp), .int (nI max_509), .int (-1), .ref Mrr, .ref Mrh, .ref Mrc, .int (nI rh), .int (nI rc), .ref Mn, .ref Mf, .ref Mr, .ref Mh, .int zhp, .int zcc, .ref Ma, .ref Mas, .ref Msn, .ref Mac, .ref Mat])), (Mt, .inl (g 0, 160, .inl fmt))]) rfl rfl rfl rfl (by decide) (r_X7_has_61 l D g H.size) (va_cwS 2 hts gX7_items_X7_has rfl rfl rfl (by decide +kernel) ⟨(Nat.le_of_ble_eq_true rfl), (Nat.le_of_ble_eq_true rfl)⟩) rfl hl.1 rfl (Nat.le_of_ble_eq_true rfl) dX7_items_38 ⟨(Nat.le_of_ble_eq_true rfl), (Nat.le_of_ble_eq_true rfl)⟩ (fun r_556 u H locs hw hP2 hD2 hS2 => ?_)
            clear hP hD hS
            obtain ⟨rfl, rfl⟩ := hw
            have hPD : PD D A [(Mrr, .inl (g 0, 3, .inl (upd (upd frrx_2 2 (nI nx_395)) 1 (nI nx_497)))), (Mm, .inr (7, [.int zth, .ref Mt, .int (nI tp), .int (nI max_509), .int (-1), .ref Mrr, .ref Mrh, .ref Mrc, .int (nI rh), .int (nI rc), .ref Mn, .ref Mf, .ref Mr, .ref Mh, .int zhp, .int zcc, .ref Ma, .ref Mas, .ref Msn, .ref Mac, .ref Mat])), (Mt, .inl (g 0, 160, .inl fmt))] H := ⟨hP2, hD2⟩
            have hS := hS2; clear hP2 hD2 hS2; have hP := hPD.1; have hD := hPD.2; clear hPD
            refine W.widen (k := 0) (n := 0) (Nat.le_of_ble_eq_true rfl) (Nat.le_of_ble_eq_true rfl) ?_
            refine lv_if_ne (tgt := 98) hx hb dX7_items_41 (by decide) (fun _ => ?_) (fun cb => absurd cb (by decide))
            have hPD9 : PD D A [(Mm, .inr (7, [.int zth, .ref Mt, .int (nI tp), .int (nI max_509), .int (-1), .ref Mrr, .ref Mrh, .ref Mrc, .int (nI rh), .int (nI rc), .ref Mn, .ref Mf, .ref Mr, .ref Mh, .int zhp, .int zcc, .ref Ma, .ref Mas, .ref Msn, .ref Mac, .ref Mat])), (Mt, .inl (g 0, 160, .inl fmt)), (Mrr, .inl (g 0, 3, .inl (upd (upd frrx_2 2 (nI nx_395)) 1 (nI nx_497))))] H := ⟨hP.sub [1, 2, 0] rfl, hD.sub [1, 2, 0] (by decide) rfl⟩
            have hP9 := hPD9.1; have hD9 := hPD9.2
            subst hQ
            refine W.widen (k := 0) (n := 0) (Nat.le_of_ble_eq_true rfl) (Nat.le_of_ble_eq_true rfl) ?_
            exact W.vret hx hb hr (fun tS htS _ => ⟨⟨_, rfl, ⟨max_509, (-1), (upd (upd frrx_2 2 (nI nx_395)) 1 (nI nx_497)), rfl, ⟨(n1_upd (n1_upd (hf_3) (n := nx_395) (show nx_395 ≤ 99 by omega)) (n := nx_497) (show nx_497 ≤ 99 by omega)), (show max_509 ≤ tp by omega), (show ma ≤ max_509 by omega), (congrArg Prod.fst (hR_504.trans (itR_again (f := 1) (m := 6) (q := 1) hf_512 hil_555.2 (by decide) (by decide)))).symm, (fun _ => (congrArg Prod.snd (hR_504.trans (itR_again (f := 1) (m := 6) (q := 1) hf_512 hil_555.2 (by decide) (by decide)))).symm), (fun _ => (hW_507.trans (itW_again (f := 1) (m := 6) (q := 1) hf_512 hil_555.2 (by decide) (by decide))).symm)⟩⟩, by rw [htS]; exact hP9, hD9⟩, hS.F htS⟩) hS.2.2 dX7_items_98
          · skip
            refine lv_eqi (y := 2) (qi_515) ?_
            have hil_557 := iv_lt (k := 0) (q := 2) hey_513.symm qi_515 (by decide); have hil_557a := hil_557.1
            refine lv_istore (lv' := [(5, .int 2), (4, .int 6), (0, .ref Mm), (1, .int 0), (2, .ref Mrr), (3, .int 0)]) hx hb dX7_items_93 hl (by decide) rfl (fun ls hl => ?_)
            refine lv_goto (tgt := 20) hx hb dX7_items_95 (by decide) ?_
            refine lv_aload_n hx hb dX7_items_20 rfl (lv_at hl 2 rfl) ?_
            refine va_get (D := D) (ci := 7) (v := .int (-1)) (C := RX7) (T := TX7) (N := 21) hx hb hts iX7 hown hK hP 1 rfl rfl 4 (by decide) f71 (fun _ h9 => h9) rfl dX7_items_21 ?_
            refine lv_iconst (v := (-1)) hx hb dX7_items_24 (by decide) ?_
            refine lv_icmp_ne (tgt := 98) hx hb dX7_items_25 (by decide) (fun cb => absurd (by decide) cb) (fun _ => ?_)
            refine lv_iload hx hb dX7_items_28 (lv_at hl 0 rfl) ?_
            refine lv_iconst (v := (-1)) hx hb dX7_items_30 (by decide) ?_
            refine lv_icmp_eq (tgt := 98) hx hb dX7_items_31 (by decide) (fun cb => absurd cb (by decide)) (fun _ => ?_)
            refine lv_iload hx hb dX7_items_34 (lv_at hl 1 rfl) ?_
            refine lv_iload hx hb dX7_items_36 (lv_at hl 0 rfl) ?_
            refine ky_Si (As := [.int 6, .int 2]) (rest := []) ⟨hx, hb, hml, hown, hts⟩ ⟨hK, hN⟩ hZ hP hD hS hA [] [0, 1, 2] (wc := []) (wr := [(Mrr, .inl (g 0, 3, .inl (upd (upd frrx_2 2 (nI nx_395)) 1 (nI nx_497)))), (Mm, .inr (7, [.int zth, .ref Mt, .int (nI tp), .int (nI max_509), .int (-1), .ref Mrr, .ref Mrh, .ref Mrc, .int (nI rh), .int (nI rc), .ref Mn, .ref Mf, .ref Mr, .ref Mh, .int zhp, .int zcc, .ref Ma, .ref Mas, .ref Msn, .ref Mac, .ref Mat])), (Mt, .inl (g 0, 160, .inl fmt))]) rfl rfl rfl rfl (by decide) (r_X7_has_62 l D g H.size) (va_cwS 2 hts gX7_items_X7_has rfl rfl rfl (by decide +kernel) ⟨(Nat.le_of_ble_eq_true rfl), (Nat.le_of_ble_eq_true rfl)⟩) rfl hl.1 rfl (Nat.le_of_ble_eq_true rfl) dX7_items_38 ⟨(Nat.le_of_ble_eq_true rfl), (Nat.le_of_ble_eq_true rfl)⟩ (fun r_558 u H locs hw hP2 hD2 hS2 => ?_)
            clear hP hD hS
            obtain ⟨rfl, rfl⟩ := hw
            have hPD : PD D A [(Mrr, .inl (g 0, 3, .inl (upd (upd frrx_2 2 (nI nx_395)) 1 (nI nx_497)))), (Mm, .inr (7, [.int zth, .ref Mt, .int (nI tp), .int (nI max_509), .int (-1), .ref Mrr, .ref Mrh, .ref Mrc, .int (nI rh), .int (nI rc), .ref Mn, .ref Mf, .ref Mr, .ref Mh, .int zhp, .int zcc, .ref Ma, .ref Mas, .ref Msn, .ref Mac, .ref Mat])), (Mt, .inl (g 0, 160, .inl fmt))] H := ⟨hP2, hD2⟩
            have hS := hS2; clear hP2 hD2 hS2; have hP := hPD.1; have hD := hPD.2; clear hPD
            refine W.widen (k := 0) (n := 0) (Nat.le_of_ble_eq_true rfl) (Nat.le_of_ble_eq_true rfl) ?_
            refine lv_if_ne (tgt := 98) hx hb dX7_items_41 (by decide) (fun _ => ?_) (fun cb => absurd cb (by decide))
            have hPD9 : PD D A [(Mm, .inr (7, [.int zth, .ref Mt, .int (nI tp), .int (nI max_509), .int (-1), .ref Mrr, .ref Mrh, .ref Mrc, .int (nI rh), .int (nI rc), .ref Mn, .ref Mf, .ref Mr, .ref Mh, .int zhp, .int zcc, .ref Ma, .ref Mas, .ref Msn, .ref Mac, .ref Mat])), (Mt, .inl (g 0, 160, .inl fmt)), (Mrr, .inl (g 0, 3, .inl (upd (upd frrx_2 2 (nI nx_395)) 1 (nI nx_497))))] H := ⟨hP.sub [1, 2, 0] rfl, hD.sub [1, 2, 0] (by decide) rfl⟩
            have hP9 := hPD9.1; have hD9 := hPD9.2
            subst hQ
            refine W.widen (k := 0) (n := 0) (Nat.le_of_ble_eq_true rfl) (Nat.le_of_ble_eq_true rfl) ?_
            exact W.vret hx hb hr (fun tS htS _ => ⟨⟨_, rfl, ⟨max_509, (-1), (upd (upd frrx_2 2 (nI nx_395)) 1 (nI nx_497)), rfl, ⟨(n1_upd (n1_upd (hf_3) (n := nx_395) (show nx_395 ≤ 99 by omega)) (n := nx_497) (show nx_497 ≤ 99 by omega)), (show max_509 ≤ tp by omega), (show ma ≤ max_509 by omega), (congrArg Prod.fst (hR_504.trans (itR_again (f := 1) (m := 6) (q := 2) hf_512 hil_557.2 (by decide) (by decide)))).symm, (fun _ => (congrArg Prod.snd (hR_504.trans (itR_again (f := 1) (m := 6) (q := 2) hf_512 hil_557.2 (by decide) (by decide)))).symm), (fun _ => (hW_507.trans (itW_again (f := 1) (m := 6) (q := 2) hf_512 hil_557.2 (by decide) (by decide))).symm)⟩⟩, by rw [htS]; exact hP9, hD9⟩, hS.F htS⟩) hS.2.2 dX7_items_98
        · skip
          refine lv_iload_n hx hb dX7_items_85 rfl (lv_at hl 3 rfl) ?_
          refine lv_aload_n hx hb dX7_items_86 rfl (lv_at hl 2 rfl) ?_
          refine ky_Vi (As := []) (rest := [.int 0]) ⟨hx, hb, hml, hown, hts⟩ ⟨hK, hN⟩ hZ hP hD hS hA [1, 2] [0] (wc := [(Mm, .inr (7, [.int zth, .ref Mt, .int (nI tp), .int (nI max_495), .int zwrx_496, .ref Mrr, .ref Mrh, .ref Mrc, .int (nI rh), .int (nI rc), .ref Mn, .ref Mf, .ref Mr, .ref Mh, .int zhp, .int zcc, .ref Ma, .ref Mas, .ref Msn, .ref Mac, .ref Mat])), (Mt, .inl (g 0, 160, .inl fmt))]) (wr := [(Mrr, .inl (g 0, 3, .inl (upd (upd frrx_2 2 (nI nx_395)) 1 (nI nx_497))))]) rfl rfl rfl rfl (by decide) (r_X7_ahead l D g H.size Mm zth Mt tp max_495 zwrx_496 Mrr Mrh Mrc rh rc Mn Mf Mr Mh zhp zcc Ma Mas Msn Mac Mat fmt (show tp ≤ 160 by omega) (show max_495 ≤ tp by omega)) (cwV 0 hts gX7_items_X7_ahead rfl rfl rfl (by decide +kernel) ⟨(Nat.le_of_ble_eq_true rfl), (Nat.le_of_ble_eq_true rfl)⟩) 1 7 rfl rfl rfl rfl hl.1 rfl (Nat.le_of_ble_eq_true rfl) dX7_items_87 ⟨(Nat.le_of_ble_eq_true rfl), (Nat.le_of_ble_eq_true rfl)⟩ (fun r_559 u H locs hw hP2 hD2 hS2 => ?_)
          clear hP hD hS
          obtain ⟨max_560, rfl, rfl, hf_561, hf_562, hf_563⟩ := hw
          have hPD : PD D A [(Mrr, .inl (g 0, 3, .inl (upd (upd frrx_2 2 (nI nx_395)) 1 (nI nx_497)))), (Mm, .inr (7, [.int zth, .ref Mt, .int (nI tp), .int (nI max_560), .int zwrx_496, .ref Mrr, .ref Mrh, .ref Mrc, .int (nI rh), .int (nI rc), .ref Mn, .ref Mf, .ref Mr, .ref Mh, .int zhp, .int zcc, .ref Ma, .ref Mas, .ref Msn, .ref Mac, .ref Mat])), (Mt, .inl (g 0, 160, .inl fmt))] H := ⟨hP2, hD2⟩
          have hS := hS2; clear hP2 hD2 hS2; have hP := hPD.1; have hD := hPD.2; clear hPD
          refine W.widen (k := 0) (n := 0) (Nat.le_of_ble_eq_true rfl) (Nat.le_of_ble_eq_true rfl) ?_
          refine lv_topi (fun y_564 hey_564 => ?_)
          refine ky_Si (As := [.int 0, .int y_564]) (rest := []) ⟨hx, hb, hml, hown, hts⟩ ⟨hK, hN⟩ hZ hP hD hS hA [] [0, 1, 2] (wc := []) (wr := [(Mrr, .inl (g 0, 3, .inl (upd (upd frrx_2 2 (nI nx_395)) 1 (nI nx_497)))), (Mm, .inr (7, [.int zth, .ref Mt, .int (nI tp), .int (nI max_560), .int zwrx_496, .ref Mrr, .ref Mrh, .ref Mrc, .int (nI rh), .int (nI rc), .ref Mn, .ref Mf, .ref Mr, .ref Mh, .int zhp, .int zcc, .ref Ma, .ref Mas, .ref Msn, .ref Mac, .ref Mat])), (Mt, .inl (g 0, 160, .inl fmt))]) rfl rfl rfl rfl (by decide) (r_X7_itemBy_0 l D g H.size y_564) (va_cwS 2 hts gX7_items_X7_itemBy rfl rfl rfl (by decide +kernel) ⟨(Nat.le_of_ble_eq_true rfl), (Nat.le_of_ble_eq_true rfl)⟩) rfl hl.1 rfl (Nat.le_of_ble_eq_true rfl) dX7_items_90 ⟨(Nat.le_of_ble_eq_true rfl), (Nat.le_of_ble_eq_true rfl)⟩ (fun r_565 u H locs hw hP2 hD2 hS2 => ?_)
          clear hP hD hS
          obtain ⟨rfl, rfl⟩ := hw
          have hPD : PD D A [(Mrr, .inl (g 0, 3, .inl (upd (upd frrx_2 2 (nI nx_395)) 1 (nI nx_497)))), (Mm, .inr (7, [.int zth, .ref Mt, .int (nI tp), .int (nI max_560), .int zwrx_496, .ref Mrr, .ref Mrh, .ref Mrc, .int (nI rh), .int (nI rc), .ref Mn, .ref Mf, .ref Mr, .ref Mh, .int zhp, .int zcc, .ref Ma, .ref Mas, .ref Msn, .ref Mac, .ref Mat])), (Mt, .inl (g 0, 160, .inl fmt))] H := ⟨hP2, hD2⟩
          have hS := hS2; clear hP2 hD2 hS2; have hP := hPD.1; have hD := hPD.2; clear hPD
          refine W.widen (k := 0) (n := 0) (Nat.le_of_ble_eq_true rfl) (Nat.le_of_ble_eq_true rfl) ?_
          refine lv_istore (lv' := [(5, .int (itK 0 y_564)), (4, .int 6), (0, .ref Mm), (1, .int 0), (2, .ref Mrr), (3, .int 0)]) hx hb dX7_items_93 hl (by decide) rfl (fun ls hl => ?_)
          refine lv_goto (tgt := 20) hx hb dX7_items_95 (by decide) ?_
          refine lv_aload_n hx hb dX7_items_20 rfl (lv_at hl 2 rfl) ?_
          refine va_get (D := D) (ci := 7) (v := .int zwrx_496) (C := RX7) (T := TX7) (N := 21) hx hb hts iX7 hown hK hP 1 rfl rfl 4 (by decide) f71 (fun _ h9 => h9) rfl dX7_items_21 ?_
          refine lv_iconst (v := (-1)) hx hb dX7_items_24 (by decide) ?_
          refine lv_icmp_ne (tgt := 98) hx hb dX7_items_25 (by decide) (fun _ => ?_) (fun cb => absurd cb (cw_502))
          have hPD9 : PD D A [(Mm, .inr (7, [.int zth, .ref Mt, .int (nI tp), .int (nI max_560), .int zwrx_496, .ref Mrr, .ref Mrh, .ref Mrc, .int (nI rh), .int (nI rc), .ref Mn, .ref Mf, .ref Mr, .ref Mh, .int zhp, .int zcc, .ref Ma, .ref Mas, .ref Msn, .ref Mac, .ref Mat])), (Mt, .inl (g 0, 160, .inl fmt)), (Mrr, .inl (g 0, 3, .inl (upd (upd frrx_2 2 (nI nx_395)) 1 (nI nx_497))))] H := ⟨hP.sub [1, 2, 0] rfl, hD.sub [1, 2, 0] (by decide) rfl⟩
          have hP9 := hPD9.1; have hD9 := hPD9.2
          subst hQ
          refine W.widen (k := 0) (n := 0) (Nat.le_of_ble_eq_true rfl) (Nat.le_of_ble_eq_true rfl) ?_
          exact W.vret hx hb hr (fun tS htS _ => ⟨⟨_, rfl, ⟨max_560, zwrx_496, (upd (upd frrx_2 2 (nI nx_395)) 1 (nI nx_497)), rfl, ⟨(n1_upd (n1_upd (hf_3) (n := nx_395) (show nx_395 ≤ 99 by omega)) (n := nx_497) (show nx_497 ≤ 99 by omega)), (show max_560 ≤ tp by omega), (show ma ≤ max_560 by omega), ((congrArg Prod.fst hR_402).trans ((itR_w (f := 2) (m := 4) (q := 1) hf_410 hil_490.1 hil_490.2 (by decide) (by decide) (fun q => cw_502 (hf_498.2.2.2.1.trans q))).trans hf_498.2.2.2.1.symm)).symm, (fun q => absurd q cw_502), (fun q => absurd q cw_502)⟩⟩, by rw [htS]; exact hP9, hD9⟩, hS.F htS⟩) hS.2.2 dX7_items_98
      · skip
        refine lv_eqi (y := 2) (qi_413) ?_
        have hil_566 := iv_lt (k := 0) (q := 2) hey_411.symm qi_413 (by decide); have hil_566a := hil_566.1
        refine lv_istore (lv' := [(5, .int 2), (4, .int 4), (0, .ref Mm), (1, .int 0), (2, .ref Mrr), (3, .int 0)]) hx hb dX7_items_93 hl (by decide) rfl (fun ls hl => ?_)
        refine lv_goto (tgt := 20) hx hb dX7_items_95 (by decide) ?_
        refine lv_aload_n hx hb dX7_items_20 rfl (lv_at hl 2 rfl) ?_
        refine va_get (D := D) (ci := 7) (v := .int (-1)) (C := RX7) (T := TX7) (N := 21) hx hb hts iX7 hown hK hP 1 rfl rfl 4 (by decide) f71 (fun _ h9 => h9) rfl dX7_items_21 ?_
        refine lv_iconst (v := (-1)) hx hb dX7_items_24 (by decide) ?_
        refine lv_icmp_ne (tgt := 98) hx hb dX7_items_25 (by decide) (fun cb => absurd (by decide) cb) (fun _ => ?_)
        refine lv_iload hx hb dX7_items_28 (lv_at hl 0 rfl) ?_
        refine lv_iconst (v := (-1)) hx hb dX7_items_30 (by decide) ?_
        refine lv_icmp_eq (tgt := 98) hx hb dX7_items_31 (by decide) (fun cb => absurd cb (by decide)) (fun _ => ?_)
        refine lv_iload hx hb dX7_items_34 (lv_at hl 1 rfl) ?_
        refine lv_iload hx hb dX7_items_36 (lv_at hl 0 rfl) ?_
        refine ky_Si (As := [.int 4, .int 2]) (rest := []) ⟨hx, hb, hml, hown, hts⟩ ⟨hK, hN⟩ hZ hP hD hS hA [] [0, 1, 2] (wc := []) (wr := [(Mrr, .inl (g 0, 3, .inl (upd frrx_2 2 (nI nx_395)))), (Mm, .inr (7, [.int zth, .ref Mt, .int (nI tp), .int (nI max_407), .int (-1), .ref Mrr, .ref Mrh, .ref Mrc, .int (nI rh), .int (nI rc), .ref Mn, .ref Mf, .ref Mr, .ref Mh, .int zhp, .int zcc, .ref Ma, .ref Mas, .ref Msn, .ref Mac, .ref Mat])), (Mt, .inl (g 0, 160, .inl fmt))]) rfl rfl rfl rfl (by decide) (r_X7_has_42 l D g H.size) (va_cwS 2 hts gX7_items_X7_has rfl rfl rfl (by decide +kernel) ⟨(Nat.le_of_ble_eq_true rfl), (Nat.le_of_ble_eq_true rfl)⟩) rfl hl.1 rfl (Nat.le_of_ble_eq_true rfl) dX7_items_38 ⟨(Nat.le_of_ble_eq_true rfl), (Nat.le_of_ble_eq_true rfl)⟩ (fun r_567 u H locs hw hP2 hD2 hS2 => ?_)
        clear hP hD hS
        obtain ⟨rfl, rfl⟩ := hw
        have hPD : PD D A [(Mrr, .inl (g 0, 3, .inl (upd frrx_2 2 (nI nx_395)))), (Mm, .inr (7, [.int zth, .ref Mt, .int (nI tp), .int (nI max_407), .int (-1), .ref Mrr, .ref Mrh, .ref Mrc, .int (nI rh), .int (nI rc), .ref Mn, .ref Mf, .ref Mr, .ref Mh, .int zhp, .int zcc, .ref Ma, .ref Mas, .ref Msn, .ref Mac, .ref Mat])), (Mt, .inl (g 0, 160, .inl fmt))] H := ⟨hP2, hD2⟩
        have hS := hS2; clear hP2 hD2 hS2; have hP := hPD.1; have hD := hPD.2; clear hPD
        refine W.widen (k := 0) (n := 0) (Nat.le_of_ble_eq_true rfl) (Nat.le_of_ble_eq_true rfl) ?_
        refine lv_if_ne (tgt := 98) hx hb dX7_items_41 (by decide) (fun _ => ?_) (fun cb => absurd cb (by decide))
        have hPD9 : PD D A [(Mm, .inr (7, [.int zth, .ref Mt, .int (nI tp), .int (nI max_407), .int (-1), .ref Mrr, .ref Mrh, .ref Mrc, .int (nI rh), .int (nI rc), .ref Mn, .ref Mf, .ref Mr, .ref Mh, .int zhp, .int zcc, .ref Ma, .ref Mas, .ref Msn, .ref Mac, .ref Mat])), (Mt, .inl (g 0, 160, .inl fmt)), (Mrr, .inl (g 0, 3, .inl (upd frrx_2 2 (nI nx_395))))] H := ⟨hP.sub [1, 2, 0] rfl, hD.sub [1, 2, 0] (by decide) rfl⟩
        have hP9 := hPD9.1; have hD9 := hPD9.2
        subst hQ
        refine W.widen (k := 0) (n := 0) (Nat.le_of_ble_eq_true rfl) (Nat.le_of_ble_eq_true rfl) ?_
        exact W.vret hx hb hr (fun tS htS _ => ⟨⟨_, rfl, ⟨max_407, (-1), (upd frrx_2 2 (nI nx_395)), rfl, ⟨(n1_upd (hf_3) (n := nx_395) (show nx_395 ≤ 99 by omega)), (show max_407 ≤ tp by omega), (show ma ≤ max_407 by omega), (congrArg Prod.fst (hR_402.trans (itR_again (f := 2) (m := 4) (q := 2) hf_410 hil_566.2 (by decide) (by decide)))).symm, (fun _ => (congrArg Prod.snd (hR_402.trans (itR_again (f := 2) (m := 4) (q := 2) hf_410 hil_566.2 (by decide) (by decide)))).symm), (fun _ => (hW_405.trans (itW_again (f := 2) (m := 4) (q := 2) hf_410 hil_566.2 (by decide) (by decide))).symm)⟩⟩, by rw [htS]; exact hP9, hD9⟩, hS.F htS⟩) hS.2.2 dX7_items_98
    · skip
      refine lv_iload_n hx hb dX7_items_85 rfl (lv_at hl 3 rfl) ?_
      refine lv_aload_n hx hb dX7_items_86 rfl (lv_at hl 2 rfl) ?_
      refine ky_Vi (As := []) (rest := [.int 0]) ⟨hx, hb, hml, hown, hts⟩ ⟨hK, hN⟩ hZ hP hD hS hA [1, 2] [0] (wc := [(Mm, .inr (7, [.int zth, .ref Mt, .int (nI tp), .int (nI max_393), .int zwrx_394, .ref Mrr, .ref Mrh, .ref Mrc, .int (nI rh), .int (nI rc), .ref Mn, .ref Mf, .ref Mr, .ref Mh, .int zhp, .int zcc, .ref Ma, .ref Mas, .ref Msn, .ref Mac, .ref Mat])), (Mt, .inl (g 0, 160, .inl fmt))]) (wr := [(Mrr, .inl (g 0, 3, .inl (upd frrx_2 2 (nI nx_395))))]) rfl rfl rfl rfl (by decide) (r_X7_ahead l D g H.size Mm zth Mt tp max_393 zwrx_394 Mrr Mrh Mrc rh rc Mn Mf Mr Mh zhp zcc Ma Mas Msn Mac Mat fmt (show tp ≤ 160 by omega) (show max_393 ≤ tp by omega)) (cwV 0 hts gX7_items_X7_ahead rfl rfl rfl (by decide +kernel) ⟨(Nat.le_of_ble_eq_true rfl), (Nat.le_of_ble_eq_true rfl)⟩) 1 7 rfl rfl rfl rfl hl.1 rfl (Nat.le_of_ble_eq_true rfl) dX7_items_87 ⟨(Nat.le_of_ble_eq_true rfl), (Nat.le_of_ble_eq_true rfl)⟩ (fun r_568 u H locs hw hP2 hD2 hS2 => ?_)
      clear hP hD hS
      obtain ⟨max_569, rfl, rfl, hf_570, hf_571, hf_572⟩ := hw
      have hPD : PD D A [(Mrr, .inl (g 0, 3, .inl (upd frrx_2 2 (nI nx_395)))), (Mm, .inr (7, [.int zth, .ref Mt, .int (nI tp), .int (nI max_569), .int zwrx_394, .ref Mrr, .ref Mrh, .ref Mrc, .int (nI rh), .int (nI rc), .ref Mn, .ref Mf, .ref Mr, .ref Mh, .int zhp, .int zcc, .ref Ma, .ref Mas, .ref Msn, .ref Mac, .ref Mat])), (Mt, .inl (g 0, 160, .inl fmt))] H := ⟨hP2, hD2⟩
      have hS := hS2; clear hP2 hD2 hS2; have hP := hPD.1; have hD := hPD.2; clear hPD
      refine W.widen (k := 0) (n := 0) (Nat.le_of_ble_eq_true rfl) (Nat.le_of_ble_eq_true rfl) ?_
      refine lv_topi (fun y_573 hey_573 => ?_)
      refine ky_Si (As := [.int 0, .int y_573]) (rest := []) ⟨hx, hb, hml, hown, hts⟩ ⟨hK, hN⟩ hZ hP hD hS hA [] [0, 1, 2] (wc := []) (wr := [(Mrr, .inl (g 0, 3, .inl (upd frrx_2 2 (nI nx_395)))), (Mm, .inr (7, [.int zth, .ref Mt, .int (nI tp), .int (nI max_569), .int zwrx_394, .ref Mrr, .ref Mrh, .ref Mrc, .int (nI rh), .int (nI rc), .ref Mn, .ref Mf, .ref Mr, .ref Mh, .int zhp, .int zcc, .ref Ma, .ref Mas, .ref Msn, .ref Mac, .ref Mat])), (Mt, .inl (g 0, 160, .inl fmt))]) rfl rfl rfl rfl (by decide) (r_X7_itemBy_0 l D g H.size y_573) (va_cwS 2 hts gX7_items_X7_itemBy rfl rfl rfl (by decide +kernel) ⟨(Nat.le_of_ble_eq_true rfl), (Nat.le_of_ble_eq_true rfl)⟩) rfl hl.1 rfl (Nat.le_of_ble_eq_true rfl) dX7_items_90 ⟨(Nat.le_of_ble_eq_true rfl), (Nat.le_of_ble_eq_true rfl)⟩ (fun r_574 u H locs hw hP2 hD2 hS2 => ?_)
      clear hP hD hS
      obtain ⟨rfl, rfl⟩ := hw
      have hPD : PD D A [(Mrr, .inl (g 0, 3, .inl (upd frrx_2 2 (nI nx_395)))), (Mm, .inr (7, [.int zth, .ref Mt, .int (nI tp), .int (nI max_569), .int zwrx_394, .ref Mrr, .ref Mrh, .ref Mrc, .int (nI rh), .int (nI rc), .ref Mn, .ref Mf, .ref Mr, .ref Mh, .int zhp, .int zcc, .ref Ma, .ref Mas, .ref Msn, .ref Mac, .ref Mat])), (Mt, .inl (g 0, 160, .inl fmt))] H := ⟨hP2, hD2⟩
      have hS := hS2; clear hP2 hD2 hS2; have hP := hPD.1; have hD := hPD.2; clear hPD
      refine W.widen (k := 0) (n := 0) (Nat.le_of_ble_eq_true rfl) (Nat.le_of_ble_eq_true rfl) ?_
      refine lv_istore (lv' := [(5, .int (itK 0 y_573)), (4, .int 4), (0, .ref Mm), (1, .int 0), (2, .ref Mrr), (3, .int 0)]) hx hb dX7_items_93 hl (by decide) rfl (fun ls hl => ?_)
      refine lv_goto (tgt := 20) hx hb dX7_items_95 (by decide) ?_
      refine lv_aload_n hx hb dX7_items_20 rfl (lv_at hl 2 rfl) ?_
      refine va_get (D := D) (ci := 7) (v := .int zwrx_394) (C := RX7) (T := TX7) (N := 21) hx hb hts iX7 hown hK hP 1 rfl rfl 4 (by decide) f71 (fun _ h9 => h9) rfl dX7_items_21 ?_
      refine lv_iconst (v := (-1)) hx hb dX7_items_24 (by decide) ?_
      refine lv_icmp_ne (tgt := 98) hx hb dX7_items_25 (by decide) (fun _ => ?_) (fun cb => absurd cb (cw_400))
      have hPD9 : PD D A [(Mm, .inr (7, [.int zth, .ref Mt, .int (nI tp), .int (nI max_569), .int zwrx_394, .ref Mrr, .ref Mrh, .ref Mrc, .int (nI rh), .int (nI rc), .ref Mn, .ref Mf, .ref Mr, .ref Mh, .int zhp, .int zcc, .ref Ma, .ref Mas, .ref Msn, .ref Mac, .ref Mat])), (Mt, .inl (g 0, 160, .inl fmt)), (Mrr, .inl (g 0, 3, .inl (upd frrx_2 2 (nI nx_395))))] H := ⟨hP.sub [1, 2, 0] rfl, hD.sub [1, 2, 0] (by decide) rfl⟩
      have hP9 := hPD9.1; have hD9 := hPD9.2
      subst hQ
      refine W.widen (k := 0) (n := 0) (Nat.le_of_ble_eq_true rfl) (Nat.le_of_ble_eq_true rfl) ?_
      exact W.vret hx hb hr (fun tS htS _ => ⟨⟨_, rfl, ⟨max_569, zwrx_394, (upd frrx_2 2 (nI nx_395)), rfl, ⟨(n1_upd (hf_3) (n := nx_395) (show nx_395 ≤ 99 by omega)), (show max_569 ≤ tp by omega), (show ma ≤ max_569 by omega), (((itR_w (f := 3) (m := 0) (q := 2) hf_9 hil_388.1 hil_388.2 (by decide) (by decide) (fun q => cw_400 (hf_396.2.2.2.1.trans q))).trans hf_396.2.2.2.1.symm)).symm, (fun q => absurd q cw_400), (fun q => absurd q cw_400)⟩⟩, by rw [htS]; exact hP9, hD9⟩, hS.F htS⟩) hS.2.2 dX7_items_98
