set_option maxHeartbeats 4000000 in
set_option maxRecDepth 100000 in
theorem k_X7_isDigit (l : Launch) (D : va_G) (g : Nat → ClassId) (sz : Nat) (zv : Int32) : Met l yX7_isDigit wsX7_isDigit ({ frames := 0, cells := 0, slots := 0, locals := 0 }) (va_Pc [.int zv] (pre D g sz [])) (va_Qi (fun (r : Int32) (u : va_W) => u = [] ∧ r = (if 48 ≤ zv ∧ zv ≤ 57 then 1 else 0)) (wd D (va_A [] sz)) (va_A [] sz)) 0 0 (va_A [] sz) := by
  refine Met.ofW (cc := cX7_isDigit) (maxL := 1) (ret := (some .boolean)) (by decide) rfl ?_
  intro p e s m args below meth c s₁ B hml hv
  obtain ⟨rfl, hsz, hP, ⟨hK, hN⟩, hD0, hZ⟩ := hv
  have hx := B.exec
  have hb := B.bytes
  have hr := B.returns
  have hts := atoms_spec (ws := wsX7_isDigit) B.pre
  have hown : s.vm.findClass RX7 = some m.cls := findClass_of_methodNamed B.named
  have hlocks := B.notSynchronized
  clear B
  subst hsz
  have hD := hD0.self (sz := s.heap.size)
  clear hD0
  generalize hAe : va_A [] s.heap.size = A at hD hZ ⊢
  have hA : ∀ q : Nat, s.heap.size ≤ q → A q := fun q h => by rw [← hAe]; exact Or.inr h
  have hS : va_S A s.heap s.heap [] := va_S.rf
  have hl := lv_entry ([.int zv]) (n := 1) (Nat.le_of_ble_eq_true rfl)
  rw [lg_entry_eq]
  generalize (lg_sl ([.int zv]) ++ List.replicate (1 - (lg_sl ([.int zv])).length) Slot.unset).toArray = ls at hl ⊢
  have hl : lv_has ls 1 [(0, .int zv)] := hl
  generalize hQ : MQ below _ _ s _ _ _ = Q
  generalize hH : s.heap = H at hP ⊢
  have hS : va_S A s.heap H [] := by rw [← hH]; exact hS
  clear hH
  refine lv_iload_n hx hb dX7_isDigit_0 rfl (lv_at hl 0 rfl) ?_
  refine lv_bipush (v := 48) hx hb dX7_isDigit_1 (by decide) ?_
  refine lv_icmp_lt (tgt := 16) hx hb dX7_isDigit_3 (by decide) (fun cb_1 => ?_) (fun cb_1 => ?_)
  · skip
    refine lv_iconst (v := 0) hx hb dX7_isDigit_16 (by decide) ?_
    have hP9 := hP; have hD9 := hD
    subst hQ
    refine W.widen (k := 0) (n := 0) (Nat.le_of_ble_eq_true rfl) (Nat.le_of_ble_eq_true rfl) ?_
    exact W.zret (v := 0) (ty := .boolean) hx hb hr (rfl) (fun tS htS _ => ⟨⟨_, _, rfl, ⟨rfl, (if_neg (fun q => absurd cb_1 (Int32.not_lt.mpr q.1))).symm⟩, by rw [htS]; exact hP9, hD9⟩, hS.F htS⟩) hS.2.2 dX7_isDigit_17
  · skip
    refine lv_iload_n hx hb dX7_isDigit_6 rfl (lv_at hl 0 rfl) ?_
    refine lv_bipush (v := 57) hx hb dX7_isDigit_7 (by decide) ?_
    refine lv_icmp_gt (tgt := 16) hx hb dX7_isDigit_9 (by decide) (fun cb_2 => ?_) (fun cb_2 => ?_)
    · skip
      refine lv_iconst (v := 0) hx hb dX7_isDigit_16 (by decide) ?_
      have hP9 := hP; have hD9 := hD
      subst hQ
      refine W.widen (k := 0) (n := 0) (Nat.le_of_ble_eq_true rfl) (Nat.le_of_ble_eq_true rfl) ?_
      exact W.zret (v := 0) (ty := .boolean) hx hb hr (rfl) (fun tS htS _ => ⟨⟨_, _, rfl, ⟨rfl, (if_neg (fun q => absurd cb_2 (Int32.not_lt.mpr q.2))).symm⟩, by rw [htS]; exact hP9, hD9⟩, hS.F htS⟩) hS.2.2 dX7_isDigit_17
    · skip
      refine lv_iconst (v := 1) hx hb dX7_isDigit_12 (by decide) ?_
      refine lv_goto (tgt := 17) hx hb dX7_isDigit_13 (by decide) ?_
      have hP9 := hP; have hD9 := hD
      subst hQ
      refine W.widen (k := 0) (n := 0) (Nat.le_of_ble_eq_true rfl) (Nat.le_of_ble_eq_true rfl) ?_
      exact W.zret (v := 1) (ty := .boolean) hx hb hr (rfl) (fun tS htS _ => ⟨⟨_, _, rfl, ⟨rfl, (if_pos ⟨Int32.not_lt.mp cb_1, Int32.not_lt.mp cb_2⟩).symm⟩, by rw [htS]; exact hP9, hD9⟩, hS.F htS⟩) hS.2.2 dX7_isDigit_17

set_option maxHeartbeats 4000000 in
set_option maxRecDepth 100000 in
theorem k_X7_number (l : Launch) (D : va_G) (g : Nat → ClassId) (sz : Nat) (Mm : Nat) (lo : Nat) (zhi : Int32) (zth : Int32) (Mt : Nat) (tp : Nat) (ma : Nat) (zwr : Int32) (Mrr : Nat) (Mrh : Nat) (Mrc : Nat) (rh : Nat) (rc : Nat) (Mn : Nat) (Mf : Nat) (Mr : Nat) (Mh : Nat) (zhp : Int32) (zcc : Int32) (Ma : Nat) (Mas : Nat) (Msn : Nat) (Mac : Nat) (Mat : Nat) (fmt : Nat → Int32) (h0 : tp ≤ 160) (h1 : ma ≤ tp) (h2 : lo ≤ 1) : Met l yX7_number wsX7_number ({ frames := 2, cells := 0, slots := 0, locals := 40 }) (va_Pc [.ref Mm, .int (nI lo), .int zhi] (pre D g sz [(Mm, .inr (7, [.int zth, .ref Mt, .int (nI tp), .int (nI ma), .int zwr, .ref Mrr, .ref Mrh, .ref Mrc, .int (nI rh), .int (nI rc), .ref Mn, .ref Mf, .ref Mr, .ref Mh, .int zhp, .int zcc, .ref Ma, .ref Mas, .ref Msn, .ref Mac, .ref Mat])), (Mt, .inl (g 0, 160, .inl fmt))])) (va_Qi (fun (r : Int32) (u : va_W) => ∃ (max : Nat) (zwrx : Int32) (nx : Nat), u = [(Mm, .inr (7, [.int zth, .ref Mt, .int (nI tp), .int (nI max), .int zwrx, .ref Mrr, .ref Mrh, .ref Mrc, .int (nI rh), .int (nI rc), .ref Mn, .ref Mf, .ref Mr, .ref Mh, .int zhp, .int zcc, .ref Ma, .ref Mas, .ref Msn, .ref Mac, .ref Mat])), (Mt, .inl (g 0, 160, .inl fmt))] ∧ r = (nI nx) ∧ (nx ≤ 99) ∧ (max ≤ tp) ∧ (ma ≤ max)) (wd D (va_A [(Mm, .inr (7, [.int zth, .ref Mt, .int (nI tp), .int (nI ma), .int zwr, .ref Mrr, .ref Mrh, .ref Mrc, .int (nI rh), .int (nI rc), .ref Mn, .ref Mf, .ref Mr, .ref Mh, .int zhp, .int zcc, .ref Ma, .ref Mas, .ref Msn, .ref Mac, .ref Mat])), (Mt, .inl (g 0, 160, .inl fmt))] sz)) (va_A [(Mm, .inr (7, [.int zth, .ref Mt, .int (nI tp), .int (nI ma), .int zwr, .ref Mrr, .ref Mrh, .ref Mrc, .int (nI rh), .int (nI rc), .ref Mn, .ref Mf, .ref Mr, .ref Mh, .int zhp, .int zcc, .ref Ma, .ref Mas, .ref Msn, .ref Mac, .ref Mat])), (Mt, .inl (g 0, 160, .inl fmt))] sz)) 0 0 (va_A [(Mm, .inr (7, [.int zth, .ref Mt, .int (nI tp), .int (nI ma), .int zwr, .ref Mrr, .ref Mrh, .ref Mrc, .int (nI rh), .int (nI rc), .ref Mn, .ref Mf, .ref Mr, .ref Mh, .int zhp, .int zcc, .ref Ma, .ref Mas, .ref Msn, .ref Mac, .ref Mat])), (Mt, .inl (g 0, 160, .inl fmt))] sz) := by
  refine Met.ofW (cc := cX7_number) (maxL := 5) (ret := (some .int)) (by decide) rfl ?_
  intro p e s m args below meth c s₁ B hml hv
  obtain ⟨rfl, hsz, hP, ⟨hK, hN⟩, hD0, hZ⟩ := hv
  have hx := B.exec
  have hb := B.bytes
  have hr := B.returns
  have hts := atoms_spec (ws := wsX7_number) B.pre
  have hown : s.vm.findClass RX7 = some m.cls := findClass_of_methodNamed B.named
  have hlocks := B.notSynchronized
  clear B
  subst hsz
  have hD := hD0.self (sz := s.heap.size)
  clear hD0
  generalize hAe : va_A [(Mm, .inr (7, [.int zth, .ref Mt, .int (nI tp), .int (nI ma), .int zwr, .ref Mrr, .ref Mrh, .ref Mrc, .int (nI rh), .int (nI rc), .ref Mn, .ref Mf, .ref Mr, .ref Mh, .int zhp, .int zcc, .ref Ma, .ref Mas, .ref Msn, .ref Mac, .ref Mat])), (Mt, .inl (g 0, 160, .inl fmt))] s.heap.size = A at hD hZ ⊢
  have hA : ∀ q : Nat, s.heap.size ≤ q → A q := fun q h => by rw [← hAe]; exact Or.inr h
  have hS : va_S A s.heap s.heap [] := va_S.rf
  have f64 := hts (.fieldLink RX7 64 "HopCreditsModel" "at" "I") (List.mem_of_getElem? (i := 2) rfl)
  have f71 := hts (.fieldLink RX7 71 "HopCreditsModel" "wrong" "I") (List.mem_of_getElem? (i := 1) rfl)
  have iX7 : ∀ w ∈ u_ws RX7 TX7 21, w ∈ wsX7_number := fun w h => List.mem_cons_of_mem _ (List.mem_append_right _ (h))
  have hl := lv_entry ([.ref Mm, .int (nI lo), .int zhi]) (n := 5) (Nat.le_of_ble_eq_true rfl)
  rw [lg_entry_eq]
  generalize (lg_sl ([.ref Mm, .int (nI lo), .int zhi]) ++ List.replicate (5 - (lg_sl ([.ref Mm, .int (nI lo), .int zhi])).length) Slot.unset).toArray = ls at hl ⊢
  have hl : lv_has ls 5 [(0, .ref Mm), (1, .int (nI lo)), (2, .int zhi)] := hl
  generalize hQ : MQ below _ _ s _ _ _ = Q
  generalize hH : s.heap = H at hP ⊢
  have hS : va_S A s.heap H [] := by rw [← hH]; exact hS
  clear hH
  refine lv_aload_n hx hb dX7_number_0 rfl (lv_at hl 0 rfl) ?_
  refine va_get (D := D) (ci := 7) (v := .int zwr) (C := RX7) (T := TX7) (N := 21) hx hb hts iX7 hown hK hP 0 rfl rfl 4 (by decide) f71 (fun _ h9 => h9) rfl dX7_number_1 ?_
  refine lv_iconst (v := (-1)) hx hb dX7_number_4 (by decide) ?_
  refine lv_icmp_ne (tgt := 18) hx hb dX7_number_5 (by decide) (fun cb_1 => ?_) (fun cb_1 => ?_)
  · skip
    refine lv_aload_n hx hb dX7_number_18 rfl (lv_at hl 0 rfl) ?_
    refine ky_Vv (As := []) (rest := []) ⟨hx, hb, hml, hown, hts⟩ ⟨hK, hN⟩ hZ hP hD hS hA [0] [1] (wc := [(Mm, .inr (7, [.int zth, .ref Mt, .int (nI tp), .int (nI ma), .int zwr, .ref Mrr, .ref Mrh, .ref Mrc, .int (nI rh), .int (nI rc), .ref Mn, .ref Mf, .ref Mr, .ref Mh, .int zhp, .int zcc, .ref Ma, .ref Mas, .ref Msn, .ref Mac, .ref Mat]))]) (wr := [(Mt, .inl (g 0, 160, .inl fmt))]) rfl rfl rfl rfl (by decide) (k_X7_bad l D g H.size Mm zth Mt tp ma zwr Mrr Mrh Mrc rh rc Mn Mf Mr Mh zhp zcc Ma Mas Msn Mac Mat) (cwV 0 hts gX7_number_X7_bad rfl rfl rfl (by decide +kernel) ⟨(Nat.le_of_ble_eq_true rfl), (Nat.le_of_ble_eq_true rfl)⟩) 0 7 rfl rfl rfl rfl hl.1 rfl (Nat.le_of_ble_eq_true rfl) dX7_number_19 ⟨(Nat.le_of_ble_eq_true rfl), (Nat.le_of_ble_eq_true rfl)⟩ (fun u H locs hw hP2 hD2 hS2 => ?_)
    clear hP hD hS
    obtain ⟨zwrx_3, rfl⟩ := hw
    have hPD : PD D A [(Mt, .inl (g 0, 160, .inl fmt)), (Mm, .inr (7, [.int zth, .ref Mt, .int (nI tp), .int (nI ma), .int zwrx_3, .ref Mrr, .ref Mrh, .ref Mrc, .int (nI rh), .int (nI rc), .ref Mn, .ref Mf, .ref Mr, .ref Mh, .int zhp, .int zcc, .ref Ma, .ref Mas, .ref Msn, .ref Mac, .ref Mat]))] H := ⟨hP2, hD2⟩
    have hS := hS2; clear hP2 hD2 hS2; have hP := hPD.1; have hD := hPD.2; clear hPD
    refine W.widen (k := 0) (n := 0) (Nat.le_of_ble_eq_true rfl) (Nat.le_of_ble_eq_true rfl) ?_
    refine lv_iload_n hx hb dX7_number_22 rfl (lv_at hl 1 rfl) ?_
    have hPD9 : PD D A [(Mm, .inr (7, [.int zth, .ref Mt, .int (nI tp), .int (nI ma), .int zwrx_3, .ref Mrr, .ref Mrh, .ref Mrc, .int (nI rh), .int (nI rc), .ref Mn, .ref Mf, .ref Mr, .ref Mh, .int zhp, .int zcc, .ref Ma, .ref Mas, .ref Msn, .ref Mac, .ref Mat])), (Mt, .inl (g 0, 160, .inl fmt))] H := ⟨hP.sub [1, 0] rfl, hD.sub [1, 0] (by decide) rfl⟩
    have hP9 := hPD9.1; have hD9 := hPD9.2
    subst hQ
    refine W.widen (k := 0) (n := 0) (Nat.le_of_ble_eq_true rfl) (Nat.le_of_ble_eq_true rfl) ?_
    exact W.iret (v := (nI lo)) hx hb hr (fun tS htS _ => ⟨⟨_, _, rfl, ⟨ma, zwrx_3, lo, rfl, rfl, (show lo ≤ 99 by omega), (show ma ≤ tp by omega), (show ma ≤ ma by omega)⟩, by rw [htS]; exact hP9, hD9⟩, hS.F htS⟩) hS.2.2 dX7_number_23
  · skip
    have hPq_4 := hP; have hDq_4 := hD; have hSq_4 := hS; have hlq_4 := hl; clear hP hD hS hl
    subst cb_1
    have hP := hPq_4; have hD := hDq_4; have hS := hSq_4; have hl := hlq_4; clear hPq_4 hDq_4 hSq_4 hlq_4
    refine lv_aload_n hx hb dX7_number_8 rfl (lv_at hl 0 rfl) ?_
    refine ky_Vi (As := []) (rest := []) ⟨hx, hb, hml, hown, hts⟩ ⟨hK, hN⟩ hZ hP hD hS hA [0, 1] [] (wc := [(Mm, .inr (7, [.int zth, .ref Mt, .int (nI tp), .int (nI ma), .int (-1), .ref Mrr, .ref Mrh, .ref Mrc, .int (nI rh), .int (nI rc), .ref Mn, .ref Mf, .ref Mr, .ref Mh, .int zhp, .int zcc, .ref Ma, .ref Mas, .ref Msn, .ref Mac, .ref Mat])), (Mt, .inl (g 0, 160, .inl fmt))]) (wr := []) rfl rfl rfl rfl (by decide) (k_X7_ahead l D g H.size Mm zth Mt tp ma (-1) Mrr Mrh Mrc rh rc Mn Mf Mr Mh zhp zcc Ma Mas Msn Mac Mat fmt (show tp ≤ 160 by omega) (show ma ≤ tp by omega)) (cwV 0 hts gX7_number_X7_ahead rfl rfl rfl (by decide +kernel) ⟨(Nat.le_of_ble_eq_true rfl), (Nat.le_of_ble_eq_true rfl)⟩) 0 7 rfl rfl rfl rfl hl.1 rfl (Nat.le_of_ble_eq_true rfl) dX7_number_9 ⟨(Nat.le_of_ble_eq_true rfl), (Nat.le_of_ble_eq_true rfl)⟩ (fun r_5 u H locs hw hP2 hD2 hS2 => ?_)
    clear hP hD hS
    obtain ⟨max_6, rfl, rfl, hf_7, hf_8⟩ := hw
    have hPD : PD D A [(Mm, .inr (7, [.int zth, .ref Mt, .int (nI tp), .int (nI max_6), .int (-1), .ref Mrr, .ref Mrh, .ref Mrc, .int (nI rh), .int (nI rc), .ref Mn, .ref Mf, .ref Mr, .ref Mh, .int zhp, .int zcc, .ref Ma, .ref Mas, .ref Msn, .ref Mac, .ref Mat])), (Mt, .inl (g 0, 160, .inl fmt))] H := ⟨hP2, hD2⟩
    have hS := hS2; clear hP2 hD2 hS2; have hP := hPD.1; have hD := hPD.2; clear hPD
    refine W.widen (k := 0) (n := 0) (Nat.le_of_ble_eq_true rfl) (Nat.le_of_ble_eq_true rfl) ?_
    refine lv_topi (fun y_9 hey_9 => ?_)
    refine ky_Si (As := [.int y_9]) (rest := []) ⟨hx, hb, hml, hown, hts⟩ ⟨hK, hN⟩ hZ hP hD hS hA [] [0, 1] (wc := []) (wr := [(Mm, .inr (7, [.int zth, .ref Mt, .int (nI tp), .int (nI max_6), .int (-1), .ref Mrr, .ref Mrh, .ref Mrc, .int (nI rh), .int (nI rc), .ref Mn, .ref Mf, .ref Mr, .ref Mh, .int zhp, .int zcc, .ref Ma, .ref Mas, .ref Msn, .ref Mac, .ref Mat])), (Mt, .inl (g 0, 160, .inl fmt))]) rfl rfl rfl rfl (by decide) (k_X7_isDigit l D g H.size y_9) (va_cwS 1 hts gX7_number_X7_isDigit rfl rfl rfl (by decide +kernel) ⟨(Nat.le_of_ble_eq_true rfl), (Nat.le_of_ble_eq_true rfl)⟩) rfl hl.1 rfl (Nat.le_of_ble_eq_true rfl) dX7_number_12 ⟨(Nat.le_of_ble_eq_true rfl), (Nat.le_of_ble_eq_true rfl)⟩ (fun r_10 u H locs hw hP2 hD2 hS2 => ?_)
    clear hP hD hS
    obtain ⟨rfl, rfl⟩ := hw
    have hPD : PD D A [(Mm, .inr (7, [.int zth, .ref Mt, .int (nI tp), .int (nI max_6), .int (-1), .ref Mrr, .ref Mrh, .ref Mrc, .int (nI rh), .int (nI rc), .ref Mn, .ref Mf, .ref Mr, .ref Mh, .int zhp, .int zcc, .ref Ma, .ref Mas, .ref Msn, .ref Mac, .ref Mat])), (Mt, .inl (g 0, 160, .inl fmt))] H := ⟨hP2, hD2⟩
    have hS := hS2; clear hP2 hD2 hS2; have hP := hPD.1; have hD := hPD.2; clear hPD
    refine W.widen (k := 0) (n := 0) (Nat.le_of_ble_eq_true rfl) (Nat.le_of_ble_eq_true rfl) ?_
    refine lv_if_ne (tgt := 24) hx hb dX7_number_15 (by decide) (fun cb_11 => ?_) (fun cb_11 => ?_)
    · skip
      have hq_12 : 48 ≤ y_9 ∧ y_9 ≤ 57 := b01_1.mp cb_11
      have hPq_16 := hP; have hDq_16 := hD; have hSq_16 := hS; have hlq_16 := hl; clear hP hD hS hl
      obtain ⟨j_13, hl_14, hu_15, rfl⟩ := rg (L := 48) (U := 57) rfl rfl (show 48 < 2 ^ 31 by omega) (show 57 < 2 ^ 31 by omega) hq_12
      have hP := hPq_16; have hD := hDq_16; have hS := hSq_16; have hl := hlq_16; clear hPq_16 hDq_16 hSq_16 hlq_16
      have hlt_17 : max_6 < tp := (fun q9 => here_lt hey_9 q9) (m1_ne (show j_13 < 2 ^ 31 by omega))
      refine lv_iconst (v := 0) hx hb dX7_number_24 (by decide) ?_
      refine lv_istore_n (lv' := [(3, .int 0), (0, .ref Mm), (1, .int (nI lo)), (2, .int zhi)]) hx hb dX7_number_25 rfl hl (by decide) rfl (fun ls hl => ?_)
      refine lv_iconst (v := 0) hx hb dX7_number_26 (by decide) ?_
      refine lv_istore (lv' := [(4, .int 0), (3, .int 0), (0, .ref Mm), (1, .int (nI lo)), (2, .int zhi)]) hx hb dX7_number_27 hl (by decide) rfl (fun ls hl => ?_)
      refine lv_iload hx hb dX7_number_29 (lv_at hl 0 rfl) ?_
      refine lv_iconst (v := 2) hx hb dX7_number_31 (by decide) ?_
      refine lv_icmp_ge (tgt := 74) hx hb dX7_number_32 (by decide) (fun cb => absurd cb (by decide)) (fun _ => ?_)
      refine lv_aload_n hx hb dX7_number_35 rfl (lv_at hl 2 rfl) ?_
      refine ky_Vi (As := []) (rest := []) ⟨hx, hb, hml, hown, hts⟩ ⟨hK, hN⟩ hZ hP hD hS hA [0, 1] [] (wc := [(Mm, .inr (7, [.int zth, .ref Mt, .int (nI tp), .int (nI max_6), .int (-1), .ref Mrr, .ref Mrh, .ref Mrc, .int (nI rh), .int (nI rc), .ref Mn, .ref Mf, .ref Mr, .ref Mh, .int zhp, .int zcc, .ref Ma, .ref Mas, .ref Msn, .ref Mac, .ref Mat])), (Mt, .inl (g 0, 160, .inl fmt))]) (wr := []) rfl rfl rfl rfl (by decide) (k_X7_here l D g H.size Mm zth Mt tp max_6 (-1) Mrr Mrh Mrc rh rc Mn Mf Mr Mh zhp zcc Ma Mas Msn Mac Mat fmt (show tp ≤ 160 by omega) (show max_6 ≤ 1000 by omega)) (cwV 0 hts gX7_number_X7_here rfl rfl rfl (by decide +kernel) ⟨(Nat.le_of_ble_eq_true rfl), (Nat.le_of_ble_eq_true rfl)⟩) 0 7 rfl rfl rfl rfl hl.1 rfl (Nat.le_of_ble_eq_true rfl) dX7_number_36 ⟨(Nat.le_of_ble_eq_true rfl), (Nat.le_of_ble_eq_true rfl)⟩ (fun r_18 u H locs hw hP2 hD2 hS2 => ?_)
      clear hP hD hS
      obtain ⟨rfl, rfl⟩ := hw
      have hPD : PD D A [(Mm, .inr (7, [.int zth, .ref Mt, .int (nI tp), .int (nI max_6), .int (-1), .ref Mrr, .ref Mrh, .ref Mrc, .int (nI rh), .int (nI rc), .ref Mn, .ref Mf, .ref Mr, .ref Mh, .int zhp, .int zcc, .ref Ma, .ref Mas, .ref Msn, .ref Mac, .ref Mat])), (Mt, .inl (g 0, 160, .inl fmt))] H := ⟨hP2, hD2⟩
      have hS := hS2; clear hP2 hD2 hS2; have hP := hPD.1; have hD := hPD.2; clear hPD
      refine W.widen (k := 0) (n := 0) (Nat.le_of_ble_eq_true rfl) (Nat.le_of_ble_eq_true rfl) ?_
      refine lv_eqi (y := (nI j_13)) hey_9.symm ?_
      refine ky_Si (As := [.int (nI j_13)]) (rest := []) ⟨hx, hb, hml, hown, hts⟩ ⟨hK, hN⟩ hZ hP hD hS hA [] [0, 1] (wc := []) (wr := [(Mm, .inr (7, [.int zth, .ref Mt, .int (nI tp), .int (nI max_6), .int (-1), .ref Mrr, .ref Mrh, .ref Mrc, .int (nI rh), .int (nI rc), .ref Mn, .ref Mf, .ref Mr, .ref Mh, .int zhp, .int zcc, .ref Ma, .ref Mas, .ref Msn, .ref Mac, .ref Mat])), (Mt, .inl (g 0, 160, .inl fmt))]) rfl rfl rfl rfl (by decide) (k_X7_isDigit l D g H.size (nI j_13)) (va_cwS 1 hts gX7_number_X7_isDigit rfl rfl rfl (by decide +kernel) ⟨(Nat.le_of_ble_eq_true rfl), (Nat.le_of_ble_eq_true rfl)⟩) rfl hl.1 rfl (Nat.le_of_ble_eq_true rfl) dX7_number_39 ⟨(Nat.le_of_ble_eq_true rfl), (Nat.le_of_ble_eq_true rfl)⟩ (fun r_19 u H locs hw hP2 hD2 hS2 => ?_)
      clear hP hD hS
      obtain ⟨rfl, rfl⟩ := hw
      have hPD : PD D A [(Mm, .inr (7, [.int zth, .ref Mt, .int (nI tp), .int (nI max_6), .int (-1), .ref Mrr, .ref Mrh, .ref Mrc, .int (nI rh), .int (nI rc), .ref Mn, .ref Mf, .ref Mr, .ref Mh, .int zhp, .int zcc, .ref Ma, .ref Mas, .ref Msn, .ref Mac, .ref Mat])), (Mt, .inl (g 0, 160, .inl fmt))] H := ⟨hP2, hD2⟩
      have hS := hS2; clear hP2 hD2 hS2; have hP := hPD.1; have hD := hPD.2; clear hPD
      refine W.widen (k := 0) (n := 0) (Nat.le_of_ble_eq_true rfl) (Nat.le_of_ble_eq_true rfl) ?_
      refine lv_if_eq (tgt := 74) hx hb dX7_number_42 (by decide) (fun cb => absurd cb (b01_1.mpr ⟨nI_le (show 48 ≤ j_13 by omega) (show j_13 < 2 ^ 31 by omega), nI_le (show j_13 ≤ 57 by omega) (by decide)⟩)) (fun _ => ?_)
      refine lv_bipush (v := 10) hx hb dX7_number_45 (by decide) ?_
      refine lv_iload_n hx hb dX7_number_47 rfl (lv_at hl 1 rfl) ?_
      refine lv_imul hx hb dX7_number_48 ?_
      refine lv_eqi (y := 0) (by decide) ?_
      refine lv_aload_n hx hb dX7_number_49 rfl (lv_at hl 2 rfl) ?_
      refine ky_Vi (As := []) (rest := [.int 0]) ⟨hx, hb, hml, hown, hts⟩ ⟨hK, hN⟩ hZ hP hD hS hA [0, 1] [] (wc := [(Mm, .inr (7, [.int zth, .ref Mt, .int (nI tp), .int (nI max_6), .int (-1), .ref Mrr, .ref Mrh, .ref Mrc, .int (nI rh), .int (nI rc), .ref Mn, .ref Mf, .ref Mr, .ref Mh, .int zhp, .int zcc, .ref Ma, .ref Mas, .ref Msn, .ref Mac, .ref Mat])), (Mt, .inl (g 0, 160, .inl fmt))]) (wr := []) rfl rfl rfl rfl (by decide) (k_X7_here l D g H.size Mm zth Mt tp max_6 (-1) Mrr Mrh Mrc rh rc Mn Mf Mr Mh zhp zcc Ma Mas Msn Mac Mat fmt (show tp ≤ 160 by omega) (show max_6 ≤ 1000 by omega)) (cwV 0 hts gX7_number_X7_here rfl rfl rfl (by decide +kernel) ⟨(Nat.le_of_ble_eq_true rfl), (Nat.le_of_ble_eq_true rfl)⟩) 0 7 rfl rfl rfl rfl hl.1 rfl (Nat.le_of_ble_eq_true rfl) dX7_number_50 ⟨(Nat.le_of_ble_eq_true rfl), (Nat.le_of_ble_eq_true rfl)⟩ (fun r_20 u H locs hw hP2 hD2 hS2 => ?_)
      clear hP hD hS
      obtain ⟨rfl, rfl⟩ := hw
      have hPD : PD D A [(Mm, .inr (7, [.int zth, .ref Mt, .int (nI tp), .int (nI max_6), .int (-1), .ref Mrr, .ref Mrh, .ref Mrc, .int (nI rh), .int (nI rc), .ref Mn, .ref Mf, .ref Mr, .ref Mh, .int zhp, .int zcc, .ref Ma, .ref Mas, .ref Msn, .ref Mac, .ref Mat])), (Mt, .inl (g 0, 160, .inl fmt))] H := ⟨hP2, hD2⟩
      have hS := hS2; clear hP2 hD2 hS2; have hP := hPD.1; have hD := hPD.2; clear hPD
      refine W.widen (k := 0) (n := 0) (Nat.le_of_ble_eq_true rfl) (Nat.le_of_ble_eq_true rfl) ?_
      refine lv_eqi (y := (nI j_13)) hey_9.symm ?_
      refine lv_iadd hx hb dX7_number_53 ?_
      refine lv_eqi (y := (nI (0 + j_13))) (nI_add (0) (j_13)) ?_
      refine lv_bipush (v := 48) hx hb dX7_number_54 (by decide) ?_
      refine lv_isub hx hb dX7_number_56 ?_
      refine lv_eqi (y := (nI ((0 + j_13) - 48))) (pk_sub (show 48 ≤ 0 + j_13 by omega)) ?_
      refine lv_istore_n (lv' := [(3, .int (nI ((0 + j_13) - 48))), (4, .int 0), (0, .ref Mm), (1, .int (nI lo)), (2, .int zhi)]) hx hb dX7_number_57 rfl hl (by decide) rfl (fun ls hl => ?_)
      refine lv_aload_n hx hb dX7_number_58 rfl (lv_at hl 2 rfl) ?_
      refine lv_dup hx hb dX7_number_59 rfl ?_
      refine va_get (D := D) (ci := 7) (v := .int (nI max_6)) (C := RX7) (T := TX7) (N := 21) hx hb hts iX7 hown hK hP 0 rfl rfl 3 (by decide) f64 (fun _ h9 => h9) rfl dX7_number_60 ?_
      refine lv_iconst (v := 1) hx hb dX7_number_63 (by decide) ?_
      refine lv_iadd hx hb dX7_number_64 ?_
      refine lv_eqi (y := (nI (max_6 + 1))) (nI_add (max_6) (1)) ?_
      refine va_put (D := D) (ci := 7) (v := .int (nI (max_6 + 1))) (ty := .int) (C := RX7) (T := TX7) (N := 21) hx hb hts iX7 tyX7 tyX7_ok nmX7 hown hK hP hD hS 0 rfl rfl 3 (by decide) f64 (fun _ h9 => h9) rfl (by decide +kernel) (rfl) (rfl) (Nat.le_of_ble_eq_true rfl) dX7_number_65 (fun H locs hP2 hD2 hS2 => ?_)
      clear hP hD hS
      have hPD : PD D A [(Mm, .inr (7, [.int zth, .ref Mt, .int (nI tp), .int (nI (max_6 + 1)), .int (-1), .ref Mrr, .ref Mrh, .ref Mrc, .int (nI rh), .int (nI rc), .ref Mn, .ref Mf, .ref Mr, .ref Mh, .int zhp, .int zcc, .ref Ma, .ref Mas, .ref Msn, .ref Mac, .ref Mat])), (Mt, .inl (g 0, 160, .inl fmt))] H := ⟨hP2, hD2⟩
      have hS := hS2; clear hP2 hD2 hS2; have hP := hPD.1; have hD := hPD.2; clear hPD
      refine lv_iinc (v := 1) (lv' := [(4, .int 1), (3, .int (nI ((0 + j_13) - 48))), (0, .ref Mm), (1, .int (nI lo)), (2, .int zhi)]) hx hb dX7_number_68 hl (k := 1) rfl (by decide) (by decide) rfl (fun ls hl => ?_)
      refine lv_goto (tgt := 29) hx hb dX7_number_71 (by decide) ?_
      refine lv_iload hx hb dX7_number_29 (lv_at hl 0 rfl) ?_
      refine lv_iconst (v := 2) hx hb dX7_number_31 (by decide) ?_
      refine lv_icmp_ge (tgt := 74) hx hb dX7_number_32 (by decide) (fun cb => absurd cb (by decide)) (fun _ => ?_)
      refine lv_aload_n hx hb dX7_number_35 rfl (lv_at hl 2 rfl) ?_
      refine ky_Vi (As := []) (rest := []) ⟨hx, hb, hml, hown, hts⟩ ⟨hK, hN⟩ hZ hP hD hS hA [0, 1] [] (wc := [(Mm, .inr (7, [.int zth, .ref Mt, .int (nI tp), .int (nI (max_6 + 1)), .int (-1), .ref Mrr, .ref Mrh, .ref Mrc, .int (nI rh), .int (nI rc), .ref Mn, .ref Mf, .ref Mr, .ref Mh, .int zhp, .int zcc, .ref Ma, .ref Mas, .ref Msn, .ref Mac, .ref Mat])), (Mt, .inl (g 0, 160, .inl fmt))]) (wr := []) rfl rfl rfl rfl (by decide) (k_X7_here l D g H.size Mm zth Mt tp (max_6 + 1) (-1) Mrr Mrh Mrc rh rc Mn Mf Mr Mh zhp zcc Ma Mas Msn Mac Mat fmt (show tp ≤ 160 by omega) (show (max_6 + 1) ≤ 1000 by omega)) (cwV 0 hts gX7_number_X7_here rfl rfl rfl (by decide +kernel) ⟨(Nat.le_of_ble_eq_true rfl), (Nat.le_of_ble_eq_true rfl)⟩) 0 7 rfl rfl rfl rfl hl.1 rfl (Nat.le_of_ble_eq_true rfl) dX7_number_36 ⟨(Nat.le_of_ble_eq_true rfl), (Nat.le_of_ble_eq_true rfl)⟩ (fun r_21 u H locs hw hP2 hD2 hS2 => ?_)
      clear hP hD hS
      obtain ⟨rfl, rfl⟩ := hw
      have hPD : PD D A [(Mm, .inr (7, [.int zth, .ref Mt, .int (nI tp), .int (nI (max_6 + 1)), .int (-1), .ref Mrr, .ref Mrh, .ref Mrc, .int (nI rh), .int (nI rc), .ref Mn, .ref Mf, .ref Mr, .ref Mh, .int zhp, .int zcc, .ref Ma, .ref Mas, .ref Msn, .ref Mac, .ref Mat])), (Mt, .inl (g 0, 160, .inl fmt))] H := ⟨hP2, hD2⟩
      have hS := hS2; clear hP2 hD2 hS2; have hP := hPD.1; have hD := hPD.2; clear hPD
      refine W.widen (k := 0) (n := 0) (Nat.le_of_ble_eq_true rfl) (Nat.le_of_ble_eq_true rfl) ?_
      refine lv_topi (fun y_22 hey_22 => ?_)
      refine ky_Si (As := [.int y_22]) (rest := []) ⟨hx, hb, hml, hown, hts⟩ ⟨hK, hN⟩ hZ hP hD hS hA [] [0, 1] (wc := []) (wr := [(Mm, .inr (7, [.int zth, .ref Mt, .int (nI tp), .int (nI (max_6 + 1)), .int (-1), .ref Mrr, .ref Mrh, .ref Mrc, .int (nI rh), .int (nI rc), .ref Mn, .ref Mf, .ref Mr, .ref Mh, .int zhp, .int zcc, .ref Ma, .ref Mas, .ref Msn, .ref Mac, .ref Mat])), (Mt, .inl (g 0, 160, .inl fmt))]) rfl rfl rfl rfl (by decide) (k_X7_isDigit l D g H.size y_22) (va_cwS 1 hts gX7_number_X7_isDigit rfl rfl rfl (by decide +kernel) ⟨(Nat.le_of_ble_eq_true rfl), (Nat.le_of_ble_eq_true rfl)⟩) rfl hl.1 rfl (Nat.le_of_ble_eq_true rfl) dX7_number_39 ⟨(Nat.le_of_ble_eq_true rfl), (Nat.le_of_ble_eq_true rfl)⟩ (fun r_23 u H locs hw hP2 hD2 hS2 => ?_)
      clear hP hD hS
      obtain ⟨rfl, rfl⟩ := hw
      have hPD : PD D A [(Mm, .inr (7, [.int zth, .ref Mt, .int (nI tp), .int (nI (max_6 + 1)), .int (-1), .ref Mrr, .ref Mrh, .ref Mrc, .int (nI rh), .int (nI rc), .ref Mn, .ref Mf, .ref Mr, .ref Mh, .int zhp, .int zcc, .ref Ma, .ref Mas, .ref Msn, .ref Mac, .ref Mat])), (Mt, .inl (g 0, 160, .inl fmt))] H := ⟨hP2, hD2⟩
      have hS := hS2; clear hP2 hD2 hS2; have hP := hPD.1; have hD := hPD.2; clear hPD
      refine W.widen (k := 0) (n := 0) (Nat.le_of_ble_eq_true rfl) (Nat.le_of_ble_eq_true rfl) ?_
      refine lv_if_eq (tgt := 74) hx hb dX7_number_42 (by decide) (fun cb_24 => ?_) (fun cb_24 => ?_)
      · skip
        have hq_25 : ¬ (48 ≤ y_22 ∧ y_22 ≤ 57) := b01_0.mp cb_24
        refine lv_aload_n hx hb dX7_number_74 rfl (lv_at hl 2 rfl) ?_
        refine ky_Vi (As := []) (rest := []) ⟨hx, hb, hml, hown, hts⟩ ⟨hK, hN⟩ hZ hP hD hS hA [0, 1] [] (wc := [(Mm, .inr (7, [.int zth, .ref Mt, .int (nI tp), .int (nI (max_6 + 1)), .int (-1), .ref Mrr, .ref Mrh, .ref Mrc, .int (nI rh), .int (nI rc), .ref Mn, .ref Mf, .ref Mr, .ref Mh, .int zhp, .int zcc, .ref Ma, .ref Mas, .ref Msn, .ref Mac, .ref Mat])), (Mt, .inl (g 0, 160, .inl fmt))]) (wr := []) rfl rfl rfl rfl (by decide) (k_X7_here l D g H.size Mm zth Mt tp (max_6 + 1) (-1) Mrr Mrh Mrc rh rc Mn Mf Mr Mh zhp zcc Ma Mas Msn Mac Mat fmt (show tp ≤ 160 by omega) (show (max_6 + 1) ≤ 1000 by omega)) (cwV 0 hts gX7_number_X7_here rfl rfl rfl (by decide +kernel) ⟨(Nat.le_of_ble_eq_true rfl), (Nat.le_of_ble_eq_true rfl)⟩) 0 7 rfl rfl rfl rfl hl.1 rfl (Nat.le_of_ble_eq_true rfl) dX7_number_75 ⟨(Nat.le_of_ble_eq_true rfl), (Nat.le_of_ble_eq_true rfl)⟩ (fun r_26 u H locs hw hP2 hD2 hS2 => ?_)
        clear hP hD hS
        obtain ⟨rfl, rfl⟩ := hw
        have hPD : PD D A [(Mm, .inr (7, [.int zth, .ref Mt, .int (nI tp), .int (nI (max_6 + 1)), .int (-1), .ref Mrr, .ref Mrh, .ref Mrc, .int (nI rh), .int (nI rc), .ref Mn, .ref Mf, .ref Mr, .ref Mh, .int zhp, .int zcc, .ref Ma, .ref Mas, .ref Msn, .ref Mac, .ref Mat])), (Mt, .inl (g 0, 160, .inl fmt))] H := ⟨hP2, hD2⟩
        have hS := hS2; clear hP2 hD2 hS2; have hP := hPD.1; have hD := hPD.2; clear hPD
        refine W.widen (k := 0) (n := 0) (Nat.le_of_ble_eq_true rfl) (Nat.le_of_ble_eq_true rfl) ?_
        refine lv_eqi (y := y_22) hey_22.symm ?_
        refine ky_Si (As := [.int y_22]) (rest := []) ⟨hx, hb, hml, hown, hts⟩ ⟨hK, hN⟩ hZ hP hD hS hA [] [0, 1] (wc := []) (wr := [(Mm, .inr (7, [.int zth, .ref Mt, .int (nI tp), .int (nI (max_6 + 1)), .int (-1), .ref Mrr, .ref Mrh, .ref Mrc, .int (nI rh), .int (nI rc), .ref Mn, .ref Mf, .ref Mr, .ref Mh, .int zhp, .int zcc, .ref Ma, .ref Mas, .ref Msn, .ref Mac, .ref Mat])), (Mt, .inl (g 0, 160, .inl fmt))]) rfl rfl rfl rfl (by decide) (k_X7_isDigit l D g H.size y_22) (va_cwS 1 hts gX7_number_X7_isDigit rfl rfl rfl (by decide +kernel) ⟨(Nat.le_of_ble_eq_true rfl), (Nat.le_of_ble_eq_true rfl)⟩) rfl hl.1 rfl (Nat.le_of_ble_eq_true rfl) dX7_number_78 ⟨(Nat.le_of_ble_eq_true rfl), (Nat.le_of_ble_eq_true rfl)⟩ (fun r_27 u H locs hw hP2 hD2 hS2 => ?_)
        clear hP hD hS
        obtain ⟨rfl, rfl⟩ := hw
        have hPD : PD D A [(Mm, .inr (7, [.int zth, .ref Mt, .int (nI tp), .int (nI (max_6 + 1)), .int (-1), .ref Mrr, .ref Mrh, .ref Mrc, .int (nI rh), .int (nI rc), .ref Mn, .ref Mf, .ref Mr, .ref Mh, .int zhp, .int zcc, .ref Ma, .ref Mas, .ref Msn, .ref Mac, .ref Mat])), (Mt, .inl (g 0, 160, .inl fmt))] H := ⟨hP2, hD2⟩
        have hS := hS2; clear hP2 hD2 hS2; have hP := hPD.1; have hD := hPD.2; clear hPD
        refine W.widen (k := 0) (n := 0) (Nat.le_of_ble_eq_true rfl) (Nat.le_of_ble_eq_true rfl) ?_
        refine lv_if_eq (tgt := 91) hx hb dX7_number_81 (by decide) (fun cb_28 => ?_) (fun cb_28 => ?_)
        · skip
          have hq_29 : ¬ (48 ≤ y_22 ∧ y_22 ≤ 57) := b01_0.mp cb_28
          refine lv_iload_n hx hb dX7_number_91 rfl (lv_at hl 1 rfl) ?_
          refine lv_iload_n hx hb dX7_number_92 rfl (lv_at hl 3 rfl) ?_
          refine lv_iload_n hx hb dX7_number_93 rfl (lv_at hl 4 rfl) ?_
          refine ky_Si (As := [.int (nI ((0 + j_13) - 48)), .int (nI lo), .int zhi]) (rest := []) ⟨hx, hb, hml, hown, hts⟩ ⟨hK, hN⟩ hZ hP hD hS hA [] [0, 1] (wc := []) (wr := [(Mm, .inr (7, [.int zth, .ref Mt, .int (nI tp), .int (nI (max_6 + 1)), .int (-1), .ref Mrr, .ref Mrh, .ref Mrc, .int (nI rh), .int (nI rc), .ref Mn, .ref Mf, .ref Mr, .ref Mh, .int zhp, .int zcc, .ref Ma, .ref Mas, .ref Msn, .ref Mac, .ref Mat])), (Mt, .inl (g 0, 160, .inl fmt))]) rfl rfl rfl rfl (by decide) (k_X7_in l D g H.size (nI ((0 + j_13) - 48)) (nI lo) zhi) (va_cwS 3 hts gX7_number_X7_in rfl rfl rfl (by decide +kernel) ⟨(Nat.le_of_ble_eq_true rfl), (Nat.le_of_ble_eq_true rfl)⟩) rfl hl.1 rfl (Nat.le_of_ble_eq_true rfl) dX7_number_94 ⟨(Nat.le_of_ble_eq_true rfl), (Nat.le_of_ble_eq_true rfl)⟩ (fun r_30 u H locs hw hP2 hD2 hS2 => ?_)
          clear hP hD hS
          obtain ⟨rfl, rfl⟩ := hw
          have hPD : PD D A [(Mm, .inr (7, [.int zth, .ref Mt, .int (nI tp), .int (nI (max_6 + 1)), .int (-1), .ref Mrr, .ref Mrh, .ref Mrc, .int (nI rh), .int (nI rc), .ref Mn, .ref Mf, .ref Mr, .ref Mh, .int zhp, .int zcc, .ref Ma, .ref Mas, .ref Msn, .ref Mac, .ref Mat])), (Mt, .inl (g 0, 160, .inl fmt))] H := ⟨hP2, hD2⟩
          have hS := hS2; clear hP2 hD2 hS2; have hP := hPD.1; have hD := hPD.2; clear hPD
          refine W.widen (k := 0) (n := 0) (Nat.le_of_ble_eq_true rfl) (Nat.le_of_ble_eq_true rfl) ?_
          refine lv_if_ne (tgt := 114) hx hb dX7_number_97 (by decide) (fun cb_31 => ?_) (fun cb_31 => ?_)
          · skip
            have hq_32 : (nI lo) ≤ (nI ((0 + j_13) - 48)) ∧ (nI ((0 + j_13) - 48)) ≤ zhi := b01_1.mp cb_31
            have hq_33 := hq_32.1; have hq_34 := hq_32.2
            refine lv_iload_n hx hb dX7_number_114 rfl (lv_at hl 1 rfl) ?_
            have hP9 := hP; have hD9 := hD
            subst hQ
            refine W.widen (k := 0) (n := 0) (Nat.le_of_ble_eq_true rfl) (Nat.le_of_ble_eq_true rfl) ?_
            exact W.iret (v := (nI ((0 + j_13) - 48))) hx hb hr (fun tS htS _ => ⟨⟨_, _, rfl, ⟨(max_6 + 1), (-1), (0 + j_13) - 48, rfl, rfl, (show (0 + j_13) - 48 ≤ 99 by omega), (show (max_6 + 1) ≤ tp by omega), (show ma ≤ (max_6 + 1) by omega)⟩, by rw [htS]; exact hP9, hD9⟩, hS.F htS⟩) hS.2.2 dX7_number_115
          · skip
            have hq_35 : ¬ ((nI lo) ≤ (nI ((0 + j_13) - 48)) ∧ (nI ((0 + j_13) - 48)) ≤ zhi) := b01_0.mp cb_31
            refine lv_aload_n hx hb dX7_number_100 rfl (lv_at hl 2 rfl) ?_
            refine lv_dup hx hb dX7_number_101 rfl ?_
            refine va_get (D := D) (ci := 7) (v := .int (nI (max_6 + 1))) (C := RX7) (T := TX7) (N := 21) hx hb hts iX7 hown hK hP 0 rfl rfl 3 (by decide) f64 (fun _ h9 => h9) rfl dX7_number_102 ?_
            refine lv_iconst (v := 1) hx hb dX7_number_105 (by decide) ?_
            refine lv_isub hx hb dX7_number_106 ?_
            refine lv_eqi (y := (nI ((max_6 + 1) - 1))) (pk_sub (show 1 ≤ max_6 + 1 by omega)) ?_
            refine va_put (D := D) (ci := 7) (v := .int (nI ((max_6 + 1) - 1))) (ty := .int) (C := RX7) (T := TX7) (N := 21) hx hb hts iX7 tyX7 tyX7_ok nmX7 hown hK hP hD hS 0 rfl rfl 3 (by decide) f64 (fun _ h9 => h9) rfl (by decide +kernel) (rfl) (rfl) (Nat.le_of_ble_eq_true rfl) dX7_number_107 (fun H locs hP2 hD2 hS2 => ?_)
            clear hP hD hS
            have hPD : PD D A [(Mm, .inr (7, [.int zth, .ref Mt, .int (nI tp), .int (nI ((max_6 + 1) - 1)), .int (-1), .ref Mrr, .ref Mrh, .ref Mrc, .int (nI rh), .int (nI rc), .ref Mn, .ref Mf, .ref Mr, .ref Mh, .int zhp, .int zcc, .ref Ma, .ref Mas, .ref Msn, .ref Mac, .ref Mat])), (Mt, .inl (g 0, 160, .inl fmt))] H := ⟨hP2, hD2⟩
            have hS := hS2; clear hP2 hD2 hS2; have hP := hPD.1; have hD := hPD.2; clear hPD
            refine lv_aload_n hx hb dX7_number_110 rfl (lv_at hl 2 rfl) ?_
            refine ky_Vv (As := []) (rest := []) ⟨hx, hb, hml, hown, hts⟩ ⟨hK, hN⟩ hZ hP hD hS hA [0] [1] (wc := [(Mm, .inr (7, [.int zth, .ref Mt, .int (nI tp), .int (nI ((max_6 + 1) - 1)), .int (-1), .ref Mrr, .ref Mrh, .ref Mrc, .int (nI rh), .int (nI rc), .ref Mn, .ref Mf, .ref Mr, .ref Mh, .int zhp, .int zcc, .ref Ma, .ref Mas, .ref Msn, .ref Mac, .ref Mat]))]) (wr := [(Mt, .inl (g 0, 160, .inl fmt))]) rfl rfl rfl rfl (by decide) (k_X7_bad l D g H.size Mm zth Mt tp ((max_6 + 1) - 1) (-1) Mrr Mrh Mrc rh rc Mn Mf Mr Mh zhp zcc Ma Mas Msn Mac Mat) (cwV 0 hts gX7_number_X7_bad rfl rfl rfl (by decide +kernel) ⟨(Nat.le_of_ble_eq_true rfl), (Nat.le_of_ble_eq_true rfl)⟩) 0 7 rfl rfl rfl rfl hl.1 rfl (Nat.le_of_ble_eq_true rfl) dX7_number_111 ⟨(Nat.le_of_ble_eq_true rfl), (Nat.le_of_ble_eq_true rfl)⟩ (fun u H locs hw hP2 hD2 hS2 => ?_)
            clear hP hD hS
            obtain ⟨zwrx_37, rfl⟩ := hw
            have hPD : PD D A [(Mt, .inl (g 0, 160, .inl fmt)), (Mm, .inr (7, [.int zth, .ref Mt, .int (nI tp), .int (nI ((max_6 + 1) - 1)), .int zwrx_37, .ref Mrr, .ref Mrh, .ref Mrc, .int (nI rh), .int (nI rc), .ref Mn, .ref Mf, .ref Mr, .ref Mh, .int zhp, .int zcc, .ref Ma, .ref Mas, .ref Msn, .ref Mac, .ref Mat]))] H := ⟨hP2, hD2⟩
            have hS := hS2; clear hP2 hD2 hS2; have hP := hPD.1; have hD := hPD.2; clear hPD
            refine W.widen (k := 0) (n := 0) (Nat.le_of_ble_eq_true rfl) (Nat.le_of_ble_eq_true rfl) ?_
            refine lv_iload_n hx hb dX7_number_114 rfl (lv_at hl 1 rfl) ?_
            have hPD9 : PD D A [(Mm, .inr (7, [.int zth, .ref Mt, .int (nI tp), .int (nI ((max_6 + 1) - 1)), .int zwrx_37, .ref Mrr, .ref Mrh, .ref Mrc, .int (nI rh), .int (nI rc), .ref Mn, .ref Mf, .ref Mr, .ref Mh, .int zhp, .int zcc, .ref Ma, .ref Mas, .ref Msn, .ref Mac, .ref Mat])), (Mt, .inl (g 0, 160, .inl fmt))] H := ⟨hP.sub [1, 0] rfl, hD.sub [1, 0] (by decide) rfl⟩
            have hP9 := hPD9.1; have hD9 := hPD9.2
            subst hQ
            refine W.widen (k := 0) (n := 0) (Nat.le_of_ble_eq_true rfl) (Nat.le_of_ble_eq_true rfl) ?_
            exact W.iret (v := (nI ((0 + j_13) - 48))) hx hb hr (fun tS htS _ => ⟨⟨_, _, rfl, ⟨((max_6 + 1) - 1), zwrx_37, (0 + j_13) - 48, rfl, rfl, (show (0 + j_13) - 48 ≤ 99 by omega), (show ((max_6 + 1) - 1) ≤ tp by omega), (show ma ≤ ((max_6 + 1) - 1) by omega)⟩, by rw [htS]; exact hP9, hD9⟩, hS.F htS⟩) hS.2.2 dX7_number_115
        · skip
          have hq_38 : 48 ≤ y_22 ∧ y_22 ≤ 57 := b01_1.mp cb_28
          have hPq_42 := hP; have hDq_42 := hD; have hSq_42 := hS; have hlq_42 := hl; clear hP hD hS hl
          obtain ⟨j_39, hl_40, hu_41, rfl⟩ := rg (L := 48) (U := 57) rfl rfl (show 48 < 2 ^ 31 by omega) (show 57 < 2 ^ 31 by omega) hq_38
          have hP := hPq_42; have hD := hDq_42; have hS := hSq_42; have hl := hlq_42; clear hPq_42 hDq_42 hSq_42 hlq_42
          have hlt_43 : (max_6 + 1) < tp := (fun q9 => here_lt hey_22 q9) (m1_ne (show j_39 < 2 ^ 31 by omega))
          refine lv_aload_n hx hb dX7_number_84 rfl (lv_at hl 2 rfl) ?_
          refine ky_Vv (As := []) (rest := []) ⟨hx, hb, hml, hown, hts⟩ ⟨hK, hN⟩ hZ hP hD hS hA [0] [1] (wc := [(Mm, .inr (7, [.int zth, .ref Mt, .int (nI tp), .int (nI (max_6 + 1)), .int (-1), .ref Mrr, .ref Mrh, .ref Mrc, .int (nI rh), .int (nI rc), .ref Mn, .ref Mf, .ref Mr, .ref Mh, .int zhp, .int zcc, .ref Ma, .ref Mas, .ref Msn, .ref Mac, .ref Mat]))]) (wr := [(Mt, .inl (g 0, 160, .inl fmt))]) rfl rfl rfl rfl (by decide) (k_X7_bad l D g H.size Mm zth Mt tp (max_6 + 1) (-1) Mrr Mrh Mrc rh rc Mn Mf Mr Mh zhp zcc Ma Mas Msn Mac Mat) (cwV 0 hts gX7_number_X7_bad rfl rfl rfl (by decide +kernel) ⟨(Nat.le_of_ble_eq_true rfl), (Nat.le_of_ble_eq_true rfl)⟩) 0 7 rfl rfl rfl rfl hl.1 rfl (Nat.le_of_ble_eq_true rfl) dX7_number_85 ⟨(Nat.le_of_ble_eq_true rfl), (Nat.le_of_ble_eq_true rfl)⟩ (fun u H locs hw hP2 hD2 hS2 => ?_)
          clear hP hD hS
          obtain ⟨zwrx_45, rfl⟩ := hw
          have hPD : PD D A [(Mt, .inl (g 0, 160, .inl fmt)), (Mm, .inr (7, [.int zth, .ref Mt, .int (nI tp), .int (nI (max_6 + 1)), .int zwrx_45, .ref Mrr, .ref Mrh, .ref Mrc, .int (nI rh), .int (nI rc), .ref Mn, .ref Mf, .ref Mr, .ref Mh, .int zhp, .int zcc, .ref Ma, .ref Mas, .ref Msn, .ref Mac, .ref Mat]))] H := ⟨hP2, hD2⟩
          have hS := hS2; clear hP2 hD2 hS2; have hP := hPD.1; have hD := hPD.2; clear hPD
          refine W.widen (k := 0) (n := 0) (Nat.le_of_ble_eq_true rfl) (Nat.le_of_ble_eq_true rfl) ?_
          refine lv_goto (tgt := 114) hx hb dX7_number_88 (by decide) ?_
          refine lv_iload_n hx hb dX7_number_114 rfl (lv_at hl 1 rfl) ?_
          have hPD9 : PD D A [(Mm, .inr (7, [.int zth, .ref Mt, .int (nI tp), .int (nI (max_6 + 1)), .int zwrx_45, .ref Mrr, .ref Mrh, .ref Mrc, .int (nI rh), .int (nI rc), .ref Mn, .ref Mf, .ref Mr, .ref Mh, .int zhp, .int zcc, .ref Ma, .ref Mas, .ref Msn, .ref Mac, .ref Mat])), (Mt, .inl (g 0, 160, .inl fmt))] H := ⟨hP.sub [1, 0] rfl, hD.sub [1, 0] (by decide) rfl⟩
          have hP9 := hPD9.1; have hD9 := hPD9.2
          subst hQ
          refine W.widen (k := 0) (n := 0) (Nat.le_of_ble_eq_true rfl) (Nat.le_of_ble_eq_true rfl) ?_
          exact W.iret (v := (nI ((0 + j_13) - 48))) hx hb hr (fun tS htS _ => ⟨⟨_, _, rfl, ⟨(max_6 + 1), zwrx_45, (0 + j_13) - 48, rfl, rfl, (show (0 + j_13) - 48 ≤ 99 by omega), (show (max_6 + 1) ≤ tp by omega), (show ma ≤ (max_6 + 1) by omega)⟩, by rw [htS]; exact hP9, hD9⟩, hS.F htS⟩) hS.2.2 dX7_number_115
      · skip
        have hq_46 : 48 ≤ y_22 ∧ y_22 ≤ 57 := b01_1.mp cb_24
        have hPq_50 := hP; have hDq_50 := hD; have hSq_50 := hS; have hlq_50 := hl; clear hP hD hS hl
        obtain ⟨j_47, hl_48, hu_49, rfl⟩ := rg (L := 48) (U := 57) rfl rfl (show 48 < 2 ^ 31 by omega) (show 57 < 2 ^ 31 by omega) hq_46
        have hP := hPq_50; have hD := hDq_50; have hS := hSq_50; have hl := hlq_50; clear hPq_50 hDq_50 hSq_50 hlq_50
        have hlt_51 : (max_6 + 1) < tp := (fun q9 => here_lt hey_22 q9) (m1_ne (show j_47 < 2 ^ 31 by omega))
        refine lv_bipush (v := 10) hx hb dX7_number_45 (by decide) ?_
        refine lv_iload_n hx hb dX7_number_47 rfl (lv_at hl 1 rfl) ?_
        refine lv_imul hx hb dX7_number_48 ?_
        refine lv_eqi (y := (nI (10 * ((0 + j_13) - 48)))) (pk_mul (10) ((0 + j_13) - 48)) ?_
        refine lv_aload_n hx hb dX7_number_49 rfl (lv_at hl 2 rfl) ?_
        refine ky_Vi (As := []) (rest := [.int (nI (10 * ((0 + j_13) - 48)))]) ⟨hx, hb, hml, hown, hts⟩ ⟨hK, hN⟩ hZ hP hD hS hA [0, 1] [] (wc := [(Mm, .inr (7, [.int zth, .ref Mt, .int (nI tp), .int (nI (max_6 + 1)), .int (-1), .ref Mrr, .ref Mrh, .ref Mrc, .int (nI rh), .int (nI rc), .ref Mn, .ref Mf, .ref Mr, .ref Mh, .int zhp, .int zcc, .ref Ma, .ref Mas, .ref Msn, .ref Mac, .ref Mat])), (Mt, .inl (g 0, 160, .inl fmt))]) (wr := []) rfl rfl rfl rfl (by decide) (k_X7_here l D g H.size Mm zth Mt tp (max_6 + 1) (-1) Mrr Mrh Mrc rh rc Mn Mf Mr Mh zhp zcc Ma Mas Msn Mac Mat fmt (show tp ≤ 160 by omega) (show (max_6 + 1) ≤ 1000 by omega)) (cwV 0 hts gX7_number_X7_here rfl rfl rfl (by decide +kernel) ⟨(Nat.le_of_ble_eq_true rfl), (Nat.le_of_ble_eq_true rfl)⟩) 0 7 rfl rfl rfl rfl hl.1 rfl (Nat.le_of_ble_eq_true rfl) dX7_number_50 ⟨(Nat.le_of_ble_eq_true rfl), (Nat.le_of_ble_eq_true rfl)⟩ (fun r_52 u H locs hw hP2 hD2 hS2 => ?_)
        clear hP hD hS
        obtain ⟨rfl, rfl⟩ := hw
        have hPD : PD D A [(Mm, .inr (7, [.int zth, .ref Mt, .int (nI tp), .int (nI (max_6 + 1)), .int (-1), .ref Mrr, .ref Mrh, .ref Mrc, .int (nI rh), .int (nI rc), .ref Mn, .ref Mf, .ref Mr, .ref Mh, .int zhp, .int zcc, .ref Ma, .ref Mas, .ref Msn, .ref Mac, .ref Mat])), (Mt, .inl (g 0, 160, .inl fmt))] H := ⟨hP2, hD2⟩
        have hS := hS2; clear hP2 hD2 hS2; have hP := hPD.1; have hD := hPD.2; clear hPD
        refine W.widen (k := 0) (n := 0) (Nat.le_of_ble_eq_true rfl) (Nat.le_of_ble_eq_true rfl) ?_
        refine lv_eqi (y := (nI j_47)) hey_22.symm ?_
        refine lv_iadd hx hb dX7_number_53 ?_
        refine lv_eqi (y := (nI (10 * ((0 + j_13) - 48) + j_47))) (nI_add (10 * ((0 + j_13) - 48)) (j_47)) ?_
        refine lv_bipush (v := 48) hx hb dX7_number_54 (by decide) ?_
        refine lv_isub hx hb dX7_number_56 ?_
        refine lv_eqi (y := (nI ((10 * ((0 + j_13) - 48) + j_47) - 48))) (pk_sub (show 48 ≤ 10 * ((0 + j_13) - 48) + j_47 by omega)) ?_
        refine lv_istore_n (lv' := [(3, .int (nI ((10 * ((0 + j_13) - 48) + j_47) - 48))), (4, .int 1), (0, .ref Mm), (1, .int (nI lo)), (2, .int zhi)]) hx hb dX7_number_57 rfl hl (by decide) rfl (fun ls hl => ?_)
        refine lv_aload_n hx hb dX7_number_58 rfl (lv_at hl 2 rfl) ?_
        refine lv_dup hx hb dX7_number_59 rfl ?_
        refine va_get (D := D) (ci := 7) (v := .int (nI (max_6 + 1))) (C := RX7) (T := TX7) (N := 21) hx hb hts iX7 hown hK hP 0 rfl rfl 3 (by decide) f64 (fun _ h9 => h9) rfl dX7_number_60 ?_
        refine lv_iconst (v := 1) hx hb dX7_number_63 (by decide) ?_
        refine lv_iadd hx hb dX7_number_64 ?_
        refine lv_eqi (y := (nI (max_6 + 1 + 1))) (nI_add (max_6 + 1) (1)) ?_
        refine va_put (D := D) (ci := 7) (v := .int (nI (max_6 + 1 + 1))) (ty := .int) (C := RX7) (T := TX7) (N := 21) hx hb hts iX7 tyX7 tyX7_ok nmX7 hown hK hP hD hS 0 rfl rfl 3 (by decide) f64 (fun _ h9 => h9) rfl (by decide +kernel) (rfl) (rfl) (Nat.le_of_ble_eq_true rfl) dX7_number_65 (fun H locs hP2 hD2 hS2 => ?_)
        clear hP hD hS
        have hPD : PD D A [(Mm, .inr (7, [.int zth, .ref Mt, .int (nI tp), .int (nI (max_6 + 1 + 1)), .int (-1), .ref Mrr, .ref Mrh, .ref Mrc, .int (nI rh), .int (nI rc), .ref Mn, .ref Mf, .ref Mr, .ref Mh, .int zhp, .int zcc, .ref Ma, .ref Mas, .ref Msn, .ref Mac, .ref Mat])), (Mt, .inl (g 0, 160, .inl fmt))] H := ⟨hP2, hD2⟩
        have hS := hS2; clear hP2 hD2 hS2; have hP := hPD.1; have hD := hPD.2; clear hPD
        refine lv_iinc (v := 2) (lv' := [(4, .int 2), (3, .int (nI ((10 * ((0 + j_13) - 48) + j_47) - 48))), (0, .ref Mm), (1, .int (nI lo)), (2, .int zhi)]) hx hb dX7_number_68 hl (k := 1) rfl (by decide) (by decide) rfl (fun ls hl => ?_)
        refine lv_goto (tgt := 29) hx hb dX7_number_71 (by decide) ?_
        refine lv_iload hx hb dX7_number_29 (lv_at hl 0 rfl) ?_
        refine lv_iconst (v := 2) hx hb dX7_number_31 (by decide) ?_
        refine lv_icmp_ge (tgt := 74) hx hb dX7_number_32 (by decide) (fun _ => ?_) (fun cb => absurd (by decide) cb)
        refine lv_aload_n hx hb dX7_number_74 rfl (lv_at hl 2 rfl) ?_
        refine ky_Vi (As := []) (rest := []) ⟨hx, hb, hml, hown, hts⟩ ⟨hK, hN⟩ hZ hP hD hS hA [0, 1] [] (wc := [(Mm, .inr (7, [.int zth, .ref Mt, .int (nI tp), .int (nI (max_6 + 1 + 1)), .int (-1), .ref Mrr, .ref Mrh, .ref Mrc, .int (nI rh), .int (nI rc), .ref Mn, .ref Mf, .ref Mr, .ref Mh, .int zhp, .int zcc, .ref Ma, .ref Mas, .ref Msn, .ref Mac, .ref Mat])), (Mt, .inl (g 0, 160, .inl fmt))]) (wr := []) rfl rfl rfl rfl (by decide) (k_X7_here l D g H.size Mm zth Mt tp (max_6 + 1 + 1) (-1) Mrr Mrh Mrc rh rc Mn Mf Mr Mh zhp zcc Ma Mas Msn Mac Mat fmt (show tp ≤ 160 by omega) (show (max_6 + 1 + 1) ≤ 1000 by omega)) (cwV 0 hts gX7_number_X7_here rfl rfl rfl (by decide +kernel) ⟨(Nat.le_of_ble_eq_true rfl), (Nat.le_of_ble_eq_true rfl)⟩) 0 7 rfl rfl rfl rfl hl.1 rfl (Nat.le_of_ble_eq_true rfl) dX7_number_75 ⟨(Nat.le_of_ble_eq_true rfl), (Nat.le_of_ble_eq_true rfl)⟩ (fun r_53 u H locs hw hP2 hD2 hS2 => ?_)
        clear hP hD hS
        obtain ⟨rfl, rfl⟩ := hw
        have hPD : PD D A [(Mm, .inr (7, [.int zth, .ref Mt, .int (nI tp), .int (nI (max_6 + 1 + 1)), .int (-1), .ref Mrr, .ref Mrh, .ref Mrc, .int (nI rh), .int (nI rc), .ref Mn, .ref Mf, .ref Mr, .ref Mh, .int zhp, .int zcc, .ref Ma, .ref Mas, .ref Msn, .ref Mac, .ref Mat])), (Mt, .inl (g 0, 160, .inl fmt))] H := ⟨hP2, hD2⟩
        have hS := hS2; clear hP2 hD2 hS2; have hP := hPD.1; have hD := hPD.2; clear hPD
        refine W.widen (k := 0) (n := 0) (Nat.le_of_ble_eq_true rfl) (Nat.le_of_ble_eq_true rfl) ?_
        refine lv_topi (fun y_54 hey_54 => ?_)
        refine ky_Si (As := [.int y_54]) (rest := []) ⟨hx, hb, hml, hown, hts⟩ ⟨hK, hN⟩ hZ hP hD hS hA [] [0, 1] (wc := []) (wr := [(Mm, .inr (7, [.int zth, .ref Mt, .int (nI tp), .int (nI (max_6 + 1 + 1)), .int (-1), .ref Mrr, .ref Mrh, .ref Mrc, .int (nI rh), .int (nI rc), .ref Mn, .ref Mf, .ref Mr, .ref Mh, .int zhp, .int zcc, .ref Ma, .ref Mas, .ref Msn, .ref Mac, .ref Mat])), (Mt, .inl (g 0, 160, .inl fmt))]) rfl rfl rfl rfl (by decide) (k_X7_isDigit l D g H.size y_54) (va_cwS 1 hts gX7_number_X7_isDigit rfl rfl rfl (by decide +kernel) ⟨(Nat.le_of_ble_eq_true rfl), (Nat.le_of_ble_eq_true rfl)⟩) rfl hl.1 rfl (Nat.le_of_ble_eq_true rfl) dX7_number_78 ⟨(Nat.le_of_ble_eq_true rfl), (Nat.le_of_ble_eq_true rfl)⟩ (fun r_55 u H locs hw hP2 hD2 hS2 => ?_)
        clear hP hD hS
        obtain ⟨rfl, rfl⟩ := hw
        have hPD : PD D A [(Mm, .inr (7, [.int zth, .ref Mt, .int (nI tp), .int (nI (max_6 + 1 + 1)), .int (-1), .ref Mrr, .ref Mrh, .ref Mrc, .int (nI rh), .int (nI rc), .ref Mn, .ref Mf, .ref Mr, .ref Mh, .int zhp, .int zcc, .ref Ma, .ref Mas, .ref Msn, .ref Mac, .ref Mat])), (Mt, .inl (g 0, 160, .inl fmt))] H := ⟨hP2, hD2⟩
        have hS := hS2; clear hP2 hD2 hS2; have hP := hPD.1; have hD := hPD.2; clear hPD
        refine W.widen (k := 0) (n := 0) (Nat.le_of_ble_eq_true rfl) (Nat.le_of_ble_eq_true rfl) ?_
        refine lv_if_eq (tgt := 91) hx hb dX7_number_81 (by decide) (fun cb_56 => ?_) (fun cb_56 => ?_)
        · skip
          have hq_57 : ¬ (48 ≤ y_54 ∧ y_54 ≤ 57) := b01_0.mp cb_56
          refine lv_iload_n hx hb dX7_number_91 rfl (lv_at hl 1 rfl) ?_
          refine lv_iload_n hx hb dX7_number_92 rfl (lv_at hl 3 rfl) ?_
          refine lv_iload_n hx hb dX7_number_93 rfl (lv_at hl 4 rfl) ?_
          refine ky_Si (As := [.int (nI ((10 * ((0 + j_13) - 48) + j_47) - 48)), .int (nI lo), .int zhi]) (rest := []) ⟨hx, hb, hml, hown, hts⟩ ⟨hK, hN⟩ hZ hP hD hS hA [] [0, 1] (wc := []) (wr := [(Mm, .inr (7, [.int zth, .ref Mt, .int (nI tp), .int (nI (max_6 + 1 + 1)), .int (-1), .ref Mrr, .ref Mrh, .ref Mrc, .int (nI rh), .int (nI rc), .ref Mn, .ref Mf, .ref Mr, .ref Mh, .int zhp, .int zcc, .ref Ma, .ref Mas, .ref Msn, .ref Mac, .ref Mat])), (Mt, .inl (g 0, 160, .inl fmt))]) rfl rfl rfl rfl (by decide) (k_X7_in l D g H.size (nI ((10 * ((0 + j_13) - 48) + j_47) - 48)) (nI lo) zhi) (va_cwS 3 hts gX7_number_X7_in rfl rfl rfl (by decide +kernel) ⟨(Nat.le_of_ble_eq_true rfl), (Nat.le_of_ble_eq_true rfl)⟩) rfl hl.1 rfl (Nat.le_of_ble_eq_true rfl) dX7_number_94 ⟨(Nat.le_of_ble_eq_true rfl), (Nat.le_of_ble_eq_true rfl)⟩ (fun r_58 u H locs hw hP2 hD2 hS2 => ?_)
          clear hP hD hS
          obtain ⟨rfl, rfl⟩ := hw
          have hPD : PD D A [(Mm, .inr (7, [.int zth, .ref Mt, .int (nI tp), .int (nI (max_6 + 1 + 1)), .int (-1), .ref Mrr, .ref Mrh, .ref Mrc, .int (nI rh), .int (nI rc), .ref Mn, .ref Mf, .ref Mr, .ref Mh, .int zhp, .int zcc, .ref Ma, .ref Mas, .ref Msn, .ref Mac, .ref Mat])), (Mt, .inl (g 0, 160, .inl fmt))] H := ⟨hP2, hD2⟩
          have hS := hS2; clear hP2 hD2 hS2; have hP := hPD.1; have hD := hPD.2; clear hPD
          refine W.widen (k := 0) (n := 0) (Nat.le_of_ble_eq_true rfl) (Nat.le_of_ble_eq_true rfl) ?_
          refine lv_if_ne (tgt := 114) hx hb dX7_number_97 (by decide) (fun cb_59 => ?_) (fun cb_59 => ?_)
          · skip
            have hq_60 : (nI lo) ≤ (nI ((10 * ((0 + j_13) - 48) + j_47) - 48)) ∧ (nI ((10 * ((0 + j_13) - 48) + j_47) - 48)) ≤ zhi := b01_1.mp cb_59
            have hq_61 := hq_60.1; have hq_62 := hq_60.2
            refine lv_iload_n hx hb dX7_number_114 rfl (lv_at hl 1 rfl) ?_
            have hP9 := hP; have hD9 := hD
            subst hQ
            refine W.widen (k := 0) (n := 0) (Nat.le_of_ble_eq_true rfl) (Nat.le_of_ble_eq_true rfl) ?_
            exact W.iret (v := (nI ((10 * ((0 + j_13) - 48) + j_47) - 48))) hx hb hr (fun tS htS _ => ⟨⟨_, _, rfl, ⟨(max_6 + 1 + 1), (-1), (10 * ((0 + j_13) - 48) + j_47) - 48, rfl, rfl, (show (10 * ((0 + j_13) - 48) + j_47) - 48 ≤ 99 by omega), (show (max_6 + 1 + 1) ≤ tp by omega), (show ma ≤ (max_6 + 1 + 1) by omega)⟩, by rw [htS]; exact hP9, hD9⟩, hS.F htS⟩) hS.2.2 dX7_number_115
          · skip
            have hq_63 : ¬ ((nI lo) ≤ (nI ((10 * ((0 + j_13) - 48) + j_47) - 48)) ∧ (nI ((10 * ((0 + j_13) - 48) + j_47) - 48)) ≤ zhi) := b01_0.mp cb_59
            refine lv_aload_n hx hb dX7_number_100 rfl (lv_at hl 2 rfl) ?_
            refine lv_dup hx hb dX7_number_101 rfl ?_
            refine va_get (D := D) (ci := 7) (v := .int (nI (max_6 + 1 + 1))) (C := RX7) (T := TX7) (N := 21) hx hb hts iX7 hown hK hP 0 rfl rfl 3 (by decide) f64 (fun _ h9 => h9) rfl dX7_number_102 ?_
            refine lv_iconst (v := 1) hx hb dX7_number_105 (by decide) ?_
            refine lv_isub hx hb dX7_number_106 ?_
            refine lv_eqi (y := (nI ((max_6 + 1 + 1) - 1))) (pk_sub (show 1 ≤ max_6 + 1 + 1 by omega)) ?_
            refine va_put (D := D) (ci := 7) (v := .int (nI ((max_6 + 1 + 1) - 1))) (ty := .int) (C := RX7) (T := TX7) (N := 21) hx hb hts iX7 tyX7 tyX7_ok nmX7 hown hK hP hD hS 0 rfl rfl 3 (by decide) f64 (fun _ h9 => h9) rfl (by decide +kernel) (rfl) (rfl) (Nat.le_of_ble_eq_true rfl) dX7_number_107 (fun H locs hP2 hD2 hS2 => ?_)
            clear hP hD hS
            have hPD : PD D A [(Mm, .inr (7, [.int zth, .ref Mt, .int (nI tp), .int (nI ((max_6 + 1 + 1) - 1)), .int (-1), .ref Mrr, .ref Mrh, .ref Mrc, .int (nI rh), .int (nI rc), .ref Mn, .ref Mf, .ref Mr, .ref Mh, .int zhp, .int zcc, .ref Ma, .ref Mas, .ref Msn, .ref Mac, .ref Mat])), (Mt, .inl (g 0, 160, .inl fmt))] H := ⟨hP2, hD2⟩
            have hS := hS2; clear hP2 hD2 hS2; have hP := hPD.1; have hD := hPD.2; clear hPD
            refine lv_aload_n hx hb dX7_number_110 rfl (lv_at hl 2 rfl) ?_
            refine ky_Vv (As := []) (rest := []) ⟨hx, hb, hml, hown, hts⟩ ⟨hK, hN⟩ hZ hP hD hS hA [0] [1] (wc := [(Mm, .inr (7, [.int zth, .ref Mt, .int (nI tp), .int (nI ((max_6 + 1 + 1) - 1)), .int (-1), .ref Mrr, .ref Mrh, .ref Mrc, .int (nI rh), .int (nI rc), .ref Mn, .ref Mf, .ref Mr, .ref Mh, .int zhp, .int zcc, .ref Ma, .ref Mas, .ref Msn, .ref Mac, .ref Mat]))]) (wr := [(Mt, .inl (g 0, 160, .inl fmt))]) rfl rfl rfl rfl (by decide) (k_X7_bad l D g H.size Mm zth Mt tp ((max_6 + 1 + 1) - 1) (-1) Mrr Mrh Mrc rh rc Mn Mf Mr Mh zhp zcc Ma Mas Msn Mac Mat) (cwV 0 hts gX7_number_X7_bad rfl rfl rfl (by decide +kernel) ⟨(Nat.le_of_ble_eq_true rfl), (Nat.le_of_ble_eq_true rfl)⟩) 0 7 rfl rfl rfl rfl hl.1 rfl (Nat.le_of_ble_eq_true rfl) dX7_number_111 ⟨(Nat.le_of_ble_eq_true rfl), (Nat.le_of_ble_eq_true rfl)⟩ (fun u H locs hw hP2 hD2 hS2 => ?_)
            clear hP hD hS
            obtain ⟨zwrx_65, rfl⟩ := hw
            have hPD : PD D A [(Mt, .inl (g 0, 160, .inl fmt)), (Mm, .inr (7, [.int zth, .ref Mt, .int (nI tp), .int (nI ((max_6 + 1 + 1) - 1)), .int zwrx_65, .ref Mrr, .ref Mrh, .ref Mrc, .int (nI rh), .int (nI rc), .ref Mn, .ref Mf, .ref Mr, .ref Mh, .int zhp, .int zcc, .ref Ma, .ref Mas, .ref Msn, .ref Mac, .ref Mat]))] H := ⟨hP2, hD2⟩
            have hS := hS2; clear hP2 hD2 hS2; have hP := hPD.1; have hD := hPD.2; clear hPD
            refine W.widen (k := 0) (n := 0) (Nat.le_of_ble_eq_true rfl) (Nat.le_of_ble_eq_true rfl) ?_
            refine lv_iload_n hx hb dX7_number_114 rfl (lv_at hl 1 rfl) ?_
            have hPD9 : PD D A [(Mm, .inr (7, [.int zth, .ref Mt, .int (nI tp), .int (nI ((max_6 + 1 + 1) - 1)), .int zwrx_65, .ref Mrr, .ref Mrh, .ref Mrc, .int (nI rh), .int (nI rc), .ref Mn, .ref Mf, .ref Mr, .ref Mh, .int zhp, .int zcc, .ref Ma, .ref Mas, .ref Msn, .ref Mac, .ref Mat])), (Mt, .inl (g 0, 160, .inl fmt))] H := ⟨hP.sub [1, 0] rfl, hD.sub [1, 0] (by decide) rfl⟩
            have hP9 := hPD9.1; have hD9 := hPD9.2
            subst hQ
            refine W.widen (k := 0) (n := 0) (Nat.le_of_ble_eq_true rfl) (Nat.le_of_ble_eq_true rfl) ?_
            exact W.iret (v := (nI ((10 * ((0 + j_13) - 48) + j_47) - 48))) hx hb hr (fun tS htS _ => ⟨⟨_, _, rfl, ⟨((max_6 + 1 + 1) - 1), zwrx_65, (10 * ((0 + j_13) - 48) + j_47) - 48, rfl, rfl, (show (10 * ((0 + j_13) - 48) + j_47) - 48 ≤ 99 by omega), (show ((max_6 + 1 + 1) - 1) ≤ tp by omega), (show ma ≤ ((max_6 + 1 + 1) - 1) by omega)⟩, by rw [htS]; exact hP9, hD9⟩, hS.F htS⟩) hS.2.2 dX7_number_115
        · skip
          have hq_66 : 48 ≤ y_54 ∧ y_54 ≤ 57 := b01_1.mp cb_56
          have hPq_70 := hP; have hDq_70 := hD; have hSq_70 := hS; have hlq_70 := hl; clear hP hD hS hl
          obtain ⟨j_67, hl_68, hu_69, rfl⟩ := rg (L := 48) (U := 57) rfl rfl (show 48 < 2 ^ 31 by omega) (show 57 < 2 ^ 31 by omega) hq_66
          have hP := hPq_70; have hD := hDq_70; have hS := hSq_70; have hl := hlq_70; clear hPq_70 hDq_70 hSq_70 hlq_70
          have hlt_71 : (max_6 + 1 + 1) < tp := (fun q9 => here_lt hey_54 q9) (m1_ne (show j_67 < 2 ^ 31 by omega))
          refine lv_aload_n hx hb dX7_number_84 rfl (lv_at hl 2 rfl) ?_
          refine ky_Vv (As := []) (rest := []) ⟨hx, hb, hml, hown, hts⟩ ⟨hK, hN⟩ hZ hP hD hS hA [0] [1] (wc := [(Mm, .inr (7, [.int zth, .ref Mt, .int (nI tp), .int (nI (max_6 + 1 + 1)), .int (-1), .ref Mrr, .ref Mrh, .ref Mrc, .int (nI rh), .int (nI rc), .ref Mn, .ref Mf, .ref Mr, .ref Mh, .int zhp, .int zcc, .ref Ma, .ref Mas, .ref Msn, .ref Mac, .ref Mat]))]) (wr := [(Mt, .inl (g 0, 160, .inl fmt))]) rfl rfl rfl rfl (by decide) (k_X7_bad l D g H.size Mm zth Mt tp (max_6 + 1 + 1) (-1) Mrr Mrh Mrc rh rc Mn Mf Mr Mh zhp zcc Ma Mas Msn Mac Mat) (cwV 0 hts gX7_number_X7_bad rfl rfl rfl (by decide +kernel) ⟨(Nat.le_of_ble_eq_true rfl), (Nat.le_of_ble_eq_true rfl)⟩) 0 7 rfl rfl rfl rfl hl.1 rfl (Nat.le_of_ble_eq_true rfl) dX7_number_85 ⟨(Nat.le_of_ble_eq_true rfl), (Nat.le_of_ble_eq_true rfl)⟩ (fun u H locs hw hP2 hD2 hS2 => ?_)
          clear hP hD hS
          obtain ⟨zwrx_73, rfl⟩ := hw
          have hPD : PD D A [(Mt, .inl (g 0, 160, .inl fmt)), (Mm, .inr (7, [.int zth, .ref Mt, .int (nI tp), .int (nI (max_6 + 1 + 1)), .int zwrx_73, .ref Mrr, .ref Mrh, .ref Mrc, .int (nI rh), .int (nI rc), .ref Mn, .ref Mf, .ref Mr, .ref Mh, .int zhp, .int zcc, .ref Ma, .ref Mas, .ref Msn, .ref Mac, .ref Mat]))] H := ⟨hP2, hD2⟩
          have hS := hS2; clear hP2 hD2 hS2; have hP := hPD.1; have hD := hPD.2; clear hPD
          refine W.widen (k := 0) (n := 0) (Nat.le_of_ble_eq_true rfl) (Nat.le_of_ble_eq_true rfl) ?_
          refine lv_goto (tgt := 114) hx hb dX7_number_88 (by decide) ?_
          refine lv_iload_n hx hb dX7_number_114 rfl (lv_at hl 1 rfl) ?_
          have hPD9 : PD D A [(Mm, .inr (7, [.int zth, .ref Mt, .int (nI tp), .int (nI (max_6 + 1 + 1)), .int zwrx_73, .ref Mrr, .ref Mrh, .ref Mrc, .int (nI rh), .int (nI rc), .ref Mn, .ref Mf, .ref Mr, .ref Mh, .int zhp, .int zcc, .ref Ma, .ref Mas, .ref Msn, .ref Mac, .ref Mat])), (Mt, .inl (g 0, 160, .inl fmt))] H := ⟨hP.sub [1, 0] rfl, hD.sub [1, 0] (by decide) rfl⟩
          have hP9 := hPD9.1; have hD9 := hPD9.2
          subst hQ
          refine W.widen (k := 0) (n := 0) (Nat.le_of_ble_eq_true rfl) (Nat.le_of_ble_eq_true rfl) ?_
          exact W.iret (v := (nI ((10 * ((0 + j_13) - 48) + j_47) - 48))) hx hb hr (fun tS htS _ => ⟨⟨_, _, rfl, ⟨(max_6 + 1 + 1), zwrx_73, (10 * ((0 + j_13) - 48) + j_47) - 48, rfl, rfl, (show (10 * ((0 + j_13) - 48) + j_47) - 48 ≤ 99 by omega), (show (max_6 + 1 + 1) ≤ tp by omega), (show ma ≤ (max_6 + 1 + 1) by omega)⟩, by rw [htS]; exact hP9, hD9⟩, hS.F htS⟩) hS.2.2 dX7_number_115
    · skip
      have hq_74 : ¬ (48 ≤ y_9 ∧ y_9 ≤ 57) := b01_0.mp cb_11
      refine lv_aload_n hx hb dX7_number_18 rfl (lv_at hl 0 rfl) ?_
      refine ky_Vv (As := []) (rest := []) ⟨hx, hb, hml, hown, hts⟩ ⟨hK, hN⟩ hZ hP hD hS hA [0] [1] (wc := [(Mm, .inr (7, [.int zth, .ref Mt, .int (nI tp), .int (nI max_6), .int (-1), .ref Mrr, .ref Mrh, .ref Mrc, .int (nI rh), .int (nI rc), .ref Mn, .ref Mf, .ref Mr, .ref Mh, .int zhp, .int zcc, .ref Ma, .ref Mas, .ref Msn, .ref Mac, .ref Mat]))]) (wr := [(Mt, .inl (g 0, 160, .inl fmt))]) rfl rfl rfl rfl (by decide) (k_X7_bad l D g H.size Mm zth Mt tp max_6 (-1) Mrr Mrh Mrc rh rc Mn Mf Mr Mh zhp zcc Ma Mas Msn Mac Mat) (cwV 0 hts gX7_number_X7_bad rfl rfl rfl (by decide +kernel) ⟨(Nat.le_of_ble_eq_true rfl), (Nat.le_of_ble_eq_true rfl)⟩) 0 7 rfl rfl rfl rfl hl.1 rfl (Nat.le_of_ble_eq_true rfl) dX7_number_19 ⟨(Nat.le_of_ble_eq_true rfl), (Nat.le_of_ble_eq_true rfl)⟩ (fun u H locs hw hP2 hD2 hS2 => ?_)
      clear hP hD hS
      obtain ⟨zwrx_76, rfl⟩ := hw
      have hPD : PD D A [(Mt, .inl (g 0, 160, .inl fmt)), (Mm, .inr (7, [.int zth, .ref Mt, .int (nI tp), .int (nI max_6), .int zwrx_76, .ref Mrr, .ref Mrh, .ref Mrc, .int (nI rh), .int (nI rc), .ref Mn, .ref Mf, .ref Mr, .ref Mh, .int zhp, .int zcc, .ref Ma, .ref Mas, .ref Msn, .ref Mac, .ref Mat]))] H := ⟨hP2, hD2⟩
      have hS := hS2; clear hP2 hD2 hS2; have hP := hPD.1; have hD := hPD.2; clear hPD
      refine W.widen (k := 0) (n := 0) (Nat.le_of_ble_eq_true rfl) (Nat.le_of_ble_eq_true rfl) ?_
      refine lv_iload_n hx hb dX7_number_22 rfl (lv_at hl 1 rfl) ?_
      have hPD9 : PD D A [(Mm, .inr (7, [.int zth, .ref Mt, .int (nI tp), .int (nI max_6), .int zwrx_76, .ref Mrr, .ref Mrh, .ref Mrc, .int (nI rh), .int (nI rc), .ref Mn, .ref Mf, .ref Mr, .ref Mh, .int zhp, .int zcc, .ref Ma, .ref Mas, .ref Msn, .ref Mac, .ref Mat])), (Mt, .inl (g 0, 160, .inl fmt))] H := ⟨hP.sub [1, 0] rfl, hD.sub [1, 0] (by decide) rfl⟩
      have hP9 := hPD9.1; have hD9 := hPD9.2
      subst hQ
      refine W.widen (k := 0) (n := 0) (Nat.le_of_ble_eq_true rfl) (Nat.le_of_ble_eq_true rfl) ?_
      exact W.iret (v := (nI lo)) hx hb hr (fun tS htS _ => ⟨⟨_, _, rfl, ⟨max_6, zwrx_76, lo, rfl, rfl, (show lo ≤ 99 by omega), (show max_6 ≤ tp by omega), (show ma ≤ max_6 by omega)⟩, by rw [htS]; exact hP9, hD9⟩, hS.F htS⟩) hS.2.2 dX7_number_23

set_option maxHeartbeats 4000000 in
set_option maxRecDepth 100000 in
theorem k_X7_itemBy_0 (l : Launch) (D : va_G) (g : Nat → ClassId) (sz : Nat) (zc : Int32) : Met l yX7_itemBy wsX7_itemBy ({ frames := 0, cells := 0, slots := 0, locals := 0 }) (va_Pc [.int 0, .int zc] (pre D g sz [])) (va_Qi (fun (r : Int32) (u : va_W) => ∃ (zr : Int32), u = [] ∧ r = zr ∧ (okc zr) ∧ (¬ zr = -1 → ¬ zc = -1)) (wd D (va_A [] sz)) (va_A [] sz)) 0 0 (va_A [] sz) := by
  refine Met.ofW (cc := cX7_itemBy) (maxL := 2) (ret := (some .int)) (by decide) rfl ?_
  intro p e s m args below meth c s₁ B hml hv
  obtain ⟨rfl, hsz, hP, ⟨hK, hN⟩, hD0, hZ⟩ := hv
  have hx := B.exec
  have hb := B.bytes
  have hr := B.returns
  have hts := atoms_spec (ws := wsX7_itemBy) B.pre
  have hown : s.vm.findClass RX7 = some m.cls := findClass_of_methodNamed B.named
  have hlocks := B.notSynchronized
  clear B
  subst hsz
  have hD := hD0.self (sz := s.heap.size)
  clear hD0
  generalize hAe : va_A [] s.heap.size = A at hD hZ ⊢
  have hA : ∀ q : Nat, s.heap.size ≤ q → A q := fun q h => by rw [← hAe]; exact Or.inr h
  have hS : va_S A s.heap s.heap [] := va_S.rf
  have hl := lv_entry ([.int 0, .int zc]) (n := 2) (Nat.le_of_ble_eq_true rfl)
  rw [lg_entry_eq]
  generalize (lg_sl ([.int 0, .int zc]) ++ List.replicate (2 - (lg_sl ([.int 0, .int zc])).length) Slot.unset).toArray = ls at hl ⊢
  have hl : lv_has ls 2 [(0, .int 0), (1, .int zc)] := hl
  generalize hQ : MQ below _ _ s _ _ _ = Q
  generalize hH : s.heap = H at hP ⊢
  have hS : va_S A s.heap H [] := by rw [← hH]; exact hS
  clear hH
  refine lv_iload_n hx hb dX7_itemBy_0 rfl (lv_at hl 0 rfl) ?_
  refine lv_if_ne (tgt := 36) hx hb dX7_itemBy_1 (by decide) (fun cb => absurd (by decide) cb) (fun _ => ?_)
  refine lv_iload_n hx hb dX7_itemBy_4 rfl (lv_at hl 1 rfl) ?_
  refine lv_bipush (v := 114) hx hb dX7_itemBy_5 (by decide) ?_
  refine lv_icmp_ne (tgt := 14) hx hb dX7_itemBy_7 (by decide) (fun cb_1 => ?_) (fun cb_1 => ?_)
  · skip
    refine lv_iload_n hx hb dX7_itemBy_14 rfl (lv_at hl 1 rfl) ?_
    refine lv_bipush (v := 97) hx hb dX7_itemBy_15 (by decide) ?_
    refine lv_icmp_ne (tgt := 24) hx hb dX7_itemBy_17 (by decide) (fun cb_2 => ?_) (fun cb_2 => ?_)
    · skip
      refine lv_iload_n hx hb dX7_itemBy_24 rfl (lv_at hl 1 rfl) ?_
      refine lv_bipush (v := 112) hx hb dX7_itemBy_25 (by decide) ?_
      refine lv_icmp_ne (tgt := 34) hx hb dX7_itemBy_27 (by decide) (fun cb_3 => ?_) (fun cb_3 => ?_)
      · skip
        refine lv_iconst (v := (-1)) hx hb dX7_itemBy_34 (by decide) ?_
        have hP9 := hP; have hD9 := hD
        subst hQ
        refine W.widen (k := 0) (n := 0) (Nat.le_of_ble_eq_true rfl) (Nat.le_of_ble_eq_true rfl) ?_
        exact W.iret (v := (-1)) hx hb hr (fun tS htS _ => ⟨⟨_, _, rfl, ⟨(-1), rfl, rfl, (okc_m), (fun q9 => absurd rfl q9)⟩, by rw [htS]; exact hP9, hD9⟩, hS.F htS⟩) hS.2.2 dX7_itemBy_35
      · skip
        refine lv_iconst (v := 2) hx hb dX7_itemBy_30 (by decide) ?_
        refine lv_goto (tgt := 35) hx hb dX7_itemBy_31 (by decide) ?_
        have hP9 := hP; have hD9 := hD
        subst hQ
        refine W.widen (k := 0) (n := 0) (Nat.le_of_ble_eq_true rfl) (Nat.le_of_ble_eq_true rfl) ?_
        exact W.iret (v := 2) hx hb hr (fun tS htS _ => ⟨⟨_, _, rfl, ⟨2, rfl, rfl, (okc_n (show 2 < 3 by omega)), (fun _ => by rw [cb_3]; decide)⟩, by rw [htS]; exact hP9, hD9⟩, hS.F htS⟩) hS.2.2 dX7_itemBy_35
    · skip
      refine lv_iconst (v := 1) hx hb dX7_itemBy_20 (by decide) ?_
      refine lv_goto (tgt := 35) hx hb dX7_itemBy_21 (by decide) ?_
      have hP9 := hP; have hD9 := hD
      subst hQ
      refine W.widen (k := 0) (n := 0) (Nat.le_of_ble_eq_true rfl) (Nat.le_of_ble_eq_true rfl) ?_
      exact W.iret (v := 1) hx hb hr (fun tS htS _ => ⟨⟨_, _, rfl, ⟨1, rfl, rfl, (okc_n (show 1 < 3 by omega)), (fun _ => by rw [cb_2]; decide)⟩, by rw [htS]; exact hP9, hD9⟩, hS.F htS⟩) hS.2.2 dX7_itemBy_35
  · skip
    refine lv_iconst (v := 0) hx hb dX7_itemBy_10 (by decide) ?_
    refine lv_goto (tgt := 35) hx hb dX7_itemBy_11 (by decide) ?_
    have hP9 := hP; have hD9 := hD
    subst hQ
    refine W.widen (k := 0) (n := 0) (Nat.le_of_ble_eq_true rfl) (Nat.le_of_ble_eq_true rfl) ?_
    exact W.iret (v := 0) hx hb hr (fun tS htS _ => ⟨⟨_, _, rfl, ⟨0, rfl, rfl, (okc_n (show 0 < 3 by omega)), (fun _ => by rw [cb_1]; decide)⟩, by rw [htS]; exact hP9, hD9⟩, hS.F htS⟩) hS.2.2 dX7_itemBy_35

set_option maxHeartbeats 4000000 in
set_option maxRecDepth 100000 in
theorem k_X7_lowest_0 (l : Launch) (D : va_G) (g : Nat → ClassId) (sz : Nat) (zk : Int32) : Met l yX7_lowest wsX7_lowest ({ frames := 0, cells := 0, slots := 0, locals := 0 }) (va_Pc [.int 0, .int zk] (pre D g sz [])) (va_Qi (fun (r : Int32) (u : va_W) => ∃ (nx : Nat), u = [] ∧ r = (nI nx) ∧ (nx ≤ 1)) (wd D (va_A [] sz)) (va_A [] sz)) 0 0 (va_A [] sz) := by
  refine Met.ofW (cc := cX7_lowest) (maxL := 2) (ret := (some .int)) (by decide) rfl ?_
  intro p e s m args below meth c s₁ B hml hv
  obtain ⟨rfl, hsz, hP, ⟨hK, hN⟩, hD0, hZ⟩ := hv
  have hx := B.exec
  have hb := B.bytes
  have hr := B.returns
  have hts := atoms_spec (ws := wsX7_lowest) B.pre
  have hown : s.vm.findClass RX7 = some m.cls := findClass_of_methodNamed B.named
  have hlocks := B.notSynchronized
  clear B
  subst hsz
  have hD := hD0.self (sz := s.heap.size)
  clear hD0
  generalize hAe : va_A [] s.heap.size = A at hD hZ ⊢
  have hA : ∀ q : Nat, s.heap.size ≤ q → A q := fun q h => by rw [← hAe]; exact Or.inr h
  have hS : va_S A s.heap s.heap [] := va_S.rf
  have hl := lv_entry ([.int 0, .int zk]) (n := 2) (Nat.le_of_ble_eq_true rfl)
  rw [lg_entry_eq]
  generalize (lg_sl ([.int 0, .int zk]) ++ List.replicate (2 - (lg_sl ([.int 0, .int zk])).length) Slot.unset).toArray = ls at hl ⊢
  have hl : lv_has ls 2 [(0, .int 0), (1, .int zk)] := hl
  generalize hQ : MQ below _ _ s _ _ _ = Q
  generalize hH : s.heap = H at hP ⊢
  have hS : va_S A s.heap H [] := by rw [← hH]; exact hS
  clear hH
  refine lv_iload_n hx hb dX7_lowest_0 rfl (lv_at hl 0 rfl) ?_
  refine lv_iconst (v := 1) hx hb dX7_lowest_1 (by decide) ?_
  refine lv_icmp_eq (tgt := 13) hx hb dX7_lowest_2 (by decide) (fun cb => absurd cb (by decide)) (fun _ => ?_)
  refine lv_iload_n hx hb dX7_lowest_5 rfl (lv_at hl 0 rfl) ?_
  refine lv_if_ne (tgt := 17) hx hb dX7_lowest_6 (by decide) (fun cb => absurd (by decide) cb) (fun _ => ?_)
  refine lv_iload_n hx hb dX7_lowest_9 rfl (lv_at hl 1 rfl) ?_
  refine lv_if_ne (tgt := 17) hx hb dX7_lowest_10 (by decide) (fun cb_1 => ?_) (fun cb_1 => ?_)
  · skip
    refine lv_iconst (v := 0) hx hb dX7_lowest_17 (by decide) ?_
    have hP9 := hP; have hD9 := hD
    subst hQ
    refine W.widen (k := 0) (n := 0) (Nat.le_of_ble_eq_true rfl) (Nat.le_of_ble_eq_true rfl) ?_
    exact W.iret (v := 0) hx hb hr (fun tS htS _ => ⟨⟨_, _, rfl, ⟨0, rfl, rfl, (show 0 ≤ 1 by omega)⟩, by rw [htS]; exact hP9, hD9⟩, hS.F htS⟩) hS.2.2 dX7_lowest_18
  · skip
    have hPq_2 := hP; have hDq_2 := hD; have hSq_2 := hS; have hlq_2 := hl; clear hP hD hS hl
    subst cb_1
    have hP := hPq_2; have hD := hDq_2; have hS := hSq_2; have hl := hlq_2; clear hPq_2 hDq_2 hSq_2 hlq_2
    refine lv_iconst (v := 1) hx hb dX7_lowest_13 (by decide) ?_
    refine lv_goto (tgt := 18) hx hb dX7_lowest_14 (by decide) ?_
    have hP9 := hP; have hD9 := hD
    subst hQ
    refine W.widen (k := 0) (n := 0) (Nat.le_of_ble_eq_true rfl) (Nat.le_of_ble_eq_true rfl) ?_
    exact W.iret (v := 1) hx hb hr (fun tS htS _ => ⟨⟨_, _, rfl, ⟨1, rfl, rfl, (show 1 ≤ 1 by omega)⟩, by rw [htS]; exact hP9, hD9⟩, hS.F htS⟩) hS.2.2 dX7_lowest_18

set_option maxHeartbeats 4000000 in
set_option maxRecDepth 100000 in
theorem k_X7_highest_0 (l : Launch) (D : va_G) (g : Nat → ClassId) (sz : Nat) (zk : Int32) : Met l yX7_highest wsX7_highest ({ frames := 0, cells := 0, slots := 0, locals := 0 }) (va_Pc [.int 0, .int zk] (pre D g sz [])) (va_Qi (fun (r : Int32) (u : va_W) => u = []) (wd D (va_A [] sz)) (va_A [] sz)) 0 0 (va_A [] sz) := by
  refine Met.ofW (cc := cX7_highest) (maxL := 2) (ret := (some .int)) (by decide) rfl ?_
  intro p e s m args below meth c s₁ B hml hv
  obtain ⟨rfl, hsz, hP, ⟨hK, hN⟩, hD0, hZ⟩ := hv
  have hx := B.exec
  have hb := B.bytes
  have hr := B.returns
  have hts := atoms_spec (ws := wsX7_highest) B.pre
  have hown : s.vm.findClass RX7 = some m.cls := findClass_of_methodNamed B.named
  have hlocks := B.notSynchronized
  clear B
  subst hsz
  have hD := hD0.self (sz := s.heap.size)
  clear hD0
  generalize hAe : va_A [] s.heap.size = A at hD hZ ⊢
  have hA : ∀ q : Nat, s.heap.size ≤ q → A q := fun q h => by rw [← hAe]; exact Or.inr h
  have hS : va_S A s.heap s.heap [] := va_S.rf
  have hl := lv_entry ([.int 0, .int zk]) (n := 2) (Nat.le_of_ble_eq_true rfl)
  rw [lg_entry_eq]
  generalize (lg_sl ([.int 0, .int zk]) ++ List.replicate (2 - (lg_sl ([.int 0, .int zk])).length) Slot.unset).toArray = ls at hl ⊢
  have hl : lv_has ls 2 [(0, .int 0), (1, .int zk)] := hl
  generalize hQ : MQ below _ _ s _ _ _ = Q
  generalize hH : s.heap = H at hP ⊢
  have hS : va_S A s.heap H [] := by rw [← hH]; exact hS
  clear hH
  refine lv_iload_n hx hb dX7_highest_0 rfl (lv_at hl 0 rfl) ?_
  refine lv_if_ne (tgt := 25) hx hb dX7_highest_1 (by decide) (fun cb => absurd (by decide) cb) (fun _ => ?_)
  refine lv_iload_n hx hb dX7_highest_4 rfl (lv_at hl 1 rfl) ?_
  refine lv_if_ne (tgt := 12) hx hb dX7_highest_5 (by decide) (fun cb_1 => ?_) (fun cb_1 => ?_)
  · skip
    refine lv_iload_n hx hb dX7_highest_12 rfl (lv_at hl 1 rfl) ?_
    refine lv_iconst (v := 1) hx hb dX7_highest_13 (by decide) ?_
    refine lv_icmp_ne (tgt := 22) hx hb dX7_highest_14 (by decide) (fun cb_2 => ?_) (fun cb_2 => ?_)
    · skip
      refine lv_bipush (v := 9) hx hb dX7_highest_22 (by decide) ?_
      have hP9 := hP; have hD9 := hD
      subst hQ
      refine W.widen (k := 0) (n := 0) (Nat.le_of_ble_eq_true rfl) (Nat.le_of_ble_eq_true rfl) ?_
      exact W.iret (v := 9) hx hb hr (fun tS htS _ => ⟨⟨_, _, rfl, rfl, by rw [htS]; exact hP9, hD9⟩, hS.F htS⟩) hS.2.2 dX7_highest_24
    · skip
      have hPq_3 := hP; have hDq_3 := hD; have hSq_3 := hS; have hlq_3 := hl; clear hP hD hS hl
      subst cb_2
      have hP := hPq_3; have hD := hDq_3; have hS := hSq_3; have hl := hlq_3; clear hPq_3 hDq_3 hSq_3 hlq_3
      refine lv_bipush (v := 20) hx hb dX7_highest_17 (by decide) ?_
      refine lv_goto (tgt := 24) hx hb dX7_highest_19 (by decide) ?_
      have hP9 := hP; have hD9 := hD
      subst hQ
      refine W.widen (k := 0) (n := 0) (Nat.le_of_ble_eq_true rfl) (Nat.le_of_ble_eq_true rfl) ?_
      exact W.iret (v := 20) hx hb hr (fun tS htS _ => ⟨⟨_, _, rfl, rfl, by rw [htS]; exact hP9, hD9⟩, hS.F htS⟩) hS.2.2 dX7_highest_24
  · skip
    have hPq_4 := hP; have hDq_4 := hD; have hSq_4 := hS; have hlq_4 := hl; clear hP hD hS hl
    subst cb_1
    have hP := hPq_4; have hD := hDq_4; have hS := hSq_4; have hl := hlq_4; clear hPq_4 hDq_4 hSq_4 hlq_4
    refine lv_iconst (v := 4) hx hb dX7_highest_8 (by decide) ?_
    refine lv_goto (tgt := 24) hx hb dX7_highest_9 (by decide) ?_
    have hP9 := hP; have hD9 := hD
    subst hQ
    refine W.widen (k := 0) (n := 0) (Nat.le_of_ble_eq_true rfl) (Nat.le_of_ble_eq_true rfl) ?_
    exact W.iret (v := 4) hx hb hr (fun tS htS _ => ⟨⟨_, _, rfl, rfl, by rw [htS]; exact hP9, hD9⟩, hS.F htS⟩) hS.2.2 dX7_highest_24

set_option maxHeartbeats 4000000 in
set_option maxRecDepth 100000 in
theorem k_X7_usual_0 (l : Launch) (D : va_G) (g : Nat → ClassId) (sz : Nat) (zk : Int32) : Met l yX7_usual wsX7_usual ({ frames := 0, cells := 0, slots := 0, locals := 0 }) (va_Pc [.int 0, .int zk] (pre D g sz [])) (va_Qi (fun (r : Int32) (u : va_W) => ∃ (nx : Nat), u = [] ∧ r = (nI nx) ∧ (nx ≤ 12)) (wd D (va_A [] sz)) (va_A [] sz)) 0 0 (va_A [] sz) := by
  refine Met.ofW (cc := cX7_usual) (maxL := 2) (ret := (some .int)) (by decide) rfl ?_
  intro p e s m args below meth c s₁ B hml hv
  obtain ⟨rfl, hsz, hP, ⟨hK, hN⟩, hD0, hZ⟩ := hv
  have hx := B.exec
  have hb := B.bytes
  have hr := B.returns
  have hts := atoms_spec (ws := wsX7_usual) B.pre
  have hown : s.vm.findClass RX7 = some m.cls := findClass_of_methodNamed B.named
  have hlocks := B.notSynchronized
  clear B
  subst hsz
  have hD := hD0.self (sz := s.heap.size)
  clear hD0
  generalize hAe : va_A [] s.heap.size = A at hD hZ ⊢
  have hA : ∀ q : Nat, s.heap.size ≤ q → A q := fun q h => by rw [← hAe]; exact Or.inr h
  have hS : va_S A s.heap s.heap [] := va_S.rf
  have hl := lv_entry ([.int 0, .int zk]) (n := 2) (Nat.le_of_ble_eq_true rfl)
  rw [lg_entry_eq]
  generalize (lg_sl ([.int 0, .int zk]) ++ List.replicate (2 - (lg_sl ([.int 0, .int zk])).length) Slot.unset).toArray = ls at hl ⊢
  have hl : lv_has ls 2 [(0, .int 0), (1, .int zk)] := hl
  generalize hQ : MQ below _ _ s _ _ _ = Q
  generalize hH : s.heap = H at hP ⊢
  have hS : va_S A s.heap H [] := by rw [← hH]; exact hS
  clear hH
  refine lv_iload_n hx hb dX7_usual_0 rfl (lv_at hl 0 rfl) ?_
  refine lv_if_ne (tgt := 14) hx hb dX7_usual_1 (by decide) (fun cb => absurd (by decide) cb) (fun _ => ?_)
  refine lv_iload_n hx hb dX7_usual_4 rfl (lv_at hl 1 rfl) ?_
  refine lv_if_ne (tgt := 12) hx hb dX7_usual_5 (by decide) (fun cb_1 => ?_) (fun cb_1 => ?_)
  · skip
    refine lv_iconst (v := 0) hx hb dX7_usual_12 (by decide) ?_
    have hP9 := hP; have hD9 := hD
    subst hQ
    refine W.widen (k := 0) (n := 0) (Nat.le_of_ble_eq_true rfl) (Nat.le_of_ble_eq_true rfl) ?_
    exact W.iret (v := 0) hx hb hr (fun tS htS _ => ⟨⟨_, _, rfl, ⟨0, rfl, rfl, (show 0 ≤ 12 by omega)⟩, by rw [htS]; exact hP9, hD9⟩, hS.F htS⟩) hS.2.2 dX7_usual_13
  · skip
    have hPq_2 := hP; have hDq_2 := hD; have hSq_2 := hS; have hlq_2 := hl; clear hP hD hS hl
    subst cb_1
    have hP := hPq_2; have hD := hDq_2; have hS := hSq_2; have hl := hlq_2; clear hPq_2 hDq_2 hSq_2 hlq_2
    refine lv_iconst (v := 1) hx hb dX7_usual_8 (by decide) ?_
    refine lv_goto (tgt := 13) hx hb dX7_usual_9 (by decide) ?_
    have hP9 := hP; have hD9 := hD
    subst hQ
    refine W.widen (k := 0) (n := 0) (Nat.le_of_ble_eq_true rfl) (Nat.le_of_ble_eq_true rfl) ?_
    exact W.iret (v := 1) hx hb hr (fun tS htS _ => ⟨⟨_, _, rfl, ⟨1, rfl, rfl, (show 1 ≤ 12 by omega)⟩, by rw [htS]; exact hP9, hD9⟩, hS.F htS⟩) hS.2.2 dX7_usual_13

set_option maxHeartbeats 4000000 in
set_option maxRecDepth 100000 in
theorem k_X7_itemBy_1 (l : Launch) (D : va_G) (g : Nat → ClassId) (sz : Nat) (zc : Int32) : Met l yX7_itemBy wsX7_itemBy ({ frames := 0, cells := 0, slots := 0, locals := 0 }) (va_Pc [.int 1, .int zc] (pre D g sz [])) (va_Qi (fun (r : Int32) (u : va_W) => ∃ (zr : Int32), u = [] ∧ r = zr ∧ (okc zr) ∧ (¬ zr = -1 → ¬ zc = -1)) (wd D (va_A [] sz)) (va_A [] sz)) 0 0 (va_A [] sz) := by
  refine Met.ofW (cc := cX7_itemBy) (maxL := 2) (ret := (some .int)) (by decide) rfl ?_
  intro p e s m args below meth c s₁ B hml hv
  obtain ⟨rfl, hsz, hP, ⟨hK, hN⟩, hD0, hZ⟩ := hv
  have hx := B.exec
  have hb := B.bytes
  have hr := B.returns
  have hts := atoms_spec (ws := wsX7_itemBy) B.pre
  have hown : s.vm.findClass RX7 = some m.cls := findClass_of_methodNamed B.named
  have hlocks := B.notSynchronized
  clear B
  subst hsz
  have hD := hD0.self (sz := s.heap.size)
  clear hD0
  generalize hAe : va_A [] s.heap.size = A at hD hZ ⊢
  have hA : ∀ q : Nat, s.heap.size ≤ q → A q := fun q h => by rw [← hAe]; exact Or.inr h
  have hS : va_S A s.heap s.heap [] := va_S.rf
  have hl := lv_entry ([.int 1, .int zc]) (n := 2) (Nat.le_of_ble_eq_true rfl)
  rw [lg_entry_eq]
  generalize (lg_sl ([.int 1, .int zc]) ++ List.replicate (2 - (lg_sl ([.int 1, .int zc])).length) Slot.unset).toArray = ls at hl ⊢
  have hl : lv_has ls 2 [(0, .int 1), (1, .int zc)] := hl
  generalize hQ : MQ below _ _ s _ _ _ = Q
  generalize hH : s.heap = H at hP ⊢
  have hS : va_S A s.heap H [] := by rw [← hH]; exact hS
  clear hH
  refine lv_iload_n hx hb dX7_itemBy_0 rfl (lv_at hl 0 rfl) ?_
  refine lv_if_ne (tgt := 36) hx hb dX7_itemBy_1 (by decide) (fun _ => ?_) (fun cb => absurd cb (by decide))
  refine lv_iload_n hx hb dX7_itemBy_36 rfl (lv_at hl 0 rfl) ?_
  refine lv_iconst (v := 1) hx hb dX7_itemBy_37 (by decide) ?_
  refine lv_icmp_ne (tgt := 73) hx hb dX7_itemBy_38 (by decide) (fun cb => absurd (by decide) cb) (fun _ => ?_)
  refine lv_iload_n hx hb dX7_itemBy_41 rfl (lv_at hl 1 rfl) ?_
  refine lv_bipush (v := 100) hx hb dX7_itemBy_42 (by decide) ?_
  refine lv_icmp_ne (tgt := 51) hx hb dX7_itemBy_44 (by decide) (fun cb_1 => ?_) (fun cb_1 => ?_)
  · skip
    refine lv_iload_n hx hb dX7_itemBy_51 rfl (lv_at hl 1 rfl) ?_
    refine lv_bipush (v := 98) hx hb dX7_itemBy_52 (by decide) ?_
    refine lv_icmp_ne (tgt := 61) hx hb dX7_itemBy_54 (by decide) (fun cb_2 => ?_) (fun cb_2 => ?_)
    · skip
      refine lv_iload_n hx hb dX7_itemBy_61 rfl (lv_at hl 1 rfl) ?_
      refine lv_bipush (v := 101) hx hb dX7_itemBy_62 (by decide) ?_
      refine lv_icmp_ne (tgt := 71) hx hb dX7_itemBy_64 (by decide) (fun cb_3 => ?_) (fun cb_3 => ?_)
      · skip
        refine lv_iconst (v := (-1)) hx hb dX7_itemBy_71 (by decide) ?_
        have hP9 := hP; have hD9 := hD
        subst hQ
        refine W.widen (k := 0) (n := 0) (Nat.le_of_ble_eq_true rfl) (Nat.le_of_ble_eq_true rfl) ?_
        exact W.iret (v := (-1)) hx hb hr (fun tS htS _ => ⟨⟨_, _, rfl, ⟨(-1), rfl, rfl, (okc_m), (fun q9 => absurd rfl q9)⟩, by rw [htS]; exact hP9, hD9⟩, hS.F htS⟩) hS.2.2 dX7_itemBy_72
      · skip
        refine lv_iconst (v := 2) hx hb dX7_itemBy_67 (by decide) ?_
        refine lv_goto (tgt := 72) hx hb dX7_itemBy_68 (by decide) ?_
        have hP9 := hP; have hD9 := hD
        subst hQ
        refine W.widen (k := 0) (n := 0) (Nat.le_of_ble_eq_true rfl) (Nat.le_of_ble_eq_true rfl) ?_
        exact W.iret (v := 2) hx hb hr (fun tS htS _ => ⟨⟨_, _, rfl, ⟨2, rfl, rfl, (okc_n (show 2 < 3 by omega)), (fun _ => by rw [cb_3]; decide)⟩, by rw [htS]; exact hP9, hD9⟩, hS.F htS⟩) hS.2.2 dX7_itemBy_72
    · skip
      refine lv_iconst (v := 1) hx hb dX7_itemBy_57 (by decide) ?_
      refine lv_goto (tgt := 72) hx hb dX7_itemBy_58 (by decide) ?_
      have hP9 := hP; have hD9 := hD
      subst hQ
      refine W.widen (k := 0) (n := 0) (Nat.le_of_ble_eq_true rfl) (Nat.le_of_ble_eq_true rfl) ?_
      exact W.iret (v := 1) hx hb hr (fun tS htS _ => ⟨⟨_, _, rfl, ⟨1, rfl, rfl, (okc_n (show 1 < 3 by omega)), (fun _ => by rw [cb_2]; decide)⟩, by rw [htS]; exact hP9, hD9⟩, hS.F htS⟩) hS.2.2 dX7_itemBy_72
  · skip
    refine lv_iconst (v := 0) hx hb dX7_itemBy_47 (by decide) ?_
    refine lv_goto (tgt := 72) hx hb dX7_itemBy_48 (by decide) ?_
    have hP9 := hP; have hD9 := hD
    subst hQ
    refine W.widen (k := 0) (n := 0) (Nat.le_of_ble_eq_true rfl) (Nat.le_of_ble_eq_true rfl) ?_
    exact W.iret (v := 0) hx hb hr (fun tS htS _ => ⟨⟨_, _, rfl, ⟨0, rfl, rfl, (okc_n (show 0 < 3 by omega)), (fun _ => by rw [cb_1]; decide)⟩, by rw [htS]; exact hP9, hD9⟩, hS.F htS⟩) hS.2.2 dX7_itemBy_72

set_option maxHeartbeats 4000000 in
set_option maxRecDepth 100000 in
theorem k_X7_lowest_1 (l : Launch) (D : va_G) (g : Nat → ClassId) (sz : Nat) (zk : Int32) : Met l yX7_lowest wsX7_lowest ({ frames := 0, cells := 0, slots := 0, locals := 0 }) (va_Pc [.int 1, .int zk] (pre D g sz [])) (va_Qi (fun (r : Int32) (u : va_W) => ∃ (nx : Nat), u = [] ∧ r = (nI nx) ∧ (nx ≤ 1)) (wd D (va_A [] sz)) (va_A [] sz)) 0 0 (va_A [] sz) := by
  refine Met.ofW (cc := cX7_lowest) (maxL := 2) (ret := (some .int)) (by decide) rfl ?_
  intro p e s m args below meth c s₁ B hml hv
  obtain ⟨rfl, hsz, hP, ⟨hK, hN⟩, hD0, hZ⟩ := hv
  have hx := B.exec
  have hb := B.bytes
  have hr := B.returns
  have hts := atoms_spec (ws := wsX7_lowest) B.pre
  have hown : s.vm.findClass RX7 = some m.cls := findClass_of_methodNamed B.named
  have hlocks := B.notSynchronized
  clear B
  subst hsz
  have hD := hD0.self (sz := s.heap.size)
  clear hD0
  generalize hAe : va_A [] s.heap.size = A at hD hZ ⊢
  have hA : ∀ q : Nat, s.heap.size ≤ q → A q := fun q h => by rw [← hAe]; exact Or.inr h
  have hS : va_S A s.heap s.heap [] := va_S.rf
  have hl := lv_entry ([.int 1, .int zk]) (n := 2) (Nat.le_of_ble_eq_true rfl)
  rw [lg_entry_eq]
  generalize (lg_sl ([.int 1, .int zk]) ++ List.replicate (2 - (lg_sl ([.int 1, .int zk])).length) Slot.unset).toArray = ls at hl ⊢
  have hl : lv_has ls 2 [(0, .int 1), (1, .int zk)] := hl
  generalize hQ : MQ below _ _ s _ _ _ = Q
  generalize hH : s.heap = H at hP ⊢
  have hS : va_S A s.heap H [] := by rw [← hH]; exact hS
  clear hH
  refine lv_iload_n hx hb dX7_lowest_0 rfl (lv_at hl 0 rfl) ?_
  refine lv_iconst (v := 1) hx hb dX7_lowest_1 (by decide) ?_
  refine lv_icmp_eq (tgt := 13) hx hb dX7_lowest_2 (by decide) (fun _ => ?_) (fun cb => absurd (by decide) cb)
  refine lv_iconst (v := 1) hx hb dX7_lowest_13 (by decide) ?_
  refine lv_goto (tgt := 18) hx hb dX7_lowest_14 (by decide) ?_
  have hP9 := hP; have hD9 := hD
  subst hQ
  refine W.widen (k := 0) (n := 0) (Nat.le_of_ble_eq_true rfl) (Nat.le_of_ble_eq_true rfl) ?_
  exact W.iret (v := 1) hx hb hr (fun tS htS _ => ⟨⟨_, _, rfl, ⟨1, rfl, rfl, (show 1 ≤ 1 by omega)⟩, by rw [htS]; exact hP9, hD9⟩, hS.F htS⟩) hS.2.2 dX7_lowest_18

set_option maxHeartbeats 4000000 in
set_option maxRecDepth 100000 in
theorem k_X7_highest_1 (l : Launch) (D : va_G) (g : Nat → ClassId) (sz : Nat) (zk : Int32) : Met l yX7_highest wsX7_highest ({ frames := 0, cells := 0, slots := 0, locals := 0 }) (va_Pc [.int 1, .int zk] (pre D g sz [])) (va_Qi (fun (r : Int32) (u : va_W) => u = []) (wd D (va_A [] sz)) (va_A [] sz)) 0 0 (va_A [] sz) := by
  refine Met.ofW (cc := cX7_highest) (maxL := 2) (ret := (some .int)) (by decide) rfl ?_
  intro p e s m args below meth c s₁ B hml hv
  obtain ⟨rfl, hsz, hP, ⟨hK, hN⟩, hD0, hZ⟩ := hv
  have hx := B.exec
  have hb := B.bytes
  have hr := B.returns
  have hts := atoms_spec (ws := wsX7_highest) B.pre
  have hown : s.vm.findClass RX7 = some m.cls := findClass_of_methodNamed B.named
  have hlocks := B.notSynchronized
  clear B
  subst hsz
  have hD := hD0.self (sz := s.heap.size)
  clear hD0
  generalize hAe : va_A [] s.heap.size = A at hD hZ ⊢
  have hA : ∀ q : Nat, s.heap.size ≤ q → A q := fun q h => by rw [← hAe]; exact Or.inr h
  have hS : va_S A s.heap s.heap [] := va_S.rf
  have hl := lv_entry ([.int 1, .int zk]) (n := 2) (Nat.le_of_ble_eq_true rfl)
  rw [lg_entry_eq]
  generalize (lg_sl ([.int 1, .int zk]) ++ List.replicate (2 - (lg_sl ([.int 1, .int zk])).length) Slot.unset).toArray = ls at hl ⊢
  have hl : lv_has ls 2 [(0, .int 1), (1, .int zk)] := hl
  generalize hQ : MQ below _ _ s _ _ _ = Q
  generalize hH : s.heap = H at hP ⊢
  have hS : va_S A s.heap H [] := by rw [← hH]; exact hS
  clear hH
  refine lv_iload_n hx hb dX7_highest_0 rfl (lv_at hl 0 rfl) ?_
  refine lv_if_ne (tgt := 25) hx hb dX7_highest_1 (by decide) (fun _ => ?_) (fun cb => absurd cb (by decide))
  refine lv_iload_n hx hb dX7_highest_25 rfl (lv_at hl 0 rfl) ?_
  refine lv_iconst (v := 1) hx hb dX7_highest_26 (by decide) ?_
  refine lv_icmp_ne (tgt := 42) hx hb dX7_highest_27 (by decide) (fun cb => absurd (by decide) cb) (fun _ => ?_)
  refine lv_iload_n hx hb dX7_highest_30 rfl (lv_at hl 1 rfl) ?_
  refine lv_iconst (v := 1) hx hb dX7_highest_31 (by decide) ?_
  refine lv_icmp_ne (tgt := 40) hx hb dX7_highest_32 (by decide) (fun cb_1 => ?_) (fun cb_1 => ?_)
  · skip
    refine lv_iconst (v := 4) hx hb dX7_highest_40 (by decide) ?_
    have hP9 := hP; have hD9 := hD
    subst hQ
    refine W.widen (k := 0) (n := 0) (Nat.le_of_ble_eq_true rfl) (Nat.le_of_ble_eq_true rfl) ?_
    exact W.iret (v := 4) hx hb hr (fun tS htS _ => ⟨⟨_, _, rfl, rfl, by rw [htS]; exact hP9, hD9⟩, hS.F htS⟩) hS.2.2 dX7_highest_41
  · skip
    have hPq_2 := hP; have hDq_2 := hD; have hSq_2 := hS; have hlq_2 := hl; clear hP hD hS hl
    subst cb_1
    have hP := hPq_2; have hD := hDq_2; have hS := hSq_2; have hl := hlq_2; clear hPq_2 hDq_2 hSq_2 hlq_2
    refine lv_bipush (v := 30) hx hb dX7_highest_35 (by decide) ?_
    refine lv_goto (tgt := 41) hx hb dX7_highest_37 (by decide) ?_
    have hP9 := hP; have hD9 := hD
    subst hQ
    refine W.widen (k := 0) (n := 0) (Nat.le_of_ble_eq_true rfl) (Nat.le_of_ble_eq_true rfl) ?_
    exact W.iret (v := 30) hx hb hr (fun tS htS _ => ⟨⟨_, _, rfl, rfl, by rw [htS]; exact hP9, hD9⟩, hS.F htS⟩) hS.2.2 dX7_highest_41

set_option maxHeartbeats 4000000 in
set_option maxRecDepth 100000 in
theorem k_X7_usual_1 (l : Launch) (D : va_G) (g : Nat → ClassId) (sz : Nat) (zk : Int32) : Met l yX7_usual wsX7_usual ({ frames := 0, cells := 0, slots := 0, locals := 0 }) (va_Pc [.int 1, .int zk] (pre D g sz [])) (va_Qi (fun (r : Int32) (u : va_W) => ∃ (nx : Nat), u = [] ∧ r = (nI nx) ∧ (nx ≤ 12)) (wd D (va_A [] sz)) (va_A [] sz)) 0 0 (va_A [] sz) := by
  refine Met.ofW (cc := cX7_usual) (maxL := 2) (ret := (some .int)) (by decide) rfl ?_
  intro p e s m args below meth c s₁ B hml hv
  obtain ⟨rfl, hsz, hP, ⟨hK, hN⟩, hD0, hZ⟩ := hv
  have hx := B.exec
  have hb := B.bytes
  have hr := B.returns
  have hts := atoms_spec (ws := wsX7_usual) B.pre
  have hown : s.vm.findClass RX7 = some m.cls := findClass_of_methodNamed B.named
  have hlocks := B.notSynchronized
  clear B
  subst hsz
  have hD := hD0.self (sz := s.heap.size)
  clear hD0
  generalize hAe : va_A [] s.heap.size = A at hD hZ ⊢
  have hA : ∀ q : Nat, s.heap.size ≤ q → A q := fun q h => by rw [← hAe]; exact Or.inr h
  have hS : va_S A s.heap s.heap [] := va_S.rf
  have hl := lv_entry ([.int 1, .int zk]) (n := 2) (Nat.le_of_ble_eq_true rfl)
  rw [lg_entry_eq]
  generalize (lg_sl ([.int 1, .int zk]) ++ List.replicate (2 - (lg_sl ([.int 1, .int zk])).length) Slot.unset).toArray = ls at hl ⊢
  have hl : lv_has ls 2 [(0, .int 1), (1, .int zk)] := hl
  generalize hQ : MQ below _ _ s _ _ _ = Q
  generalize hH : s.heap = H at hP ⊢
  have hS : va_S A s.heap H [] := by rw [← hH]; exact hS
  clear hH
  refine lv_iload_n hx hb dX7_usual_0 rfl (lv_at hl 0 rfl) ?_
  refine lv_if_ne (tgt := 14) hx hb dX7_usual_1 (by decide) (fun _ => ?_) (fun cb => absurd cb (by decide))
  refine lv_iload_n hx hb dX7_usual_14 rfl (lv_at hl 0 rfl) ?_
  refine lv_iconst (v := 1) hx hb dX7_usual_15 (by decide) ?_
  refine lv_icmp_ne (tgt := 31) hx hb dX7_usual_16 (by decide) (fun cb => absurd (by decide) cb) (fun _ => ?_)
  refine lv_iload_n hx hb dX7_usual_19 rfl (lv_at hl 1 rfl) ?_
  refine lv_iconst (v := 1) hx hb dX7_usual_20 (by decide) ?_
  refine lv_icmp_ne (tgt := 29) hx hb dX7_usual_21 (by decide) (fun cb_1 => ?_) (fun cb_1 => ?_)
  · skip
    refine lv_iconst (v := 1) hx hb dX7_usual_29 (by decide) ?_
    have hP9 := hP; have hD9 := hD
    subst hQ
    refine W.widen (k := 0) (n := 0) (Nat.le_of_ble_eq_true rfl) (Nat.le_of_ble_eq_true rfl) ?_
    exact W.iret (v := 1) hx hb hr (fun tS htS _ => ⟨⟨_, _, rfl, ⟨1, rfl, rfl, (show 1 ≤ 12 by omega)⟩, by rw [htS]; exact hP9, hD9⟩, hS.F htS⟩) hS.2.2 dX7_usual_30
  · skip
    have hPq_2 := hP; have hDq_2 := hD; have hSq_2 := hS; have hlq_2 := hl; clear hP hD hS hl
    subst cb_1
    have hP := hPq_2; have hD := hDq_2; have hS := hSq_2; have hl := hlq_2; clear hPq_2 hDq_2 hSq_2 hlq_2
    refine lv_bipush (v := 12) hx hb dX7_usual_24 (by decide) ?_
    refine lv_goto (tgt := 30) hx hb dX7_usual_26 (by decide) ?_
    have hP9 := hP; have hD9 := hD
    subst hQ
    refine W.widen (k := 0) (n := 0) (Nat.le_of_ble_eq_true rfl) (Nat.le_of_ble_eq_true rfl) ?_
    exact W.iret (v := 12) hx hb hr (fun tS htS _ => ⟨⟨_, _, rfl, ⟨12, rfl, rfl, (show 12 ≤ 12 by omega)⟩, by rw [htS]; exact hP9, hD9⟩, hS.F htS⟩) hS.2.2 dX7_usual_30

set_option maxHeartbeats 4000000 in
set_option maxRecDepth 100000 in
theorem k_X7_itemBy_2 (l : Launch) (D : va_G) (g : Nat → ClassId) (sz : Nat) (zc : Int32) : Met l yX7_itemBy wsX7_itemBy ({ frames := 0, cells := 0, slots := 0, locals := 0 }) (va_Pc [.int 2, .int zc] (pre D g sz [])) (va_Qi (fun (r : Int32) (u : va_W) => ∃ (zr : Int32), u = [] ∧ r = zr ∧ (okc zr) ∧ (¬ zr = -1 → ¬ zc = -1)) (wd D (va_A [] sz)) (va_A [] sz)) 0 0 (va_A [] sz) := by
  refine Met.ofW (cc := cX7_itemBy) (maxL := 2) (ret := (some .int)) (by decide) rfl ?_
  intro p e s m args below meth c s₁ B hml hv
  obtain ⟨rfl, hsz, hP, ⟨hK, hN⟩, hD0, hZ⟩ := hv
  have hx := B.exec
  have hb := B.bytes
  have hr := B.returns
  have hts := atoms_spec (ws := wsX7_itemBy) B.pre
  have hown : s.vm.findClass RX7 = some m.cls := findClass_of_methodNamed B.named
  have hlocks := B.notSynchronized
  clear B
  subst hsz
  have hD := hD0.self (sz := s.heap.size)
  clear hD0
  generalize hAe : va_A [] s.heap.size = A at hD hZ ⊢
  have hA : ∀ q : Nat, s.heap.size ≤ q → A q := fun q h => by rw [← hAe]; exact Or.inr h
  have hS : va_S A s.heap s.heap [] := va_S.rf
  have hl := lv_entry ([.int 2, .int zc]) (n := 2) (Nat.le_of_ble_eq_true rfl)
  rw [lg_entry_eq]
  generalize (lg_sl ([.int 2, .int zc]) ++ List.replicate (2 - (lg_sl ([.int 2, .int zc])).length) Slot.unset).toArray = ls at hl ⊢
  have hl : lv_has ls 2 [(0, .int 2), (1, .int zc)] := hl
  generalize hQ : MQ below _ _ s _ _ _ = Q
  generalize hH : s.heap = H at hP ⊢
  have hS : va_S A s.heap H [] := by rw [← hH]; exact hS
  clear hH
  refine lv_iload_n hx hb dX7_itemBy_0 rfl (lv_at hl 0 rfl) ?_
  refine lv_if_ne (tgt := 36) hx hb dX7_itemBy_1 (by decide) (fun _ => ?_) (fun cb => absurd cb (by decide))
  refine lv_iload_n hx hb dX7_itemBy_36 rfl (lv_at hl 0 rfl) ?_
  refine lv_iconst (v := 1) hx hb dX7_itemBy_37 (by decide) ?_
  refine lv_icmp_ne (tgt := 73) hx hb dX7_itemBy_38 (by decide) (fun _ => ?_) (fun cb => absurd cb (by decide))
  refine lv_iload_n hx hb dX7_itemBy_73 rfl (lv_at hl 1 rfl) ?_
  refine lv_bipush (v := 103) hx hb dX7_itemBy_74 (by decide) ?_
  refine lv_icmp_ne (tgt := 83) hx hb dX7_itemBy_76 (by decide) (fun cb_1 => ?_) (fun cb_1 => ?_)
  · skip
    refine lv_iload_n hx hb dX7_itemBy_83 rfl (lv_at hl 1 rfl) ?_
    refine lv_bipush (v := 115) hx hb dX7_itemBy_84 (by decide) ?_
    refine lv_icmp_ne (tgt := 93) hx hb dX7_itemBy_86 (by decide) (fun cb_2 => ?_) (fun cb_2 => ?_)
    · skip
      refine lv_iload_n hx hb dX7_itemBy_93 rfl (lv_at hl 1 rfl) ?_
      refine lv_bipush (v := 116) hx hb dX7_itemBy_94 (by decide) ?_
      refine lv_icmp_ne (tgt := 103) hx hb dX7_itemBy_96 (by decide) (fun cb_3 => ?_) (fun cb_3 => ?_)
      · skip
        refine lv_iconst (v := (-1)) hx hb dX7_itemBy_103 (by decide) ?_
        have hP9 := hP; have hD9 := hD
        subst hQ
        refine W.widen (k := 0) (n := 0) (Nat.le_of_ble_eq_true rfl) (Nat.le_of_ble_eq_true rfl) ?_
        exact W.iret (v := (-1)) hx hb hr (fun tS htS _ => ⟨⟨_, _, rfl, ⟨(-1), rfl, rfl, (okc_m), (fun q9 => absurd rfl q9)⟩, by rw [htS]; exact hP9, hD9⟩, hS.F htS⟩) hS.2.2 dX7_itemBy_104
      · skip
        refine lv_iconst (v := 2) hx hb dX7_itemBy_99 (by decide) ?_
        refine lv_goto (tgt := 104) hx hb dX7_itemBy_100 (by decide) ?_
        have hP9 := hP; have hD9 := hD
        subst hQ
        refine W.widen (k := 0) (n := 0) (Nat.le_of_ble_eq_true rfl) (Nat.le_of_ble_eq_true rfl) ?_
        exact W.iret (v := 2) hx hb hr (fun tS htS _ => ⟨⟨_, _, rfl, ⟨2, rfl, rfl, (okc_n (show 2 < 3 by omega)), (fun _ => by rw [cb_3]; decide)⟩, by rw [htS]; exact hP9, hD9⟩, hS.F htS⟩) hS.2.2 dX7_itemBy_104
    · skip
      refine lv_iconst (v := 1) hx hb dX7_itemBy_89 (by decide) ?_
      refine lv_goto (tgt := 104) hx hb dX7_itemBy_90 (by decide) ?_
      have hP9 := hP; have hD9 := hD
      subst hQ
      refine W.widen (k := 0) (n := 0) (Nat.le_of_ble_eq_true rfl) (Nat.le_of_ble_eq_true rfl) ?_
      exact W.iret (v := 1) hx hb hr (fun tS htS _ => ⟨⟨_, _, rfl, ⟨1, rfl, rfl, (okc_n (show 1 < 3 by omega)), (fun _ => by rw [cb_2]; decide)⟩, by rw [htS]; exact hP9, hD9⟩, hS.F htS⟩) hS.2.2 dX7_itemBy_104
  · skip
    refine lv_iconst (v := 0) hx hb dX7_itemBy_79 (by decide) ?_
    refine lv_goto (tgt := 104) hx hb dX7_itemBy_80 (by decide) ?_
    have hP9 := hP; have hD9 := hD
    subst hQ
    refine W.widen (k := 0) (n := 0) (Nat.le_of_ble_eq_true rfl) (Nat.le_of_ble_eq_true rfl) ?_
    exact W.iret (v := 0) hx hb hr (fun tS htS _ => ⟨⟨_, _, rfl, ⟨0, rfl, rfl, (okc_n (show 0 < 3 by omega)), (fun _ => by rw [cb_1]; decide)⟩, by rw [htS]; exact hP9, hD9⟩, hS.F htS⟩) hS.2.2 dX7_itemBy_104

set_option maxHeartbeats 4000000 in
set_option maxRecDepth 100000 in
theorem k_X7_lowest_2 (l : Launch) (D : va_G) (g : Nat → ClassId) (sz : Nat) (zk : Int32) : Met l yX7_lowest wsX7_lowest ({ frames := 0, cells := 0, slots := 0, locals := 0 }) (va_Pc [.int 2, .int zk] (pre D g sz [])) (va_Qi (fun (r : Int32) (u : va_W) => ∃ (nx : Nat), u = [] ∧ r = (nI nx) ∧ (nx ≤ 1)) (wd D (va_A [] sz)) (va_A [] sz)) 0 0 (va_A [] sz) := by
  refine Met.ofW (cc := cX7_lowest) (maxL := 2) (ret := (some .int)) (by decide) rfl ?_
  intro p e s m args below meth c s₁ B hml hv
  obtain ⟨rfl, hsz, hP, ⟨hK, hN⟩, hD0, hZ⟩ := hv
  have hx := B.exec
  have hb := B.bytes
  have hr := B.returns
  have hts := atoms_spec (ws := wsX7_lowest) B.pre
  have hown : s.vm.findClass RX7 = some m.cls := findClass_of_methodNamed B.named
  have hlocks := B.notSynchronized
  clear B
  subst hsz
  have hD := hD0.self (sz := s.heap.size)
  clear hD0
  generalize hAe : va_A [] s.heap.size = A at hD hZ ⊢
  have hA : ∀ q : Nat, s.heap.size ≤ q → A q := fun q h => by rw [← hAe]; exact Or.inr h
  have hS : va_S A s.heap s.heap [] := va_S.rf
  have hl := lv_entry ([.int 2, .int zk]) (n := 2) (Nat.le_of_ble_eq_true rfl)
  rw [lg_entry_eq]
  generalize (lg_sl ([.int 2, .int zk]) ++ List.replicate (2 - (lg_sl ([.int 2, .int zk])).length) Slot.unset).toArray = ls at hl ⊢
  have hl : lv_has ls 2 [(0, .int 2), (1, .int zk)] := hl
  generalize hQ : MQ below _ _ s _ _ _ = Q
  generalize hH : s.heap = H at hP ⊢
  have hS : va_S A s.heap H [] := by rw [← hH]; exact hS
  clear hH
  refine lv_iload_n hx hb dX7_lowest_0 rfl (lv_at hl 0 rfl) ?_
  refine lv_iconst (v := 1) hx hb dX7_lowest_1 (by decide) ?_
  refine lv_icmp_eq (tgt := 13) hx hb dX7_lowest_2 (by decide) (fun cb => absurd cb (by decide)) (fun _ => ?_)
  refine lv_iload_n hx hb dX7_lowest_5 rfl (lv_at hl 0 rfl) ?_
  refine lv_if_ne (tgt := 17) hx hb dX7_lowest_6 (by decide) (fun _ => ?_) (fun cb => absurd cb (by decide))
  refine lv_iconst (v := 0) hx hb dX7_lowest_17 (by decide) ?_
  have hP9 := hP; have hD9 := hD
  subst hQ
  refine W.widen (k := 0) (n := 0) (Nat.le_of_ble_eq_true rfl) (Nat.le_of_ble_eq_true rfl) ?_
  exact W.iret (v := 0) hx hb hr (fun tS htS _ => ⟨⟨_, _, rfl, ⟨0, rfl, rfl, (show 0 ≤ 1 by omega)⟩, by rw [htS]; exact hP9, hD9⟩, hS.F htS⟩) hS.2.2 dX7_lowest_18

set_option maxHeartbeats 4000000 in
set_option maxRecDepth 100000 in
theorem k_X7_highest_2 (l : Launch) (D : va_G) (g : Nat → ClassId) (sz : Nat) (zk : Int32) : Met l yX7_highest wsX7_highest ({ frames := 0, cells := 0, slots := 0, locals := 0 }) (va_Pc [.int 2, .int zk] (pre D g sz [])) (va_Qi (fun (r : Int32) (u : va_W) => u = []) (wd D (va_A [] sz)) (va_A [] sz)) 0 0 (va_A [] sz) := by
  refine Met.ofW (cc := cX7_highest) (maxL := 2) (ret := (some .int)) (by decide) rfl ?_
  intro p e s m args below meth c s₁ B hml hv
  obtain ⟨rfl, hsz, hP, ⟨hK, hN⟩, hD0, hZ⟩ := hv
  have hx := B.exec
  have hb := B.bytes
  have hr := B.returns
  have hts := atoms_spec (ws := wsX7_highest) B.pre
  have hown : s.vm.findClass RX7 = some m.cls := findClass_of_methodNamed B.named
  have hlocks := B.notSynchronized
  clear B
  subst hsz
  have hD := hD0.self (sz := s.heap.size)
  clear hD0
  generalize hAe : va_A [] s.heap.size = A at hD hZ ⊢
  have hA : ∀ q : Nat, s.heap.size ≤ q → A q := fun q h => by rw [← hAe]; exact Or.inr h
  have hS : va_S A s.heap s.heap [] := va_S.rf
  have hl := lv_entry ([.int 2, .int zk]) (n := 2) (Nat.le_of_ble_eq_true rfl)
  rw [lg_entry_eq]
  generalize (lg_sl ([.int 2, .int zk]) ++ List.replicate (2 - (lg_sl ([.int 2, .int zk])).length) Slot.unset).toArray = ls at hl ⊢
  have hl : lv_has ls 2 [(0, .int 2), (1, .int zk)] := hl
  generalize hQ : MQ below _ _ s _ _ _ = Q
  generalize hH : s.heap = H at hP ⊢
  have hS : va_S A s.heap H [] := by rw [← hH]; exact hS
  clear hH
  refine lv_iload_n hx hb dX7_highest_0 rfl (lv_at hl 0 rfl) ?_
  refine lv_if_ne (tgt := 25) hx hb dX7_highest_1 (by decide) (fun _ => ?_) (fun cb => absurd cb (by decide))
  refine lv_iload_n hx hb dX7_highest_25 rfl (lv_at hl 0 rfl) ?_
  refine lv_iconst (v := 1) hx hb dX7_highest_26 (by decide) ?_
  refine lv_icmp_ne (tgt := 42) hx hb dX7_highest_27 (by decide) (fun _ => ?_) (fun cb => absurd cb (by decide))
  refine lv_iload_n hx hb dX7_highest_42 rfl (lv_at hl 1 rfl) ?_
  refine lv_iconst (v := 1) hx hb dX7_highest_43 (by decide) ?_
  refine lv_icmp_ne (tgt := 52) hx hb dX7_highest_44 (by decide) (fun cb_1 => ?_) (fun cb_1 => ?_)
  · skip
    refine lv_bipush (v := 9) hx hb dX7_highest_52 (by decide) ?_
    have hP9 := hP; have hD9 := hD
    subst hQ
    refine W.widen (k := 0) (n := 0) (Nat.le_of_ble_eq_true rfl) (Nat.le_of_ble_eq_true rfl) ?_
    exact W.iret (v := 9) hx hb hr (fun tS htS _ => ⟨⟨_, _, rfl, rfl, by rw [htS]; exact hP9, hD9⟩, hS.F htS⟩) hS.2.2 dX7_highest_54
  · skip
    have hPq_2 := hP; have hDq_2 := hD; have hSq_2 := hS; have hlq_2 := hl; clear hP hD hS hl
    subst cb_1
    have hP := hPq_2; have hD := hDq_2; have hS := hSq_2; have hl := hlq_2; clear hPq_2 hDq_2 hSq_2 hlq_2
    refine lv_bipush (v := 20) hx hb dX7_highest_47 (by decide) ?_
    refine lv_goto (tgt := 54) hx hb dX7_highest_49 (by decide) ?_
    have hP9 := hP; have hD9 := hD
    subst hQ
    refine W.widen (k := 0) (n := 0) (Nat.le_of_ble_eq_true rfl) (Nat.le_of_ble_eq_true rfl) ?_
    exact W.iret (v := 20) hx hb hr (fun tS htS _ => ⟨⟨_, _, rfl, rfl, by rw [htS]; exact hP9, hD9⟩, hS.F htS⟩) hS.2.2 dX7_highest_54

set_option maxHeartbeats 4000000 in
set_option maxRecDepth 100000 in
theorem k_X7_usual_2 (l : Launch) (D : va_G) (g : Nat → ClassId) (sz : Nat) (zk : Int32) : Met l yX7_usual wsX7_usual ({ frames := 0, cells := 0, slots := 0, locals := 0 }) (va_Pc [.int 2, .int zk] (pre D g sz [])) (va_Qi (fun (r : Int32) (u : va_W) => ∃ (nx : Nat), u = [] ∧ r = (nI nx) ∧ (nx ≤ 12)) (wd D (va_A [] sz)) (va_A [] sz)) 0 0 (va_A [] sz) := by
  refine Met.ofW (cc := cX7_usual) (maxL := 2) (ret := (some .int)) (by decide) rfl ?_
  intro p e s m args below meth c s₁ B hml hv
  obtain ⟨rfl, hsz, hP, ⟨hK, hN⟩, hD0, hZ⟩ := hv
  have hx := B.exec
  have hb := B.bytes
  have hr := B.returns
  have hts := atoms_spec (ws := wsX7_usual) B.pre
  have hown : s.vm.findClass RX7 = some m.cls := findClass_of_methodNamed B.named
  have hlocks := B.notSynchronized
  clear B
  subst hsz
  have hD := hD0.self (sz := s.heap.size)
  clear hD0
  generalize hAe : va_A [] s.heap.size = A at hD hZ ⊢
  have hA : ∀ q : Nat, s.heap.size ≤ q → A q := fun q h => by rw [← hAe]; exact Or.inr h
  have hS : va_S A s.heap s.heap [] := va_S.rf
  have hl := lv_entry ([.int 2, .int zk]) (n := 2) (Nat.le_of_ble_eq_true rfl)
  rw [lg_entry_eq]
  generalize (lg_sl ([.int 2, .int zk]) ++ List.replicate (2 - (lg_sl ([.int 2, .int zk])).length) Slot.unset).toArray = ls at hl ⊢
  have hl : lv_has ls 2 [(0, .int 2), (1, .int zk)] := hl
  generalize hQ : MQ below _ _ s _ _ _ = Q
  generalize hH : s.heap = H at hP ⊢
  have hS : va_S A s.heap H [] := by rw [← hH]; exact hS
  clear hH
  refine lv_iload_n hx hb dX7_usual_0 rfl (lv_at hl 0 rfl) ?_
  refine lv_if_ne (tgt := 14) hx hb dX7_usual_1 (by decide) (fun _ => ?_) (fun cb => absurd cb (by decide))
  refine lv_iload_n hx hb dX7_usual_14 rfl (lv_at hl 0 rfl) ?_
  refine lv_iconst (v := 1) hx hb dX7_usual_15 (by decide) ?_
  refine lv_icmp_ne (tgt := 31) hx hb dX7_usual_16 (by decide) (fun _ => ?_) (fun cb => absurd cb (by decide))
  refine lv_iload_n hx hb dX7_usual_31 rfl (lv_at hl 1 rfl) ?_
  refine lv_iconst (v := 1) hx hb dX7_usual_32 (by decide) ?_
  refine lv_icmp_ne (tgt := 40) hx hb dX7_usual_33 (by decide) (fun cb_1 => ?_) (fun cb_1 => ?_)
  · skip
    refine lv_iconst (v := 1) hx hb dX7_usual_40 (by decide) ?_
    have hP9 := hP; have hD9 := hD
    subst hQ
    refine W.widen (k := 0) (n := 0) (Nat.le_of_ble_eq_true rfl) (Nat.le_of_ble_eq_true rfl) ?_
    exact W.iret (v := 1) hx hb hr (fun tS htS _ => ⟨⟨_, _, rfl, ⟨1, rfl, rfl, (show 1 ≤ 12 by omega)⟩, by rw [htS]; exact hP9, hD9⟩, hS.F htS⟩) hS.2.2 dX7_usual_41
  · skip
    have hPq_2 := hP; have hDq_2 := hD; have hSq_2 := hS; have hlq_2 := hl; clear hP hD hS hl
    subst cb_1
    have hP := hPq_2; have hD := hDq_2; have hS := hSq_2; have hl := hlq_2; clear hPq_2 hDq_2 hSq_2 hlq_2
    refine lv_iconst (v := 0) hx hb dX7_usual_36 (by decide) ?_
    refine lv_goto (tgt := 41) hx hb dX7_usual_37 (by decide) ?_
    have hP9 := hP; have hD9 := hD
    subst hQ
    refine W.widen (k := 0) (n := 0) (Nat.le_of_ble_eq_true rfl) (Nat.le_of_ble_eq_true rfl) ?_
    exact W.iret (v := 0) hx hb hr (fun tS htS _ => ⟨⟨_, _, rfl, ⟨0, rfl, rfl, (show 0 ≤ 12 by omega)⟩, by rw [htS]; exact hP9, hD9⟩, hS.F htS⟩) hS.2.2 dX7_usual_41

set_option maxHeartbeats 4000000 in
set_option maxRecDepth 100000 in
theorem k_X7_laysUsual_0 (l : Launch) (D : va_G) (g : Nat → ClassId) (sz : Nat) (Mm : Nat) (Mrr : Nat) (zth : Int32) (Mt : Nat) (ztp : Int32) (zma : Int32) (zwr : Int32) (Mrh : Nat) (Mrc : Nat) (zrh : Int32) (zrc : Int32) (Mn : Nat) (Mf : Nat) (Mr : Nat) (Mh : Nat) (zhp : Int32) (zcc : Int32) (Ma : Nat) (Mas : Nat) (Msn : Nat) (Mac : Nat) (Mat : Nat) (frr : Nat → Int32) (h0 : n1 frr) : Met l yX7_laysUsual wsX7_laysUsual ({ frames := 1, cells := 0, slots := 0, locals := 21 }) (va_Pc [.ref Mm, .int 0, .ref Mrr, .int 0] (pre D g sz [(Mm, .inr (7, [.int zth, .ref Mt, .int ztp, .int zma, .int zwr, .ref Mrr, .ref Mrh, .ref Mrc, .int zrh, .int zrc, .ref Mn, .ref Mf, .ref Mr, .ref Mh, .int zhp, .int zcc, .ref Ma, .ref Mas, .ref Msn, .ref Mac, .ref Mat])), (Mrr, .inl (g 0, 3, .inl frr))])) (va_Qv (fun (u : va_W) => ∃ (frrx : Nat → Int32), u = [(Mm, .inr (7, [.int zth, .ref Mt, .int ztp, .int zma, .int zwr, .ref Mrr, .ref Mrh, .ref Mrc, .int zrh, .int zrc, .ref Mn, .ref Mf, .ref Mr, .ref Mh, .int zhp, .int zcc, .ref Ma, .ref Mas, .ref Msn, .ref Mac, .ref Mat])), (Mrr, .inl (g 0, 3, .inl frrx))] ∧ (n1 frrx)) (wd D (va_A [(Mm, .inr (7, [.int zth, .ref Mt, .int ztp, .int zma, .int zwr, .ref Mrr, .ref Mrh, .ref Mrc, .int zrh, .int zrc, .ref Mn, .ref Mf, .ref Mr, .ref Mh, .int zhp, .int zcc, .ref Ma, .ref Mas, .ref Msn, .ref Mac, .ref Mat])), (Mrr, .inl (g 0, 3, .inl frr))] sz)) (va_A [(Mm, .inr (7, [.int zth, .ref Mt, .int ztp, .int zma, .int zwr, .ref Mrr, .ref Mrh, .ref Mrc, .int zrh, .int zrc, .ref Mn, .ref Mf, .ref Mr, .ref Mh, .int zhp, .int zcc, .ref Ma, .ref Mas, .ref Msn, .ref Mac, .ref Mat])), (Mrr, .inl (g 0, 3, .inl frr))] sz)) 0 0 (va_A [(Mm, .inr (7, [.int zth, .ref Mt, .int ztp, .int zma, .int zwr, .ref Mrr, .ref Mrh, .ref Mrc, .int zrh, .int zrc, .ref Mn, .ref Mf, .ref Mr, .ref Mh, .int zhp, .int zcc, .ref Ma, .ref Mas, .ref Msn, .ref Mac, .ref Mat])), (Mrr, .inl (g 0, 3, .inl frr))] sz) := by
  refine Met.ofW (cc := cX7_laysUsual) (maxL := 5) (ret := none) (by decide) rfl ?_
  intro p e s m args below meth c s₁ B hml hv
  obtain ⟨rfl, hsz, hP, ⟨hK, hN⟩, hD0, hZ⟩ := hv
  have hx := B.exec
  have hb := B.bytes
  have hr := B.returns
  have hts := atoms_spec (ws := wsX7_laysUsual) B.pre
  have hown : s.vm.findClass RX7 = some m.cls := findClass_of_methodNamed B.named
  have hlocks := B.notSynchronized
  clear B
  subst hsz
  have hD := hD0.self (sz := s.heap.size)
  clear hD0
  generalize hAe : va_A [(Mm, .inr (7, [.int zth, .ref Mt, .int ztp, .int zma, .int zwr, .ref Mrr, .ref Mrh, .ref Mrc, .int zrh, .int zrc, .ref Mn, .ref Mf, .ref Mr, .ref Mh, .int zhp, .int zcc, .ref Ma, .ref Mas, .ref Msn, .ref Mac, .ref Mat])), (Mrr, .inl (g 0, 3, .inl frr))] s.heap.size = A at hD hZ ⊢
  have hA : ∀ q : Nat, s.heap.size ≤ q → A q := fun q h => by rw [← hAe]; exact Or.inr h
  have hS : va_S A s.heap s.heap [] := va_S.rf
  have hl := lv_entry ([.ref Mm, .int 0, .ref Mrr, .int 0]) (n := 5) (Nat.le_of_ble_eq_true rfl)
  rw [lg_entry_eq]
  generalize (lg_sl ([.ref Mm, .int 0, .ref Mrr, .int 0]) ++ List.replicate (5 - (lg_sl ([.ref Mm, .int 0, .ref Mrr, .int 0])).length) Slot.unset).toArray = ls at hl ⊢
  have hl : lv_has ls 5 [(0, .ref Mm), (1, .int 0), (2, .ref Mrr), (3, .int 0)] := hl
  generalize hQ : MQ below _ _ s _ _ _ = Q
  generalize hH : s.heap = H at hP ⊢
  have hS : va_S A s.heap H [] := by rw [← hH]; exact hS
  clear hH
  refine lv_iconst (v := 0) hx hb dX7_laysUsual_0 (by decide) ?_
  refine lv_istore (lv' := [(4, .int 0), (0, .ref Mm), (1, .int 0), (2, .ref Mrr), (3, .int 0)]) hx hb dX7_laysUsual_1 hl (by decide) rfl (fun ls hl => ?_)
  have loop_14 : ∀ (Nloop_14 : Nat) (i_5 : Nat) (F_6 : Nat → Int32) (hF_6 : n1 F_6) (hbi_5 : i_5 ≤ 3) (hmloop_14 : 3 - i_5 < Nloop_14) (H : Heap) (locs : List Loc) (ls : Array Slot), va_P D vwCl [(Mm, .inr (7, [.int zth, .ref Mt, .int ztp, .int zma, .int zwr, .ref Mrr, .ref Mrh, .ref Mrc, .int zrh, .int zrc, .ref Mn, .ref Mf, .ref Mr, .ref Mh, .int zhp, .int zcc, .ref Ma, .ref Mas, .ref Msn, .ref Mac, .ref Mat])), (Mrr, .inl (g 0, 3, .inl F_6))] H → va_D A [(Mm, .inr (7, [.int zth, .ref Mt, .int ztp, .int zma, .int zwr, .ref Mrr, .ref Mrh, .ref Mrc, .int zrh, .int zrc, .ref Mn, .ref Mf, .ref Mr, .ref Mh, .int zhp, .int zcc, .ref Ma, .ref Mas, .ref Msn, .ref Mac, .ref Mat])), (Mrr, .inl (g 0, 3, .inl F_6))] → va_S A s.heap H locs → lv_has ls 5 [(4, .int (nI i_5)), (1, .int 0), (2, .ref Mrr), (3, .int 0)] → W p l e (headSpec wsX7_laysUsual ({ frames := 1, cells := 0, slots := 0, locals := 21 })).room s m ([.ref Mm, .int 0, .ref Mrr, .int 0] : List Value).toArray below meth c H locs 0 0 Q (F0 m 3 ls []) := by
    clear hP hD hS hl
    intro Nloop_14
    induction Nloop_14 with
    | zero => intro i_5 F_6 hF_6 hbi_5 hm9; exact absurd hm9 (Nat.not_lt_zero _)
    | succ Nloop_14 loop_14_ih =>
      intro i_5 F_6 hF_6 hbi_5 hmloop_14 H locs ls hP hD hS hl
      refine lv_iload hx hb dX7_laysUsual_3 (lv_at hl 0 rfl) ?_
      refine lv_iconst (v := 3) hx hb dX7_laysUsual_5 (by decide) ?_
      refine lv_icmp_ge (tgt := 27) hx hb dX7_laysUsual_6 (by decide) (fun cb_15 => ?_) (fun cb_15 => ?_)
      · skip
        have cn_16 : 3 ≤ i_5 := (nI_leI (show 3 < 2 ^ 31 by omega) (show i_5 < 2 ^ 31 by omega)).mp cb_15
        have hP9 := hP; have hD9 := hD
        subst hQ
        refine W.widen (k := 0) (n := 0) (Nat.le_of_ble_eq_true rfl) (Nat.le_of_ble_eq_true rfl) ?_
        exact W.vret hx hb hr (fun tS htS _ => ⟨⟨_, rfl, ⟨F_6, rfl, (hF_6)⟩, by rw [htS]; exact hP9, hD9⟩, hS.F htS⟩) hS.2.2 dX7_laysUsual_27
      · skip
        have cn_17 : i_5 < 3 := Nat.lt_of_not_le (fun q9 => cb_15 ((nI_leI (show 3 < 2 ^ 31 by omega) (show i_5 < 2 ^ 31 by omega)).mpr q9))
        refine lv_aload_n hx hb dX7_laysUsual_9 rfl (lv_at hl 2 rfl) ?_
        refine lv_iload_n hx hb dX7_laysUsual_10 rfl (lv_at hl 3 rfl) ?_
        refine lv_iload hx hb dX7_laysUsual_11 (lv_at hl 0 rfl) ?_
        refine lv_iadd hx hb dX7_laysUsual_13 ?_
        refine lv_eqi (y := (nI (0 + i_5))) (nI_add (0) (i_5)) ?_
        refine lv_iload_n hx hb dX7_laysUsual_14 rfl (lv_at hl 1 rfl) ?_
        refine lv_iload hx hb dX7_laysUsual_15 (lv_at hl 0 rfl) ?_
        refine ky_Si (As := [.int 0, .int (nI i_5)]) (rest := [.int (nI (0 + i_5)), .ref Mrr]) ⟨hx, hb, hml, hown, hts⟩ ⟨hK, hN⟩ hZ hP hD hS hA [] [0, 1] (wc := []) (wr := [(Mm, .inr (7, [.int zth, .ref Mt, .int ztp, .int zma, .int zwr, .ref Mrr, .ref Mrh, .ref Mrc, .int zrh, .int zrc, .ref Mn, .ref Mf, .ref Mr, .ref Mh, .int zhp, .int zcc, .ref Ma, .ref Mas, .ref Msn, .ref Mac, .ref Mat])), (Mrr, .inl (g 0, 3, .inl F_6))]) rfl rfl rfl rfl (by decide) (k_X7_usual_0 l D g H.size (nI i_5)) (va_cwS 2 hts gX7_laysUsual_X7_usual rfl rfl rfl (by decide +kernel) ⟨(Nat.le_of_ble_eq_true rfl), (Nat.le_of_ble_eq_true rfl)⟩) rfl hl.1 rfl (Nat.le_of_ble_eq_true rfl) dX7_laysUsual_17 ⟨(Nat.le_of_ble_eq_true rfl), (Nat.le_of_ble_eq_true rfl)⟩ (fun r_18 u H locs hw hP2 hD2 hS2 => ?_)
        clear hP hD hS
        obtain ⟨nx_19, rfl, rfl, hf_20⟩ := hw
        have hPD : PD D A [(Mm, .inr (7, [.int zth, .ref Mt, .int ztp, .int zma, .int zwr, .ref Mrr, .ref Mrh, .ref Mrc, .int zrh, .int zrc, .ref Mn, .ref Mf, .ref Mr, .ref Mh, .int zhp, .int zcc, .ref Ma, .ref Mas, .ref Msn, .ref Mac, .ref Mat])), (Mrr, .inl (g 0, 3, .inl F_6))] H := ⟨hP2, hD2⟩
        have hS := hS2; clear hP2 hD2 hS2; have hP := hPD.1; have hD := hPD.2; clear hPD
        refine W.widen (k := 0) (n := 0) (Nat.le_of_ble_eq_true rfl) (Nat.le_of_ble_eq_true rfl) ?_
        refine va_iast hx hb hK hP hD hS 1 0 rfl rfl (vp_in_nI (show 0 + i_5 < 3 by omega) (by decide)) dX7_laysUsual_20 (fun H locs hP2 hD2 hS2 => ?_)
        clear hP hD hS
        have hPD : PD D A [(Mm, .inr (7, [.int zth, .ref Mt, .int ztp, .int zma, .int zwr, .ref Mrr, .ref Mrh, .ref Mrc, .int zrh, .int zrc, .ref Mn, .ref Mf, .ref Mr, .ref Mh, .int zhp, .int zcc, .ref Ma, .ref Mas, .ref Msn, .ref Mac, .ref Mat])), (Mrr, .inl (g 0, 3, .inl (upd F_6 (nI (0 + i_5)).toNatClampNeg (nI nx_19))))] H := ⟨hP2, hD2⟩
        have hS := hS2; clear hP2 hD2 hS2; have hP := hPD.1; have hD := hPD.2; clear hPD
        rw [nI_clamp (show 0 + i_5 < 2 ^ 31 by omega)] at hP hD
        have hPD : PD D A [(Mm, .inr (7, [.int zth, .ref Mt, .int ztp, .int zma, .int zwr, .ref Mrr, .ref Mrh, .ref Mrc, .int zrh, .int zrc, .ref Mn, .ref Mf, .ref Mr, .ref Mh, .int zhp, .int zcc, .ref Ma, .ref Mas, .ref Msn, .ref Mac, .ref Mat])), (Mrr, .inl (g 0, 3, .inl (upd F_6 (0 + i_5) (nI nx_19))))] H := ⟨hP, hD⟩
        clear hP hD; have hP := hPD.1; have hD := hPD.2; clear hPD
        have hF_21 : n1 (upd F_6 (0 + i_5) (nI nx_19)) := n1_upd (hF_6) (n := nx_19) (show nx_19 ≤ 99 by omega)
        generalize upd F_6 (0 + i_5) (nI nx_19) = F_21 at hP hD hF_21
        refine lv_iinc (v := (nI (i_5 + 1))) (lv' := [(4, .int (nI (i_5 + 1))), (1, .int 0), (2, .ref Mrr), (3, .int 0)]) hx hb dX7_laysUsual_21 hl (k := 0) rfl (nI_1 (i_5)) (by decide) rfl (fun ls hl => ?_)
        refine lv_goto (tgt := 3) hx hb dX7_laysUsual_24 (by decide) ?_
        exact loop_14_ih (i_5 + 1) F_21 (hF_21) (show (i_5 + 1) ≤ 3 by omega) (show 3 - (i_5 + 1) < Nloop_14 by omega) _ _ _ hP hD hS hl
  exact loop_14 _ 0 frr (h0) (show 0 ≤ 3 by omega) (Nat.lt_succ_self _) _ _ _ hP hD hS (lv_sub hl [0, 2, 3, 4] rfl)

set_option maxHeartbeats 4000000 in
set_option maxRecDepth 100000 in
theorem k_X7_items_0 (l : Launch) (D : va_G) (g : Nat → ClassId) (sz : Nat) (Mm : Nat) (Mrr : Nat) (zth : Int32) (Mt : Nat) (tp : Nat) (ma : Nat) (zwr : Int32) (Mrh : Nat) (Mrc : Nat) (rh : Nat) (rc : Nat) (Mn : Nat) (Mf : Nat) (Mr : Nat) (Mh : Nat) (zhp : Int32) (zcc : Int32) (Ma : Nat) (Mas : Nat) (Msn : Nat) (Mac : Nat) (Mat : Nat) (fmt : Nat → Int32) (frr : Nat → Int32) (h0 : tp ≤ 160) (h1 : ma ≤ tp) (h2 : n1 frr) : Met l yX7_items wsX7_items ({ frames := 3, cells := 0, slots := 0, locals := 64 }) (va_Pc [.ref Mm, .int 0, .ref Mrr, .int 0] (pre D g sz [(Mm, .inr (7, [.int zth, .ref Mt, .int (nI tp), .int (nI ma), .int zwr, .ref Mrr, .ref Mrh, .ref Mrc, .int (nI rh), .int (nI rc), .ref Mn, .ref Mf, .ref Mr, .ref Mh, .int zhp, .int zcc, .ref Ma, .ref Mas, .ref Msn, .ref Mac, .ref Mat])), (Mt, .inl (g 0, 160, .inl fmt)), (Mrr, .inl (g 0, 3, .inl frr))])) (va_Qv (fun (u : va_W) => ∃ (max : Nat) (zwrx : Int32) (frrx : Nat → Int32), u = [(Mm, .inr (7, [.int zth, .ref Mt, .int (nI tp), .int (nI max), .int zwrx, .ref Mrr, .ref Mrh, .ref Mrc, .int (nI rh), .int (nI rc), .ref Mn, .ref Mf, .ref Mr, .ref Mh, .int zhp, .int zcc, .ref Ma, .ref Mas, .ref Msn, .ref Mac, .ref Mat])), (Mt, .inl (g 0, 160, .inl fmt)), (Mrr, .inl (g 0, 3, .inl frrx))] ∧ (n1 frrx) ∧ (max ≤ tp) ∧ (ma ≤ max)) (wd D (va_A [(Mm, .inr (7, [.int zth, .ref Mt, .int (nI tp), .int (nI ma), .int zwr, .ref Mrr, .ref Mrh, .ref Mrc, .int (nI rh), .int (nI rc), .ref Mn, .ref Mf, .ref Mr, .ref Mh, .int zhp, .int zcc, .ref Ma, .ref Mas, .ref Msn, .ref Mac, .ref Mat])), (Mt, .inl (g 0, 160, .inl fmt)), (Mrr, .inl (g 0, 3, .inl frr))] sz)) (va_A [(Mm, .inr (7, [.int zth, .ref Mt, .int (nI tp), .int (nI ma), .int zwr, .ref Mrr, .ref Mrh, .ref Mrc, .int (nI rh), .int (nI rc), .ref Mn, .ref Mf, .ref Mr, .ref Mh, .int zhp, .int zcc, .ref Ma, .ref Mas, .ref Msn, .ref Mac, .ref Mat])), (Mt, .inl (g 0, 160, .inl fmt)), (Mrr, .inl (g 0, 3, .inl frr))] sz)) 0 0 (va_A [(Mm, .inr (7, [.int zth, .ref Mt, .int (nI tp), .int (nI ma), .int zwr, .ref Mrr, .ref Mrh, .ref Mrc, .int (nI rh), .int (nI rc), .ref Mn, .ref Mf, .ref Mr, .ref Mh, .int zhp, .int zcc, .ref Ma, .ref Mas, .ref Msn, .ref Mac, .ref Mat])), (Mt, .inl (g 0, 160, .inl fmt)), (Mrr, .inl (g 0, 3, .inl frr))] sz) := by
  refine Met.ofW (cc := cX7_items) (maxL := 6) (ret := none) (by decide) rfl ?_
  intro p e s m args below meth c s₁ B hml hv
  obtain ⟨rfl, hsz, hP, ⟨hK, hN⟩, hD0, hZ⟩ := hv
  have hx := B.exec
  have hb := B.bytes
  have hr := B.returns
  have hts := atoms_spec (ws := wsX7_items) B.pre
  have hown : s.vm.findClass RX7 = some m.cls := findClass_of_methodNamed B.named
  have hlocks := B.notSynchronized
  clear B
  subst hsz
  have hD := hD0.self (sz := s.heap.size)
  clear hD0
  generalize hAe : va_A [(Mm, .inr (7, [.int zth, .ref Mt, .int (nI tp), .int (nI ma), .int zwr, .ref Mrr, .ref Mrh, .ref Mrc, .int (nI rh), .int (nI rc), .ref Mn, .ref Mf, .ref Mr, .ref Mh, .int zhp, .int zcc, .ref Ma, .ref Mas, .ref Msn, .ref Mac, .ref Mat])), (Mt, .inl (g 0, 160, .inl fmt)), (Mrr, .inl (g 0, 3, .inl frr))] s.heap.size = A at hD hZ ⊢
  have hA : ∀ q : Nat, s.heap.size ≤ q → A q := fun q h => by rw [← hAe]; exact Or.inr h
  have hS : va_S A s.heap s.heap [] := va_S.rf
  have f64 := hts (.fieldLink RX7 64 "HopCreditsModel" "at" "I") (List.mem_of_getElem? (i := 2) rfl)
  have f71 := hts (.fieldLink RX7 71 "HopCreditsModel" "wrong" "I") (List.mem_of_getElem? (i := 1) rfl)
  have iX7 : ∀ w ∈ u_ws RX7 TX7 21, w ∈ wsX7_items := fun w h => List.mem_cons_of_mem _ (List.mem_append_right _ (h))
  have hl := lv_entry ([.ref Mm, .int 0, .ref Mrr, .int 0]) (n := 6) (Nat.le_of_ble_eq_true rfl)
  rw [lg_entry_eq]
  generalize (lg_sl ([.ref Mm, .int 0, .ref Mrr, .int 0]) ++ List.replicate (6 - (lg_sl ([.ref Mm, .int 0, .ref Mrr, .int 0])).length) Slot.unset).toArray = ls at hl ⊢
  have hl : lv_has ls 6 [(0, .ref Mm), (1, .int 0), (2, .ref Mrr), (3, .int 0)] := hl
  generalize hQ : MQ below _ _ s _ _ _ = Q
  generalize hH : s.heap = H at hP ⊢
  have hS : va_S A s.heap H [] := by rw [← hH]; exact hS
  clear hH
  refine lv_aload_n hx hb dX7_items_0 rfl (lv_at hl 0 rfl) ?_
  refine lv_iload_n hx hb dX7_items_1 rfl (lv_at hl 1 rfl) ?_
  refine lv_aload_n hx hb dX7_items_2 rfl (lv_at hl 2 rfl) ?_
  refine lv_iload_n hx hb dX7_items_3 rfl (lv_at hl 3 rfl) ?_
  refine ky_Vv (As := [.int 0, .ref Mrr, .int 0]) (rest := []) ⟨hx, hb, hml, hown, hts⟩ ⟨hK, hN⟩ hZ hP hD hS hA [0, 2] [1] (wc := [(Mm, .inr (7, [.int zth, .ref Mt, .int (nI tp), .int (nI ma), .int zwr, .ref Mrr, .ref Mrh, .ref Mrc, .int (nI rh), .int (nI rc), .ref Mn, .ref Mf, .ref Mr, .ref Mh, .int zhp, .int zcc, .ref Ma, .ref Mas, .ref Msn, .ref Mac, .ref Mat])), (Mrr, .inl (g 0, 3, .inl frr))]) (wr := [(Mt, .inl (g 0, 160, .inl fmt))]) rfl rfl rfl rfl (by decide) (k_X7_laysUsual_0 l D g H.size Mm Mrr zth Mt (nI tp) (nI ma) zwr Mrh Mrc (nI rh) (nI rc) Mn Mf Mr Mh zhp zcc Ma Mas Msn Mac Mat frr (h2)) (cwV 3 hts gX7_items_X7_laysUsual rfl rfl rfl (by decide +kernel) ⟨(Nat.le_of_ble_eq_true rfl), (Nat.le_of_ble_eq_true rfl)⟩) 0 7 rfl rfl rfl rfl hl.1 rfl (Nat.le_of_ble_eq_true rfl) dX7_items_4 ⟨(Nat.le_of_ble_eq_true rfl), (Nat.le_of_ble_eq_true rfl)⟩ (fun u H locs hw hP2 hD2 hS2 => ?_)
  clear hP hD hS
  obtain ⟨frrx_2, rfl, hf_3⟩ := hw
  have hPD : PD D A [(Mt, .inl (g 0, 160, .inl fmt)), (Mm, .inr (7, [.int zth, .ref Mt, .int (nI tp), .int (nI ma), .int zwr, .ref Mrr, .ref Mrh, .ref Mrc, .int (nI rh), .int (nI rc), .ref Mn, .ref Mf, .ref Mr, .ref Mh, .int zhp, .int zcc, .ref Ma, .ref Mas, .ref Msn, .ref Mac, .ref Mat])), (Mrr, .inl (g 0, 3, .inl frrx_2))] H := ⟨hP2, hD2⟩
  have hS := hS2; clear hP2 hD2 hS2; have hP := hPD.1; have hD := hPD.2; clear hPD
  refine W.widen (k := 0) (n := 0) (Nat.le_of_ble_eq_true rfl) (Nat.le_of_ble_eq_true rfl) ?_
  refine lv_iconst (v := 0) hx hb dX7_items_7 (by decide) ?_
  refine lv_istore (lv' := [(4, .int 0), (0, .ref Mm), (1, .int 0), (2, .ref Mrr), (3, .int 0)]) hx hb dX7_items_8 hl (by decide) rfl (fun ls hl => ?_)
  refine lv_iload_n hx hb dX7_items_10 rfl (lv_at hl 2 rfl) ?_
  refine lv_aload_n hx hb dX7_items_11 rfl (lv_at hl 1 rfl) ?_
  refine ky_Vi (As := []) (rest := [.int 0]) ⟨hx, hb, hml, hown, hts⟩ ⟨hK, hN⟩ hZ hP hD hS hA [1, 0] [2] (wc := [(Mm, .inr (7, [.int zth, .ref Mt, .int (nI tp), .int (nI ma), .int zwr, .ref Mrr, .ref Mrh, .ref Mrc, .int (nI rh), .int (nI rc), .ref Mn, .ref Mf, .ref Mr, .ref Mh, .int zhp, .int zcc, .ref Ma, .ref Mas, .ref Msn, .ref Mac, .ref Mat])), (Mt, .inl (g 0, 160, .inl fmt))]) (wr := [(Mrr, .inl (g 0, 3, .inl frrx_2))]) rfl rfl rfl rfl (by decide) (k_X7_ahead l D g H.size Mm zth Mt tp ma zwr Mrr Mrh Mrc rh rc Mn Mf Mr Mh zhp zcc Ma Mas Msn Mac Mat fmt (show tp ≤ 160 by omega) (show ma ≤ tp by omega)) (cwV 0 hts gX7_items_X7_ahead rfl rfl rfl (by decide +kernel) ⟨(Nat.le_of_ble_eq_true rfl), (Nat.le_of_ble_eq_true rfl)⟩) 1 7 rfl rfl rfl rfl hl.1 rfl (Nat.le_of_ble_eq_true rfl) dX7_items_12 ⟨(Nat.le_of_ble_eq_true rfl), (Nat.le_of_ble_eq_true rfl)⟩ (fun r_4 u H locs hw hP2 hD2 hS2 => ?_)
  clear hP hD hS
  obtain ⟨max_5, rfl, rfl, hf_6, hf_7⟩ := hw
  have hPD : PD D A [(Mrr, .inl (g 0, 3, .inl frrx_2)), (Mm, .inr (7, [.int zth, .ref Mt, .int (nI tp), .int (nI max_5), .int zwr, .ref Mrr, .ref Mrh, .ref Mrc, .int (nI rh), .int (nI rc), .ref Mn, .ref Mf, .ref Mr, .ref Mh, .int zhp, .int zcc, .ref Ma, .ref Mas, .ref Msn, .ref Mac, .ref Mat])), (Mt, .inl (g 0, 160, .inl fmt))] H := ⟨hP2, hD2⟩
  have hS := hS2; clear hP2 hD2 hS2; have hP := hPD.1; have hD := hPD.2; clear hPD
  refine W.widen (k := 0) (n := 0) (Nat.le_of_ble_eq_true rfl) (Nat.le_of_ble_eq_true rfl) ?_
  refine lv_topi (fun y_8 hey_8 => ?_)
  refine ky_Si (As := [.int 0, .int y_8]) (rest := []) ⟨hx, hb, hml, hown, hts⟩ ⟨hK, hN⟩ hZ hP hD hS hA [] [0, 1, 2] (wc := []) (wr := [(Mrr, .inl (g 0, 3, .inl frrx_2)), (Mm, .inr (7, [.int zth, .ref Mt, .int (nI tp), .int (nI max_5), .int zwr, .ref Mrr, .ref Mrh, .ref Mrc, .int (nI rh), .int (nI rc), .ref Mn, .ref Mf, .ref Mr, .ref Mh, .int zhp, .int zcc, .ref Ma, .ref Mas, .ref Msn, .ref Mac, .ref Mat])), (Mt, .inl (g 0, 160, .inl fmt))]) rfl rfl rfl rfl (by decide) (k_X7_itemBy_0 l D g H.size y_8) (va_cwS 2 hts gX7_items_X7_itemBy rfl rfl rfl (by decide +kernel) ⟨(Nat.le_of_ble_eq_true rfl), (Nat.le_of_ble_eq_true rfl)⟩) rfl hl.1 rfl (Nat.le_of_ble_eq_true rfl) dX7_items_15 ⟨(Nat.le_of_ble_eq_true rfl), (Nat.le_of_ble_eq_true rfl)⟩ (fun r_9 u H locs hw hP2 hD2 hS2 => ?_)
  clear hP hD hS
  obtain ⟨zr_10, rfl, rfl, hf_11, hf_12⟩ := hw
  have hPD : PD D A [(Mrr, .inl (g 0, 3, .inl frrx_2)), (Mm, .inr (7, [.int zth, .ref Mt, .int (nI tp), .int (nI max_5), .int zwr, .ref Mrr, .ref Mrh, .ref Mrc, .int (nI rh), .int (nI rc), .ref Mn, .ref Mf, .ref Mr, .ref Mh, .int zhp, .int zcc, .ref Ma, .ref Mas, .ref Msn, .ref Mac, .ref Mat])), (Mt, .inl (g 0, 160, .inl fmt))] H := ⟨hP2, hD2⟩
  have hS := hS2; clear hP2 hD2 hS2; have hP := hPD.1; have hD := hPD.2; clear hPD
  refine W.widen (k := 0) (n := 0) (Nat.le_of_ble_eq_true rfl) (Nat.le_of_ble_eq_true rfl) ?_
  refine lv_istore (lv' := [(5, .int r_9), (4, .int 0), (0, .ref Mm), (1, .int 0), (2, .ref Mrr), (3, .int 0)]) hx hb dX7_items_18 hl (by decide) rfl (fun ls hl => ?_)
  have loop_89 : ∀ (Nloop_89 : Nat) (i_47 : Int32) (i_48 : Int32) (F_49 : Nat → Int32) (z_50 : Nat) (z_51 : Int32) (hi_47 : okc i_47) (hF_49 : n1 F_49) (hv_86 : z_50 ≤ tp) (hv_87 : ¬ i_47 = -1 → z_50 < tp) (hv_88 : ma ≤ z_50) (hmloop_89 : tp - z_50 < Nloop_89) (H : Heap) (locs : List Loc) (ls : Array Slot), va_P D vwCl [(Mrr, .inl (g 0, 3, .inl F_49)), (Mm, .inr (7, [.int zth, .ref Mt, .int (nI tp), .int (nI z_50), .int z_51, .ref Mrr, .ref Mrh, .ref Mrc, .int (nI rh), .int (nI rc), .ref Mn, .ref Mf, .ref Mr, .ref Mh, .int zhp, .int zcc, .ref Ma, .ref Mas, .ref Msn, .ref Mac, .ref Mat])), (Mt, .inl (g 0, 160, .inl fmt))] H → va_D A [(Mrr, .inl (g 0, 3, .inl F_49)), (Mm, .inr (7, [.int zth, .ref Mt, .int (nI tp), .int (nI z_50), .int z_51, .ref Mrr, .ref Mrh, .ref Mrc, .int (nI rh), .int (nI rc), .ref Mn, .ref Mf, .ref Mr, .ref Mh, .int zhp, .int zcc, .ref Ma, .ref Mas, .ref Msn, .ref Mac, .ref Mat])), (Mt, .inl (g 0, 160, .inl fmt))] → va_S A s.heap H locs → lv_has ls 6 [(5, .int i_47), (4, .int i_48), (0, .ref Mm), (1, .int 0), (2, .ref Mrr), (3, .int 0)] → W p l e (headSpec wsX7_items ({ frames := 3, cells := 0, slots := 0, locals := 64 })).room s m ([.ref Mm, .int 0, .ref Mrr, .int 0] : List Value).toArray below meth c H locs 0 0 Q (F0 m 20 ls []) := by
    clear hP hD hS hl
    intro Nloop_89
    induction Nloop_89 with
    | zero => intro i_47 i_48 F_49 z_50 z_51 hi_47 hF_49 hv_86 hv_87 hv_88 hm9; exact absurd hm9 (Nat.not_lt_zero _)
    | succ Nloop_89 loop_89_ih =>
      intro i_47 i_48 F_49 z_50 z_51 hi_47 hF_49 hv_86 hv_87 hv_88 hmloop_89 H locs ls hP hD hS hl
      refine lv_aload_n hx hb dX7_items_20 rfl (lv_at hl 2 rfl) ?_
      refine va_get (D := D) (ci := 7) (v := .int z_51) (C := RX7) (T := TX7) (N := 21) hx hb hts iX7 hown hK hP 1 rfl rfl 4 (by decide) f71 (fun _ h9 => h9) rfl dX7_items_21 ?_
      refine lv_iconst (v := (-1)) hx hb dX7_items_24 (by decide) ?_
      refine lv_icmp_ne (tgt := 98) hx hb dX7_items_25 (by decide) (fun cb_90 => ?_) (fun cb_90 => ?_)
      · skip
        have hPD9 : PD D A [(Mm, .inr (7, [.int zth, .ref Mt, .int (nI tp), .int (nI z_50), .int z_51, .ref Mrr, .ref Mrh, .ref Mrc, .int (nI rh), .int (nI rc), .ref Mn, .ref Mf, .ref Mr, .ref Mh, .int zhp, .int zcc, .ref Ma, .ref Mas, .ref Msn, .ref Mac, .ref Mat])), (Mt, .inl (g 0, 160, .inl fmt)), (Mrr, .inl (g 0, 3, .inl F_49))] H := ⟨hP.sub [1, 2, 0] rfl, hD.sub [1, 2, 0] (by decide) rfl⟩
        have hP9 := hPD9.1; have hD9 := hPD9.2
        subst hQ
        refine W.widen (k := 0) (n := 0) (Nat.le_of_ble_eq_true rfl) (Nat.le_of_ble_eq_true rfl) ?_
        exact W.vret hx hb hr (fun tS htS _ => ⟨⟨_, rfl, ⟨z_50, z_51, F_49, rfl, (hF_49), (show z_50 ≤ tp by omega), (show ma ≤ z_50 by omega)⟩, by rw [htS]; exact hP9, hD9⟩, hS.F htS⟩) hS.2.2 dX7_items_98
      · skip
        have hPq_91 := hP; have hDq_91 := hD; have hSq_91 := hS; have hlq_91 := hl; clear hP hD hS hl
        subst cb_90
        have hP := hPq_91; have hD := hDq_91; have hS := hSq_91; have hl := hlq_91; clear hPq_91 hDq_91 hSq_91 hlq_91
        refine lv_iload hx hb dX7_items_28 (lv_at hl 0 rfl) ?_
        refine lv_iconst (v := (-1)) hx hb dX7_items_30 (by decide) ?_
        refine lv_icmp_eq (tgt := 98) hx hb dX7_items_31 (by decide) (fun cb_92 => ?_) (fun cb_92 => ?_)
        · skip
          have hPq_93 := hP; have hDq_93 := hD; have hSq_93 := hS; have hlq_93 := hl; clear hP hD hS hl
          subst cb_92
          have hP := hPq_93; have hD := hDq_93; have hS := hSq_93; have hl := hlq_93; clear hPq_93 hDq_93 hSq_93 hlq_93
          have hPD9 : PD D A [(Mm, .inr (7, [.int zth, .ref Mt, .int (nI tp), .int (nI z_50), .int (-1), .ref Mrr, .ref Mrh, .ref Mrc, .int (nI rh), .int (nI rc), .ref Mn, .ref Mf, .ref Mr, .ref Mh, .int zhp, .int zcc, .ref Ma, .ref Mas, .ref Msn, .ref Mac, .ref Mat])), (Mt, .inl (g 0, 160, .inl fmt)), (Mrr, .inl (g 0, 3, .inl F_49))] H := ⟨hP.sub [1, 2, 0] rfl, hD.sub [1, 2, 0] (by decide) rfl⟩
          have hP9 := hPD9.1; have hD9 := hPD9.2
          subst hQ
          refine W.widen (k := 0) (n := 0) (Nat.le_of_ble_eq_true rfl) (Nat.le_of_ble_eq_true rfl) ?_
          exact W.vret hx hb hr (fun tS htS _ => ⟨⟨_, rfl, ⟨z_50, (-1), F_49, rfl, (hF_49), (show z_50 ≤ tp by omega), (show ma ≤ z_50 by omega)⟩, by rw [htS]; exact hP9, hD9⟩, hS.F htS⟩) hS.2.2 dX7_items_98
        · skip
          have hq_94 : z_50 < tp := hv_87 cb_92
          have hPq_97 := hP; have hDq_97 := hD; have hSq_97 := hS; have hlq_97 := hl; clear hP hD hS hl
          obtain ⟨j_95, hj_96, rfl⟩ := okc_j (hi_47) cb_92
          have hP := hPq_97; have hD := hDq_97; have hS := hSq_97; have hl := hlq_97; clear hPq_97 hDq_97 hSq_97 hlq_97
          refine lv_iload hx hb dX7_items_34 (lv_at hl 1 rfl) ?_
          refine lv_iload hx hb dX7_items_36 (lv_at hl 0 rfl) ?_
          refine ky_Si (As := [.int i_48, .int (nI j_95)]) (rest := []) ⟨hx, hb, hml, hown, hts⟩ ⟨hK, hN⟩ hZ hP hD hS hA [] [0, 1, 2] (wc := []) (wr := [(Mrr, .inl (g 0, 3, .inl F_49)), (Mm, .inr (7, [.int zth, .ref Mt, .int (nI tp), .int (nI z_50), .int (-1), .ref Mrr, .ref Mrh, .ref Mrc, .int (nI rh), .int (nI rc), .ref Mn, .ref Mf, .ref Mr, .ref Mh, .int zhp, .int zcc, .ref Ma, .ref Mas, .ref Msn, .ref Mac, .ref Mat])), (Mt, .inl (g 0, 160, .inl fmt))]) rfl rfl rfl rfl (by decide) (k_X7_has l D g H.size i_48 (nI j_95)) (va_cwS 2 hts gX7_items_X7_has rfl rfl rfl (by decide +kernel) ⟨(Nat.le_of_ble_eq_true rfl), (Nat.le_of_ble_eq_true rfl)⟩) rfl hl.1 rfl (Nat.le_of_ble_eq_true rfl) dX7_items_38 ⟨(Nat.le_of_ble_eq_true rfl), (Nat.le_of_ble_eq_true rfl)⟩ (fun r_98 u H locs hw hP2 hD2 hS2 => ?_)
          clear hP hD hS
          obtain rfl := hw
          have hPD : PD D A [(Mrr, .inl (g 0, 3, .inl F_49)), (Mm, .inr (7, [.int zth, .ref Mt, .int (nI tp), .int (nI z_50), .int (-1), .ref Mrr, .ref Mrh, .ref Mrc, .int (nI rh), .int (nI rc), .ref Mn, .ref Mf, .ref Mr, .ref Mh, .int zhp, .int zcc, .ref Ma, .ref Mas, .ref Msn, .ref Mac, .ref Mat])), (Mt, .inl (g 0, 160, .inl fmt))] H := ⟨hP2, hD2⟩
          have hS := hS2; clear hP2 hD2 hS2; have hP := hPD.1; have hD := hPD.2; clear hPD
          refine W.widen (k := 0) (n := 0) (Nat.le_of_ble_eq_true rfl) (Nat.le_of_ble_eq_true rfl) ?_
          refine lv_if_ne (tgt := 98) hx hb dX7_items_41 (by decide) (fun cb_99 => ?_) (fun cb_99 => ?_)
          · skip
            have hPD9 : PD D A [(Mm, .inr (7, [.int zth, .ref Mt, .int (nI tp), .int (nI z_50), .int (-1), .ref Mrr, .ref Mrh, .ref Mrc, .int (nI rh), .int (nI rc), .ref Mn, .ref Mf, .ref Mr, .ref Mh, .int zhp, .int zcc, .ref Ma, .ref Mas, .ref Msn, .ref Mac, .ref Mat])), (Mt, .inl (g 0, 160, .inl fmt)), (Mrr, .inl (g 0, 3, .inl F_49))] H := ⟨hP.sub [1, 2, 0] rfl, hD.sub [1, 2, 0] (by decide) rfl⟩
            have hP9 := hPD9.1; have hD9 := hPD9.2
            subst hQ
            refine W.widen (k := 0) (n := 0) (Nat.le_of_ble_eq_true rfl) (Nat.le_of_ble_eq_true rfl) ?_
            exact W.vret hx hb hr (fun tS htS _ => ⟨⟨_, rfl, ⟨z_50, (-1), F_49, rfl, (hF_49), (show z_50 ≤ tp by omega), (show ma ≤ z_50 by omega)⟩, by rw [htS]; exact hP9, hD9⟩, hS.F htS⟩) hS.2.2 dX7_items_98
          · skip
            have hPq_100 := hP; have hDq_100 := hD; have hSq_100 := hS; have hlq_100 := hl; clear hP hD hS hl
            subst cb_99
            have hP := hPq_100; have hD := hDq_100; have hS := hSq_100; have hl := hlq_100; clear hPq_100 hDq_100 hSq_100 hlq_100
            refine lv_iload hx hb dX7_items_44 (lv_at hl 1 rfl) ?_
            refine lv_iconst (v := 1) hx hb dX7_items_46 (by decide) ?_
            refine lv_iload hx hb dX7_items_47 (lv_at hl 0 rfl) ?_
            refine lv_ishl hx hb dX7_items_49 ?_
            refine lv_topi (fun y_101 _ => ?_)
            refine lv_ior hx hb dX7_items_50 ?_
            refine lv_topi (fun y_102 _ => ?_)
            refine lv_istore (lv' := [(4, .int y_102), (5, .int (nI j_95)), (0, .ref Mm), (1, .int 0), (2, .ref Mrr), (3, .int 0)]) hx hb dX7_items_51 hl (by decide) rfl (fun ls hl => ?_)
            refine lv_aload_n hx hb dX7_items_53 rfl (lv_at hl 2 rfl) ?_
            refine lv_dup hx hb dX7_items_54 rfl ?_
            refine va_get (D := D) (ci := 7) (v := .int (nI z_50)) (C := RX7) (T := TX7) (N := 21) hx hb hts iX7 hown hK hP 1 rfl rfl 3 (by decide) f64 (fun _ h9 => h9) rfl dX7_items_55 ?_
            refine lv_iconst (v := 1) hx hb dX7_items_58 (by decide) ?_
            refine lv_iadd hx hb dX7_items_59 ?_
            refine lv_eqi (y := (nI (z_50 + 1))) (nI_add (z_50) (1)) ?_
            refine va_put (D := D) (ci := 7) (v := .int (nI (z_50 + 1))) (ty := .int) (C := RX7) (T := TX7) (N := 21) hx hb hts iX7 tyX7 tyX7_ok nmX7 hown hK hP hD hS 1 rfl rfl 3 (by decide) f64 (fun _ h9 => h9) rfl (by decide +kernel) (rfl) (rfl) (Nat.le_of_ble_eq_true rfl) dX7_items_60 (fun H locs hP2 hD2 hS2 => ?_)
            clear hP hD hS
            have hPD : PD D A [(Mrr, .inl (g 0, 3, .inl F_49)), (Mm, .inr (7, [.int zth, .ref Mt, .int (nI tp), .int (nI (z_50 + 1)), .int (-1), .ref Mrr, .ref Mrh, .ref Mrc, .int (nI rh), .int (nI rc), .ref Mn, .ref Mf, .ref Mr, .ref Mh, .int zhp, .int zcc, .ref Ma, .ref Mas, .ref Msn, .ref Mac, .ref Mat])), (Mt, .inl (g 0, 160, .inl fmt))] H := ⟨hP2, hD2⟩
            have hS := hS2; clear hP2 hD2 hS2; have hP := hPD.1; have hD := hPD.2; clear hPD
            refine lv_aload_n hx hb dX7_items_63 rfl (lv_at hl 4 rfl) ?_
            refine lv_iload_n hx hb dX7_items_64 rfl (lv_at hl 5 rfl) ?_
            refine lv_iload hx hb dX7_items_65 (lv_at hl 1 rfl) ?_
            refine lv_iadd hx hb dX7_items_67 ?_
            refine lv_eqi (y := (nI (0 + j_95))) (nI_add (0) (j_95)) ?_
            refine lv_aload_n hx hb dX7_items_68 rfl (lv_at hl 2 rfl) ?_
            refine lv_iload_n hx hb dX7_items_69 rfl (lv_at hl 3 rfl) ?_
            refine lv_iload hx hb dX7_items_70 (lv_at hl 1 rfl) ?_
            refine ky_Si (As := [.int 0, .int (nI j_95)]) (rest := [.ref Mm, .int (nI (0 + j_95)), .ref Mrr]) ⟨hx, hb, hml, hown, hts⟩ ⟨hK, hN⟩ hZ hP hD hS hA [] [0, 1, 2] (wc := []) (wr := [(Mrr, .inl (g 0, 3, .inl F_49)), (Mm, .inr (7, [.int zth, .ref Mt, .int (nI tp), .int (nI (z_50 + 1)), .int (-1), .ref Mrr, .ref Mrh, .ref Mrc, .int (nI rh), .int (nI rc), .ref Mn, .ref Mf, .ref Mr, .ref Mh, .int zhp, .int zcc, .ref Ma, .ref Mas, .ref Msn, .ref Mac, .ref Mat])), (Mt, .inl (g 0, 160, .inl fmt))]) rfl rfl rfl rfl (by decide) (k_X7_lowest_0 l D g H.size (nI j_95)) (va_cwS 2 hts gX7_items_X7_lowest rfl rfl rfl (by decide +kernel) ⟨(Nat.le_of_ble_eq_true rfl), (Nat.le_of_ble_eq_true rfl)⟩) rfl hl.1 rfl (Nat.le_of_ble_eq_true rfl) dX7_items_72 ⟨(Nat.le_of_ble_eq_true rfl), (Nat.le_of_ble_eq_true rfl)⟩ (fun r_103 u H locs hw hP2 hD2 hS2 => ?_)
            clear hP hD hS
            obtain ⟨nx_104, rfl, rfl, hf_105⟩ := hw
            have hPD : PD D A [(Mrr, .inl (g 0, 3, .inl F_49)), (Mm, .inr (7, [.int zth, .ref Mt, .int (nI tp), .int (nI (z_50 + 1)), .int (-1), .ref Mrr, .ref Mrh, .ref Mrc, .int (nI rh), .int (nI rc), .ref Mn, .ref Mf, .ref Mr, .ref Mh, .int zhp, .int zcc, .ref Ma, .ref Mas, .ref Msn, .ref Mac, .ref Mat])), (Mt, .inl (g 0, 160, .inl fmt))] H := ⟨hP2, hD2⟩
            have hS := hS2; clear hP2 hD2 hS2; have hP := hPD.1; have hD := hPD.2; clear hPD
            refine W.widen (k := 0) (n := 0) (Nat.le_of_ble_eq_true rfl) (Nat.le_of_ble_eq_true rfl) ?_
            refine lv_iload_n hx hb dX7_items_75 rfl (lv_at hl 3 rfl) ?_
            refine lv_iload hx hb dX7_items_76 (lv_at hl 1 rfl) ?_
            refine ky_Si (As := [.int 0, .int (nI j_95)]) (rest := [.int (nI nx_104), .ref Mm, .int (nI (0 + j_95)), .ref Mrr]) ⟨hx, hb, hml, hown, hts⟩ ⟨hK, hN⟩ hZ hP hD hS hA [] [0, 1, 2] (wc := []) (wr := [(Mrr, .inl (g 0, 3, .inl F_49)), (Mm, .inr (7, [.int zth, .ref Mt, .int (nI tp), .int (nI (z_50 + 1)), .int (-1), .ref Mrr, .ref Mrh, .ref Mrc, .int (nI rh), .int (nI rc), .ref Mn, .ref Mf, .ref Mr, .ref Mh, .int zhp, .int zcc, .ref Ma, .ref Mas, .ref Msn, .ref Mac, .ref Mat])), (Mt, .inl (g 0, 160, .inl fmt))]) rfl rfl rfl rfl (by decide) (k_X7_highest_0 l D g H.size (nI j_95)) (va_cwS 2 hts gX7_items_X7_highest rfl rfl rfl (by decide +kernel) ⟨(Nat.le_of_ble_eq_true rfl), (Nat.le_of_ble_eq_true rfl)⟩) rfl hl.1 rfl (Nat.le_of_ble_eq_true rfl) dX7_items_78 ⟨(Nat.le_of_ble_eq_true rfl), (Nat.le_of_ble_eq_true rfl)⟩ (fun r_106 u H locs hw hP2 hD2 hS2 => ?_)
            clear hP hD hS
            obtain rfl := hw
            have hPD : PD D A [(Mrr, .inl (g 0, 3, .inl F_49)), (Mm, .inr (7, [.int zth, .ref Mt, .int (nI tp), .int (nI (z_50 + 1)), .int (-1), .ref Mrr, .ref Mrh, .ref Mrc, .int (nI rh), .int (nI rc), .ref Mn, .ref Mf, .ref Mr, .ref Mh, .int zhp, .int zcc, .ref Ma, .ref Mas, .ref Msn, .ref Mac, .ref Mat])), (Mt, .inl (g 0, 160, .inl fmt))] H := ⟨hP2, hD2⟩
            have hS := hS2; clear hP2 hD2 hS2; have hP := hPD.1; have hD := hPD.2; clear hPD
            refine W.widen (k := 0) (n := 0) (Nat.le_of_ble_eq_true rfl) (Nat.le_of_ble_eq_true rfl) ?_
            refine ky_Vi (As := [.int (nI nx_104), .int r_106]) (rest := [.int (nI (0 + j_95)), .ref Mrr]) ⟨hx, hb, hml, hown, hts⟩ ⟨hK, hN⟩ hZ hP hD hS hA [1, 2] [0] (wc := [(Mm, .inr (7, [.int zth, .ref Mt, .int (nI tp), .int (nI (z_50 + 1)), .int (-1), .ref Mrr, .ref Mrh, .ref Mrc, .int (nI rh), .int (nI rc), .ref Mn, .ref Mf, .ref Mr, .ref Mh, .int zhp, .int zcc, .ref Ma, .ref Mas, .ref Msn, .ref Mac, .ref Mat])), (Mt, .inl (g 0, 160, .inl fmt))]) (wr := [(Mrr, .inl (g 0, 3, .inl F_49))]) rfl rfl rfl rfl (by decide) (k_X7_number l D g H.size Mm nx_104 r_106 zth Mt tp (z_50 + 1) (-1) Mrr Mrh Mrc rh rc Mn Mf Mr Mh zhp zcc Ma Mas Msn Mac Mat fmt (show tp ≤ 160 by omega) (show (z_50 + 1) ≤ tp by omega) (show nx_104 ≤ 1 by omega)) (cwV 2 hts gX7_items_X7_number rfl rfl rfl (by decide +kernel) ⟨(Nat.le_of_ble_eq_true rfl), (Nat.le_of_ble_eq_true rfl)⟩) 1 7 rfl rfl rfl rfl hl.1 rfl (Nat.le_of_ble_eq_true rfl) dX7_items_81 ⟨(Nat.le_of_ble_eq_true rfl), (Nat.le_of_ble_eq_true rfl)⟩ (fun r_107 u H locs hw hP2 hD2 hS2 => ?_)
            clear hP hD hS
            obtain ⟨max_108, zwrx_109, nx_110, rfl, rfl, hf_111, hf_112, hf_113⟩ := hw
            have hPD : PD D A [(Mrr, .inl (g 0, 3, .inl F_49)), (Mm, .inr (7, [.int zth, .ref Mt, .int (nI tp), .int (nI max_108), .int zwrx_109, .ref Mrr, .ref Mrh, .ref Mrc, .int (nI rh), .int (nI rc), .ref Mn, .ref Mf, .ref Mr, .ref Mh, .int zhp, .int zcc, .ref Ma, .ref Mas, .ref Msn, .ref Mac, .ref Mat])), (Mt, .inl (g 0, 160, .inl fmt))] H := ⟨hP2, hD2⟩
            have hS := hS2; clear hP2 hD2 hS2; have hP := hPD.1; have hD := hPD.2; clear hPD
            refine W.widen (k := 0) (n := 0) (Nat.le_of_ble_eq_true rfl) (Nat.le_of_ble_eq_true rfl) ?_
            refine va_iast hx hb hK hP hD hS 0 0 rfl rfl (vp_in_nI (show 0 + j_95 < 3 by omega) (by decide)) dX7_items_84 (fun H locs hP2 hD2 hS2 => ?_)
            clear hP hD hS
            have hPD : PD D A [(Mrr, .inl (g 0, 3, .inl (upd F_49 (nI (0 + j_95)).toNatClampNeg (nI nx_110)))), (Mm, .inr (7, [.int zth, .ref Mt, .int (nI tp), .int (nI max_108), .int zwrx_109, .ref Mrr, .ref Mrh, .ref Mrc, .int (nI rh), .int (nI rc), .ref Mn, .ref Mf, .ref Mr, .ref Mh, .int zhp, .int zcc, .ref Ma, .ref Mas, .ref Msn, .ref Mac, .ref Mat])), (Mt, .inl (g 0, 160, .inl fmt))] H := ⟨hP2, hD2⟩
            have hS := hS2; clear hP2 hD2 hS2; have hP := hPD.1; have hD := hPD.2; clear hPD
            rw [nI_clamp (show 0 + j_95 < 2 ^ 31 by omega)] at hP hD
            have hPD : PD D A [(Mrr, .inl (g 0, 3, .inl (upd F_49 (0 + j_95) (nI nx_110)))), (Mm, .inr (7, [.int zth, .ref Mt, .int (nI tp), .int (nI max_108), .int zwrx_109, .ref Mrr, .ref Mrh, .ref Mrc, .int (nI rh), .int (nI rc), .ref Mn, .ref Mf, .ref Mr, .ref Mh, .int zhp, .int zcc, .ref Ma, .ref Mas, .ref Msn, .ref Mac, .ref Mat])), (Mt, .inl (g 0, 160, .inl fmt))] H := ⟨hP, hD⟩
            clear hP hD; have hP := hPD.1; have hD := hPD.2; clear hPD
            have hF_114 : n1 (upd F_49 (0 + j_95) (nI nx_110)) := n1_upd (hF_49) (n := nx_110) (show nx_110 ≤ 99 by omega)
            generalize upd F_49 (0 + j_95) (nI nx_110) = F_114 at hP hD hF_114
            refine lv_iload_n hx hb dX7_items_85 rfl (lv_at hl 3 rfl) ?_
            refine lv_aload_n hx hb dX7_items_86 rfl (lv_at hl 2 rfl) ?_
            refine ky_Vi (As := []) (rest := [.int 0]) ⟨hx, hb, hml, hown, hts⟩ ⟨hK, hN⟩ hZ hP hD hS hA [1, 2] [0] (wc := [(Mm, .inr (7, [.int zth, .ref Mt, .int (nI tp), .int (nI max_108), .int zwrx_109, .ref Mrr, .ref Mrh, .ref Mrc, .int (nI rh), .int (nI rc), .ref Mn, .ref Mf, .ref Mr, .ref Mh, .int zhp, .int zcc, .ref Ma, .ref Mas, .ref Msn, .ref Mac, .ref Mat])), (Mt, .inl (g 0, 160, .inl fmt))]) (wr := [(Mrr, .inl (g 0, 3, .inl F_114))]) rfl rfl rfl rfl (by decide) (k_X7_ahead l D g H.size Mm zth Mt tp max_108 zwrx_109 Mrr Mrh Mrc rh rc Mn Mf Mr Mh zhp zcc Ma Mas Msn Mac Mat fmt (show tp ≤ 160 by omega) (show max_108 ≤ tp by omega)) (cwV 0 hts gX7_items_X7_ahead rfl rfl rfl (by decide +kernel) ⟨(Nat.le_of_ble_eq_true rfl), (Nat.le_of_ble_eq_true rfl)⟩) 1 7 rfl rfl rfl rfl hl.1 rfl (Nat.le_of_ble_eq_true rfl) dX7_items_87 ⟨(Nat.le_of_ble_eq_true rfl), (Nat.le_of_ble_eq_true rfl)⟩ (fun r_115 u H locs hw hP2 hD2 hS2 => ?_)
            clear hP hD hS
            obtain ⟨max_116, rfl, rfl, hf_117, hf_118⟩ := hw
            have hPD : PD D A [(Mrr, .inl (g 0, 3, .inl F_114)), (Mm, .inr (7, [.int zth, .ref Mt, .int (nI tp), .int (nI max_116), .int zwrx_109, .ref Mrr, .ref Mrh, .ref Mrc, .int (nI rh), .int (nI rc), .ref Mn, .ref Mf, .ref Mr, .ref Mh, .int zhp, .int zcc, .ref Ma, .ref Mas, .ref Msn, .ref Mac, .ref Mat])), (Mt, .inl (g 0, 160, .inl fmt))] H := ⟨hP2, hD2⟩
            have hS := hS2; clear hP2 hD2 hS2; have hP := hPD.1; have hD := hPD.2; clear hPD
            refine W.widen (k := 0) (n := 0) (Nat.le_of_ble_eq_true rfl) (Nat.le_of_ble_eq_true rfl) ?_
            refine lv_topi (fun y_119 hey_119 => ?_)
            refine ky_Si (As := [.int 0, .int y_119]) (rest := []) ⟨hx, hb, hml, hown, hts⟩ ⟨hK, hN⟩ hZ hP hD hS hA [] [0, 1, 2] (wc := []) (wr := [(Mrr, .inl (g 0, 3, .inl F_114)), (Mm, .inr (7, [.int zth, .ref Mt, .int (nI tp), .int (nI max_116), .int zwrx_109, .ref Mrr, .ref Mrh, .ref Mrc, .int (nI rh), .int (nI rc), .ref Mn, .ref Mf, .ref Mr, .ref Mh, .int zhp, .int zcc, .ref Ma, .ref Mas, .ref Msn, .ref Mac, .ref Mat])), (Mt, .inl (g 0, 160, .inl fmt))]) rfl rfl rfl rfl (by decide) (k_X7_itemBy_0 l D g H.size y_119) (va_cwS 2 hts gX7_items_X7_itemBy rfl rfl rfl (by decide +kernel) ⟨(Nat.le_of_ble_eq_true rfl), (Nat.le_of_ble_eq_true rfl)⟩) rfl hl.1 rfl (Nat.le_of_ble_eq_true rfl) dX7_items_90 ⟨(Nat.le_of_ble_eq_true rfl), (Nat.le_of_ble_eq_true rfl)⟩ (fun r_120 u H locs hw hP2 hD2 hS2 => ?_)
            clear hP hD hS
            obtain ⟨zr_121, rfl, rfl, hf_122, hf_123⟩ := hw
            have hPD : PD D A [(Mrr, .inl (g 0, 3, .inl F_114)), (Mm, .inr (7, [.int zth, .ref Mt, .int (nI tp), .int (nI max_116), .int zwrx_109, .ref Mrr, .ref Mrh, .ref Mrc, .int (nI rh), .int (nI rc), .ref Mn, .ref Mf, .ref Mr, .ref Mh, .int zhp, .int zcc, .ref Ma, .ref Mas, .ref Msn, .ref Mac, .ref Mat])), (Mt, .inl (g 0, 160, .inl fmt))] H := ⟨hP2, hD2⟩
            have hS := hS2; clear hP2 hD2 hS2; have hP := hPD.1; have hD := hPD.2; clear hPD
            refine W.widen (k := 0) (n := 0) (Nat.le_of_ble_eq_true rfl) (Nat.le_of_ble_eq_true rfl) ?_
            refine lv_istore (lv' := [(5, .int r_120), (4, .int y_102), (0, .ref Mm), (1, .int 0), (2, .ref Mrr), (3, .int 0)]) hx hb dX7_items_93 hl (by decide) rfl (fun ls hl => ?_)
            refine lv_goto (tgt := 20) hx hb dX7_items_95 (by decide) ?_
            exact loop_89_ih r_120 y_102 F_114 max_116 zwrx_109 (hf_122) (hF_114) (show max_116 ≤ tp by omega) (fun q9 => (show max_116 < tp by have := (fun q9 => here_lt hey_119 q9) (hf_123 q9); omega)) (show ma ≤ max_116 by omega) (show tp - max_116 < Nloop_89 by omega) _ _ _ hP hD hS hl
  exact loop_89 _ r_9 0 frrx_2 max_5 zwr (hf_11) (hf_3) (show max_5 ≤ tp by omega) (fun q9 => (show max_5 < tp by have := (fun q9 => here_lt hey_8 q9) (hf_12 q9); omega)) (show ma ≤ max_5 by omega) (Nat.lt_succ_self _) _ _ _ hP hD hS hl
