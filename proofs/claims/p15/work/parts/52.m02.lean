set_option maxHeartbeats 4000000 in
set_option maxRecDepth 100000 in
theorem k_X7_isHeld (l : Launch) (D : va_G) (g : Nat → ClassId) (sz : Nat) (Mm : Nat) (hix : Nat) (cx : Nat) (zth : Int32) (Mt : Nat) (tp : Nat) (zma : Int32) (zwr : Int32) (Mrr : Nat) (Mrh : Nat) (Mrc : Nat) (zrh : Int32) (zrc : Int32) (Mn : Nat) (Mf : Nat) (Mr : Nat) (Mh : Nat) (hp : Nat) (cc : Nat) (Ma : Nat) (Mas : Nat) (Msn : Nat) (Mac : Nat) (Mat : Nat) (fno : Nat → Int32) (h0 : hix < 3) (h1 : cx < 3) : Met l yX7_isHeld wsX7_isHeld ({ frames := 3, cells := 0, slots := 0, locals := 65 }) (va_Pc [.ref Mm, .int (nI hix), .int (nI cx)] (pre D g sz [(Mm, .inr (7, [.int zth, .ref Mt, .int (nI tp), .int zma, .int zwr, .ref Mrr, .ref Mrh, .ref Mrc, .int zrh, .int zrc, .ref Mn, .ref Mf, .ref Mr, .ref Mh, .int (nI hp), .int (nI cc), .ref Ma, .ref Mas, .ref Msn, .ref Mac, .ref Mat])), (Mn, .inl (g 0, 1767, .inl fno))])) (va_Qi (fun (r : Int32) (u : va_W) => u = [(Mm, .inr (7, [.int zth, .ref Mt, .int (nI tp), .int zma, .int zwr, .ref Mrr, .ref Mrh, .ref Mrc, .int zrh, .int zrc, .ref Mn, .ref Mf, .ref Mr, .ref Mh, .int (nI hp), .int (nI cc), .ref Ma, .ref Mas, .ref Msn, .ref Mac, .ref Mat])), (Mn, .inl (g 0, 1767, .inl fno))]) (wd D (va_A [(Mm, .inr (7, [.int zth, .ref Mt, .int (nI tp), .int zma, .int zwr, .ref Mrr, .ref Mrh, .ref Mrc, .int zrh, .int zrc, .ref Mn, .ref Mf, .ref Mr, .ref Mh, .int (nI hp), .int (nI cc), .ref Ma, .ref Mas, .ref Msn, .ref Mac, .ref Mat])), (Mn, .inl (g 0, 1767, .inl fno))] sz)) (va_A [(Mm, .inr (7, [.int zth, .ref Mt, .int (nI tp), .int zma, .int zwr, .ref Mrr, .ref Mrh, .ref Mrc, .int zrh, .int zrc, .ref Mn, .ref Mf, .ref Mr, .ref Mh, .int (nI hp), .int (nI cc), .ref Ma, .ref Mas, .ref Msn, .ref Mac, .ref Mat])), (Mn, .inl (g 0, 1767, .inl fno))] sz)) 0 0 (va_A [(Mm, .inr (7, [.int zth, .ref Mt, .int (nI tp), .int zma, .int zwr, .ref Mrr, .ref Mrh, .ref Mrc, .int zrh, .int zrc, .ref Mn, .ref Mf, .ref Mr, .ref Mh, .int (nI hp), .int (nI cc), .ref Ma, .ref Mas, .ref Msn, .ref Mac, .ref Mat])), (Mn, .inl (g 0, 1767, .inl fno))] sz) := by
  refine Met.ofW (cc := cX7_isHeld) (maxL := 3) (ret := (some .boolean)) (by decide) rfl ?_
  intro p e s m args below meth c s₁ B hml hv
  obtain ⟨rfl, hsz, hP, ⟨hK, hN⟩, hD0, hZ⟩ := hv
  have hx := B.exec
  have hb := B.bytes
  have hr := B.returns
  have hts := atoms_spec (ws := wsX7_isHeld) B.pre
  have hown : s.vm.findClass RX7 = some m.cls := findClass_of_methodNamed B.named
  have hlocks := B.notSynchronized
  clear B
  subst hsz
  have hD := hD0.self (sz := s.heap.size)
  clear hD0
  generalize hAe : va_A [(Mm, .inr (7, [.int zth, .ref Mt, .int (nI tp), .int zma, .int zwr, .ref Mrr, .ref Mrh, .ref Mrc, .int zrh, .int zrc, .ref Mn, .ref Mf, .ref Mr, .ref Mh, .int (nI hp), .int (nI cc), .ref Ma, .ref Mas, .ref Msn, .ref Mac, .ref Mat])), (Mn, .inl (g 0, 1767, .inl fno))] s.heap.size = A at hD hZ ⊢
  have hA : ∀ q : Nat, s.heap.size ≤ q → A q := fun q h => by rw [← hAe]; exact Or.inr h
  have hS : va_S A s.heap s.heap [] := va_S.rf
  have f22 := hts (.fieldLink RX7 22 "HopCreditsModel" "now" "[I") (List.mem_of_getElem? (i := 1) rfl)
  have iX7 : ∀ w ∈ u_ws RX7 TX7 21, w ∈ wsX7_isHeld := fun w h => List.mem_cons_of_mem _ (List.mem_append_right _ (h))
  have hl := lv_entry ([.ref Mm, .int (nI hix), .int (nI cx)]) (n := 3) (Nat.le_of_ble_eq_true rfl)
  rw [lg_entry_eq]
  generalize (lg_sl ([.ref Mm, .int (nI hix), .int (nI cx)]) ++ List.replicate (3 - (lg_sl ([.ref Mm, .int (nI hix), .int (nI cx)])).length) Slot.unset).toArray = ls at hl ⊢
  have hl : lv_has ls 3 [(0, .ref Mm), (1, .int (nI hix)), (2, .int (nI cx))] := hl
  generalize hQ : MQ below _ _ s _ _ _ = Q
  generalize hH : s.heap = H at hP ⊢
  have hS : va_S A s.heap H [] := by rw [← hH]; exact hS
  clear hH
  refine lv_aload_n hx hb dX7_isHeld_0 rfl (lv_at hl 0 rfl) ?_
  refine va_get (D := D) (ci := 7) (v := .ref Mn) (C := RX7) (T := TX7) (N := 21) hx hb hts iX7 hown hK hP 0 rfl rfl 10 (by decide) f22 (fun _ h9 => h9) rfl dX7_isHeld_1 ?_
  refine lv_iload_n hx hb dX7_isHeld_4 rfl (lv_at hl 1 rfl) ?_
  refine lv_iload_n hx hb dX7_isHeld_5 rfl (lv_at hl 2 rfl) ?_
  refine ky_Si (As := [.int (nI hix), .int (nI cx)]) (rest := [.ref Mn]) ⟨hx, hb, hml, hown, hts⟩ ⟨hK, hN⟩ hZ hP hD hS hA [] [0, 1] (wc := []) (wr := [(Mm, .inr (7, [.int zth, .ref Mt, .int (nI tp), .int zma, .int zwr, .ref Mrr, .ref Mrh, .ref Mrc, .int zrh, .int zrc, .ref Mn, .ref Mf, .ref Mr, .ref Mh, .int (nI hp), .int (nI cc), .ref Ma, .ref Mas, .ref Msn, .ref Mac, .ref Mat])), (Mn, .inl (g 0, 1767, .inl fno))]) rfl rfl rfl rfl (by decide) (k_X7_bufferAt l D g H.size hix cx (show hix ≤ 3 by omega) (show cx < 3 by omega)) (va_cwS 2 hts gX7_isHeld_X7_bufferAt rfl rfl rfl (by decide +kernel) ⟨(Nat.le_of_ble_eq_true rfl), (Nat.le_of_ble_eq_true rfl)⟩) rfl hl.1 rfl (Nat.le_of_ble_eq_true rfl) dX7_isHeld_6 ⟨(Nat.le_of_ble_eq_true rfl), (Nat.le_of_ble_eq_true rfl)⟩ (fun r_1 u H locs hw hP2 hD2 hS2 => ?_)
  clear hP hD hS
  obtain ⟨rfl, rfl⟩ := hw
  have hPD : PD D A [(Mm, .inr (7, [.int zth, .ref Mt, .int (nI tp), .int zma, .int zwr, .ref Mrr, .ref Mrh, .ref Mrc, .int zrh, .int zrc, .ref Mn, .ref Mf, .ref Mr, .ref Mh, .int (nI hp), .int (nI cc), .ref Ma, .ref Mas, .ref Msn, .ref Mac, .ref Mat])), (Mn, .inl (g 0, 1767, .inl fno))] H := ⟨hP2, hD2⟩
  have hS := hS2; clear hP2 hD2 hS2; have hP := hPD.1; have hD := hPD.2; clear hPD
  refine W.widen (k := 0) (n := 0) (Nat.le_of_ble_eq_true rfl) (Nat.le_of_ble_eq_true rfl) ?_
  refine va_iald hx hb hK hP 1 0 rfl rfl (vp_in_nI (show 189 + 3 * hix + cx < 1767 by omega) (by decide)) dX7_isHeld_9 ?_
  refine lv_eqi (y := (fno (189 + 3 * hix + cx))) (congrArg fno (nI_clamp (show 189 + 3 * hix + cx < 2 ^ 31 by omega))) ?_
  refine lv_topi (fun y_2 _ => ?_)
  refine lv_if_le (tgt := 26) hx hb dX7_isHeld_10 (by decide) (fun cb_3 => ?_) (fun cb_3 => ?_)
  · skip
    refine lv_iconst (v := 0) hx hb dX7_isHeld_26 (by decide) ?_
    have hP9 := hP; have hD9 := hD
    subst hQ
    refine W.widen (k := 0) (n := 0) (Nat.le_of_ble_eq_true rfl) (Nat.le_of_ble_eq_true rfl) ?_
    exact W.zret (v := 0) (ty := .boolean) hx hb hr (rfl) (fun tS htS _ => ⟨⟨_, _, rfl, rfl, by rw [htS]; exact hP9, hD9⟩, hS.F htS⟩) hS.2.2 dX7_isHeld_27
  · skip
    refine lv_aload_n hx hb dX7_isHeld_13 rfl (lv_at hl 0 rfl) ?_
    refine lv_iload_n hx hb dX7_isHeld_14 rfl (lv_at hl 1 rfl) ?_
    refine lv_iload_n hx hb dX7_isHeld_15 rfl (lv_at hl 2 rfl) ?_
    refine ky_Vi (As := [.int (nI hix), .int (nI cx)]) (rest := []) ⟨hx, hb, hml, hown, hts⟩ ⟨hK, hN⟩ hZ hP hD hS hA [0, 1] [] (wc := [(Mm, .inr (7, [.int zth, .ref Mt, .int (nI tp), .int zma, .int zwr, .ref Mrr, .ref Mrh, .ref Mrc, .int zrh, .int zrc, .ref Mn, .ref Mf, .ref Mr, .ref Mh, .int (nI hp), .int (nI cc), .ref Ma, .ref Mas, .ref Msn, .ref Mac, .ref Mat])), (Mn, .inl (g 0, 1767, .inl fno))]) (wr := []) rfl rfl rfl rfl (by decide) (k_X7_credit l D g H.size Mm hix cx zth Mt tp zma zwr Mrr Mrh Mrc zrh zrc Mn Mf Mr Mh hp cc Ma Mas Msn Mac Mat fno (show hix < 3 by omega) (show cx < 3 by omega)) (cwV 2 hts gX7_isHeld_X7_credit rfl rfl rfl (by decide +kernel) ⟨(Nat.le_of_ble_eq_true rfl), (Nat.le_of_ble_eq_true rfl)⟩) 0 7 rfl rfl rfl rfl hl.1 rfl (Nat.le_of_ble_eq_true rfl) dX7_isHeld_16 ⟨(Nat.le_of_ble_eq_true rfl), (Nat.le_of_ble_eq_true rfl)⟩ (fun r_4 u H locs hw hP2 hD2 hS2 => ?_)
    clear hP hD hS
    obtain rfl := hw
    have hPD : PD D A [(Mm, .inr (7, [.int zth, .ref Mt, .int (nI tp), .int zma, .int zwr, .ref Mrr, .ref Mrh, .ref Mrc, .int zrh, .int zrc, .ref Mn, .ref Mf, .ref Mr, .ref Mh, .int (nI hp), .int (nI cc), .ref Ma, .ref Mas, .ref Msn, .ref Mac, .ref Mat])), (Mn, .inl (g 0, 1767, .inl fno))] H := ⟨hP2, hD2⟩
    have hS := hS2; clear hP2 hD2 hS2; have hP := hPD.1; have hD := hPD.2; clear hPD
    refine W.widen (k := 0) (n := 0) (Nat.le_of_ble_eq_true rfl) (Nat.le_of_ble_eq_true rfl) ?_
    refine lv_if_ne (tgt := 26) hx hb dX7_isHeld_19 (by decide) (fun cb_5 => ?_) (fun cb_5 => ?_)
    · skip
      refine lv_iconst (v := 0) hx hb dX7_isHeld_26 (by decide) ?_
      have hP9 := hP; have hD9 := hD
      subst hQ
      refine W.widen (k := 0) (n := 0) (Nat.le_of_ble_eq_true rfl) (Nat.le_of_ble_eq_true rfl) ?_
      exact W.zret (v := 0) (ty := .boolean) hx hb hr (rfl) (fun tS htS _ => ⟨⟨_, _, rfl, rfl, by rw [htS]; exact hP9, hD9⟩, hS.F htS⟩) hS.2.2 dX7_isHeld_27
    · skip
      have hPq_6 := hP; have hDq_6 := hD; have hSq_6 := hS; have hlq_6 := hl; clear hP hD hS hl
      subst cb_5
      have hP := hPq_6; have hD := hDq_6; have hS := hSq_6; have hl := hlq_6; clear hPq_6 hDq_6 hSq_6 hlq_6
      refine lv_iconst (v := 1) hx hb dX7_isHeld_22 (by decide) ?_
      refine lv_goto (tgt := 27) hx hb dX7_isHeld_23 (by decide) ?_
      have hP9 := hP; have hD9 := hD
      subst hQ
      refine W.widen (k := 0) (n := 0) (Nat.le_of_ble_eq_true rfl) (Nat.le_of_ble_eq_true rfl) ?_
      exact W.zret (v := 1) (ty := .boolean) hx hb hr (rfl) (fun tS htS _ => ⟨⟨_, _, rfl, rfl, by rw [htS]; exact hP9, hD9⟩, hS.F htS⟩) hS.2.2 dX7_isHeld_27

set_option maxHeartbeats 4000000 in
set_option maxRecDepth 100000 in
theorem k_X7_waits (l : Launch) (D : va_G) (g : Nat → ClassId) (sz : Nat) {gs : Nat → Int32} (Mm : Nat) (hix : Nat) (zth : Int32) (Mt : Nat) (tp : Nat) (zma : Int32) (zwr : Int32) (Mrr : Nat) (Mrh : Nat) (Mrc : Nat) (zrh : Int32) (zrc : Int32) (Mn : Nat) (Mf : Nat) (Mr : Nat) (Mh : Nat) (hp : Nat) (cc : Nat) (Ma : Nat) (Mas : Nat) (Msn : Nat) (Mac : Nat) (Mat : Nat) (fno : Nat → Int32) (fmh : Nat → Int32) (fmr : Nat → Int32) (tb : Nat) (ub : Nat) (h0 : tb < 2 ^ 29) (h1 : ub < 2 ^ 29) (h2 : mOK gs tb ub fno) (h3 : 1 ≤ cc) (h4 : cc ≤ 3) (h5 : hix < 3) (h6 : n3 fmh) : Met l yX7_waits wsX7_waits ({ frames := 4, cells := 0, slots := 0, locals := 87 }) (va_Pc [.ref Mm, .int (nI hix)] (pre D g sz [(Mm, .inr (7, [.int zth, .ref Mt, .int (nI tp), .int zma, .int zwr, .ref Mrr, .ref Mrh, .ref Mrc, .int zrh, .int zrc, .ref Mn, .ref Mf, .ref Mr, .ref Mh, .int (nI hp), .int (nI cc), .ref Ma, .ref Mas, .ref Msn, .ref Mac, .ref Mat])), (Mn, .inl (g 0, 1767, .inl fno)), (Mh, .inl (g 0, 9, .inl fmh)), (Mr, .inl (g 0, 3, .inl fmr))])) (va_Qv (fun (u : va_W) => ∃ (fnox : Nat → Int32), u = [(Mm, .inr (7, [.int zth, .ref Mt, .int (nI tp), .int zma, .int zwr, .ref Mrr, .ref Mrh, .ref Mrc, .int zrh, .int zrc, .ref Mn, .ref Mf, .ref Mr, .ref Mh, .int (nI hp), .int (nI cc), .ref Ma, .ref Mas, .ref Msn, .ref Mac, .ref Mat])), (Mn, .inl (g 0, 1767, .inl fnox)), (Mh, .inl (g 0, 9, .inl fmh)), (Mr, .inl (g 0, 3, .inl fmr))] ∧ (mOK gs tb ub fnox)) (wd D (va_A [(Mm, .inr (7, [.int zth, .ref Mt, .int (nI tp), .int zma, .int zwr, .ref Mrr, .ref Mrh, .ref Mrc, .int zrh, .int zrc, .ref Mn, .ref Mf, .ref Mr, .ref Mh, .int (nI hp), .int (nI cc), .ref Ma, .ref Mas, .ref Msn, .ref Mac, .ref Mat])), (Mn, .inl (g 0, 1767, .inl fno)), (Mh, .inl (g 0, 9, .inl fmh)), (Mr, .inl (g 0, 3, .inl fmr))] sz)) (va_A [(Mm, .inr (7, [.int zth, .ref Mt, .int (nI tp), .int zma, .int zwr, .ref Mrr, .ref Mrh, .ref Mrc, .int zrh, .int zrc, .ref Mn, .ref Mf, .ref Mr, .ref Mh, .int (nI hp), .int (nI cc), .ref Ma, .ref Mas, .ref Msn, .ref Mac, .ref Mat])), (Mn, .inl (g 0, 1767, .inl fno)), (Mh, .inl (g 0, 9, .inl fmh)), (Mr, .inl (g 0, 3, .inl fmr))] sz)) 0 0 (va_A [(Mm, .inr (7, [.int zth, .ref Mt, .int (nI tp), .int zma, .int zwr, .ref Mrr, .ref Mrh, .ref Mrc, .int zrh, .int zrc, .ref Mn, .ref Mf, .ref Mr, .ref Mh, .int (nI hp), .int (nI cc), .ref Ma, .ref Mas, .ref Msn, .ref Mac, .ref Mat])), (Mn, .inl (g 0, 1767, .inl fno)), (Mh, .inl (g 0, 9, .inl fmh)), (Mr, .inl (g 0, 3, .inl fmr))] sz) := by
  refine Met.ofW (cc := cX7_waits) (maxL := 4) (ret := none) (by decide) rfl ?_
  intro p e s m args below meth c s₁ B hml hv
  obtain ⟨rfl, hsz, hP, ⟨hK, hN⟩, hD0, hZ⟩ := hv
  have hx := B.exec
  have hb := B.bytes
  have hr := B.returns
  have hts := atoms_spec (ws := wsX7_waits) B.pre
  have hown : s.vm.findClass RX7 = some m.cls := findClass_of_methodNamed B.named
  have hlocks := B.notSynchronized
  clear B
  subst hsz
  have hD := hD0.self (sz := s.heap.size)
  clear hD0
  generalize hAe : va_A [(Mm, .inr (7, [.int zth, .ref Mt, .int (nI tp), .int zma, .int zwr, .ref Mrr, .ref Mrh, .ref Mrc, .int zrh, .int zrc, .ref Mn, .ref Mf, .ref Mr, .ref Mh, .int (nI hp), .int (nI cc), .ref Ma, .ref Mas, .ref Msn, .ref Mac, .ref Mat])), (Mn, .inl (g 0, 1767, .inl fno)), (Mh, .inl (g 0, 9, .inl fmh)), (Mr, .inl (g 0, 3, .inl fmr))] s.heap.size = A at hD hZ ⊢
  have hA : ∀ q : Nat, s.heap.size ≤ q → A q := fun q h => by rw [← hAe]; exact Or.inr h
  have hS : va_S A s.heap s.heap [] := va_S.rf
  have f127 := hts (.fieldLink RX7 127 "HopCreditsModel" "circuits" "I") (List.mem_of_getElem? (i := 1) rfl)
  have f22 := hts (.fieldLink RX7 22 "HopCreditsModel" "now" "[I") (List.mem_of_getElem? (i := 2) rfl)
  have f28 := hts (.fieldLink RX7 28 "HopCreditsModel" "rule" "[I") (List.mem_of_getElem? (i := 3) rfl)
  have iX7 : ∀ w ∈ u_ws RX7 TX7 21, w ∈ wsX7_waits := fun w h => List.mem_cons_of_mem _ (List.mem_append_right _ (h))
  have hl := lv_entry ([.ref Mm, .int (nI hix)]) (n := 4) (Nat.le_of_ble_eq_true rfl)
  rw [lg_entry_eq]
  generalize (lg_sl ([.ref Mm, .int (nI hix)]) ++ List.replicate (4 - (lg_sl ([.ref Mm, .int (nI hix)])).length) Slot.unset).toArray = ls at hl ⊢
  have hl : lv_has ls 4 [(0, .ref Mm), (1, .int (nI hix))] := hl
  generalize hQ : MQ below _ _ s _ _ _ = Q
  generalize hH : s.heap = H at hP ⊢
  have hS : va_S A s.heap H [] := by rw [← hH]; exact hS
  clear hH
  refine lv_iconst (v := 0) hx hb dX7_waits_0 (by decide) ?_
  refine lv_istore_n (lv' := [(2, .int 0), (0, .ref Mm), (1, .int (nI hix))]) hx hb dX7_waits_1 rfl hl (by decide) rfl (fun ls hl => ?_)
  have loop_56 : ∀ (Nloop_56 : Nat) (i_26 : Nat) (F_27 : Nat → Int32) (hF_27 : mOK gs tb ub F_27) (hbi_26 : i_26 ≤ cc) (hmloop_56 : cc - i_26 < Nloop_56) (H : Heap) (locs : List Loc) (ls : Array Slot), va_P D vwCl [(Mm, .inr (7, [.int zth, .ref Mt, .int (nI tp), .int zma, .int zwr, .ref Mrr, .ref Mrh, .ref Mrc, .int zrh, .int zrc, .ref Mn, .ref Mf, .ref Mr, .ref Mh, .int (nI hp), .int (nI cc), .ref Ma, .ref Mas, .ref Msn, .ref Mac, .ref Mat])), (Mn, .inl (g 0, 1767, .inl F_27)), (Mh, .inl (g 0, 9, .inl fmh)), (Mr, .inl (g 0, 3, .inl fmr))] H → va_D A [(Mm, .inr (7, [.int zth, .ref Mt, .int (nI tp), .int zma, .int zwr, .ref Mrr, .ref Mrh, .ref Mrc, .int zrh, .int zrc, .ref Mn, .ref Mf, .ref Mr, .ref Mh, .int (nI hp), .int (nI cc), .ref Ma, .ref Mas, .ref Msn, .ref Mac, .ref Mat])), (Mn, .inl (g 0, 1767, .inl F_27)), (Mh, .inl (g 0, 9, .inl fmh)), (Mr, .inl (g 0, 3, .inl fmr))] → va_S A s.heap H locs → lv_has ls 4 [(2, .int (nI i_26)), (0, .ref Mm), (1, .int (nI hix))] → W p l e (headSpec wsX7_waits ({ frames := 4, cells := 0, slots := 0, locals := 87 })).room s m ([.ref Mm, .int (nI hix)] : List Value).toArray below meth c H locs 0 0 Q (F0 m 2 ls []) := by
    clear hP hD hS hl
    intro Nloop_56
    induction Nloop_56 with
    | zero => intro i_26 F_27 hF_27 hbi_26 hm9; exact absurd hm9 (Nat.not_lt_zero _)
    | succ Nloop_56 loop_56_ih =>
      intro i_26 F_27 hF_27 hbi_26 hmloop_56 H locs ls hP hD hS hl
      refine lv_iload_n hx hb dX7_waits_2 rfl (lv_at hl 0 rfl) ?_
      refine lv_aload_n hx hb dX7_waits_3 rfl (lv_at hl 1 rfl) ?_
      refine va_get (D := D) (ci := 7) (v := .int (nI cc)) (C := RX7) (T := TX7) (N := 21) hx hb hts iX7 hown hK hP 0 rfl rfl 15 (by decide) f127 (fun _ h9 => h9) rfl dX7_waits_4 ?_
      refine lv_icmp_ge (tgt := 85) hx hb dX7_waits_7 (by decide) (fun cb_57 => ?_) (fun cb_57 => ?_)
      · skip
        have cn_58 : cc ≤ i_26 := (nI_leI (show cc < 2 ^ 31 by omega) (show i_26 < 2 ^ 31 by omega)).mp cb_57
        have hP9 := hP; have hD9 := hD
        subst hQ
        refine W.widen (k := 0) (n := 0) (Nat.le_of_ble_eq_true rfl) (Nat.le_of_ble_eq_true rfl) ?_
        exact W.vret hx hb hr (fun tS htS _ => ⟨⟨_, rfl, ⟨F_27, rfl, (hF_27)⟩, by rw [htS]; exact hP9, hD9⟩, hS.F htS⟩) hS.2.2 dX7_waits_85
      · skip
        have cn_59 : i_26 < cc := Nat.lt_of_not_le (fun q9 => cb_57 ((nI_leI (show cc < 2 ^ 31 by omega) (show i_26 < 2 ^ 31 by omega)).mpr q9))
        refine lv_iload_n hx hb dX7_waits_10 rfl (lv_at hl 2 rfl) ?_
        refine lv_iload_n hx hb dX7_waits_11 rfl (lv_at hl 0 rfl) ?_
        refine ky_Si (As := [.int (nI hix), .int (nI i_26)]) (rest := []) ⟨hx, hb, hml, hown, hts⟩ ⟨hK, hN⟩ hZ hP hD hS hA [] [0, 1, 2, 3] (wc := []) (wr := [(Mm, .inr (7, [.int zth, .ref Mt, .int (nI tp), .int zma, .int zwr, .ref Mrr, .ref Mrh, .ref Mrc, .int zrh, .int zrc, .ref Mn, .ref Mf, .ref Mr, .ref Mh, .int (nI hp), .int (nI cc), .ref Ma, .ref Mas, .ref Msn, .ref Mac, .ref Mat])), (Mn, .inl (g 0, 1767, .inl F_27)), (Mh, .inl (g 0, 9, .inl fmh)), (Mr, .inl (g 0, 3, .inl fmr))]) rfl rfl rfl rfl (by decide) (k_X7_lane l D g H.size hix i_26 (show hix < 3 by omega) (show i_26 < 3 by omega)) (va_cwS 2 hts gX7_waits_X7_lane rfl rfl rfl (by decide +kernel) ⟨(Nat.le_of_ble_eq_true rfl), (Nat.le_of_ble_eq_true rfl)⟩) rfl hl.1 rfl (Nat.le_of_ble_eq_true rfl) dX7_waits_12 ⟨(Nat.le_of_ble_eq_true rfl), (Nat.le_of_ble_eq_true rfl)⟩ (fun r_60 u H locs hw hP2 hD2 hS2 => ?_)
        clear hP hD hS
        obtain ⟨rfl, rfl⟩ := hw
        have hPD : PD D A [(Mm, .inr (7, [.int zth, .ref Mt, .int (nI tp), .int zma, .int zwr, .ref Mrr, .ref Mrh, .ref Mrc, .int zrh, .int zrc, .ref Mn, .ref Mf, .ref Mr, .ref Mh, .int (nI hp), .int (nI cc), .ref Ma, .ref Mas, .ref Msn, .ref Mac, .ref Mat])), (Mn, .inl (g 0, 1767, .inl F_27)), (Mh, .inl (g 0, 9, .inl fmh)), (Mr, .inl (g 0, 3, .inl fmr))] H := ⟨hP2, hD2⟩
        have hS := hS2; clear hP2 hD2 hS2; have hP := hPD.1; have hD := hPD.2; clear hPD
        refine W.widen (k := 0) (n := 0) (Nat.le_of_ble_eq_true rfl) (Nat.le_of_ble_eq_true rfl) ?_
        refine lv_istore_n (lv' := [(3, .int (nI (7 * (3 * hix + i_26)))), (2, .int (nI i_26)), (0, .ref Mm), (1, .int (nI hix))]) hx hb dX7_waits_15 rfl hl (by decide) rfl (fun ls hl => ?_)
        refine lv_aload_n hx hb dX7_waits_16 rfl (lv_at hl 2 rfl) ?_
        refine va_get (D := D) (ci := 7) (v := .ref Mn) (C := RX7) (T := TX7) (N := 21) hx hb hts iX7 hown hK hP 0 rfl rfl 10 (by decide) f22 (fun _ h9 => h9) rfl dX7_waits_17 ?_
        refine lv_iload_n hx hb dX7_waits_20 rfl (lv_at hl 0 rfl) ?_
        refine lv_iconst (v := 4) hx hb dX7_waits_21 (by decide) ?_
        refine lv_iadd hx hb dX7_waits_22 ?_
        refine lv_eqi (y := (nI (7 * (3 * hix + i_26) + 4))) (nI_add (7 * (3 * hix + i_26)) (4)) ?_
        refine lv_aload_n hx hb dX7_waits_23 rfl (lv_at hl 2 rfl) ?_
        refine lv_iload_n hx hb dX7_waits_24 rfl (lv_at hl 3 rfl) ?_
        refine lv_iload_n hx hb dX7_waits_25 rfl (lv_at hl 1 rfl) ?_
        refine ky_Vi (As := [.int (nI hix), .int (nI i_26)]) (rest := [.int (nI (7 * (3 * hix + i_26) + 4)), .ref Mn]) ⟨hx, hb, hml, hown, hts⟩ ⟨hK, hN⟩ hZ hP hD hS hA [0, 1] [2, 3] (wc := [(Mm, .inr (7, [.int zth, .ref Mt, .int (nI tp), .int zma, .int zwr, .ref Mrr, .ref Mrh, .ref Mrc, .int zrh, .int zrc, .ref Mn, .ref Mf, .ref Mr, .ref Mh, .int (nI hp), .int (nI cc), .ref Ma, .ref Mas, .ref Msn, .ref Mac, .ref Mat])), (Mn, .inl (g 0, 1767, .inl F_27))]) (wr := [(Mh, .inl (g 0, 9, .inl fmh)), (Mr, .inl (g 0, 3, .inl fmr))]) rfl rfl rfl rfl (by decide) (k_X7_isHeld l D g H.size Mm hix i_26 zth Mt tp zma zwr Mrr Mrh Mrc zrh zrc Mn Mf Mr Mh hp cc Ma Mas Msn Mac Mat F_27 (show hix < 3 by omega) (show i_26 < 3 by omega)) (cwV 2 hts gX7_waits_X7_isHeld rfl rfl rfl (by decide +kernel) ⟨(Nat.le_of_ble_eq_true rfl), (Nat.le_of_ble_eq_true rfl)⟩) 0 7 rfl rfl rfl rfl hl.1 rfl (Nat.le_of_ble_eq_true rfl) dX7_waits_26 ⟨(Nat.le_of_ble_eq_true rfl), (Nat.le_of_ble_eq_true rfl)⟩ (fun r_61 u H locs hw hP2 hD2 hS2 => ?_)
        clear hP hD hS
        obtain rfl := hw
        have hPD : PD D A [(Mh, .inl (g 0, 9, .inl fmh)), (Mr, .inl (g 0, 3, .inl fmr)), (Mm, .inr (7, [.int zth, .ref Mt, .int (nI tp), .int zma, .int zwr, .ref Mrr, .ref Mrh, .ref Mrc, .int zrh, .int zrc, .ref Mn, .ref Mf, .ref Mr, .ref Mh, .int (nI hp), .int (nI cc), .ref Ma, .ref Mas, .ref Msn, .ref Mac, .ref Mat])), (Mn, .inl (g 0, 1767, .inl F_27))] H := ⟨hP2, hD2⟩
        have hS := hS2; clear hP2 hD2 hS2; have hP := hPD.1; have hD := hPD.2; clear hPD
        refine W.widen (k := 0) (n := 0) (Nat.le_of_ble_eq_true rfl) (Nat.le_of_ble_eq_true rfl) ?_
        have join_71 : ∀ (y_66 : Int32) (H : Heap) (locs : List Loc) (ls : Array Slot), va_P D vwCl [(Mh, .inl (g 0, 9, .inl fmh)), (Mr, .inl (g 0, 3, .inl fmr)), (Mm, .inr (7, [.int zth, .ref Mt, .int (nI tp), .int zma, .int zwr, .ref Mrr, .ref Mrh, .ref Mrc, .int zrh, .int zrc, .ref Mn, .ref Mf, .ref Mr, .ref Mh, .int (nI hp), .int (nI cc), .ref Ma, .ref Mas, .ref Msn, .ref Mac, .ref Mat])), (Mn, .inl (g 0, 1767, .inl F_27))] H → va_D A [(Mh, .inl (g 0, 9, .inl fmh)), (Mr, .inl (g 0, 3, .inl fmr)), (Mm, .inr (7, [.int zth, .ref Mt, .int (nI tp), .int zma, .int zwr, .ref Mrr, .ref Mrh, .ref Mrc, .int zrh, .int zrc, .ref Mn, .ref Mf, .ref Mr, .ref Mh, .int (nI hp), .int (nI cc), .ref Ma, .ref Mas, .ref Msn, .ref Mac, .ref Mat])), (Mn, .inl (g 0, 1767, .inl F_27))] → va_S A s.heap H locs → lv_has ls 4 [(3, .int (nI (7 * (3 * hix + i_26)))), (2, .int (nI i_26)), (0, .ref Mm), (1, .int (nI hix))] → W p l e (headSpec wsX7_waits ({ frames := 4, cells := 0, slots := 0, locals := 87 })).room s m ([.ref Mm, .int (nI hix)] : List Value).toArray below meth c H locs 0 0 Q (F0 m 46 ls [.int y_66, .int (nI (7 * (3 * hix + i_26) + 4)), .ref Mn]) := by
          clear hP hD hS hl
          intro y_66  H locs ls hP hD hS hl
          refine va_iast hx hb hK hP hD hS 3 0 rfl rfl (vp_in_nI (show 7 * (3 * hix + i_26) + 4 < 1767 by omega) (by decide)) dX7_waits_46 (fun H locs hP2 hD2 hS2 => ?_)
          clear hP hD hS
          have hPD : PD D A [(Mh, .inl (g 0, 9, .inl fmh)), (Mr, .inl (g 0, 3, .inl fmr)), (Mm, .inr (7, [.int zth, .ref Mt, .int (nI tp), .int zma, .int zwr, .ref Mrr, .ref Mrh, .ref Mrc, .int zrh, .int zrc, .ref Mn, .ref Mf, .ref Mr, .ref Mh, .int (nI hp), .int (nI cc), .ref Ma, .ref Mas, .ref Msn, .ref Mac, .ref Mat])), (Mn, .inl (g 0, 1767, .inl (upd F_27 (nI (7 * (3 * hix + i_26) + 4)).toNatClampNeg y_66)))] H := ⟨hP2, hD2⟩
          have hS := hS2; clear hP2 hD2 hS2; have hP := hPD.1; have hD := hPD.2; clear hPD
          rw [nI_clamp (show 7 * (3 * hix + i_26) + 4 < 2 ^ 31 by omega)] at hP hD
          have hPD : PD D A [(Mh, .inl (g 0, 9, .inl fmh)), (Mr, .inl (g 0, 3, .inl fmr)), (Mm, .inr (7, [.int zth, .ref Mt, .int (nI tp), .int zma, .int zwr, .ref Mrr, .ref Mrh, .ref Mrc, .int zrh, .int zrc, .ref Mn, .ref Mf, .ref Mr, .ref Mh, .int (nI hp), .int (nI cc), .ref Ma, .ref Mas, .ref Msn, .ref Mac, .ref Mat])), (Mn, .inl (g 0, 1767, .inl (upd F_27 (7 * (3 * hix + i_26) + 4) y_66)))] H := ⟨hP, hD⟩
          clear hP hD; have hP := hPD.1; have hD := hPD.2; clear hPD
          have hF_72 : mOK gs tb ub (upd F_27 (7 * (3 * hix + i_26) + 4) y_66) := mOK_free hF_27 (show mfree (7 * (3 * hix + i_26) + 4) by unfold mfree; omega)
          generalize upd F_27 (7 * (3 * hix + i_26) + 4) y_66 = F_72 at hP hD hF_72
          refine lv_aload_n hx hb dX7_waits_47 rfl (lv_at hl 2 rfl) ?_
          refine va_get (D := D) (ci := 7) (v := .ref Mr) (C := RX7) (T := TX7) (N := 21) hx hb hts iX7 hown hK hP 2 rfl rfl 12 (by decide) f28 (fun _ h9 => h9) rfl dX7_waits_48 ?_
          refine lv_iconst (v := 2) hx hb dX7_waits_51 (by decide) ?_
          refine va_iald hx hb hK hP 1 0 rfl rfl (by unfold vp_in; decide) dX7_waits_52 ?_
          refine lv_eqi (y := (fmr 2)) (rfl) ?_
          refine lv_topi (fun y_73 _ => ?_)
          refine lv_if_le (tgt := 79) hx hb dX7_waits_53 (by decide) (fun cb_74 => ?_) (fun cb_74 => ?_)
          · skip
            refine lv_iinc (v := (nI (i_26 + 1))) (lv' := [(2, .int (nI (i_26 + 1))), (3, .int (nI (7 * (3 * hix + i_26)))), (0, .ref Mm), (1, .int (nI hix))]) hx hb dX7_waits_79 hl (k := 1) rfl (nI_1 (i_26)) (by decide) rfl (fun ls hl => ?_)
            refine lv_goto (tgt := 2) hx hb dX7_waits_82 (by decide) ?_
            exact loop_56_ih (i_26 + 1) F_72 (hF_72) (show (i_26 + 1) ≤ cc by omega) (show cc - (i_26 + 1) < Nloop_56 by omega) _ _ _ (hP.sub [2, 3, 0, 1] rfl) (hD.sub [2, 3, 0, 1] (by decide) rfl) hS (lv_sub hl [0, 2, 3] rfl)
          · skip
            refine lv_aload_n hx hb dX7_waits_56 rfl (lv_at hl 2 rfl) ?_
            refine va_get (D := D) (ci := 7) (v := .ref Mn) (C := RX7) (T := TX7) (N := 21) hx hb hts iX7 hown hK hP 2 rfl rfl 10 (by decide) f22 (fun _ h9 => h9) rfl dX7_waits_57 ?_
            refine lv_iload_n hx hb dX7_waits_60 rfl (lv_at hl 0 rfl) ?_
            refine lv_iconst (v := 4) hx hb dX7_waits_61 (by decide) ?_
            refine lv_iadd hx hb dX7_waits_62 ?_
            refine lv_eqi (y := (nI (7 * (3 * hix + i_26) + 4))) (nI_add (7 * (3 * hix + i_26)) (4)) ?_
            refine va_iald hx hb hK hP 3 0 rfl rfl (vp_in_nI (show 7 * (3 * hix + i_26) + 4 < 1767 by omega) (by decide)) dX7_waits_63 ?_
            refine lv_eqi (y := (F_72 (7 * (3 * hix + i_26) + 4))) (congrArg F_72 (nI_clamp (show 7 * (3 * hix + i_26) + 4 < 2 ^ 31 by omega))) ?_
            refine lv_topi (fun y_75 _ => ?_)
            refine lv_aload_n hx hb dX7_waits_64 rfl (lv_at hl 2 rfl) ?_
            refine va_get (D := D) (ci := 7) (v := .ref Mr) (C := RX7) (T := TX7) (N := 21) hx hb hts iX7 hown hK hP 2 rfl rfl 12 (by decide) f28 (fun _ h9 => h9) rfl dX7_waits_65 ?_
            refine lv_iconst (v := 2) hx hb dX7_waits_68 (by decide) ?_
            refine va_iald hx hb hK hP 1 0 rfl rfl (by unfold vp_in; decide) dX7_waits_69 ?_
            refine lv_eqi (y := (fmr 2)) (rfl) ?_
            refine lv_topi (fun y_76 _ => ?_)
            refine lv_icmp_ne (tgt := 79) hx hb dX7_waits_70 (by decide) (fun cb_77 => ?_) (fun cb_77 => ?_)
            · skip
              refine lv_iinc (v := (nI (i_26 + 1))) (lv' := [(2, .int (nI (i_26 + 1))), (3, .int (nI (7 * (3 * hix + i_26)))), (0, .ref Mm), (1, .int (nI hix))]) hx hb dX7_waits_79 hl (k := 1) rfl (nI_1 (i_26)) (by decide) rfl (fun ls hl => ?_)
              refine lv_goto (tgt := 2) hx hb dX7_waits_82 (by decide) ?_
              exact loop_56_ih (i_26 + 1) F_72 (hF_72) (show (i_26 + 1) ≤ cc by omega) (show cc - (i_26 + 1) < Nloop_56 by omega) _ _ _ (hP.sub [2, 3, 0, 1] rfl) (hD.sub [2, 3, 0, 1] (by decide) rfl) hS (lv_sub hl [0, 2, 3] rfl)
            · skip
              refine lv_aload_n hx hb dX7_waits_73 rfl (lv_at hl 2 rfl) ?_
              refine lv_iload_n hx hb dX7_waits_74 rfl (lv_at hl 3 rfl) ?_
              refine lv_iload_n hx hb dX7_waits_75 rfl (lv_at hl 1 rfl) ?_
              refine ky_Vv (As := [.int (nI hix), .int (nI i_26)]) (rest := []) ⟨hx, hb, hml, hown, hts⟩ ⟨hK, hN⟩ hZ hP hD hS hA [2, 3, 0] [1] (wc := [(Mm, .inr (7, [.int zth, .ref Mt, .int (nI tp), .int zma, .int zwr, .ref Mrr, .ref Mrh, .ref Mrc, .int zrh, .int zrc, .ref Mn, .ref Mf, .ref Mr, .ref Mh, .int (nI hp), .int (nI cc), .ref Ma, .ref Mas, .ref Msn, .ref Mac, .ref Mat])), (Mn, .inl (g 0, 1767, .inl F_72)), (Mh, .inl (g 0, 9, .inl fmh))]) (wr := [(Mr, .inl (g 0, 3, .inl fmr))]) rfl rfl rfl rfl (by decide) (k_X7_probes l D g H.size Mm hix i_26 zth Mt tp zma zwr Mrr Mrh Mrc zrh zrc Mn Mf Mr Mh hp cc Ma Mas Msn Mac Mat F_72 fmh tb ub (show tb < 2 ^ 29 by omega) (show ub < 2 ^ 29 by omega) (hF_72) (show hix < 3 by omega) (show i_26 < 3 by omega) (h6)) (cwV 2 hts gX7_waits_X7_probes rfl rfl rfl (by decide +kernel) ⟨(Nat.le_of_ble_eq_true rfl), (Nat.le_of_ble_eq_true rfl)⟩) 2 7 rfl rfl rfl rfl hl.1 rfl (Nat.le_of_ble_eq_true rfl) dX7_waits_76 ⟨(Nat.le_of_ble_eq_true rfl), (Nat.le_of_ble_eq_true rfl)⟩ (fun u H locs hw hP2 hD2 hS2 => ?_)
              clear hP hD hS
              obtain ⟨fnox_79, rfl, hf_80⟩ := hw
              have hPD : PD D A [(Mr, .inl (g 0, 3, .inl fmr)), (Mm, .inr (7, [.int zth, .ref Mt, .int (nI tp), .int zma, .int zwr, .ref Mrr, .ref Mrh, .ref Mrc, .int zrh, .int zrc, .ref Mn, .ref Mf, .ref Mr, .ref Mh, .int (nI hp), .int (nI cc), .ref Ma, .ref Mas, .ref Msn, .ref Mac, .ref Mat])), (Mn, .inl (g 0, 1767, .inl fnox_79)), (Mh, .inl (g 0, 9, .inl fmh))] H := ⟨hP2, hD2⟩
              have hS := hS2; clear hP2 hD2 hS2; have hP := hPD.1; have hD := hPD.2; clear hPD
              refine W.widen (k := 0) (n := 0) (Nat.le_of_ble_eq_true rfl) (Nat.le_of_ble_eq_true rfl) ?_
              refine lv_iinc (v := (nI (i_26 + 1))) (lv' := [(2, .int (nI (i_26 + 1))), (3, .int (nI (7 * (3 * hix + i_26)))), (0, .ref Mm), (1, .int (nI hix))]) hx hb dX7_waits_79 hl (k := 1) rfl (nI_1 (i_26)) (by decide) rfl (fun ls hl => ?_)
              refine lv_goto (tgt := 2) hx hb dX7_waits_82 (by decide) ?_
              exact loop_56_ih (i_26 + 1) fnox_79 (hf_80) (show (i_26 + 1) ≤ cc by omega) (show cc - (i_26 + 1) < Nloop_56 by omega) _ _ _ (hP.sub [1, 2, 3, 0] rfl) (hD.sub [1, 2, 3, 0] (by decide) rfl) hS (lv_sub hl [0, 2, 3] rfl)
        refine lv_if_eq (tgt := 45) hx hb dX7_waits_29 (by decide) (fun cb_81 => ?_) (fun cb_81 => ?_)
        · skip
          have hPq_82 := hP; have hDq_82 := hD; have hSq_82 := hS; have hlq_82 := hl; clear hP hD hS hl
          subst cb_81
          have hP := hPq_82; have hD := hDq_82; have hS := hSq_82; have hl := hlq_82; clear hPq_82 hDq_82 hSq_82 hlq_82
          refine lv_iconst (v := 0) hx hb dX7_waits_45 (by decide) ?_
          exact join_71 0 _ _ _ hP hD hS hl
        · skip
          refine lv_aload_n hx hb dX7_waits_32 rfl (lv_at hl 2 rfl) ?_
          refine va_get (D := D) (ci := 7) (v := .ref Mn) (C := RX7) (T := TX7) (N := 21) hx hb hts iX7 hown hK hP 2 rfl rfl 10 (by decide) f22 (fun _ h9 => h9) rfl dX7_waits_33 ?_
          refine lv_iload_n hx hb dX7_waits_36 rfl (lv_at hl 0 rfl) ?_
          refine lv_iconst (v := 4) hx hb dX7_waits_37 (by decide) ?_
          refine lv_iadd hx hb dX7_waits_38 ?_
          refine lv_eqi (y := (nI (7 * (3 * hix + i_26) + 4))) (nI_add (7 * (3 * hix + i_26)) (4)) ?_
          refine va_iald hx hb hK hP 3 0 rfl rfl (vp_in_nI (show 7 * (3 * hix + i_26) + 4 < 1767 by omega) (by decide)) dX7_waits_39 ?_
          refine lv_eqi (y := (F_27 (7 * (3 * hix + i_26) + 4))) (congrArg F_27 (nI_clamp (show 7 * (3 * hix + i_26) + 4 < 2 ^ 31 by omega))) ?_
          refine lv_topi (fun y_83 _ => ?_)
          refine lv_iconst (v := 1) hx hb dX7_waits_40 (by decide) ?_
          refine lv_iadd hx hb dX7_waits_41 ?_
          refine lv_topi (fun y_84 _ => ?_)
          refine lv_goto (tgt := 46) hx hb dX7_waits_42 (by decide) ?_
          exact join_71 y_84 _ _ _ hP hD hS hl
  exact loop_56 _ 0 fno (h2) (show 0 ≤ cc by omega) (Nat.lt_succ_self _) _ _ _ hP hD hS hl

set_option maxHeartbeats 4000000 in
set_option maxRecDepth 100000 in
theorem k_X7_adapts (l : Launch) (D : va_G) (g : Nat → ClassId) (sz : Nat) {gs : Nat → Int32} (Mm : Nat) (hix : Nat) (zth : Int32) (Mt : Nat) (tp : Nat) (zma : Int32) (zwr : Int32) (Mrr : Nat) (Mrh : Nat) (Mrc : Nat) (zrh : Int32) (zrc : Int32) (Mn : Nat) (Mf : Nat) (Mr : Nat) (Mh : Nat) (hp : Nat) (cc : Nat) (Ma : Nat) (Mas : Nat) (Msn : Nat) (Mac : Nat) (Mat : Nat) (fno : Nat → Int32) (fmh : Nat → Int32) (fmr : Nat → Int32) (fma : Nat → Int32) (tb : Nat) (ub : Nat) (h0 : tb < 2 ^ 29) (h1 : ub < 2 ^ 29) (h2 : mOK gs tb ub fno) (h3 : 1 ≤ cc) (h4 : cc ≤ 3) (h5 : hix < 3) (h6 : n3 fmh) : Met l yX7_adapts wsX7_adapts ({ frames := 3, cells := 0, slots := 0, locals := 67 }) (va_Pc [.ref Mm, .int (nI hix)] (pre D g sz [(Mm, .inr (7, [.int zth, .ref Mt, .int (nI tp), .int zma, .int zwr, .ref Mrr, .ref Mrh, .ref Mrc, .int zrh, .int zrc, .ref Mn, .ref Mf, .ref Mr, .ref Mh, .int (nI hp), .int (nI cc), .ref Ma, .ref Mas, .ref Msn, .ref Mac, .ref Mat])), (Mn, .inl (g 0, 1767, .inl fno)), (Mh, .inl (g 0, 9, .inl fmh)), (Mr, .inl (g 0, 3, .inl fmr)), (Ma, .inl (g 0, 3, .inl fma))])) (va_Qv (fun (u : va_W) => ∃ (fnox : Nat → Int32) (fmax : Nat → Int32), u = [(Mm, .inr (7, [.int zth, .ref Mt, .int (nI tp), .int zma, .int zwr, .ref Mrr, .ref Mrh, .ref Mrc, .int zrh, .int zrc, .ref Mn, .ref Mf, .ref Mr, .ref Mh, .int (nI hp), .int (nI cc), .ref Ma, .ref Mas, .ref Msn, .ref Mac, .ref Mat])), (Mn, .inl (g 0, 1767, .inl fnox)), (Mh, .inl (g 0, 9, .inl fmh)), (Mr, .inl (g 0, 3, .inl fmr)), (Ma, .inl (g 0, 3, .inl fmax))] ∧ (mOK gs tb ub fnox)) (wd D (va_A [(Mm, .inr (7, [.int zth, .ref Mt, .int (nI tp), .int zma, .int zwr, .ref Mrr, .ref Mrh, .ref Mrc, .int zrh, .int zrc, .ref Mn, .ref Mf, .ref Mr, .ref Mh, .int (nI hp), .int (nI cc), .ref Ma, .ref Mas, .ref Msn, .ref Mac, .ref Mat])), (Mn, .inl (g 0, 1767, .inl fno)), (Mh, .inl (g 0, 9, .inl fmh)), (Mr, .inl (g 0, 3, .inl fmr)), (Ma, .inl (g 0, 3, .inl fma))] sz)) (va_A [(Mm, .inr (7, [.int zth, .ref Mt, .int (nI tp), .int zma, .int zwr, .ref Mrr, .ref Mrh, .ref Mrc, .int zrh, .int zrc, .ref Mn, .ref Mf, .ref Mr, .ref Mh, .int (nI hp), .int (nI cc), .ref Ma, .ref Mas, .ref Msn, .ref Mac, .ref Mat])), (Mn, .inl (g 0, 1767, .inl fno)), (Mh, .inl (g 0, 9, .inl fmh)), (Mr, .inl (g 0, 3, .inl fmr)), (Ma, .inl (g 0, 3, .inl fma))] sz)) 0 0 (va_A [(Mm, .inr (7, [.int zth, .ref Mt, .int (nI tp), .int zma, .int zwr, .ref Mrr, .ref Mrh, .ref Mrc, .int zrh, .int zrc, .ref Mn, .ref Mf, .ref Mr, .ref Mh, .int (nI hp), .int (nI cc), .ref Ma, .ref Mas, .ref Msn, .ref Mac, .ref Mat])), (Mn, .inl (g 0, 1767, .inl fno)), (Mh, .inl (g 0, 9, .inl fmh)), (Mr, .inl (g 0, 3, .inl fmr)), (Ma, .inl (g 0, 3, .inl fma))] sz) := by
  refine Met.ofW (cc := cX7_adapts) (maxL := 4) (ret := none) (by decide) rfl ?_
  intro p e s m args below meth c s₁ B hml hv
  obtain ⟨rfl, hsz, hP, ⟨hK, hN⟩, hD0, hZ⟩ := hv
  have hx := B.exec
  have hb := B.bytes
  have hr := B.returns
  have hts := atoms_spec (ws := wsX7_adapts) B.pre
  have hown : s.vm.findClass RX7 = some m.cls := findClass_of_methodNamed B.named
  have hlocks := B.notSynchronized
  clear B
  subst hsz
  have hD := hD0.self (sz := s.heap.size)
  clear hD0
  generalize hAe : va_A [(Mm, .inr (7, [.int zth, .ref Mt, .int (nI tp), .int zma, .int zwr, .ref Mrr, .ref Mrh, .ref Mrc, .int zrh, .int zrc, .ref Mn, .ref Mf, .ref Mr, .ref Mh, .int (nI hp), .int (nI cc), .ref Ma, .ref Mas, .ref Msn, .ref Mac, .ref Mat])), (Mn, .inl (g 0, 1767, .inl fno)), (Mh, .inl (g 0, 9, .inl fmh)), (Mr, .inl (g 0, 3, .inl fmr)), (Ma, .inl (g 0, 3, .inl fma))] s.heap.size = A at hD hZ ⊢
  have hA : ∀ q : Nat, s.heap.size ≤ q → A q := fun q h => by rw [← hAe]; exact Or.inr h
  have hS : va_S A s.heap s.heap [] := va_S.rf
  have f127 := hts (.fieldLink RX7 127 "HopCreditsModel" "circuits" "I") (List.mem_of_getElem? (i := 1) rfl)
  have f22 := hts (.fieldLink RX7 22 "HopCreditsModel" "now" "[I") (List.mem_of_getElem? (i := 3) rfl)
  have f34 := hts (.fieldLink RX7 34 "HopCreditsModel" "aims" "[I") (List.mem_of_getElem? (i := 2) rfl)
  have mcmax := hts (.code Lib.Math.max.name Lib.Math.max.code 2 (some .int)) (List.mem_of_getElem? (i := 10) rfl)
  have mcmin := hts (.code Lib.Math.min.name Lib.Math.min.code 2 (some .int)) (List.mem_of_getElem? (i := 7) rfl)
  have mi := hts (.initialized "java/lang/Math") (List.mem_of_getElem? (i := 6) rfl)
  have mmmax := hts (.methodLink RX7 154 Lib.Math.max.name) (List.mem_of_getElem? (i := 8) rfl)
  have mmmin := hts (.methodLink RX7 175 Lib.Math.min.name) (List.mem_of_getElem? (i := 4) rfl)
  have mtmax := hts (.static Lib.Math.max.name) (List.mem_of_getElem? (i := 9) rfl)
  have mtmin := hts (.static Lib.Math.min.name) (List.mem_of_getElem? (i := 5) rfl)
  have iX7 : ∀ w ∈ u_ws RX7 TX7 21, w ∈ wsX7_adapts := fun w h => List.mem_cons_of_mem _ (List.mem_append_right _ (h))
  have hl := lv_entry ([.ref Mm, .int (nI hix)]) (n := 4) (Nat.le_of_ble_eq_true rfl)
  rw [lg_entry_eq]
  generalize (lg_sl ([.ref Mm, .int (nI hix)]) ++ List.replicate (4 - (lg_sl ([.ref Mm, .int (nI hix)])).length) Slot.unset).toArray = ls at hl ⊢
  have hl : lv_has ls 4 [(0, .ref Mm), (1, .int (nI hix))] := hl
  generalize hQ : MQ below _ _ s _ _ _ = Q
  generalize hH : s.heap = H at hP ⊢
  have hS : va_S A s.heap H [] := by rw [← hH]; exact hS
  clear hH
  refine lv_iconst (v := 0) hx hb dX7_adapts_0 (by decide) ?_
  refine lv_istore_n (lv' := [(2, .int 0), (0, .ref Mm), (1, .int (nI hix))]) hx hb dX7_adapts_1 rfl hl (by decide) rfl (fun ls hl => ?_)
  have loop_10 : ∀ (Nloop_10 : Nat) (i_3 : Nat) (F_4 : Nat → Int32) (hbi_3 : i_3 ≤ cc) (hmloop_10 : cc - i_3 < Nloop_10) (H : Heap) (locs : List Loc) (ls : Array Slot), va_P D vwCl [(Mm, .inr (7, [.int zth, .ref Mt, .int (nI tp), .int zma, .int zwr, .ref Mrr, .ref Mrh, .ref Mrc, .int zrh, .int zrc, .ref Mn, .ref Mf, .ref Mr, .ref Mh, .int (nI hp), .int (nI cc), .ref Ma, .ref Mas, .ref Msn, .ref Mac, .ref Mat])), (Mn, .inl (g 0, 1767, .inl fno)), (Mh, .inl (g 0, 9, .inl fmh)), (Mr, .inl (g 0, 3, .inl fmr)), (Ma, .inl (g 0, 3, .inl F_4))] H → va_D A [(Mm, .inr (7, [.int zth, .ref Mt, .int (nI tp), .int zma, .int zwr, .ref Mrr, .ref Mrh, .ref Mrc, .int zrh, .int zrc, .ref Mn, .ref Mf, .ref Mr, .ref Mh, .int (nI hp), .int (nI cc), .ref Ma, .ref Mas, .ref Msn, .ref Mac, .ref Mat])), (Mn, .inl (g 0, 1767, .inl fno)), (Mh, .inl (g 0, 9, .inl fmh)), (Mr, .inl (g 0, 3, .inl fmr)), (Ma, .inl (g 0, 3, .inl F_4))] → va_S A s.heap H locs → lv_has ls 4 [(2, .int (nI i_3)), (0, .ref Mm), (1, .int (nI hix))] → W p l e (headSpec wsX7_adapts ({ frames := 3, cells := 0, slots := 0, locals := 67 })).room s m ([.ref Mm, .int (nI hix)] : List Value).toArray below meth c H locs 0 0 Q (F0 m 2 ls []) := by
    clear hP hD hS hl
    intro Nloop_10
    induction Nloop_10 with
    | zero => intro i_3 F_4 hbi_3 hm9; exact absurd hm9 (Nat.not_lt_zero _)
    | succ Nloop_10 loop_10_ih =>
      intro i_3 F_4 hbi_3 hmloop_10 H locs ls hP hD hS hl
      refine lv_iload_n hx hb dX7_adapts_2 rfl (lv_at hl 0 rfl) ?_
      refine lv_aload_n hx hb dX7_adapts_3 rfl (lv_at hl 1 rfl) ?_
      refine va_get (D := D) (ci := 7) (v := .int (nI cc)) (C := RX7) (T := TX7) (N := 21) hx hb hts iX7 hown hK hP 0 rfl rfl 15 (by decide) f127 (fun _ h9 => h9) rfl dX7_adapts_4 ?_
      refine lv_icmp_ge (tgt := 28) hx hb dX7_adapts_7 (by decide) (fun cb_11 => ?_) (fun cb_11 => ?_)
      · skip
        have cn_12 : cc ≤ i_3 := (nI_leI (show cc < 2 ^ 31 by omega) (show i_3 < 2 ^ 31 by omega)).mp cb_11
        refine lv_iconst (v := 0) hx hb dX7_adapts_28 (by decide) ?_
        refine lv_istore_n (lv' := [(2, .int 0), (0, .ref Mm), (1, .int (nI hix))]) hx hb dX7_adapts_29 rfl hl (by decide) rfl (fun ls hl => ?_)
        have loop_30 : ∀ (Nloop_30 : Nat) (i_19 : Nat) (F_20 : Nat → Int32) (hF_20 : mOK gs tb ub F_20) (hbi_19 : i_19 ≤ cc) (hmloop_30 : cc - i_19 < Nloop_30) (H : Heap) (locs : List Loc) (ls : Array Slot), va_P D vwCl [(Mm, .inr (7, [.int zth, .ref Mt, .int (nI tp), .int zma, .int zwr, .ref Mrr, .ref Mrh, .ref Mrc, .int zrh, .int zrc, .ref Mn, .ref Mf, .ref Mr, .ref Mh, .int (nI hp), .int (nI cc), .ref Ma, .ref Mas, .ref Msn, .ref Mac, .ref Mat])), (Mn, .inl (g 0, 1767, .inl F_20)), (Mh, .inl (g 0, 9, .inl fmh)), (Mr, .inl (g 0, 3, .inl fmr)), (Ma, .inl (g 0, 3, .inl F_4))] H → va_D A [(Mm, .inr (7, [.int zth, .ref Mt, .int (nI tp), .int zma, .int zwr, .ref Mrr, .ref Mrh, .ref Mrc, .int zrh, .int zrc, .ref Mn, .ref Mf, .ref Mr, .ref Mh, .int (nI hp), .int (nI cc), .ref Ma, .ref Mas, .ref Msn, .ref Mac, .ref Mat])), (Mn, .inl (g 0, 1767, .inl F_20)), (Mh, .inl (g 0, 9, .inl fmh)), (Mr, .inl (g 0, 3, .inl fmr)), (Ma, .inl (g 0, 3, .inl F_4))] → va_S A s.heap H locs → lv_has ls 4 [(2, .int (nI i_19)), (0, .ref Mm), (1, .int (nI hix))] → W p l e (headSpec wsX7_adapts ({ frames := 3, cells := 0, slots := 0, locals := 67 })).room s m ([.ref Mm, .int (nI hix)] : List Value).toArray below meth c H locs 0 0 Q (F0 m 30 ls []) := by
          clear hP hD hS hl
          intro Nloop_30
          induction Nloop_30 with
          | zero => intro i_19 F_20 hF_20 hbi_19 hm9; exact absurd hm9 (Nat.not_lt_zero _)
          | succ Nloop_30 loop_30_ih =>
            intro i_19 F_20 hF_20 hbi_19 hmloop_30 H locs ls hP hD hS hl
            refine lv_iload_n hx hb dX7_adapts_30 rfl (lv_at hl 0 rfl) ?_
            refine lv_aload_n hx hb dX7_adapts_31 rfl (lv_at hl 1 rfl) ?_
            refine va_get (D := D) (ci := 7) (v := .int (nI cc)) (C := RX7) (T := TX7) (N := 21) hx hb hts iX7 hown hK hP 0 rfl rfl 15 (by decide) f127 (fun _ h9 => h9) rfl dX7_adapts_32 ?_
            refine lv_icmp_ge (tgt := 85) hx hb dX7_adapts_35 (by decide) (fun cb_31 => ?_) (fun cb_31 => ?_)
            · skip
              have cn_32 : cc ≤ i_19 := (nI_leI (show cc < 2 ^ 31 by omega) (show i_19 < 2 ^ 31 by omega)).mp cb_31
              refine lv_iconst (v := 0) hx hb dX7_adapts_85 (by decide) ?_
              refine lv_istore_n (lv' := [(2, .int 0), (0, .ref Mm), (1, .int (nI hix))]) hx hb dX7_adapts_86 rfl hl (by decide) rfl (fun ls hl => ?_)
              have loop_52 : ∀ (Nloop_52 : Nat) (i_40 : Nat) (F_41 : Nat → Int32) (hF_41 : mOK gs tb ub F_41) (hbi_40 : i_40 ≤ cc) (hmloop_52 : cc - i_40 < Nloop_52) (H : Heap) (locs : List Loc) (ls : Array Slot), va_P D vwCl [(Mm, .inr (7, [.int zth, .ref Mt, .int (nI tp), .int zma, .int zwr, .ref Mrr, .ref Mrh, .ref Mrc, .int zrh, .int zrc, .ref Mn, .ref Mf, .ref Mr, .ref Mh, .int (nI hp), .int (nI cc), .ref Ma, .ref Mas, .ref Msn, .ref Mac, .ref Mat])), (Mn, .inl (g 0, 1767, .inl F_41)), (Mh, .inl (g 0, 9, .inl fmh)), (Mr, .inl (g 0, 3, .inl fmr)), (Ma, .inl (g 0, 3, .inl F_4))] H → va_D A [(Mm, .inr (7, [.int zth, .ref Mt, .int (nI tp), .int zma, .int zwr, .ref Mrr, .ref Mrh, .ref Mrc, .int zrh, .int zrc, .ref Mn, .ref Mf, .ref Mr, .ref Mh, .int (nI hp), .int (nI cc), .ref Ma, .ref Mas, .ref Msn, .ref Mac, .ref Mat])), (Mn, .inl (g 0, 1767, .inl F_41)), (Mh, .inl (g 0, 9, .inl fmh)), (Mr, .inl (g 0, 3, .inl fmr)), (Ma, .inl (g 0, 3, .inl F_4))] → va_S A s.heap H locs → lv_has ls 4 [(2, .int (nI i_40)), (0, .ref Mm), (1, .int (nI hix))] → W p l e (headSpec wsX7_adapts ({ frames := 3, cells := 0, slots := 0, locals := 67 })).room s m ([.ref Mm, .int (nI hix)] : List Value).toArray below meth c H locs 0 0 Q (F0 m 87 ls []) := by
                clear hP hD hS hl
                intro Nloop_52
                induction Nloop_52 with
                | zero => intro i_40 F_41 hF_41 hbi_40 hm9; exact absurd hm9 (Nat.not_lt_zero _)
                | succ Nloop_52 loop_52_ih =>
                  intro i_40 F_41 hF_41 hbi_40 hmloop_52 H locs ls hP hD hS hl
                  refine lv_iload_n hx hb dX7_adapts_87 rfl (lv_at hl 0 rfl) ?_
                  refine lv_aload_n hx hb dX7_adapts_88 rfl (lv_at hl 1 rfl) ?_
                  refine va_get (D := D) (ci := 7) (v := .int (nI cc)) (C := RX7) (T := TX7) (N := 21) hx hb hts iX7 hown hK hP 0 rfl rfl 15 (by decide) f127 (fun _ h9 => h9) rfl dX7_adapts_89 ?_
                  refine lv_icmp_ge (tgt := 141) hx hb dX7_adapts_92 (by decide) (fun cb_53 => ?_) (fun cb_53 => ?_)
                  · skip
                    have cn_54 : cc ≤ i_40 := (nI_leI (show cc < 2 ^ 31 by omega) (show i_40 < 2 ^ 31 by omega)).mp cb_53
                    have hP9 := hP; have hD9 := hD
                    subst hQ
                    refine W.widen (k := 0) (n := 0) (Nat.le_of_ble_eq_true rfl) (Nat.le_of_ble_eq_true rfl) ?_
                    exact W.vret hx hb hr (fun tS htS _ => ⟨⟨_, rfl, ⟨F_41, F_4, rfl, (hF_41)⟩, by rw [htS]; exact hP9, hD9⟩, hS.F htS⟩) hS.2.2 dX7_adapts_141
                  · skip
                    have cn_55 : i_40 < cc := Nat.lt_of_not_le (fun q9 => cb_53 ((nI_leI (show cc < 2 ^ 31 by omega) (show i_40 < 2 ^ 31 by omega)).mpr q9))
                    refine lv_iload_n hx hb dX7_adapts_95 rfl (lv_at hl 2 rfl) ?_
                    refine lv_iload_n hx hb dX7_adapts_96 rfl (lv_at hl 0 rfl) ?_
                    refine ky_Si (As := [.int (nI hix), .int (nI i_40)]) (rest := []) ⟨hx, hb, hml, hown, hts⟩ ⟨hK, hN⟩ hZ hP hD hS hA [] [0, 1, 2, 3, 4] (wc := []) (wr := [(Mm, .inr (7, [.int zth, .ref Mt, .int (nI tp), .int zma, .int zwr, .ref Mrr, .ref Mrh, .ref Mrc, .int zrh, .int zrc, .ref Mn, .ref Mf, .ref Mr, .ref Mh, .int (nI hp), .int (nI cc), .ref Ma, .ref Mas, .ref Msn, .ref Mac, .ref Mat])), (Mn, .inl (g 0, 1767, .inl F_41)), (Mh, .inl (g 0, 9, .inl fmh)), (Mr, .inl (g 0, 3, .inl fmr)), (Ma, .inl (g 0, 3, .inl F_4))]) rfl rfl rfl rfl (by decide) (k_X7_lane l D g H.size hix i_40 (show hix < 3 by omega) (show i_40 < 3 by omega)) (va_cwS 2 hts gX7_adapts_X7_lane rfl rfl rfl (by decide +kernel) ⟨(Nat.le_of_ble_eq_true rfl), (Nat.le_of_ble_eq_true rfl)⟩) rfl hl.1 rfl (Nat.le_of_ble_eq_true rfl) dX7_adapts_97 ⟨(Nat.le_of_ble_eq_true rfl), (Nat.le_of_ble_eq_true rfl)⟩ (fun r_56 u H locs hw hP2 hD2 hS2 => ?_)
                    clear hP hD hS
                    obtain ⟨rfl, rfl⟩ := hw
                    have hPD : PD D A [(Mm, .inr (7, [.int zth, .ref Mt, .int (nI tp), .int zma, .int zwr, .ref Mrr, .ref Mrh, .ref Mrc, .int zrh, .int zrc, .ref Mn, .ref Mf, .ref Mr, .ref Mh, .int (nI hp), .int (nI cc), .ref Ma, .ref Mas, .ref Msn, .ref Mac, .ref Mat])), (Mn, .inl (g 0, 1767, .inl F_41)), (Mh, .inl (g 0, 9, .inl fmh)), (Mr, .inl (g 0, 3, .inl fmr)), (Ma, .inl (g 0, 3, .inl F_4))] H := ⟨hP2, hD2⟩
                    have hS := hS2; clear hP2 hD2 hS2; have hP := hPD.1; have hD := hPD.2; clear hPD
                    refine W.widen (k := 0) (n := 0) (Nat.le_of_ble_eq_true rfl) (Nat.le_of_ble_eq_true rfl) ?_
                    refine lv_istore_n (lv' := [(3, .int (nI (7 * (3 * hix + i_40)))), (2, .int (nI i_40)), (0, .ref Mm), (1, .int (nI hix))]) hx hb dX7_adapts_100 rfl hl (by decide) rfl (fun ls hl => ?_)
                    refine lv_aload_n hx hb dX7_adapts_101 rfl (lv_at hl 2 rfl) ?_
                    refine va_get (D := D) (ci := 7) (v := .ref Mn) (C := RX7) (T := TX7) (N := 21) hx hb hts iX7 hown hK hP 0 rfl rfl 10 (by decide) f22 (fun _ h9 => h9) rfl dX7_adapts_102 ?_
                    refine lv_iload_n hx hb dX7_adapts_105 rfl (lv_at hl 0 rfl) ?_
                    refine lv_iconst (v := 3) hx hb dX7_adapts_106 (by decide) ?_
                    refine lv_iadd hx hb dX7_adapts_107 ?_
                    refine lv_eqi (y := (nI (7 * (3 * hix + i_40) + 3))) (nI_add (7 * (3 * hix + i_40)) (3)) ?_
                    refine lv_aload_n hx hb dX7_adapts_108 rfl (lv_at hl 2 rfl) ?_
                    refine va_get (D := D) (ci := 7) (v := .ref Mn) (C := RX7) (T := TX7) (N := 21) hx hb hts iX7 hown hK hP 0 rfl rfl 10 (by decide) f22 (fun _ h9 => h9) rfl dX7_adapts_109 ?_
                    refine lv_iload_n hx hb dX7_adapts_112 rfl (lv_at hl 0 rfl) ?_
                    refine lv_iconst (v := 3) hx hb dX7_adapts_113 (by decide) ?_
                    refine lv_iadd hx hb dX7_adapts_114 ?_
                    refine lv_eqi (y := (nI (7 * (3 * hix + i_40) + 3))) (nI_add (7 * (3 * hix + i_40)) (3)) ?_
                    refine va_iald hx hb hK hP 1 0 rfl rfl (vp_in_nI (show 7 * (3 * hix + i_40) + 3 < 1767 by omega) (by decide)) dX7_adapts_115 ?_
                    refine lv_eqi (y := (F_41 (7 * (3 * hix + i_40) + 3))) (congrArg F_41 (nI_clamp (show 7 * (3 * hix + i_40) + 3 < 2 ^ 31 by omega))) ?_
                    refine lv_topi (fun y_57 _ => ?_)
                    refine lv_aload_n hx hb dX7_adapts_116 rfl (lv_at hl 2 rfl) ?_
                    refine va_get (D := D) (ci := 7) (v := .ref Ma) (C := RX7) (T := TX7) (N := 21) hx hb hts iX7 hown hK hP 0 rfl rfl 16 (by decide) f34 (fun _ h9 => h9) rfl dX7_adapts_117 ?_
                    refine lv_iload_n hx hb dX7_adapts_120 rfl (lv_at hl 1 rfl) ?_
                    refine va_iald hx hb hK hP 4 0 rfl rfl (vp_in_nI (show i_40 < 3 by omega) (by decide)) dX7_adapts_121 ?_
                    refine lv_eqi (y := (F_4 (i_40))) (congrArg F_4 (nI_clamp (show i_40 < 2 ^ 31 by omega))) ?_
                    refine lv_topi (fun y_58 _ => ?_)
                    refine lv_aload_n hx hb dX7_adapts_122 rfl (lv_at hl 2 rfl) ?_
                    refine lv_iload_n hx hb dX7_adapts_123 rfl (lv_at hl 3 rfl) ?_
                    refine lv_iload_n hx hb dX7_adapts_124 rfl (lv_at hl 1 rfl) ?_
                    refine ky_Vi (As := [.int (nI hix), .int (nI i_40)]) (rest := [.int y_58, .int y_57, .int (nI (7 * (3 * hix + i_40) + 3)), .ref Mn]) ⟨hx, hb, hml, hown, hts⟩ ⟨hK, hN⟩ hZ hP hD hS hA [0, 1, 2] [3, 4] (wc := [(Mm, .inr (7, [.int zth, .ref Mt, .int (nI tp), .int zma, .int zwr, .ref Mrr, .ref Mrh, .ref Mrc, .int zrh, .int zrc, .ref Mn, .ref Mf, .ref Mr, .ref Mh, .int (nI hp), .int (nI cc), .ref Ma, .ref Mas, .ref Msn, .ref Mac, .ref Mat])), (Mn, .inl (g 0, 1767, .inl F_41)), (Mh, .inl (g 0, 9, .inl fmh))]) (wr := [(Mr, .inl (g 0, 3, .inl fmr)), (Ma, .inl (g 0, 3, .inl F_4))]) rfl rfl rfl rfl (by decide) (k_X7_leftFor l D g H.size Mm hix (nI i_40) zth Mt tp zma zwr Mrr Mrh Mrc zrh zrc Mn Mf Mr Mh hp cc Ma Mas Msn Mac Mat F_41 fmh (show 1 ≤ cc by omega) (show cc ≤ 3 by omega) (show hix < 3 by omega) (h6)) (cwV 2 hts gX7_adapts_X7_leftFor rfl rfl rfl (by decide +kernel) ⟨(Nat.le_of_ble_eq_true rfl), (Nat.le_of_ble_eq_true rfl)⟩) 0 7 rfl rfl rfl rfl hl.1 rfl (Nat.le_of_ble_eq_true rfl) dX7_adapts_125 ⟨(Nat.le_of_ble_eq_true rfl), (Nat.le_of_ble_eq_true rfl)⟩ (fun r_59 u H locs hw hP2 hD2 hS2 => ?_)
                    clear hP hD hS
                    obtain rfl := hw
                    have hPD : PD D A [(Mr, .inl (g 0, 3, .inl fmr)), (Ma, .inl (g 0, 3, .inl F_4)), (Mm, .inr (7, [.int zth, .ref Mt, .int (nI tp), .int zma, .int zwr, .ref Mrr, .ref Mrh, .ref Mrc, .int zrh, .int zrc, .ref Mn, .ref Mf, .ref Mr, .ref Mh, .int (nI hp), .int (nI cc), .ref Ma, .ref Mas, .ref Msn, .ref Mac, .ref Mat])), (Mn, .inl (g 0, 1767, .inl F_41)), (Mh, .inl (g 0, 9, .inl fmh))] H := ⟨hP2, hD2⟩
                    have hS := hS2; clear hP2 hD2 hS2; have hP := hPD.1; have hD := hPD.2; clear hPD
                    refine W.widen (k := 0) (n := 0) (Nat.le_of_ble_eq_true rfl) (Nat.le_of_ble_eq_true rfl) ?_
                    refine va_mmin hx hb (hml.trans hl.1.symm) hown mmmin mtmin mi mcmin (Nat.le_of_ble_eq_true rfl) (Nat.le_of_ble_eq_true rfl) (Nat.le_of_ble_eq_true rfl) (Nat.le_of_ble_eq_true rfl) dX7_adapts_128 ?_
                    refine lv_topi (fun y_60 _ => ?_)
                    refine va_mmax hx hb (hml.trans hl.1.symm) hown mmmax mtmax mi mcmax (Nat.le_of_ble_eq_true rfl) (Nat.le_of_ble_eq_true rfl) (Nat.le_of_ble_eq_true rfl) (Nat.le_of_ble_eq_true rfl) dX7_adapts_131 ?_
                    refine lv_topi (fun y_61 _ => ?_)
                    refine va_iast hx hb hK hP hD hS 3 0 rfl rfl (vp_in_nI (show 7 * (3 * hix + i_40) + 3 < 1767 by omega) (by decide)) dX7_adapts_134 (fun H locs hP2 hD2 hS2 => ?_)
                    clear hP hD hS
                    have hPD : PD D A [(Mr, .inl (g 0, 3, .inl fmr)), (Ma, .inl (g 0, 3, .inl F_4)), (Mm, .inr (7, [.int zth, .ref Mt, .int (nI tp), .int zma, .int zwr, .ref Mrr, .ref Mrh, .ref Mrc, .int zrh, .int zrc, .ref Mn, .ref Mf, .ref Mr, .ref Mh, .int (nI hp), .int (nI cc), .ref Ma, .ref Mas, .ref Msn, .ref Mac, .ref Mat])), (Mn, .inl (g 0, 1767, .inl (upd F_41 (nI (7 * (3 * hix + i_40) + 3)).toNatClampNeg y_61))), (Mh, .inl (g 0, 9, .inl fmh))] H := ⟨hP2, hD2⟩
                    have hS := hS2; clear hP2 hD2 hS2; have hP := hPD.1; have hD := hPD.2; clear hPD
                    rw [nI_clamp (show 7 * (3 * hix + i_40) + 3 < 2 ^ 31 by omega)] at hP hD
                    have hPD : PD D A [(Mr, .inl (g 0, 3, .inl fmr)), (Ma, .inl (g 0, 3, .inl F_4)), (Mm, .inr (7, [.int zth, .ref Mt, .int (nI tp), .int zma, .int zwr, .ref Mrr, .ref Mrh, .ref Mrc, .int zrh, .int zrc, .ref Mn, .ref Mf, .ref Mr, .ref Mh, .int (nI hp), .int (nI cc), .ref Ma, .ref Mas, .ref Msn, .ref Mac, .ref Mat])), (Mn, .inl (g 0, 1767, .inl (upd F_41 (7 * (3 * hix + i_40) + 3) y_61))), (Mh, .inl (g 0, 9, .inl fmh))] H := ⟨hP, hD⟩
                    clear hP hD; have hP := hPD.1; have hD := hPD.2; clear hPD
                    have hF_62 : mOK gs tb ub (upd F_41 (7 * (3 * hix + i_40) + 3) y_61) := mOK_free hF_41 (show mfree (7 * (3 * hix + i_40) + 3) by unfold mfree; omega)
                    generalize upd F_41 (7 * (3 * hix + i_40) + 3) y_61 = F_62 at hP hD hF_62
                    refine lv_iinc (v := (nI (i_40 + 1))) (lv' := [(2, .int (nI (i_40 + 1))), (3, .int (nI (7 * (3 * hix + i_40)))), (0, .ref Mm), (1, .int (nI hix))]) hx hb dX7_adapts_135 hl (k := 1) rfl (nI_1 (i_40)) (by decide) rfl (fun ls hl => ?_)
                    refine lv_goto (tgt := 87) hx hb dX7_adapts_138 (by decide) ?_
                    exact loop_52_ih (i_40 + 1) F_62 (hF_62) (show (i_40 + 1) ≤ cc by omega) (show cc - (i_40 + 1) < Nloop_52 by omega) _ _ _ (hP.sub [2, 3, 4, 0, 1] rfl) (hD.sub [2, 3, 4, 0, 1] (by decide) rfl) hS (lv_sub hl [0, 2, 3] rfl)
              exact loop_52 _ 0 F_20 (hF_20) (show 0 ≤ cc by omega) (Nat.lt_succ_self _) _ _ _ hP hD hS hl
            · skip
              have cn_63 : i_19 < cc := Nat.lt_of_not_le (fun q9 => cb_31 ((nI_leI (show cc < 2 ^ 31 by omega) (show i_19 < 2 ^ 31 by omega)).mpr q9))
              refine lv_iload_n hx hb dX7_adapts_38 rfl (lv_at hl 2 rfl) ?_
              refine lv_iload_n hx hb dX7_adapts_39 rfl (lv_at hl 0 rfl) ?_
              refine ky_Si (As := [.int (nI hix), .int (nI i_19)]) (rest := []) ⟨hx, hb, hml, hown, hts⟩ ⟨hK, hN⟩ hZ hP hD hS hA [] [0, 1, 2, 3, 4] (wc := []) (wr := [(Mm, .inr (7, [.int zth, .ref Mt, .int (nI tp), .int zma, .int zwr, .ref Mrr, .ref Mrh, .ref Mrc, .int zrh, .int zrc, .ref Mn, .ref Mf, .ref Mr, .ref Mh, .int (nI hp), .int (nI cc), .ref Ma, .ref Mas, .ref Msn, .ref Mac, .ref Mat])), (Mn, .inl (g 0, 1767, .inl F_20)), (Mh, .inl (g 0, 9, .inl fmh)), (Mr, .inl (g 0, 3, .inl fmr)), (Ma, .inl (g 0, 3, .inl F_4))]) rfl rfl rfl rfl (by decide) (k_X7_lane l D g H.size hix i_19 (show hix < 3 by omega) (show i_19 < 3 by omega)) (va_cwS 2 hts gX7_adapts_X7_lane rfl rfl rfl (by decide +kernel) ⟨(Nat.le_of_ble_eq_true rfl), (Nat.le_of_ble_eq_true rfl)⟩) rfl hl.1 rfl (Nat.le_of_ble_eq_true rfl) dX7_adapts_40 ⟨(Nat.le_of_ble_eq_true rfl), (Nat.le_of_ble_eq_true rfl)⟩ (fun r_64 u H locs hw hP2 hD2 hS2 => ?_)
              clear hP hD hS
              obtain ⟨rfl, rfl⟩ := hw
              have hPD : PD D A [(Mm, .inr (7, [.int zth, .ref Mt, .int (nI tp), .int zma, .int zwr, .ref Mrr, .ref Mrh, .ref Mrc, .int zrh, .int zrc, .ref Mn, .ref Mf, .ref Mr, .ref Mh, .int (nI hp), .int (nI cc), .ref Ma, .ref Mas, .ref Msn, .ref Mac, .ref Mat])), (Mn, .inl (g 0, 1767, .inl F_20)), (Mh, .inl (g 0, 9, .inl fmh)), (Mr, .inl (g 0, 3, .inl fmr)), (Ma, .inl (g 0, 3, .inl F_4))] H := ⟨hP2, hD2⟩
              have hS := hS2; clear hP2 hD2 hS2; have hP := hPD.1; have hD := hPD.2; clear hPD
              refine W.widen (k := 0) (n := 0) (Nat.le_of_ble_eq_true rfl) (Nat.le_of_ble_eq_true rfl) ?_
              refine lv_istore_n (lv' := [(3, .int (nI (7 * (3 * hix + i_19)))), (2, .int (nI i_19)), (0, .ref Mm), (1, .int (nI hix))]) hx hb dX7_adapts_43 rfl hl (by decide) rfl (fun ls hl => ?_)
              refine lv_aload_n hx hb dX7_adapts_44 rfl (lv_at hl 2 rfl) ?_
              refine va_get (D := D) (ci := 7) (v := .ref Mn) (C := RX7) (T := TX7) (N := 21) hx hb hts iX7 hown hK hP 0 rfl rfl 10 (by decide) f22 (fun _ h9 => h9) rfl dX7_adapts_45 ?_
              refine lv_iload_n hx hb dX7_adapts_48 rfl (lv_at hl 0 rfl) ?_
              refine lv_iconst (v := 3) hx hb dX7_adapts_49 (by decide) ?_
              refine lv_iadd hx hb dX7_adapts_50 ?_
              refine lv_eqi (y := (nI (7 * (3 * hix + i_19) + 3))) (nI_add (7 * (3 * hix + i_19)) (3)) ?_
              refine lv_aload_n hx hb dX7_adapts_51 rfl (lv_at hl 2 rfl) ?_
              refine va_get (D := D) (ci := 7) (v := .ref Mn) (C := RX7) (T := TX7) (N := 21) hx hb hts iX7 hown hK hP 0 rfl rfl 10 (by decide) f22 (fun _ h9 => h9) rfl dX7_adapts_52 ?_
              refine lv_iload_n hx hb dX7_adapts_55 rfl (lv_at hl 0 rfl) ?_
              refine lv_iconst (v := 3) hx hb dX7_adapts_56 (by decide) ?_
              refine lv_iadd hx hb dX7_adapts_57 ?_
              refine lv_eqi (y := (nI (7 * (3 * hix + i_19) + 3))) (nI_add (7 * (3 * hix + i_19)) (3)) ?_
              refine va_iald hx hb hK hP 1 0 rfl rfl (vp_in_nI (show 7 * (3 * hix + i_19) + 3 < 1767 by omega) (by decide)) dX7_adapts_58 ?_
              refine lv_eqi (y := (F_20 (7 * (3 * hix + i_19) + 3))) (congrArg F_20 (nI_clamp (show 7 * (3 * hix + i_19) + 3 < 2 ^ 31 by omega))) ?_
              refine lv_topi (fun y_65 _ => ?_)
              refine lv_aload_n hx hb dX7_adapts_59 rfl (lv_at hl 2 rfl) ?_
              refine va_get (D := D) (ci := 7) (v := .ref Ma) (C := RX7) (T := TX7) (N := 21) hx hb hts iX7 hown hK hP 0 rfl rfl 16 (by decide) f34 (fun _ h9 => h9) rfl dX7_adapts_60 ?_
              refine lv_iload_n hx hb dX7_adapts_63 rfl (lv_at hl 1 rfl) ?_
              refine va_iald hx hb hK hP 4 0 rfl rfl (vp_in_nI (show i_19 < 3 by omega) (by decide)) dX7_adapts_64 ?_
              refine lv_eqi (y := (F_4 (i_19))) (congrArg F_4 (nI_clamp (show i_19 < 2 ^ 31 by omega))) ?_
              refine lv_topi (fun y_66 _ => ?_)
              refine va_mmin hx hb (hml.trans hl.1.symm) hown mmmin mtmin mi mcmin (Nat.le_of_ble_eq_true rfl) (Nat.le_of_ble_eq_true rfl) (Nat.le_of_ble_eq_true rfl) (Nat.le_of_ble_eq_true rfl) dX7_adapts_65 ?_
              refine lv_topi (fun y_67 _ => ?_)
              refine va_iast hx hb hK hP hD hS 1 0 rfl rfl (vp_in_nI (show 7 * (3 * hix + i_19) + 3 < 1767 by omega) (by decide)) dX7_adapts_68 (fun H locs hP2 hD2 hS2 => ?_)
              clear hP hD hS
              have hPD : PD D A [(Mm, .inr (7, [.int zth, .ref Mt, .int (nI tp), .int zma, .int zwr, .ref Mrr, .ref Mrh, .ref Mrc, .int zrh, .int zrc, .ref Mn, .ref Mf, .ref Mr, .ref Mh, .int (nI hp), .int (nI cc), .ref Ma, .ref Mas, .ref Msn, .ref Mac, .ref Mat])), (Mn, .inl (g 0, 1767, .inl (upd F_20 (nI (7 * (3 * hix + i_19) + 3)).toNatClampNeg y_67))), (Mh, .inl (g 0, 9, .inl fmh)), (Mr, .inl (g 0, 3, .inl fmr)), (Ma, .inl (g 0, 3, .inl F_4))] H := ⟨hP2, hD2⟩
              have hS := hS2; clear hP2 hD2 hS2; have hP := hPD.1; have hD := hPD.2; clear hPD
              rw [nI_clamp (show 7 * (3 * hix + i_19) + 3 < 2 ^ 31 by omega)] at hP hD
              have hPD : PD D A [(Mm, .inr (7, [.int zth, .ref Mt, .int (nI tp), .int zma, .int zwr, .ref Mrr, .ref Mrh, .ref Mrc, .int zrh, .int zrc, .ref Mn, .ref Mf, .ref Mr, .ref Mh, .int (nI hp), .int (nI cc), .ref Ma, .ref Mas, .ref Msn, .ref Mac, .ref Mat])), (Mn, .inl (g 0, 1767, .inl (upd F_20 (7 * (3 * hix + i_19) + 3) y_67))), (Mh, .inl (g 0, 9, .inl fmh)), (Mr, .inl (g 0, 3, .inl fmr)), (Ma, .inl (g 0, 3, .inl F_4))] H := ⟨hP, hD⟩
              clear hP hD; have hP := hPD.1; have hD := hPD.2; clear hPD
              have hF_68 : mOK gs tb ub (upd F_20 (7 * (3 * hix + i_19) + 3) y_67) := mOK_free hF_20 (show mfree (7 * (3 * hix + i_19) + 3) by unfold mfree; omega)
              generalize upd F_20 (7 * (3 * hix + i_19) + 3) y_67 = F_68 at hP hD hF_68
              refine lv_aload_n hx hb dX7_adapts_69 rfl (lv_at hl 2 rfl) ?_
              refine va_get (D := D) (ci := 7) (v := .ref Mn) (C := RX7) (T := TX7) (N := 21) hx hb hts iX7 hown hK hP 0 rfl rfl 10 (by decide) f22 (fun _ h9 => h9) rfl dX7_adapts_70 ?_
              refine lv_iload_n hx hb dX7_adapts_73 rfl (lv_at hl 0 rfl) ?_
              refine lv_bipush (v := 6) hx hb dX7_adapts_74 (by decide) ?_
              refine lv_iadd hx hb dX7_adapts_76 ?_
              refine lv_eqi (y := (nI (7 * (3 * hix + i_19) + 6))) (nI_add (7 * (3 * hix + i_19)) (6)) ?_
              refine lv_iconst (v := 0) hx hb dX7_adapts_77 (by decide) ?_
              refine va_iast hx hb hK hP hD hS 1 0 rfl rfl (vp_in_nI (show 7 * (3 * hix + i_19) + 6 < 1767 by omega) (by decide)) dX7_adapts_78 (fun H locs hP2 hD2 hS2 => ?_)
              clear hP hD hS
              have hPD : PD D A [(Mm, .inr (7, [.int zth, .ref Mt, .int (nI tp), .int zma, .int zwr, .ref Mrr, .ref Mrh, .ref Mrc, .int zrh, .int zrc, .ref Mn, .ref Mf, .ref Mr, .ref Mh, .int (nI hp), .int (nI cc), .ref Ma, .ref Mas, .ref Msn, .ref Mac, .ref Mat])), (Mn, .inl (g 0, 1767, .inl (upd F_68 (nI (7 * (3 * hix + i_19) + 6)).toNatClampNeg 0))), (Mh, .inl (g 0, 9, .inl fmh)), (Mr, .inl (g 0, 3, .inl fmr)), (Ma, .inl (g 0, 3, .inl F_4))] H := ⟨hP2, hD2⟩
              have hS := hS2; clear hP2 hD2 hS2; have hP := hPD.1; have hD := hPD.2; clear hPD
              rw [nI_clamp (show 7 * (3 * hix + i_19) + 6 < 2 ^ 31 by omega)] at hP hD
              have hPD : PD D A [(Mm, .inr (7, [.int zth, .ref Mt, .int (nI tp), .int zma, .int zwr, .ref Mrr, .ref Mrh, .ref Mrc, .int zrh, .int zrc, .ref Mn, .ref Mf, .ref Mr, .ref Mh, .int (nI hp), .int (nI cc), .ref Ma, .ref Mas, .ref Msn, .ref Mac, .ref Mat])), (Mn, .inl (g 0, 1767, .inl (upd F_68 (7 * (3 * hix + i_19) + 6) 0))), (Mh, .inl (g 0, 9, .inl fmh)), (Mr, .inl (g 0, 3, .inl fmr)), (Ma, .inl (g 0, 3, .inl F_4))] H := ⟨hP, hD⟩
              clear hP hD; have hP := hPD.1; have hD := hPD.2; clear hPD
              have hF_69 : mOK gs tb ub (upd F_68 (7 * (3 * hix + i_19) + 6) 0) := mOK_free hF_68 (show mfree (7 * (3 * hix + i_19) + 6) by unfold mfree; omega)
              generalize upd F_68 (7 * (3 * hix + i_19) + 6) 0 = F_69 at hP hD hF_69
              refine lv_iinc (v := (nI (i_19 + 1))) (lv' := [(2, .int (nI (i_19 + 1))), (3, .int (nI (7 * (3 * hix + i_19)))), (0, .ref Mm), (1, .int (nI hix))]) hx hb dX7_adapts_79 hl (k := 1) rfl (nI_1 (i_19)) (by decide) rfl (fun ls hl => ?_)
              refine lv_goto (tgt := 30) hx hb dX7_adapts_82 (by decide) ?_
              exact loop_30_ih (i_19 + 1) F_69 (hF_69) (show (i_19 + 1) ≤ cc by omega) (show cc - (i_19 + 1) < Nloop_30 by omega) _ _ _ hP hD hS (lv_sub hl [0, 2, 3] rfl)
        exact loop_30 _ 0 fno (h2) (show 0 ≤ cc by omega) (Nat.lt_succ_self _) _ _ _ hP hD hS hl
      · skip
        have cn_70 : i_3 < cc := Nat.lt_of_not_le (fun q9 => cb_11 ((nI_leI (show cc < 2 ^ 31 by omega) (show i_3 < 2 ^ 31 by omega)).mpr q9))
        refine lv_aload_n hx hb dX7_adapts_10 rfl (lv_at hl 1 rfl) ?_
        refine va_get (D := D) (ci := 7) (v := .ref Ma) (C := RX7) (T := TX7) (N := 21) hx hb hts iX7 hown hK hP 0 rfl rfl 16 (by decide) f34 (fun _ h9 => h9) rfl dX7_adapts_11 ?_
        refine lv_iload_n hx hb dX7_adapts_14 rfl (lv_at hl 0 rfl) ?_
        refine lv_aload_n hx hb dX7_adapts_15 rfl (lv_at hl 1 rfl) ?_
        refine lv_iload_n hx hb dX7_adapts_16 rfl (lv_at hl 2 rfl) ?_
        refine lv_iload_n hx hb dX7_adapts_17 rfl (lv_at hl 0 rfl) ?_
        refine ky_Vi (As := [.int (nI hix), .int (nI i_3)]) (rest := [.int (nI i_3), .ref Ma]) ⟨hx, hb, hml, hown, hts⟩ ⟨hK, hN⟩ hZ hP hD hS hA [0, 1, 2, 3] [4] (wc := [(Mm, .inr (7, [.int zth, .ref Mt, .int (nI tp), .int zma, .int zwr, .ref Mrr, .ref Mrh, .ref Mrc, .int zrh, .int zrc, .ref Mn, .ref Mf, .ref Mr, .ref Mh, .int (nI hp), .int (nI cc), .ref Ma, .ref Mas, .ref Msn, .ref Mac, .ref Mat])), (Mn, .inl (g 0, 1767, .inl fno)), (Mh, .inl (g 0, 9, .inl fmh)), (Mr, .inl (g 0, 3, .inl fmr))]) (wr := [(Ma, .inl (g 0, 3, .inl F_4))]) rfl rfl rfl rfl (by decide) (k_X7_aimOf l D g H.size Mm hix i_3 zth Mt tp zma zwr Mrr Mrh Mrc zrh zrc Mn Mf Mr Mh hp cc Ma Mas Msn Mac Mat fno fmh fmr (show 1 ≤ cc by omega) (show cc ≤ 3 by omega) (show hix < 3 by omega) (show i_3 < 3 by omega) (h6)) (cwV 2 hts gX7_adapts_X7_aimOf rfl rfl rfl (by decide +kernel) ⟨(Nat.le_of_ble_eq_true rfl), (Nat.le_of_ble_eq_true rfl)⟩) 0 7 rfl rfl rfl rfl hl.1 rfl (Nat.le_of_ble_eq_true rfl) dX7_adapts_18 ⟨(Nat.le_of_ble_eq_true rfl), (Nat.le_of_ble_eq_true rfl)⟩ (fun r_71 u H locs hw hP2 hD2 hS2 => ?_)
        clear hP hD hS
        obtain rfl := hw
        have hPD : PD D A [(Ma, .inl (g 0, 3, .inl F_4)), (Mm, .inr (7, [.int zth, .ref Mt, .int (nI tp), .int zma, .int zwr, .ref Mrr, .ref Mrh, .ref Mrc, .int zrh, .int zrc, .ref Mn, .ref Mf, .ref Mr, .ref Mh, .int (nI hp), .int (nI cc), .ref Ma, .ref Mas, .ref Msn, .ref Mac, .ref Mat])), (Mn, .inl (g 0, 1767, .inl fno)), (Mh, .inl (g 0, 9, .inl fmh)), (Mr, .inl (g 0, 3, .inl fmr))] H := ⟨hP2, hD2⟩
        have hS := hS2; clear hP2 hD2 hS2; have hP := hPD.1; have hD := hPD.2; clear hPD
        refine W.widen (k := 0) (n := 0) (Nat.le_of_ble_eq_true rfl) (Nat.le_of_ble_eq_true rfl) ?_
        refine va_iast hx hb hK hP hD hS 0 0 rfl rfl (vp_in_nI (show i_3 < 3 by omega) (by decide)) dX7_adapts_21 (fun H locs hP2 hD2 hS2 => ?_)
        clear hP hD hS
        have hPD : PD D A [(Ma, .inl (g 0, 3, .inl (upd F_4 (nI i_3).toNatClampNeg r_71))), (Mm, .inr (7, [.int zth, .ref Mt, .int (nI tp), .int zma, .int zwr, .ref Mrr, .ref Mrh, .ref Mrc, .int zrh, .int zrc, .ref Mn, .ref Mf, .ref Mr, .ref Mh, .int (nI hp), .int (nI cc), .ref Ma, .ref Mas, .ref Msn, .ref Mac, .ref Mat])), (Mn, .inl (g 0, 1767, .inl fno)), (Mh, .inl (g 0, 9, .inl fmh)), (Mr, .inl (g 0, 3, .inl fmr))] H := ⟨hP2, hD2⟩
        have hS := hS2; clear hP2 hD2 hS2; have hP := hPD.1; have hD := hPD.2; clear hPD
        rw [nI_clamp (show i_3 < 2 ^ 31 by omega)] at hP hD
        have hPD : PD D A [(Ma, .inl (g 0, 3, .inl (upd F_4 (i_3) r_71))), (Mm, .inr (7, [.int zth, .ref Mt, .int (nI tp), .int zma, .int zwr, .ref Mrr, .ref Mrh, .ref Mrc, .int zrh, .int zrc, .ref Mn, .ref Mf, .ref Mr, .ref Mh, .int (nI hp), .int (nI cc), .ref Ma, .ref Mas, .ref Msn, .ref Mac, .ref Mat])), (Mn, .inl (g 0, 1767, .inl fno)), (Mh, .inl (g 0, 9, .inl fmh)), (Mr, .inl (g 0, 3, .inl fmr))] H := ⟨hP, hD⟩
        clear hP hD; have hP := hPD.1; have hD := hPD.2; clear hPD
        generalize upd F_4 (i_3) r_71 = F_72 at hP hD
        refine lv_iinc (v := (nI (i_3 + 1))) (lv' := [(2, .int (nI (i_3 + 1))), (0, .ref Mm), (1, .int (nI hix))]) hx hb dX7_adapts_22 hl (k := 0) rfl (nI_1 (i_3)) (by decide) rfl (fun ls hl => ?_)
        refine lv_goto (tgt := 2) hx hb dX7_adapts_25 (by decide) ?_
        exact loop_10_ih (i_3 + 1) F_72 (show (i_3 + 1) ≤ cc by omega) (show cc - (i_3 + 1) < Nloop_10 by omega) _ _ _ (hP.sub [1, 2, 3, 4, 0] rfl) (hD.sub [1, 2, 3, 4, 0] (by decide) rfl) hS hl
  exact loop_10 _ 0 fma (show 0 ≤ cc by omega) (Nat.lt_succ_self _) _ _ _ hP hD hS hl

set_option maxHeartbeats 4000000 in
set_option maxRecDepth 100000 in
theorem k_X7_ticks (l : Launch) (D : va_G) (g : Nat → ClassId) (sz : Nat) {gs : Nat → Int32} (Mm : Nat) (zth : Int32) (Mt : Nat) (tp : Nat) (zma : Int32) (zwr : Int32) (Mrr : Nat) (Mrh : Nat) (Mrc : Nat) (zrh : Int32) (zrc : Int32) (Mn : Nat) (Mf : Nat) (Mr : Nat) (Mh : Nat) (hp : Nat) (cc : Nat) (Ma : Nat) (Mas : Nat) (Msn : Nat) (Mac : Nat) (Mat : Nat) (fno : Nat → Int32) (fmh : Nat → Int32) (fmr : Nat → Int32) (fma : Nat → Int32) (tb : Nat) (ub : Nat) (h0 : tb < 2 ^ 28) (h1 : ub < 2 ^ 28) (h2 : mOK gs tb ub fno) (h3 : 1 ≤ hp) (h4 : hp ≤ 3) (h5 : 1 ≤ cc) (h6 : cc ≤ 3) (h7 : n3 fmh) : Met l yX7_ticks wsX7_ticks ({ frames := 5, cells := 0, slots := 0, locals := 112 }) (va_Pc [.ref Mm] (pre D g sz [(Mm, .inr (7, [.int zth, .ref Mt, .int (nI tp), .int zma, .int zwr, .ref Mrr, .ref Mrh, .ref Mrc, .int zrh, .int zrc, .ref Mn, .ref Mf, .ref Mr, .ref Mh, .int (nI hp), .int (nI cc), .ref Ma, .ref Mas, .ref Msn, .ref Mac, .ref Mat])), (Mn, .inl (g 0, 1767, .inl fno)), (Mh, .inl (g 0, 9, .inl fmh)), (Mr, .inl (g 0, 3, .inl fmr)), (Ma, .inl (g 0, 3, .inl fma))])) (va_Qv (fun (u : va_W) => ∃ (fnox : Nat → Int32) (fmax : Nat → Int32), u = [(Mm, .inr (7, [.int zth, .ref Mt, .int (nI tp), .int zma, .int zwr, .ref Mrr, .ref Mrh, .ref Mrc, .int zrh, .int zrc, .ref Mn, .ref Mf, .ref Mr, .ref Mh, .int (nI hp), .int (nI cc), .ref Ma, .ref Mas, .ref Msn, .ref Mac, .ref Mat])), (Mn, .inl (g 0, 1767, .inl fnox)), (Mh, .inl (g 0, 9, .inl fmh)), (Mr, .inl (g 0, 3, .inl fmr)), (Ma, .inl (g 0, 3, .inl fmax))] ∧ (mOK gs (tb + 1) (ub + 6) fnox)) (wd D (va_A [(Mm, .inr (7, [.int zth, .ref Mt, .int (nI tp), .int zma, .int zwr, .ref Mrr, .ref Mrh, .ref Mrc, .int zrh, .int zrc, .ref Mn, .ref Mf, .ref Mr, .ref Mh, .int (nI hp), .int (nI cc), .ref Ma, .ref Mas, .ref Msn, .ref Mac, .ref Mat])), (Mn, .inl (g 0, 1767, .inl fno)), (Mh, .inl (g 0, 9, .inl fmh)), (Mr, .inl (g 0, 3, .inl fmr)), (Ma, .inl (g 0, 3, .inl fma))] sz)) (va_A [(Mm, .inr (7, [.int zth, .ref Mt, .int (nI tp), .int zma, .int zwr, .ref Mrr, .ref Mrh, .ref Mrc, .int zrh, .int zrc, .ref Mn, .ref Mf, .ref Mr, .ref Mh, .int (nI hp), .int (nI cc), .ref Ma, .ref Mas, .ref Msn, .ref Mac, .ref Mat])), (Mn, .inl (g 0, 1767, .inl fno)), (Mh, .inl (g 0, 9, .inl fmh)), (Mr, .inl (g 0, 3, .inl fmr)), (Ma, .inl (g 0, 3, .inl fma))] sz)) 0 0 (va_A [(Mm, .inr (7, [.int zth, .ref Mt, .int (nI tp), .int zma, .int zwr, .ref Mrr, .ref Mrh, .ref Mrc, .int zrh, .int zrc, .ref Mn, .ref Mf, .ref Mr, .ref Mh, .int (nI hp), .int (nI cc), .ref Ma, .ref Mas, .ref Msn, .ref Mac, .ref Mat])), (Mn, .inl (g 0, 1767, .inl fno)), (Mh, .inl (g 0, 9, .inl fmh)), (Mr, .inl (g 0, 3, .inl fmr)), (Ma, .inl (g 0, 3, .inl fma))] sz) := by
  refine Met.ofW (cc := cX7_ticks) (maxL := 2) (ret := none) (by decide) rfl ?_
  intro p e s m args below meth c s₁ B hml hv
  obtain ⟨rfl, hsz, hP, ⟨hK, hN⟩, hD0, hZ⟩ := hv
  have hx := B.exec
  have hb := B.bytes
  have hr := B.returns
  have hts := atoms_spec (ws := wsX7_ticks) B.pre
  have hown : s.vm.findClass RX7 = some m.cls := findClass_of_methodNamed B.named
  have hlocks := B.notSynchronized
  clear B
  subst hsz
  have hD := hD0.self (sz := s.heap.size)
  clear hD0
  generalize hAe : va_A [(Mm, .inr (7, [.int zth, .ref Mt, .int (nI tp), .int zma, .int zwr, .ref Mrr, .ref Mrh, .ref Mrc, .int zrh, .int zrc, .ref Mn, .ref Mf, .ref Mr, .ref Mh, .int (nI hp), .int (nI cc), .ref Ma, .ref Mas, .ref Msn, .ref Mac, .ref Mat])), (Mn, .inl (g 0, 1767, .inl fno)), (Mh, .inl (g 0, 9, .inl fmh)), (Mr, .inl (g 0, 3, .inl fmr)), (Ma, .inl (g 0, 3, .inl fma))] s.heap.size = A at hD hZ ⊢
  have hA : ∀ q : Nat, s.heap.size ≤ q → A q := fun q h => by rw [← hAe]; exact Or.inr h
  have hS : va_S A s.heap s.heap [] := va_S.rf
  have f124 := hts (.fieldLink RX7 124 "HopCreditsModel" "hops" "I") (List.mem_of_getElem? (i := 1) rfl)
  have f127 := hts (.fieldLink RX7 127 "HopCreditsModel" "circuits" "I") (List.mem_of_getElem? (i := 2) rfl)
  have f22 := hts (.fieldLink RX7 22 "HopCreditsModel" "now" "[I") (List.mem_of_getElem? (i := 4) rfl)
  have f28 := hts (.fieldLink RX7 28 "HopCreditsModel" "rule" "[I") (List.mem_of_getElem? (i := 3) rfl)
  have iX7 : ∀ w ∈ u_ws RX7 TX7 21, w ∈ wsX7_ticks := fun w h => List.mem_cons_of_mem _ (List.mem_append_right _ (h))
  have hl := lv_entry ([.ref Mm]) (n := 2) (Nat.le_of_ble_eq_true rfl)
  rw [lg_entry_eq]
  generalize (lg_sl ([.ref Mm]) ++ List.replicate (2 - (lg_sl ([.ref Mm])).length) Slot.unset).toArray = ls at hl ⊢
  have hl : lv_has ls 2 [(0, .ref Mm)] := hl
  generalize hQ : MQ below _ _ s _ _ _ = Q
  generalize hH : s.heap = H at hP ⊢
  have hS : va_S A s.heap H [] := by rw [← hH]; exact hS
  clear hH
  refine lv_iconst (v := 0) hx hb dX7_ticks_0 (by decide) ?_
  refine lv_istore_n (lv' := [(1, .int 0), (0, .ref Mm)]) hx hb dX7_ticks_1 rfl hl (by decide) rfl (fun ls hl => ?_)
  have loop_12 : ∀ (Nloop_12 : Nat) (i_4 : Nat) (F_5 : Nat → Int32) (hF_5 : mOK gs tb ub F_5) (hbi_4 : i_4 ≤ hp) (hmloop_12 : hp - i_4 < Nloop_12) (H : Heap) (locs : List Loc) (ls : Array Slot), va_P D vwCl [(Mm, .inr (7, [.int zth, .ref Mt, .int (nI tp), .int zma, .int zwr, .ref Mrr, .ref Mrh, .ref Mrc, .int zrh, .int zrc, .ref Mn, .ref Mf, .ref Mr, .ref Mh, .int (nI hp), .int (nI cc), .ref Ma, .ref Mas, .ref Msn, .ref Mac, .ref Mat])), (Mn, .inl (g 0, 1767, .inl F_5)), (Mh, .inl (g 0, 9, .inl fmh)), (Mr, .inl (g 0, 3, .inl fmr)), (Ma, .inl (g 0, 3, .inl fma))] H → va_D A [(Mm, .inr (7, [.int zth, .ref Mt, .int (nI tp), .int zma, .int zwr, .ref Mrr, .ref Mrh, .ref Mrc, .int zrh, .int zrc, .ref Mn, .ref Mf, .ref Mr, .ref Mh, .int (nI hp), .int (nI cc), .ref Ma, .ref Mas, .ref Msn, .ref Mac, .ref Mat])), (Mn, .inl (g 0, 1767, .inl F_5)), (Mh, .inl (g 0, 9, .inl fmh)), (Mr, .inl (g 0, 3, .inl fmr)), (Ma, .inl (g 0, 3, .inl fma))] → va_S A s.heap H locs → lv_has ls 2 [(1, .int (nI i_4)), (0, .ref Mm)] → W p l e (headSpec wsX7_ticks ({ frames := 5, cells := 0, slots := 0, locals := 112 })).room s m ([.ref Mm] : List Value).toArray below meth c H locs 0 0 Q (F0 m 2 ls []) := by
    clear hP hD hS hl
    intro Nloop_12
    induction Nloop_12 with
    | zero => intro i_4 F_5 hF_5 hbi_4 hm9; exact absurd hm9 (Nat.not_lt_zero _)
    | succ Nloop_12 loop_12_ih =>
      intro i_4 F_5 hF_5 hbi_4 hmloop_12 H locs ls hP hD hS hl
      refine lv_iload_n hx hb dX7_ticks_2 rfl (lv_at hl 0 rfl) ?_
      refine lv_aload_n hx hb dX7_ticks_3 rfl (lv_at hl 1 rfl) ?_
      refine va_get (D := D) (ci := 7) (v := .int (nI hp)) (C := RX7) (T := TX7) (N := 21) hx hb hts iX7 hown hK hP 0 rfl rfl 14 (by decide) f124 (fun _ h9 => h9) rfl dX7_ticks_4 ?_
      refine lv_icmp_ge (tgt := 21) hx hb dX7_ticks_7 (by decide) (fun cb_13 => ?_) (fun cb_13 => ?_)
      · skip
        have cn_14 : hp ≤ i_4 := (nI_leI (show hp < 2 ^ 31 by omega) (show i_4 < 2 ^ 31 by omega)).mp cb_13
        refine lv_iconst (v := 0) hx hb dX7_ticks_21 (by decide) ?_
        refine lv_istore_n (lv' := [(1, .int 0), (0, .ref Mm)]) hx hb dX7_ticks_22 rfl hl (by decide) rfl (fun ls hl => ?_)
        have loop_26 : ∀ (Nloop_26 : Nat) (i_18 : Nat) (F_19 : Nat → Int32) (hF_19 : mOK gs tb (ub + i_18) F_19) (hbi_18 : i_18 ≤ cc) (hmloop_26 : cc - i_18 < Nloop_26) (H : Heap) (locs : List Loc) (ls : Array Slot), va_P D vwCl [(Mm, .inr (7, [.int zth, .ref Mt, .int (nI tp), .int zma, .int zwr, .ref Mrr, .ref Mrh, .ref Mrc, .int zrh, .int zrc, .ref Mn, .ref Mf, .ref Mr, .ref Mh, .int (nI hp), .int (nI cc), .ref Ma, .ref Mas, .ref Msn, .ref Mac, .ref Mat])), (Mn, .inl (g 0, 1767, .inl F_19)), (Mh, .inl (g 0, 9, .inl fmh)), (Mr, .inl (g 0, 3, .inl fmr)), (Ma, .inl (g 0, 3, .inl fma))] H → va_D A [(Mm, .inr (7, [.int zth, .ref Mt, .int (nI tp), .int zma, .int zwr, .ref Mrr, .ref Mrh, .ref Mrc, .int zrh, .int zrc, .ref Mn, .ref Mf, .ref Mr, .ref Mh, .int (nI hp), .int (nI cc), .ref Ma, .ref Mas, .ref Msn, .ref Mac, .ref Mat])), (Mn, .inl (g 0, 1767, .inl F_19)), (Mh, .inl (g 0, 9, .inl fmh)), (Mr, .inl (g 0, 3, .inl fmr)), (Ma, .inl (g 0, 3, .inl fma))] → va_S A s.heap H locs → lv_has ls 2 [(1, .int (nI i_18)), (0, .ref Mm)] → W p l e (headSpec wsX7_ticks ({ frames := 5, cells := 0, slots := 0, locals := 112 })).room s m ([.ref Mm] : List Value).toArray below meth c H locs 0 0 Q (F0 m 23 ls []) := by
          clear hP hD hS hl
          intro Nloop_26
          induction Nloop_26 with
          | zero => intro i_18 F_19 hF_19 hbi_18 hm9; exact absurd hm9 (Nat.not_lt_zero _)
          | succ Nloop_26 loop_26_ih =>
            intro i_18 F_19 hF_19 hbi_18 hmloop_26 H locs ls hP hD hS hl
            refine lv_iload_n hx hb dX7_ticks_23 rfl (lv_at hl 0 rfl) ?_
            refine lv_aload_n hx hb dX7_ticks_24 rfl (lv_at hl 1 rfl) ?_
            refine va_get (D := D) (ci := 7) (v := .int (nI cc)) (C := RX7) (T := TX7) (N := 21) hx hb hts iX7 hown hK hP 0 rfl rfl 15 (by decide) f127 (fun _ h9 => h9) rfl dX7_ticks_25 ?_
            refine lv_icmp_ge (tgt := 42) hx hb dX7_ticks_28 (by decide) (fun cb_27 => ?_) (fun cb_27 => ?_)
            · skip
              have cn_28 : cc ≤ i_18 := (nI_leI (show cc < 2 ^ 31 by omega) (show i_18 < 2 ^ 31 by omega)).mp cb_27
              refine lv_iconst (v := 0) hx hb dX7_ticks_42 (by decide) ?_
              refine lv_istore_n (lv' := [(1, .int 0), (0, .ref Mm)]) hx hb dX7_ticks_43 rfl hl (by decide) rfl (fun ls hl => ?_)
              have loop_40 : ∀ (Nloop_40 : Nat) (i_32 : Nat) (F_33 : Nat → Int32) (hF_33 : mOK gs tb (ub + i_18 + i_32) F_33) (hbi_32 : i_32 ≤ cc) (hmloop_40 : cc - i_32 < Nloop_40) (H : Heap) (locs : List Loc) (ls : Array Slot), va_P D vwCl [(Mm, .inr (7, [.int zth, .ref Mt, .int (nI tp), .int zma, .int zwr, .ref Mrr, .ref Mrh, .ref Mrc, .int zrh, .int zrc, .ref Mn, .ref Mf, .ref Mr, .ref Mh, .int (nI hp), .int (nI cc), .ref Ma, .ref Mas, .ref Msn, .ref Mac, .ref Mat])), (Mn, .inl (g 0, 1767, .inl F_33)), (Mh, .inl (g 0, 9, .inl fmh)), (Mr, .inl (g 0, 3, .inl fmr)), (Ma, .inl (g 0, 3, .inl fma))] H → va_D A [(Mm, .inr (7, [.int zth, .ref Mt, .int (nI tp), .int zma, .int zwr, .ref Mrr, .ref Mrh, .ref Mrc, .int zrh, .int zrc, .ref Mn, .ref Mf, .ref Mr, .ref Mh, .int (nI hp), .int (nI cc), .ref Ma, .ref Mas, .ref Msn, .ref Mac, .ref Mat])), (Mn, .inl (g 0, 1767, .inl F_33)), (Mh, .inl (g 0, 9, .inl fmh)), (Mr, .inl (g 0, 3, .inl fmr)), (Ma, .inl (g 0, 3, .inl fma))] → va_S A s.heap H locs → lv_has ls 2 [(1, .int (nI i_32)), (0, .ref Mm)] → W p l e (headSpec wsX7_ticks ({ frames := 5, cells := 0, slots := 0, locals := 112 })).room s m ([.ref Mm] : List Value).toArray below meth c H locs 0 0 Q (F0 m 44 ls []) := by
                clear hP hD hS hl
                intro Nloop_40
                induction Nloop_40 with
                | zero => intro i_32 F_33 hF_33 hbi_32 hm9; exact absurd hm9 (Nat.not_lt_zero _)
                | succ Nloop_40 loop_40_ih =>
                  intro i_32 F_33 hF_33 hbi_32 hmloop_40 H locs ls hP hD hS hl
                  refine lv_iload_n hx hb dX7_ticks_44 rfl (lv_at hl 0 rfl) ?_
                  refine lv_aload_n hx hb dX7_ticks_45 rfl (lv_at hl 1 rfl) ?_
                  refine va_get (D := D) (ci := 7) (v := .int (nI cc)) (C := RX7) (T := TX7) (N := 21) hx hb hts iX7 hown hK hP 0 rfl rfl 15 (by decide) f127 (fun _ h9 => h9) rfl dX7_ticks_46 ?_
                  refine lv_icmp_ge (tgt := 63) hx hb dX7_ticks_49 (by decide) (fun cb_41 => ?_) (fun cb_41 => ?_)
                  · skip
                    have cn_42 : cc ≤ i_32 := (nI_leI (show cc < 2 ^ 31 by omega) (show i_32 < 2 ^ 31 by omega)).mp cb_41
                    have join_118 : ∀ (F_80 : Nat → Int32) (hF_80 : mOK gs tb (ub + i_18 + i_32) F_80) (H : Heap) (locs : List Loc) (ls : Array Slot), va_P D vwCl [(Mm, .inr (7, [.int zth, .ref Mt, .int (nI tp), .int zma, .int zwr, .ref Mrr, .ref Mrh, .ref Mrc, .int zrh, .int zrc, .ref Mn, .ref Mf, .ref Mr, .ref Mh, .int (nI hp), .int (nI cc), .ref Ma, .ref Mas, .ref Msn, .ref Mac, .ref Mat])), (Mn, .inl (g 0, 1767, .inl F_80)), (Mh, .inl (g 0, 9, .inl fmh)), (Mr, .inl (g 0, 3, .inl fmr)), (Ma, .inl (g 0, 3, .inl fma))] H → va_D A [(Mm, .inr (7, [.int zth, .ref Mt, .int (nI tp), .int zma, .int zwr, .ref Mrr, .ref Mrh, .ref Mrc, .int zrh, .int zrc, .ref Mn, .ref Mf, .ref Mr, .ref Mh, .int (nI hp), .int (nI cc), .ref Ma, .ref Mas, .ref Msn, .ref Mac, .ref Mat])), (Mn, .inl (g 0, 1767, .inl F_80)), (Mh, .inl (g 0, 9, .inl fmh)), (Mr, .inl (g 0, 3, .inl fmr)), (Ma, .inl (g 0, 3, .inl fma))] → va_S A s.heap H locs → lv_has ls 2 [(0, .ref Mm)] → W p l e (headSpec wsX7_ticks ({ frames := 5, cells := 0, slots := 0, locals := 112 })).room s m ([.ref Mm] : List Value).toArray below meth c H locs 0 0 Q (F0 m 90 ls []) := by
                      clear hP hD hS hl
                      intro F_80 hF_80 H locs ls hP hD hS hl
                      refine lv_aload_n hx hb dX7_ticks_90 rfl (lv_at hl 0 rfl) ?_
                      refine va_get (D := D) (ci := 7) (v := .ref Mr) (C := RX7) (T := TX7) (N := 21) hx hb hts iX7 hown hK hP 0 rfl rfl 12 (by decide) f28 (fun _ h9 => h9) rfl dX7_ticks_91 ?_
                      refine lv_iconst (v := 1) hx hb dX7_ticks_94 (by decide) ?_
                      refine va_iald hx hb hK hP 3 0 rfl rfl (by unfold vp_in; decide) dX7_ticks_95 ?_
                      refine lv_eqi (y := (fmr 1)) (rfl) ?_
                      have join_175 : ∀ (F_146 : Nat → Int32) (F_147 : Nat → Int32) (hF_146 : mOK gs tb (ub + i_18 + i_32) F_146) (H : Heap) (locs : List Loc) (ls : Array Slot), va_P D vwCl [(Mm, .inr (7, [.int zth, .ref Mt, .int (nI tp), .int zma, .int zwr, .ref Mrr, .ref Mrh, .ref Mrc, .int zrh, .int zrc, .ref Mn, .ref Mf, .ref Mr, .ref Mh, .int (nI hp), .int (nI cc), .ref Ma, .ref Mas, .ref Msn, .ref Mac, .ref Mat])), (Mn, .inl (g 0, 1767, .inl F_146)), (Mh, .inl (g 0, 9, .inl fmh)), (Mr, .inl (g 0, 3, .inl fmr)), (Ma, .inl (g 0, 3, .inl F_147))] H → va_D A [(Mm, .inr (7, [.int zth, .ref Mt, .int (nI tp), .int zma, .int zwr, .ref Mrr, .ref Mrh, .ref Mrc, .int zrh, .int zrc, .ref Mn, .ref Mf, .ref Mr, .ref Mh, .int (nI hp), .int (nI cc), .ref Ma, .ref Mas, .ref Msn, .ref Mac, .ref Mat])), (Mn, .inl (g 0, 1767, .inl F_146)), (Mh, .inl (g 0, 9, .inl fmh)), (Mr, .inl (g 0, 3, .inl fmr)), (Ma, .inl (g 0, 3, .inl F_147))] → va_S A s.heap H locs → lv_has ls 2 [(0, .ref Mm)] → W p l e (headSpec wsX7_ticks ({ frames := 5, cells := 0, slots := 0, locals := 112 })).room s m ([.ref Mm] : List Value).toArray below meth c H locs 0 0 Q (F0 m 140 ls []) := by
                        clear hP hD hS hl
                        intro F_146 F_147 hF_146 H locs ls hP hD hS hl
                        refine lv_aload_n hx hb dX7_ticks_140 rfl (lv_at hl 0 rfl) ?_
                        refine va_get (D := D) (ci := 7) (v := .ref Mn) (C := RX7) (T := TX7) (N := 21) hx hb hts iX7 hown hK hP 0 rfl rfl 10 (by decide) f22 (fun _ h9 => h9) rfl dX7_ticks_141 ?_
                        refine lv_sipush (v := 1764) hx hb dX7_ticks_144 (by decide) ?_
                        refine lv_dup2_11 hx hb dX7_ticks_147 rfl rfl ?_
                        refine va_iald hx hb hK hP 1 0 rfl rfl (by unfold vp_in; decide) dX7_ticks_148 ?_
                        refine lv_eqi (y := (F_146 1764)) (rfl) ?_
                        obtain ⟨t_176, ht_176, q9⟩ := mOK_t hF_146
                        refine lv_eqi (y := nI t_176) q9 ?_
                        refine lv_iconst (v := 1) hx hb dX7_ticks_149 (by decide) ?_
                        refine lv_iadd hx hb dX7_ticks_150 ?_
                        refine lv_eqi (y := (nI (t_176 + 1))) (nI_add (t_176) (1)) ?_
                        refine va_iast hx hb hK hP hD hS 1 0 rfl rfl (by unfold vp_in; decide) dX7_ticks_151 (fun H locs hP2 hD2 hS2 => ?_)
                        clear hP hD hS
                        have hPD : PD D A [(Mm, .inr (7, [.int zth, .ref Mt, .int (nI tp), .int zma, .int zwr, .ref Mrr, .ref Mrh, .ref Mrc, .int zrh, .int zrc, .ref Mn, .ref Mf, .ref Mr, .ref Mh, .int (nI hp), .int (nI cc), .ref Ma, .ref Mas, .ref Msn, .ref Mac, .ref Mat])), (Mn, .inl (g 0, 1767, .inl (upd F_146 1764 (nI (t_176 + 1))))), (Mh, .inl (g 0, 9, .inl fmh)), (Mr, .inl (g 0, 3, .inl fmr)), (Ma, .inl (g 0, 3, .inl F_147))] H := ⟨hP2, hD2⟩
                        have hS := hS2; clear hP2 hD2 hS2; have hP := hPD.1; have hD := hPD.2; clear hPD
                        have hF_177 : mOK gs (tb + 1) (ub + i_18 + i_32) (upd F_146 1764 (nI (t_176 + 1))) := mOK_tick hF_146 (n := t_176 + 1) (show t_176 + 1 = tb + 1 by omega)
                        generalize upd F_146 1764 (nI (t_176 + 1)) = F_177 at hP hD hF_177
                        have hP9 := hP; have hD9 := hD
                        subst hQ
                        refine W.widen (k := 0) (n := 0) (Nat.le_of_ble_eq_true rfl) (Nat.le_of_ble_eq_true rfl) ?_
                        exact W.vret hx hb hr (fun tS htS _ => ⟨⟨_, rfl, ⟨F_177, F_147, rfl, (mOK_le hF_177 (show tb + 1 = tb + 1 by omega) (show ub + i_18 + i_32 ≤ ub + 6 by omega))⟩, by rw [htS]; exact hP9, hD9⟩, hS.F htS⟩) hS.2.2 dX7_ticks_152
                      refine lv_if_le (tgt := 140) hx hb dX7_ticks_96 (by decide) (fun cb_178 => ?_) (fun cb_178 => ?_)
                      · skip
                        exact join_175 F_80 fma (hF_80) _ _ _ hP hD hS hl
                      · skip
                        refine lv_aload_n hx hb dX7_ticks_99 rfl (lv_at hl 0 rfl) ?_
                        refine va_get (D := D) (ci := 7) (v := .ref Mn) (C := RX7) (T := TX7) (N := 21) hx hb hts iX7 hown hK hP 0 rfl rfl 10 (by decide) f22 (fun _ h9 => h9) rfl dX7_ticks_100 ?_
                        refine lv_sipush (v := 1764) hx hb dX7_ticks_103 (by decide) ?_
                        refine va_iald hx hb hK hP 1 0 rfl rfl (by unfold vp_in; decide) dX7_ticks_106 ?_
                        refine lv_eqi (y := (F_80 1764)) (rfl) ?_
                        obtain ⟨t_179, ht_179, q9⟩ := mOK_t hF_80
                        refine lv_eqi (y := nI t_179) q9 ?_
                        refine lv_iconst (v := 1) hx hb dX7_ticks_107 (by decide) ?_
                        refine lv_iadd hx hb dX7_ticks_108 ?_
                        refine lv_eqi (y := (nI (t_179 + 1))) (nI_add (t_179) (1)) ?_
                        refine lv_aload_n hx hb dX7_ticks_109 rfl (lv_at hl 0 rfl) ?_
                        refine va_get (D := D) (ci := 7) (v := .ref Mr) (C := RX7) (T := TX7) (N := 21) hx hb hts iX7 hown hK hP 0 rfl rfl 12 (by decide) f28 (fun _ h9 => h9) rfl dX7_ticks_110 ?_
                        refine lv_iconst (v := 1) hx hb dX7_ticks_113 (by decide) ?_
                        refine va_iald hx hb hK hP 3 0 rfl rfl (by unfold vp_in; decide) dX7_ticks_114 ?_
                        refine lv_eqi (y := (fmr 1)) (rfl) ?_
                        refine lv_irem hx hb dX7_ticks_115 (nz_le cb_178) ?_
                        refine lv_topi (fun y_180 _ => ?_)
                        refine lv_if_ne (tgt := 140) hx hb dX7_ticks_116 (by decide) (fun cb_181 => ?_) (fun cb_181 => ?_)
                        · skip
                          exact join_175 F_80 fma (hF_80) _ _ _ hP hD hS hl
                        · skip
                          have hPq_182 := hP; have hDq_182 := hD; have hSq_182 := hS; have hlq_182 := hl; clear hP hD hS hl
                          subst cb_181
                          have hP := hPq_182; have hD := hDq_182; have hS := hSq_182; have hl := hlq_182; clear hPq_182 hDq_182 hSq_182 hlq_182
                          refine lv_iconst (v := 0) hx hb dX7_ticks_119 (by decide) ?_
                          refine lv_istore_n (lv' := [(1, .int 0), (0, .ref Mm)]) hx hb dX7_ticks_120 rfl hl (by decide) rfl (fun ls hl => ?_)
                          have loop_197 : ∀ (Nloop_197 : Nat) (i_187 : Nat) (F_188 : Nat → Int32) (F_189 : Nat → Int32) (hF_188 : mOK gs tb (ub + i_18 + i_32) F_188) (hbi_187 : i_187 ≤ hp) (hmloop_197 : hp - i_187 < Nloop_197) (H : Heap) (locs : List Loc) (ls : Array Slot), va_P D vwCl [(Mm, .inr (7, [.int zth, .ref Mt, .int (nI tp), .int zma, .int zwr, .ref Mrr, .ref Mrh, .ref Mrc, .int zrh, .int zrc, .ref Mn, .ref Mf, .ref Mr, .ref Mh, .int (nI hp), .int (nI cc), .ref Ma, .ref Mas, .ref Msn, .ref Mac, .ref Mat])), (Mn, .inl (g 0, 1767, .inl F_188)), (Mh, .inl (g 0, 9, .inl fmh)), (Mr, .inl (g 0, 3, .inl fmr)), (Ma, .inl (g 0, 3, .inl F_189))] H → va_D A [(Mm, .inr (7, [.int zth, .ref Mt, .int (nI tp), .int zma, .int zwr, .ref Mrr, .ref Mrh, .ref Mrc, .int zrh, .int zrc, .ref Mn, .ref Mf, .ref Mr, .ref Mh, .int (nI hp), .int (nI cc), .ref Ma, .ref Mas, .ref Msn, .ref Mac, .ref Mat])), (Mn, .inl (g 0, 1767, .inl F_188)), (Mh, .inl (g 0, 9, .inl fmh)), (Mr, .inl (g 0, 3, .inl fmr)), (Ma, .inl (g 0, 3, .inl F_189))] → va_S A s.heap H locs → lv_has ls 2 [(1, .int (nI i_187)), (0, .ref Mm)] → W p l e (headSpec wsX7_ticks ({ frames := 5, cells := 0, slots := 0, locals := 112 })).room s m ([.ref Mm] : List Value).toArray below meth c H locs 0 0 Q (F0 m 121 ls []) := by
                            clear hP hD hS hl
                            intro Nloop_197
                            induction Nloop_197 with
                            | zero => intro i_187 F_188 F_189 hF_188 hbi_187 hm9; exact absurd hm9 (Nat.not_lt_zero _)
                            | succ Nloop_197 loop_197_ih =>
                              intro i_187 F_188 F_189 hF_188 hbi_187 hmloop_197 H locs ls hP hD hS hl
                              refine lv_iload_n hx hb dX7_ticks_121 rfl (lv_at hl 0 rfl) ?_
                              refine lv_aload_n hx hb dX7_ticks_122 rfl (lv_at hl 1 rfl) ?_
                              refine va_get (D := D) (ci := 7) (v := .int (nI hp)) (C := RX7) (T := TX7) (N := 21) hx hb hts iX7 hown hK hP 0 rfl rfl 14 (by decide) f124 (fun _ h9 => h9) rfl dX7_ticks_123 ?_
                              refine lv_icmp_ge (tgt := 140) hx hb dX7_ticks_126 (by decide) (fun cb_198 => ?_) (fun cb_198 => ?_)
                              · skip
                                have cn_199 : hp ≤ i_187 := (nI_leI (show hp < 2 ^ 31 by omega) (show i_187 < 2 ^ 31 by omega)).mp cb_198
                                exact join_175 F_188 F_189 (hF_188) _ _ _ hP hD hS (lv_sub hl [1] rfl)
                              · skip
                                have cn_200 : i_187 < hp := Nat.lt_of_not_le (fun q9 => cb_198 ((nI_leI (show hp < 2 ^ 31 by omega) (show i_187 < 2 ^ 31 by omega)).mpr q9))
                                refine lv_aload_n hx hb dX7_ticks_129 rfl (lv_at hl 1 rfl) ?_
                                refine lv_iload_n hx hb dX7_ticks_130 rfl (lv_at hl 0 rfl) ?_
                                refine ky_Vv (As := [.int (nI i_187)]) (rest := []) ⟨hx, hb, hml, hown, hts⟩ ⟨hK, hN⟩ hZ hP hD hS hA [0, 1, 2, 3, 4] [] (wc := [(Mm, .inr (7, [.int zth, .ref Mt, .int (nI tp), .int zma, .int zwr, .ref Mrr, .ref Mrh, .ref Mrc, .int zrh, .int zrc, .ref Mn, .ref Mf, .ref Mr, .ref Mh, .int (nI hp), .int (nI cc), .ref Ma, .ref Mas, .ref Msn, .ref Mac, .ref Mat])), (Mn, .inl (g 0, 1767, .inl F_188)), (Mh, .inl (g 0, 9, .inl fmh)), (Mr, .inl (g 0, 3, .inl fmr)), (Ma, .inl (g 0, 3, .inl F_189))]) (wr := []) rfl rfl rfl rfl (by decide) (k_X7_adapts l D g H.size Mm i_187 zth Mt tp zma zwr Mrr Mrh Mrc zrh zrc Mn Mf Mr Mh hp cc Ma Mas Msn Mac Mat F_188 fmh fmr F_189 tb (ub + i_18 + i_32) (show tb < 2 ^ 29 by omega) (show ub + i_18 + i_32 < 2 ^ 29 by omega) (hF_188) (show 1 ≤ cc by omega) (show cc ≤ 3 by omega) (show i_187 < 3 by omega) (h7)) (cwV 1 hts gX7_ticks_X7_adapts rfl rfl rfl (by decide +kernel) ⟨(Nat.le_of_ble_eq_true rfl), (Nat.le_of_ble_eq_true rfl)⟩) 0 7 rfl rfl rfl rfl hl.1 rfl (Nat.le_of_ble_eq_true rfl) dX7_ticks_131 ⟨(Nat.le_of_ble_eq_true rfl), (Nat.le_of_ble_eq_true rfl)⟩ (fun u H locs hw hP2 hD2 hS2 => ?_)
                                clear hP hD hS
                                obtain ⟨fnox_202, fmax_203, rfl, hf_204⟩ := hw
                                have hPD : PD D A [(Mm, .inr (7, [.int zth, .ref Mt, .int (nI tp), .int zma, .int zwr, .ref Mrr, .ref Mrh, .ref Mrc, .int zrh, .int zrc, .ref Mn, .ref Mf, .ref Mr, .ref Mh, .int (nI hp), .int (nI cc), .ref Ma, .ref Mas, .ref Msn, .ref Mac, .ref Mat])), (Mn, .inl (g 0, 1767, .inl fnox_202)), (Mh, .inl (g 0, 9, .inl fmh)), (Mr, .inl (g 0, 3, .inl fmr)), (Ma, .inl (g 0, 3, .inl fmax_203))] H := ⟨hP2, hD2⟩
                                have hS := hS2; clear hP2 hD2 hS2; have hP := hPD.1; have hD := hPD.2; clear hPD
                                refine W.widen (k := 0) (n := 0) (Nat.le_of_ble_eq_true rfl) (Nat.le_of_ble_eq_true rfl) ?_
                                refine lv_iinc (v := (nI (i_187 + 1))) (lv' := [(1, .int (nI (i_187 + 1))), (0, .ref Mm)]) hx hb dX7_ticks_134 hl (k := 0) rfl (nI_1 (i_187)) (by decide) rfl (fun ls hl => ?_)
                                refine lv_goto (tgt := 121) hx hb dX7_ticks_137 (by decide) ?_
                                exact loop_197_ih (i_187 + 1) fnox_202 fmax_203 (hf_204) (show (i_187 + 1) ≤ hp by omega) (show hp - (i_187 + 1) < Nloop_197 by omega) _ _ _ hP hD hS hl
                          exact loop_197 _ 0 F_80 fma (hF_80) (show 0 ≤ hp by omega) (Nat.lt_succ_self _) _ _ _ hP hD hS hl
                    have hPq_205 := hP; have hDq_205 := hD; have hSq_205 := hS; have hlq_205 := hl; clear hP hD hS hl
                    rcases (show hp = 1 ∨ hp = 2 ∨ hp = 3 by omega) with rfl | rfl | rfl
                    · skip
                      have hP := hPq_205; have hD := hDq_205; have hS := hSq_205; have hl := hlq_205; clear hPq_205 hDq_205 hSq_205 hlq_205
                      refine lv_aload_n hx hb dX7_ticks_63 rfl (lv_at hl 1 rfl) ?_
                      refine va_get (D := D) (ci := 7) (v := .int (nI 1)) (C := RX7) (T := TX7) (N := 21) hx hb hts iX7 hown hK hP 0 rfl rfl 14 (by decide) f124 (fun _ h9 => h9) rfl dX7_ticks_64 ?_
                      refine lv_iconst (v := 1) hx hb dX7_ticks_67 (by decide) ?_
                      refine lv_isub hx hb dX7_ticks_68 ?_
                      refine lv_eqi (y := 0) (by decide) ?_
                      refine lv_istore_n (lv' := [(1, .int 0), (0, .ref Mm)]) hx hb dX7_ticks_69 rfl hl (by decide) rfl (fun ls hl => ?_)
                      refine lv_iload_n hx hb dX7_ticks_70 rfl (lv_at hl 0 rfl) ?_
                      refine lv_if_lt (tgt := 90) hx hb dX7_ticks_71 (by decide) (fun cb => absurd cb (by decide)) (fun _ => ?_)
                      refine lv_aload_n hx hb dX7_ticks_74 rfl (lv_at hl 1 rfl) ?_
                      refine lv_iload_n hx hb dX7_ticks_75 rfl (lv_at hl 0 rfl) ?_
                      refine ky_Vv (As := [.int 0]) (rest := []) ⟨hx, hb, hml, hown, hts⟩ ⟨hK, hN⟩ hZ hP hD hS hA [0, 1, 2] [3, 4] (wc := [(Mm, .inr (7, [.int zth, .ref Mt, .int (nI tp), .int zma, .int zwr, .ref Mrr, .ref Mrh, .ref Mrc, .int zrh, .int zrc, .ref Mn, .ref Mf, .ref Mr, .ref Mh, .int (nI 1), .int (nI cc), .ref Ma, .ref Mas, .ref Msn, .ref Mac, .ref Mat])), (Mn, .inl (g 0, 1767, .inl F_33)), (Mh, .inl (g 0, 9, .inl fmh))]) (wr := [(Mr, .inl (g 0, 3, .inl fmr)), (Ma, .inl (g 0, 3, .inl fma))]) rfl rfl rfl rfl (by decide) (k_X7_sends l D g H.size Mm 0 zth Mt tp zma zwr Mrr Mrh Mrc zrh zrc Mn Mf Mr Mh 1 cc Ma Mas Msn Mac Mat F_33 fmh tb (ub + i_18 + i_32) (show tb < 2 ^ 29 by omega) (show ub + i_18 + i_32 < 2 ^ 29 by omega) (hF_33) (show 1 ≤ cc by omega) (show cc ≤ 3 by omega) (show 0 < 3 by omega) (h7)) (cwV 1 hts gX7_ticks_X7_sends rfl rfl rfl (by decide +kernel) ⟨(Nat.le_of_ble_eq_true rfl), (Nat.le_of_ble_eq_true rfl)⟩) 0 7 rfl rfl rfl rfl hl.1 rfl (Nat.le_of_ble_eq_true rfl) dX7_ticks_76 ⟨(Nat.le_of_ble_eq_true rfl), (Nat.le_of_ble_eq_true rfl)⟩ (fun u H locs hw hP2 hD2 hS2 => ?_)
                      clear hP hD hS
                      obtain ⟨fnox_207, rfl, hf_208⟩ := hw
                      have hPD : PD D A [(Mr, .inl (g 0, 3, .inl fmr)), (Ma, .inl (g 0, 3, .inl fma)), (Mm, .inr (7, [.int zth, .ref Mt, .int (nI tp), .int zma, .int zwr, .ref Mrr, .ref Mrh, .ref Mrc, .int zrh, .int zrc, .ref Mn, .ref Mf, .ref Mr, .ref Mh, .int (nI 1), .int (nI cc), .ref Ma, .ref Mas, .ref Msn, .ref Mac, .ref Mat])), (Mn, .inl (g 0, 1767, .inl fnox_207)), (Mh, .inl (g 0, 9, .inl fmh))] H := ⟨hP2, hD2⟩
                      have hS := hS2; clear hP2 hD2 hS2; have hP := hPD.1; have hD := hPD.2; clear hPD
                      refine W.widen (k := 0) (n := 0) (Nat.le_of_ble_eq_true rfl) (Nat.le_of_ble_eq_true rfl) ?_
                      refine lv_aload_n hx hb dX7_ticks_79 rfl (lv_at hl 1 rfl) ?_
                      refine lv_iload_n hx hb dX7_ticks_80 rfl (lv_at hl 0 rfl) ?_
                      refine ky_Vv (As := [.int 0]) (rest := []) ⟨hx, hb, hml, hown, hts⟩ ⟨hK, hN⟩ hZ hP hD hS hA [2, 3, 4, 0] [1] (wc := [(Mm, .inr (7, [.int zth, .ref Mt, .int (nI tp), .int zma, .int zwr, .ref Mrr, .ref Mrh, .ref Mrc, .int zrh, .int zrc, .ref Mn, .ref Mf, .ref Mr, .ref Mh, .int (nI 1), .int (nI cc), .ref Ma, .ref Mas, .ref Msn, .ref Mac, .ref Mat])), (Mn, .inl (g 0, 1767, .inl fnox_207)), (Mh, .inl (g 0, 9, .inl fmh)), (Mr, .inl (g 0, 3, .inl fmr))]) (wr := [(Ma, .inl (g 0, 3, .inl fma))]) rfl rfl rfl rfl (by decide) (k_X7_waits l D g H.size Mm 0 zth Mt tp zma zwr Mrr Mrh Mrc zrh zrc Mn Mf Mr Mh 1 cc Ma Mas Msn Mac Mat fnox_207 fmh fmr tb (ub + i_18 + i_32) (show tb < 2 ^ 29 by omega) (show ub + i_18 + i_32 < 2 ^ 29 by omega) (hf_208) (show 1 ≤ cc by omega) (show cc ≤ 3 by omega) (show 0 < 3 by omega) (h7)) (cwV 1 hts gX7_ticks_X7_waits rfl rfl rfl (by decide +kernel) ⟨(Nat.le_of_ble_eq_true rfl), (Nat.le_of_ble_eq_true rfl)⟩) 2 7 rfl rfl rfl rfl hl.1 rfl (Nat.le_of_ble_eq_true rfl) dX7_ticks_81 ⟨(Nat.le_of_ble_eq_true rfl), (Nat.le_of_ble_eq_true rfl)⟩ (fun u H locs hw hP2 hD2 hS2 => ?_)
                      clear hP hD hS
                      obtain ⟨fnox_210, rfl, hf_211⟩ := hw
                      have hPD : PD D A [(Ma, .inl (g 0, 3, .inl fma)), (Mm, .inr (7, [.int zth, .ref Mt, .int (nI tp), .int zma, .int zwr, .ref Mrr, .ref Mrh, .ref Mrc, .int zrh, .int zrc, .ref Mn, .ref Mf, .ref Mr, .ref Mh, .int (nI 1), .int (nI cc), .ref Ma, .ref Mas, .ref Msn, .ref Mac, .ref Mat])), (Mn, .inl (g 0, 1767, .inl fnox_210)), (Mh, .inl (g 0, 9, .inl fmh)), (Mr, .inl (g 0, 3, .inl fmr))] H := ⟨hP2, hD2⟩
                      have hS := hS2; clear hP2 hD2 hS2; have hP := hPD.1; have hD := hPD.2; clear hPD
                      refine W.widen (k := 0) (n := 0) (Nat.le_of_ble_eq_true rfl) (Nat.le_of_ble_eq_true rfl) ?_
                      refine lv_iinc (v := (-1)) (lv' := [(1, .int (-1)), (0, .ref Mm)]) hx hb dX7_ticks_84 hl (k := 0) rfl (by decide) (by decide) rfl (fun ls hl => ?_)
                      refine lv_goto (tgt := 70) hx hb dX7_ticks_87 (by decide) ?_
                      refine lv_iload_n hx hb dX7_ticks_70 rfl (lv_at hl 0 rfl) ?_
                      refine lv_if_lt (tgt := 90) hx hb dX7_ticks_71 (by decide) (fun _ => ?_) (fun cb => absurd (by decide) cb)
                      exact join_118 fnox_210 (hf_211) _ _ _ (hP.sub [1, 2, 3, 4, 0] rfl) (hD.sub [1, 2, 3, 4, 0] (by decide) rfl) hS (lv_sub hl [1] rfl)
                    · skip
                      have hP := hPq_205; have hD := hDq_205; have hS := hSq_205; have hl := hlq_205; clear hPq_205 hDq_205 hSq_205 hlq_205
                      refine lv_aload_n hx hb dX7_ticks_63 rfl (lv_at hl 1 rfl) ?_
                      refine va_get (D := D) (ci := 7) (v := .int (nI 2)) (C := RX7) (T := TX7) (N := 21) hx hb hts iX7 hown hK hP 0 rfl rfl 14 (by decide) f124 (fun _ h9 => h9) rfl dX7_ticks_64 ?_
                      refine lv_iconst (v := 1) hx hb dX7_ticks_67 (by decide) ?_
                      refine lv_isub hx hb dX7_ticks_68 ?_
                      refine lv_eqi (y := 1) (by decide) ?_
                      refine lv_istore_n (lv' := [(1, .int 1), (0, .ref Mm)]) hx hb dX7_ticks_69 rfl hl (by decide) rfl (fun ls hl => ?_)
                      refine lv_iload_n hx hb dX7_ticks_70 rfl (lv_at hl 0 rfl) ?_
                      refine lv_if_lt (tgt := 90) hx hb dX7_ticks_71 (by decide) (fun cb => absurd cb (by decide)) (fun _ => ?_)
                      refine lv_aload_n hx hb dX7_ticks_74 rfl (lv_at hl 1 rfl) ?_
                      refine lv_iload_n hx hb dX7_ticks_75 rfl (lv_at hl 0 rfl) ?_
                      refine ky_Vv (As := [.int 1]) (rest := []) ⟨hx, hb, hml, hown, hts⟩ ⟨hK, hN⟩ hZ hP hD hS hA [0, 1, 2] [3, 4] (wc := [(Mm, .inr (7, [.int zth, .ref Mt, .int (nI tp), .int zma, .int zwr, .ref Mrr, .ref Mrh, .ref Mrc, .int zrh, .int zrc, .ref Mn, .ref Mf, .ref Mr, .ref Mh, .int (nI 2), .int (nI cc), .ref Ma, .ref Mas, .ref Msn, .ref Mac, .ref Mat])), (Mn, .inl (g 0, 1767, .inl F_33)), (Mh, .inl (g 0, 9, .inl fmh))]) (wr := [(Mr, .inl (g 0, 3, .inl fmr)), (Ma, .inl (g 0, 3, .inl fma))]) rfl rfl rfl rfl (by decide) (k_X7_sends l D g H.size Mm 1 zth Mt tp zma zwr Mrr Mrh Mrc zrh zrc Mn Mf Mr Mh 2 cc Ma Mas Msn Mac Mat F_33 fmh tb (ub + i_18 + i_32) (show tb < 2 ^ 29 by omega) (show ub + i_18 + i_32 < 2 ^ 29 by omega) (hF_33) (show 1 ≤ cc by omega) (show cc ≤ 3 by omega) (show 1 < 3 by omega) (h7)) (cwV 1 hts gX7_ticks_X7_sends rfl rfl rfl (by decide +kernel) ⟨(Nat.le_of_ble_eq_true rfl), (Nat.le_of_ble_eq_true rfl)⟩) 0 7 rfl rfl rfl rfl hl.1 rfl (Nat.le_of_ble_eq_true rfl) dX7_ticks_76 ⟨(Nat.le_of_ble_eq_true rfl), (Nat.le_of_ble_eq_true rfl)⟩ (fun u H locs hw hP2 hD2 hS2 => ?_)
                      clear hP hD hS
                      obtain ⟨fnox_213, rfl, hf_214⟩ := hw
                      have hPD : PD D A [(Mr, .inl (g 0, 3, .inl fmr)), (Ma, .inl (g 0, 3, .inl fma)), (Mm, .inr (7, [.int zth, .ref Mt, .int (nI tp), .int zma, .int zwr, .ref Mrr, .ref Mrh, .ref Mrc, .int zrh, .int zrc, .ref Mn, .ref Mf, .ref Mr, .ref Mh, .int (nI 2), .int (nI cc), .ref Ma, .ref Mas, .ref Msn, .ref Mac, .ref Mat])), (Mn, .inl (g 0, 1767, .inl fnox_213)), (Mh, .inl (g 0, 9, .inl fmh))] H := ⟨hP2, hD2⟩
                      have hS := hS2; clear hP2 hD2 hS2; have hP := hPD.1; have hD := hPD.2; clear hPD
                      refine W.widen (k := 0) (n := 0) (Nat.le_of_ble_eq_true rfl) (Nat.le_of_ble_eq_true rfl) ?_
                      refine lv_aload_n hx hb dX7_ticks_79 rfl (lv_at hl 1 rfl) ?_
                      refine lv_iload_n hx hb dX7_ticks_80 rfl (lv_at hl 0 rfl) ?_
                      refine ky_Vv (As := [.int 1]) (rest := []) ⟨hx, hb, hml, hown, hts⟩ ⟨hK, hN⟩ hZ hP hD hS hA [2, 3, 4, 0] [1] (wc := [(Mm, .inr (7, [.int zth, .ref Mt, .int (nI tp), .int zma, .int zwr, .ref Mrr, .ref Mrh, .ref Mrc, .int zrh, .int zrc, .ref Mn, .ref Mf, .ref Mr, .ref Mh, .int (nI 2), .int (nI cc), .ref Ma, .ref Mas, .ref Msn, .ref Mac, .ref Mat])), (Mn, .inl (g 0, 1767, .inl fnox_213)), (Mh, .inl (g 0, 9, .inl fmh)), (Mr, .inl (g 0, 3, .inl fmr))]) (wr := [(Ma, .inl (g 0, 3, .inl fma))]) rfl rfl rfl rfl (by decide) (k_X7_waits l D g H.size Mm 1 zth Mt tp zma zwr Mrr Mrh Mrc zrh zrc Mn Mf Mr Mh 2 cc Ma Mas Msn Mac Mat fnox_213 fmh fmr tb (ub + i_18 + i_32) (show tb < 2 ^ 29 by omega) (show ub + i_18 + i_32 < 2 ^ 29 by omega) (hf_214) (show 1 ≤ cc by omega) (show cc ≤ 3 by omega) (show 1 < 3 by omega) (h7)) (cwV 1 hts gX7_ticks_X7_waits rfl rfl rfl (by decide +kernel) ⟨(Nat.le_of_ble_eq_true rfl), (Nat.le_of_ble_eq_true rfl)⟩) 2 7 rfl rfl rfl rfl hl.1 rfl (Nat.le_of_ble_eq_true rfl) dX7_ticks_81 ⟨(Nat.le_of_ble_eq_true rfl), (Nat.le_of_ble_eq_true rfl)⟩ (fun u H locs hw hP2 hD2 hS2 => ?_)
                      clear hP hD hS
                      obtain ⟨fnox_216, rfl, hf_217⟩ := hw
                      have hPD : PD D A [(Ma, .inl (g 0, 3, .inl fma)), (Mm, .inr (7, [.int zth, .ref Mt, .int (nI tp), .int zma, .int zwr, .ref Mrr, .ref Mrh, .ref Mrc, .int zrh, .int zrc, .ref Mn, .ref Mf, .ref Mr, .ref Mh, .int (nI 2), .int (nI cc), .ref Ma, .ref Mas, .ref Msn, .ref Mac, .ref Mat])), (Mn, .inl (g 0, 1767, .inl fnox_216)), (Mh, .inl (g 0, 9, .inl fmh)), (Mr, .inl (g 0, 3, .inl fmr))] H := ⟨hP2, hD2⟩
                      have hS := hS2; clear hP2 hD2 hS2; have hP := hPD.1; have hD := hPD.2; clear hPD
                      refine W.widen (k := 0) (n := 0) (Nat.le_of_ble_eq_true rfl) (Nat.le_of_ble_eq_true rfl) ?_
                      refine lv_iinc (v := 0) (lv' := [(1, .int 0), (0, .ref Mm)]) hx hb dX7_ticks_84 hl (k := 0) rfl (by decide) (by decide) rfl (fun ls hl => ?_)
                      refine lv_goto (tgt := 70) hx hb dX7_ticks_87 (by decide) ?_
                      refine lv_iload_n hx hb dX7_ticks_70 rfl (lv_at hl 0 rfl) ?_
                      refine lv_if_lt (tgt := 90) hx hb dX7_ticks_71 (by decide) (fun cb => absurd cb (by decide)) (fun _ => ?_)
                      refine lv_aload_n hx hb dX7_ticks_74 rfl (lv_at hl 1 rfl) ?_
                      refine lv_iload_n hx hb dX7_ticks_75 rfl (lv_at hl 0 rfl) ?_
                      refine ky_Vv (As := [.int 0]) (rest := []) ⟨hx, hb, hml, hown, hts⟩ ⟨hK, hN⟩ hZ hP hD hS hA [1, 2, 3] [0, 4] (wc := [(Mm, .inr (7, [.int zth, .ref Mt, .int (nI tp), .int zma, .int zwr, .ref Mrr, .ref Mrh, .ref Mrc, .int zrh, .int zrc, .ref Mn, .ref Mf, .ref Mr, .ref Mh, .int (nI 2), .int (nI cc), .ref Ma, .ref Mas, .ref Msn, .ref Mac, .ref Mat])), (Mn, .inl (g 0, 1767, .inl fnox_216)), (Mh, .inl (g 0, 9, .inl fmh))]) (wr := [(Ma, .inl (g 0, 3, .inl fma)), (Mr, .inl (g 0, 3, .inl fmr))]) rfl rfl rfl rfl (by decide) (k_X7_sends l D g H.size Mm 0 zth Mt tp zma zwr Mrr Mrh Mrc zrh zrc Mn Mf Mr Mh 2 cc Ma Mas Msn Mac Mat fnox_216 fmh tb (ub + i_18 + i_32) (show tb < 2 ^ 29 by omega) (show ub + i_18 + i_32 < 2 ^ 29 by omega) (hf_217) (show 1 ≤ cc by omega) (show cc ≤ 3 by omega) (show 0 < 3 by omega) (h7)) (cwV 1 hts gX7_ticks_X7_sends rfl rfl rfl (by decide +kernel) ⟨(Nat.le_of_ble_eq_true rfl), (Nat.le_of_ble_eq_true rfl)⟩) 1 7 rfl rfl rfl rfl hl.1 rfl (Nat.le_of_ble_eq_true rfl) dX7_ticks_76 ⟨(Nat.le_of_ble_eq_true rfl), (Nat.le_of_ble_eq_true rfl)⟩ (fun u H locs hw hP2 hD2 hS2 => ?_)
                      clear hP hD hS
                      obtain ⟨fnox_219, rfl, hf_220⟩ := hw
                      have hPD : PD D A [(Ma, .inl (g 0, 3, .inl fma)), (Mr, .inl (g 0, 3, .inl fmr)), (Mm, .inr (7, [.int zth, .ref Mt, .int (nI tp), .int zma, .int zwr, .ref Mrr, .ref Mrh, .ref Mrc, .int zrh, .int zrc, .ref Mn, .ref Mf, .ref Mr, .ref Mh, .int (nI 2), .int (nI cc), .ref Ma, .ref Mas, .ref Msn, .ref Mac, .ref Mat])), (Mn, .inl (g 0, 1767, .inl fnox_219)), (Mh, .inl (g 0, 9, .inl fmh))] H := ⟨hP2, hD2⟩
                      have hS := hS2; clear hP2 hD2 hS2; have hP := hPD.1; have hD := hPD.2; clear hPD
                      refine W.widen (k := 0) (n := 0) (Nat.le_of_ble_eq_true rfl) (Nat.le_of_ble_eq_true rfl) ?_
                      refine lv_aload_n hx hb dX7_ticks_79 rfl (lv_at hl 1 rfl) ?_
                      refine lv_iload_n hx hb dX7_ticks_80 rfl (lv_at hl 0 rfl) ?_
                      refine ky_Vv (As := [.int 0]) (rest := []) ⟨hx, hb, hml, hown, hts⟩ ⟨hK, hN⟩ hZ hP hD hS hA [2, 3, 4, 1] [0] (wc := [(Mm, .inr (7, [.int zth, .ref Mt, .int (nI tp), .int zma, .int zwr, .ref Mrr, .ref Mrh, .ref Mrc, .int zrh, .int zrc, .ref Mn, .ref Mf, .ref Mr, .ref Mh, .int (nI 2), .int (nI cc), .ref Ma, .ref Mas, .ref Msn, .ref Mac, .ref Mat])), (Mn, .inl (g 0, 1767, .inl fnox_219)), (Mh, .inl (g 0, 9, .inl fmh)), (Mr, .inl (g 0, 3, .inl fmr))]) (wr := [(Ma, .inl (g 0, 3, .inl fma))]) rfl rfl rfl rfl (by decide) (k_X7_waits l D g H.size Mm 0 zth Mt tp zma zwr Mrr Mrh Mrc zrh zrc Mn Mf Mr Mh 2 cc Ma Mas Msn Mac Mat fnox_219 fmh fmr tb (ub + i_18 + i_32) (show tb < 2 ^ 29 by omega) (show ub + i_18 + i_32 < 2 ^ 29 by omega) (hf_220) (show 1 ≤ cc by omega) (show cc ≤ 3 by omega) (show 0 < 3 by omega) (h7)) (cwV 1 hts gX7_ticks_X7_waits rfl rfl rfl (by decide +kernel) ⟨(Nat.le_of_ble_eq_true rfl), (Nat.le_of_ble_eq_true rfl)⟩) 2 7 rfl rfl rfl rfl hl.1 rfl (Nat.le_of_ble_eq_true rfl) dX7_ticks_81 ⟨(Nat.le_of_ble_eq_true rfl), (Nat.le_of_ble_eq_true rfl)⟩ (fun u H locs hw hP2 hD2 hS2 => ?_)
                      clear hP hD hS
                      obtain ⟨fnox_222, rfl, hf_223⟩ := hw
                      have hPD : PD D A [(Ma, .inl (g 0, 3, .inl fma)), (Mm, .inr (7, [.int zth, .ref Mt, .int (nI tp), .int zma, .int zwr, .ref Mrr, .ref Mrh, .ref Mrc, .int zrh, .int zrc, .ref Mn, .ref Mf, .ref Mr, .ref Mh, .int (nI 2), .int (nI cc), .ref Ma, .ref Mas, .ref Msn, .ref Mac, .ref Mat])), (Mn, .inl (g 0, 1767, .inl fnox_222)), (Mh, .inl (g 0, 9, .inl fmh)), (Mr, .inl (g 0, 3, .inl fmr))] H := ⟨hP2, hD2⟩
                      have hS := hS2; clear hP2 hD2 hS2; have hP := hPD.1; have hD := hPD.2; clear hPD
                      refine W.widen (k := 0) (n := 0) (Nat.le_of_ble_eq_true rfl) (Nat.le_of_ble_eq_true rfl) ?_
                      refine lv_iinc (v := (-1)) (lv' := [(1, .int (-1)), (0, .ref Mm)]) hx hb dX7_ticks_84 hl (k := 0) rfl (by decide) (by decide) rfl (fun ls hl => ?_)
                      refine lv_goto (tgt := 70) hx hb dX7_ticks_87 (by decide) ?_
                      refine lv_iload_n hx hb dX7_ticks_70 rfl (lv_at hl 0 rfl) ?_
                      refine lv_if_lt (tgt := 90) hx hb dX7_ticks_71 (by decide) (fun _ => ?_) (fun cb => absurd (by decide) cb)
                      exact join_118 fnox_222 (hf_223) _ _ _ (hP.sub [1, 2, 3, 4, 0] rfl) (hD.sub [1, 2, 3, 4, 0] (by decide) rfl) hS (lv_sub hl [1] rfl)
                    · skip
                      have hP := hPq_205; have hD := hDq_205; have hS := hSq_205; have hl := hlq_205; clear hPq_205 hDq_205 hSq_205 hlq_205
                      refine lv_aload_n hx hb dX7_ticks_63 rfl (lv_at hl 1 rfl) ?_
                      refine va_get (D := D) (ci := 7) (v := .int (nI 3)) (C := RX7) (T := TX7) (N := 21) hx hb hts iX7 hown hK hP 0 rfl rfl 14 (by decide) f124 (fun _ h9 => h9) rfl dX7_ticks_64 ?_
                      refine lv_iconst (v := 1) hx hb dX7_ticks_67 (by decide) ?_
                      refine lv_isub hx hb dX7_ticks_68 ?_
                      refine lv_eqi (y := 2) (by decide) ?_
                      refine lv_istore_n (lv' := [(1, .int 2), (0, .ref Mm)]) hx hb dX7_ticks_69 rfl hl (by decide) rfl (fun ls hl => ?_)
                      refine lv_iload_n hx hb dX7_ticks_70 rfl (lv_at hl 0 rfl) ?_
                      refine lv_if_lt (tgt := 90) hx hb dX7_ticks_71 (by decide) (fun cb => absurd cb (by decide)) (fun _ => ?_)
                      refine lv_aload_n hx hb dX7_ticks_74 rfl (lv_at hl 1 rfl) ?_
                      refine lv_iload_n hx hb dX7_ticks_75 rfl (lv_at hl 0 rfl) ?_
                      refine ky_Vv (As := [.int 2]) (rest := []) ⟨hx, hb, hml, hown, hts⟩ ⟨hK, hN⟩ hZ hP hD hS hA [0, 1, 2] [3, 4] (wc := [(Mm, .inr (7, [.int zth, .ref Mt, .int (nI tp), .int zma, .int zwr, .ref Mrr, .ref Mrh, .ref Mrc, .int zrh, .int zrc, .ref Mn, .ref Mf, .ref Mr, .ref Mh, .int (nI 3), .int (nI cc), .ref Ma, .ref Mas, .ref Msn, .ref Mac, .ref Mat])), (Mn, .inl (g 0, 1767, .inl F_33)), (Mh, .inl (g 0, 9, .inl fmh))]) (wr := [(Mr, .inl (g 0, 3, .inl fmr)), (Ma, .inl (g 0, 3, .inl fma))]) rfl rfl rfl rfl (by decide) (k_X7_sends l D g H.size Mm 2 zth Mt tp zma zwr Mrr Mrh Mrc zrh zrc Mn Mf Mr Mh 3 cc Ma Mas Msn Mac Mat F_33 fmh tb (ub + i_18 + i_32) (show tb < 2 ^ 29 by omega) (show ub + i_18 + i_32 < 2 ^ 29 by omega) (hF_33) (show 1 ≤ cc by omega) (show cc ≤ 3 by omega) (show 2 < 3 by omega) (h7)) (cwV 1 hts gX7_ticks_X7_sends rfl rfl rfl (by decide +kernel) ⟨(Nat.le_of_ble_eq_true rfl), (Nat.le_of_ble_eq_true rfl)⟩) 0 7 rfl rfl rfl rfl hl.1 rfl (Nat.le_of_ble_eq_true rfl) dX7_ticks_76 ⟨(Nat.le_of_ble_eq_true rfl), (Nat.le_of_ble_eq_true rfl)⟩ (fun u H locs hw hP2 hD2 hS2 => ?_)
                      clear hP hD hS
                      obtain ⟨fnox_225, rfl, hf_226⟩ := hw
                      have hPD : PD D A [(Mr, .inl (g 0, 3, .inl fmr)), (Ma, .inl (g 0, 3, .inl fma)), (Mm, .inr (7, [.int zth, .ref Mt, .int (nI tp), .int zma, .int zwr, .ref Mrr, .ref Mrh, .ref Mrc, .int zrh, .int zrc, .ref Mn, .ref Mf, .ref Mr, .ref Mh, .int (nI 3), .int (nI cc), .ref Ma, .ref Mas, .ref Msn, .ref Mac, .ref Mat])), (Mn, .inl (g 0, 1767, .inl fnox_225)), (Mh, .inl (g 0, 9, .inl fmh))] H := ⟨hP2, hD2⟩
                      have hS := hS2; clear hP2 hD2 hS2; have hP := hPD.1; have hD := hPD.2; clear hPD
                      refine W.widen (k := 0) (n := 0) (Nat.le_of_ble_eq_true rfl) (Nat.le_of_ble_eq_true rfl) ?_
                      refine lv_aload_n hx hb dX7_ticks_79 rfl (lv_at hl 1 rfl) ?_
                      refine lv_iload_n hx hb dX7_ticks_80 rfl (lv_at hl 0 rfl) ?_
                      refine ky_Vv (As := [.int 2]) (rest := []) ⟨hx, hb, hml, hown, hts⟩ ⟨hK, hN⟩ hZ hP hD hS hA [2, 3, 4, 0] [1] (wc := [(Mm, .inr (7, [.int zth, .ref Mt, .int (nI tp), .int zma, .int zwr, .ref Mrr, .ref Mrh, .ref Mrc, .int zrh, .int zrc, .ref Mn, .ref Mf, .ref Mr, .ref Mh, .int (nI 3), .int (nI cc), .ref Ma, .ref Mas, .ref Msn, .ref Mac, .ref Mat])), (Mn, .inl (g 0, 1767, .inl fnox_225)), (Mh, .inl (g 0, 9, .inl fmh)), (Mr, .inl (g 0, 3, .inl fmr))]) (wr := [(Ma, .inl (g 0, 3, .inl fma))]) rfl rfl rfl rfl (by decide) (k_X7_waits l D g H.size Mm 2 zth Mt tp zma zwr Mrr Mrh Mrc zrh zrc Mn Mf Mr Mh 3 cc Ma Mas Msn Mac Mat fnox_225 fmh fmr tb (ub + i_18 + i_32) (show tb < 2 ^ 29 by omega) (show ub + i_18 + i_32 < 2 ^ 29 by omega) (hf_226) (show 1 ≤ cc by omega) (show cc ≤ 3 by omega) (show 2 < 3 by omega) (h7)) (cwV 1 hts gX7_ticks_X7_waits rfl rfl rfl (by decide +kernel) ⟨(Nat.le_of_ble_eq_true rfl), (Nat.le_of_ble_eq_true rfl)⟩) 2 7 rfl rfl rfl rfl hl.1 rfl (Nat.le_of_ble_eq_true rfl) dX7_ticks_81 ⟨(Nat.le_of_ble_eq_true rfl), (Nat.le_of_ble_eq_true rfl)⟩ (fun u H locs hw hP2 hD2 hS2 => ?_)
                      clear hP hD hS
                      obtain ⟨fnox_228, rfl, hf_229⟩ := hw
                      have hPD : PD D A [(Ma, .inl (g 0, 3, .inl fma)), (Mm, .inr (7, [.int zth, .ref Mt, .int (nI tp), .int zma, .int zwr, .ref Mrr, .ref Mrh, .ref Mrc, .int zrh, .int zrc, .ref Mn, .ref Mf, .ref Mr, .ref Mh, .int (nI 3), .int (nI cc), .ref Ma, .ref Mas, .ref Msn, .ref Mac, .ref Mat])), (Mn, .inl (g 0, 1767, .inl fnox_228)), (Mh, .inl (g 0, 9, .inl fmh)), (Mr, .inl (g 0, 3, .inl fmr))] H := ⟨hP2, hD2⟩
                      have hS := hS2; clear hP2 hD2 hS2; have hP := hPD.1; have hD := hPD.2; clear hPD
                      refine W.widen (k := 0) (n := 0) (Nat.le_of_ble_eq_true rfl) (Nat.le_of_ble_eq_true rfl) ?_
                      refine lv_iinc (v := 1) (lv' := [(1, .int 1), (0, .ref Mm)]) hx hb dX7_ticks_84 hl (k := 0) rfl (by decide) (by decide) rfl (fun ls hl => ?_)
                      refine lv_goto (tgt := 70) hx hb dX7_ticks_87 (by decide) ?_
                      refine lv_iload_n hx hb dX7_ticks_70 rfl (lv_at hl 0 rfl) ?_
                      refine lv_if_lt (tgt := 90) hx hb dX7_ticks_71 (by decide) (fun cb => absurd cb (by decide)) (fun _ => ?_)
                      refine lv_aload_n hx hb dX7_ticks_74 rfl (lv_at hl 1 rfl) ?_
                      refine lv_iload_n hx hb dX7_ticks_75 rfl (lv_at hl 0 rfl) ?_
                      refine ky_Vv (As := [.int 1]) (rest := []) ⟨hx, hb, hml, hown, hts⟩ ⟨hK, hN⟩ hZ hP hD hS hA [1, 2, 3] [0, 4] (wc := [(Mm, .inr (7, [.int zth, .ref Mt, .int (nI tp), .int zma, .int zwr, .ref Mrr, .ref Mrh, .ref Mrc, .int zrh, .int zrc, .ref Mn, .ref Mf, .ref Mr, .ref Mh, .int (nI 3), .int (nI cc), .ref Ma, .ref Mas, .ref Msn, .ref Mac, .ref Mat])), (Mn, .inl (g 0, 1767, .inl fnox_228)), (Mh, .inl (g 0, 9, .inl fmh))]) (wr := [(Ma, .inl (g 0, 3, .inl fma)), (Mr, .inl (g 0, 3, .inl fmr))]) rfl rfl rfl rfl (by decide) (k_X7_sends l D g H.size Mm 1 zth Mt tp zma zwr Mrr Mrh Mrc zrh zrc Mn Mf Mr Mh 3 cc Ma Mas Msn Mac Mat fnox_228 fmh tb (ub + i_18 + i_32) (show tb < 2 ^ 29 by omega) (show ub + i_18 + i_32 < 2 ^ 29 by omega) (hf_229) (show 1 ≤ cc by omega) (show cc ≤ 3 by omega) (show 1 < 3 by omega) (h7)) (cwV 1 hts gX7_ticks_X7_sends rfl rfl rfl (by decide +kernel) ⟨(Nat.le_of_ble_eq_true rfl), (Nat.le_of_ble_eq_true rfl)⟩) 1 7 rfl rfl rfl rfl hl.1 rfl (Nat.le_of_ble_eq_true rfl) dX7_ticks_76 ⟨(Nat.le_of_ble_eq_true rfl), (Nat.le_of_ble_eq_true rfl)⟩ (fun u H locs hw hP2 hD2 hS2 => ?_)
                      clear hP hD hS
                      obtain ⟨fnox_231, rfl, hf_232⟩ := hw
                      have hPD : PD D A [(Ma, .inl (g 0, 3, .inl fma)), (Mr, .inl (g 0, 3, .inl fmr)), (Mm, .inr (7, [.int zth, .ref Mt, .int (nI tp), .int zma, .int zwr, .ref Mrr, .ref Mrh, .ref Mrc, .int zrh, .int zrc, .ref Mn, .ref Mf, .ref Mr, .ref Mh, .int (nI 3), .int (nI cc), .ref Ma, .ref Mas, .ref Msn, .ref Mac, .ref Mat])), (Mn, .inl (g 0, 1767, .inl fnox_231)), (Mh, .inl (g 0, 9, .inl fmh))] H := ⟨hP2, hD2⟩
                      have hS := hS2; clear hP2 hD2 hS2; have hP := hPD.1; have hD := hPD.2; clear hPD
                      refine W.widen (k := 0) (n := 0) (Nat.le_of_ble_eq_true rfl) (Nat.le_of_ble_eq_true rfl) ?_
                      refine lv_aload_n hx hb dX7_ticks_79 rfl (lv_at hl 1 rfl) ?_
                      refine lv_iload_n hx hb dX7_ticks_80 rfl (lv_at hl 0 rfl) ?_
                      refine ky_Vv (As := [.int 1]) (rest := []) ⟨hx, hb, hml, hown, hts⟩ ⟨hK, hN⟩ hZ hP hD hS hA [2, 3, 4, 1] [0] (wc := [(Mm, .inr (7, [.int zth, .ref Mt, .int (nI tp), .int zma, .int zwr, .ref Mrr, .ref Mrh, .ref Mrc, .int zrh, .int zrc, .ref Mn, .ref Mf, .ref Mr, .ref Mh, .int (nI 3), .int (nI cc), .ref Ma, .ref Mas, .ref Msn, .ref Mac, .ref Mat])), (Mn, .inl (g 0, 1767, .inl fnox_231)), (Mh, .inl (g 0, 9, .inl fmh)), (Mr, .inl (g 0, 3, .inl fmr))]) (wr := [(Ma, .inl (g 0, 3, .inl fma))]) rfl rfl rfl rfl (by decide) (k_X7_waits l D g H.size Mm 1 zth Mt tp zma zwr Mrr Mrh Mrc zrh zrc Mn Mf Mr Mh 3 cc Ma Mas Msn Mac Mat fnox_231 fmh fmr tb (ub + i_18 + i_32) (show tb < 2 ^ 29 by omega) (show ub + i_18 + i_32 < 2 ^ 29 by omega) (hf_232) (show 1 ≤ cc by omega) (show cc ≤ 3 by omega) (show 1 < 3 by omega) (h7)) (cwV 1 hts gX7_ticks_X7_waits rfl rfl rfl (by decide +kernel) ⟨(Nat.le_of_ble_eq_true rfl), (Nat.le_of_ble_eq_true rfl)⟩) 2 7 rfl rfl rfl rfl hl.1 rfl (Nat.le_of_ble_eq_true rfl) dX7_ticks_81 ⟨(Nat.le_of_ble_eq_true rfl), (Nat.le_of_ble_eq_true rfl)⟩ (fun u H locs hw hP2 hD2 hS2 => ?_)
                      clear hP hD hS
                      obtain ⟨fnox_234, rfl, hf_235⟩ := hw
                      have hPD : PD D A [(Ma, .inl (g 0, 3, .inl fma)), (Mm, .inr (7, [.int zth, .ref Mt, .int (nI tp), .int zma, .int zwr, .ref Mrr, .ref Mrh, .ref Mrc, .int zrh, .int zrc, .ref Mn, .ref Mf, .ref Mr, .ref Mh, .int (nI 3), .int (nI cc), .ref Ma, .ref Mas, .ref Msn, .ref Mac, .ref Mat])), (Mn, .inl (g 0, 1767, .inl fnox_234)), (Mh, .inl (g 0, 9, .inl fmh)), (Mr, .inl (g 0, 3, .inl fmr))] H := ⟨hP2, hD2⟩
                      have hS := hS2; clear hP2 hD2 hS2; have hP := hPD.1; have hD := hPD.2; clear hPD
                      refine W.widen (k := 0) (n := 0) (Nat.le_of_ble_eq_true rfl) (Nat.le_of_ble_eq_true rfl) ?_
                      refine lv_iinc (v := 0) (lv' := [(1, .int 0), (0, .ref Mm)]) hx hb dX7_ticks_84 hl (k := 0) rfl (by decide) (by decide) rfl (fun ls hl => ?_)
                      refine lv_goto (tgt := 70) hx hb dX7_ticks_87 (by decide) ?_
                      refine lv_iload_n hx hb dX7_ticks_70 rfl (lv_at hl 0 rfl) ?_
                      refine lv_if_lt (tgt := 90) hx hb dX7_ticks_71 (by decide) (fun cb => absurd cb (by decide)) (fun _ => ?_)
                      refine lv_aload_n hx hb dX7_ticks_74 rfl (lv_at hl 1 rfl) ?_
                      refine lv_iload_n hx hb dX7_ticks_75 rfl (lv_at hl 0 rfl) ?_
                      refine ky_Vv (As := [.int 0]) (rest := []) ⟨hx, hb, hml, hown, hts⟩ ⟨hK, hN⟩ hZ hP hD hS hA [1, 2, 3] [0, 4] (wc := [(Mm, .inr (7, [.int zth, .ref Mt, .int (nI tp), .int zma, .int zwr, .ref Mrr, .ref Mrh, .ref Mrc, .int zrh, .int zrc, .ref Mn, .ref Mf, .ref Mr, .ref Mh, .int (nI 3), .int (nI cc), .ref Ma, .ref Mas, .ref Msn, .ref Mac, .ref Mat])), (Mn, .inl (g 0, 1767, .inl fnox_234)), (Mh, .inl (g 0, 9, .inl fmh))]) (wr := [(Ma, .inl (g 0, 3, .inl fma)), (Mr, .inl (g 0, 3, .inl fmr))]) rfl rfl rfl rfl (by decide) (k_X7_sends l D g H.size Mm 0 zth Mt tp zma zwr Mrr Mrh Mrc zrh zrc Mn Mf Mr Mh 3 cc Ma Mas Msn Mac Mat fnox_234 fmh tb (ub + i_18 + i_32) (show tb < 2 ^ 29 by omega) (show ub + i_18 + i_32 < 2 ^ 29 by omega) (hf_235) (show 1 ≤ cc by omega) (show cc ≤ 3 by omega) (show 0 < 3 by omega) (h7)) (cwV 1 hts gX7_ticks_X7_sends rfl rfl rfl (by decide +kernel) ⟨(Nat.le_of_ble_eq_true rfl), (Nat.le_of_ble_eq_true rfl)⟩) 1 7 rfl rfl rfl rfl hl.1 rfl (Nat.le_of_ble_eq_true rfl) dX7_ticks_76 ⟨(Nat.le_of_ble_eq_true rfl), (Nat.le_of_ble_eq_true rfl)⟩ (fun u H locs hw hP2 hD2 hS2 => ?_)
                      clear hP hD hS
                      obtain ⟨fnox_237, rfl, hf_238⟩ := hw
                      have hPD : PD D A [(Ma, .inl (g 0, 3, .inl fma)), (Mr, .inl (g 0, 3, .inl fmr)), (Mm, .inr (7, [.int zth, .ref Mt, .int (nI tp), .int zma, .int zwr, .ref Mrr, .ref Mrh, .ref Mrc, .int zrh, .int zrc, .ref Mn, .ref Mf, .ref Mr, .ref Mh, .int (nI 3), .int (nI cc), .ref Ma, .ref Mas, .ref Msn, .ref Mac, .ref Mat])), (Mn, .inl (g 0, 1767, .inl fnox_237)), (Mh, .inl (g 0, 9, .inl fmh))] H := ⟨hP2, hD2⟩
                      have hS := hS2; clear hP2 hD2 hS2; have hP := hPD.1; have hD := hPD.2; clear hPD
                      refine W.widen (k := 0) (n := 0) (Nat.le_of_ble_eq_true rfl) (Nat.le_of_ble_eq_true rfl) ?_
                      refine lv_aload_n hx hb dX7_ticks_79 rfl (lv_at hl 1 rfl) ?_
                      refine lv_iload_n hx hb dX7_ticks_80 rfl (lv_at hl 0 rfl) ?_
                      refine ky_Vv (As := [.int 0]) (rest := []) ⟨hx, hb, hml, hown, hts⟩ ⟨hK, hN⟩ hZ hP hD hS hA [2, 3, 4, 1] [0] (wc := [(Mm, .inr (7, [.int zth, .ref Mt, .int (nI tp), .int zma, .int zwr, .ref Mrr, .ref Mrh, .ref Mrc, .int zrh, .int zrc, .ref Mn, .ref Mf, .ref Mr, .ref Mh, .int (nI 3), .int (nI cc), .ref Ma, .ref Mas, .ref Msn, .ref Mac, .ref Mat])), (Mn, .inl (g 0, 1767, .inl fnox_237)), (Mh, .inl (g 0, 9, .inl fmh)), (Mr, .inl (g 0, 3, .inl fmr))]) (wr := [(Ma, .inl (g 0, 3, .inl fma))]) rfl rfl rfl rfl (by decide) (k_X7_waits l D g H.size Mm 0 zth Mt tp zma zwr Mrr Mrh Mrc zrh zrc Mn Mf Mr Mh 3 cc Ma Mas Msn Mac Mat fnox_237 fmh fmr tb (ub + i_18 + i_32) (show tb < 2 ^ 29 by omega) (show ub + i_18 + i_32 < 2 ^ 29 by omega) (hf_238) (show 1 ≤ cc by omega) (show cc ≤ 3 by omega) (show 0 < 3 by omega) (h7)) (cwV 1 hts gX7_ticks_X7_waits rfl rfl rfl (by decide +kernel) ⟨(Nat.le_of_ble_eq_true rfl), (Nat.le_of_ble_eq_true rfl)⟩) 2 7 rfl rfl rfl rfl hl.1 rfl (Nat.le_of_ble_eq_true rfl) dX7_ticks_81 ⟨(Nat.le_of_ble_eq_true rfl), (Nat.le_of_ble_eq_true rfl)⟩ (fun u H locs hw hP2 hD2 hS2 => ?_)
                      clear hP hD hS
                      obtain ⟨fnox_240, rfl, hf_241⟩ := hw
                      have hPD : PD D A [(Ma, .inl (g 0, 3, .inl fma)), (Mm, .inr (7, [.int zth, .ref Mt, .int (nI tp), .int zma, .int zwr, .ref Mrr, .ref Mrh, .ref Mrc, .int zrh, .int zrc, .ref Mn, .ref Mf, .ref Mr, .ref Mh, .int (nI 3), .int (nI cc), .ref Ma, .ref Mas, .ref Msn, .ref Mac, .ref Mat])), (Mn, .inl (g 0, 1767, .inl fnox_240)), (Mh, .inl (g 0, 9, .inl fmh)), (Mr, .inl (g 0, 3, .inl fmr))] H := ⟨hP2, hD2⟩
                      have hS := hS2; clear hP2 hD2 hS2; have hP := hPD.1; have hD := hPD.2; clear hPD
                      refine W.widen (k := 0) (n := 0) (Nat.le_of_ble_eq_true rfl) (Nat.le_of_ble_eq_true rfl) ?_
                      refine lv_iinc (v := (-1)) (lv' := [(1, .int (-1)), (0, .ref Mm)]) hx hb dX7_ticks_84 hl (k := 0) rfl (by decide) (by decide) rfl (fun ls hl => ?_)
                      refine lv_goto (tgt := 70) hx hb dX7_ticks_87 (by decide) ?_
                      refine lv_iload_n hx hb dX7_ticks_70 rfl (lv_at hl 0 rfl) ?_
                      refine lv_if_lt (tgt := 90) hx hb dX7_ticks_71 (by decide) (fun _ => ?_) (fun cb => absurd (by decide) cb)
                      exact join_118 fnox_240 (hf_241) _ _ _ (hP.sub [1, 2, 3, 4, 0] rfl) (hD.sub [1, 2, 3, 4, 0] (by decide) rfl) hS (lv_sub hl [1] rfl)
                  · skip
                    have cn_242 : i_32 < cc := Nat.lt_of_not_le (fun q9 => cb_41 ((nI_leI (show cc < 2 ^ 31 by omega) (show i_32 < 2 ^ 31 by omega)).mpr q9))
                    refine lv_aload_n hx hb dX7_ticks_52 rfl (lv_at hl 1 rfl) ?_
                    refine lv_iload_n hx hb dX7_ticks_53 rfl (lv_at hl 0 rfl) ?_
                    refine ky_Vv (As := [.int (nI i_32)]) (rest := []) ⟨hx, hb, hml, hown, hts⟩ ⟨hK, hN⟩ hZ hP hD hS hA [0, 1, 2] [3, 4] (wc := [(Mm, .inr (7, [.int zth, .ref Mt, .int (nI tp), .int zma, .int zwr, .ref Mrr, .ref Mrh, .ref Mrc, .int zrh, .int zrc, .ref Mn, .ref Mf, .ref Mr, .ref Mh, .int (nI hp), .int (nI cc), .ref Ma, .ref Mas, .ref Msn, .ref Mac, .ref Mat])), (Mn, .inl (g 0, 1767, .inl F_33)), (Mh, .inl (g 0, 9, .inl fmh))]) (wr := [(Mr, .inl (g 0, 3, .inl fmr)), (Ma, .inl (g 0, 3, .inl fma))]) rfl rfl rfl rfl (by decide) (k_X7_isTaken l D g H.size Mm i_32 zth Mt tp zma zwr Mrr Mrh Mrc zrh zrc Mn Mf Mr Mh hp cc Ma Mas Msn Mac Mat F_33 fmh tb (ub + i_18 + i_32) (show tb < 2 ^ 29 by omega) (show ub + i_18 + i_32 + 8 < 2 ^ 29 by omega) (hF_33) (show 1 ≤ hp by omega) (show hp ≤ 3 by omega) (show i_32 < 3 by omega) (h7)) (cwV 1 hts gX7_ticks_X7_isTaken rfl rfl rfl (by decide +kernel) ⟨(Nat.le_of_ble_eq_true rfl), (Nat.le_of_ble_eq_true rfl)⟩) 0 7 rfl rfl rfl rfl hl.1 rfl (Nat.le_of_ble_eq_true rfl) dX7_ticks_54 ⟨(Nat.le_of_ble_eq_true rfl), (Nat.le_of_ble_eq_true rfl)⟩ (fun u H locs hw hP2 hD2 hS2 => ?_)
                    clear hP hD hS
                    obtain ⟨fnox_244, rfl, hf_245⟩ := hw
                    have hPD : PD D A [(Mr, .inl (g 0, 3, .inl fmr)), (Ma, .inl (g 0, 3, .inl fma)), (Mm, .inr (7, [.int zth, .ref Mt, .int (nI tp), .int zma, .int zwr, .ref Mrr, .ref Mrh, .ref Mrc, .int zrh, .int zrc, .ref Mn, .ref Mf, .ref Mr, .ref Mh, .int (nI hp), .int (nI cc), .ref Ma, .ref Mas, .ref Msn, .ref Mac, .ref Mat])), (Mn, .inl (g 0, 1767, .inl fnox_244)), (Mh, .inl (g 0, 9, .inl fmh))] H := ⟨hP2, hD2⟩
                    have hS := hS2; clear hP2 hD2 hS2; have hP := hPD.1; have hD := hPD.2; clear hPD
                    refine W.widen (k := 0) (n := 0) (Nat.le_of_ble_eq_true rfl) (Nat.le_of_ble_eq_true rfl) ?_
                    refine lv_iinc (v := (nI (i_32 + 1))) (lv' := [(1, .int (nI (i_32 + 1))), (0, .ref Mm)]) hx hb dX7_ticks_57 hl (k := 0) rfl (nI_1 (i_32)) (by decide) rfl (fun ls hl => ?_)
                    refine lv_goto (tgt := 44) hx hb dX7_ticks_60 (by decide) ?_
                    exact loop_40_ih (i_32 + 1) fnox_244 (mOK_le hf_245 (show tb = tb by omega) (show ub + i_18 + i_32 + 1 ≤ ub + i_18 + (i_32 + 1) by omega)) (show (i_32 + 1) ≤ cc by omega) (show cc - (i_32 + 1) < Nloop_40 by omega) _ _ _ (hP.sub [2, 3, 4, 0, 1] rfl) (hD.sub [2, 3, 4, 0, 1] (by decide) rfl) hS hl
              exact loop_40 _ 0 F_19 (mOK_le hF_19 (show tb = tb by omega) (show ub + i_18 ≤ ub + i_18 + 0 by omega)) (show 0 ≤ cc by omega) (Nat.lt_succ_self _) _ _ _ hP hD hS hl
            · skip
              have cn_246 : i_18 < cc := Nat.lt_of_not_le (fun q9 => cb_27 ((nI_leI (show cc < 2 ^ 31 by omega) (show i_18 < 2 ^ 31 by omega)).mpr q9))
              refine lv_aload_n hx hb dX7_ticks_31 rfl (lv_at hl 1 rfl) ?_
              refine lv_iload_n hx hb dX7_ticks_32 rfl (lv_at hl 0 rfl) ?_
              refine ky_Vv (As := [.int (nI i_18)]) (rest := []) ⟨hx, hb, hml, hown, hts⟩ ⟨hK, hN⟩ hZ hP hD hS hA [0, 1] [2, 3, 4] (wc := [(Mm, .inr (7, [.int zth, .ref Mt, .int (nI tp), .int zma, .int zwr, .ref Mrr, .ref Mrh, .ref Mrc, .int zrh, .int zrc, .ref Mn, .ref Mf, .ref Mr, .ref Mh, .int (nI hp), .int (nI cc), .ref Ma, .ref Mas, .ref Msn, .ref Mac, .ref Mat])), (Mn, .inl (g 0, 1767, .inl F_19))]) (wr := [(Mh, .inl (g 0, 9, .inl fmh)), (Mr, .inl (g 0, 3, .inl fmr)), (Ma, .inl (g 0, 3, .inl fma))]) rfl rfl rfl rfl (by decide) (k_X7_comes l D g H.size Mm i_18 zth Mt tp zma zwr Mrr Mrh Mrc zrh zrc Mn Mf Mr Mh hp cc Ma Mas Msn Mac Mat F_19 tb (ub + i_18) (show tb < 2 ^ 29 by omega) (show ub + i_18 < 2 ^ 29 by omega) (hF_19) (show i_18 < 3 by omega)) (cwV 1 hts gX7_ticks_X7_comes rfl rfl rfl (by decide +kernel) ⟨(Nat.le_of_ble_eq_true rfl), (Nat.le_of_ble_eq_true rfl)⟩) 0 7 rfl rfl rfl rfl hl.1 rfl (Nat.le_of_ble_eq_true rfl) dX7_ticks_33 ⟨(Nat.le_of_ble_eq_true rfl), (Nat.le_of_ble_eq_true rfl)⟩ (fun u H locs hw hP2 hD2 hS2 => ?_)
              clear hP hD hS
              obtain ⟨fnox_248, rfl, hf_249⟩ := hw
              have hPD : PD D A [(Mh, .inl (g 0, 9, .inl fmh)), (Mr, .inl (g 0, 3, .inl fmr)), (Ma, .inl (g 0, 3, .inl fma)), (Mm, .inr (7, [.int zth, .ref Mt, .int (nI tp), .int zma, .int zwr, .ref Mrr, .ref Mrh, .ref Mrc, .int zrh, .int zrc, .ref Mn, .ref Mf, .ref Mr, .ref Mh, .int (nI hp), .int (nI cc), .ref Ma, .ref Mas, .ref Msn, .ref Mac, .ref Mat])), (Mn, .inl (g 0, 1767, .inl fnox_248))] H := ⟨hP2, hD2⟩
              have hS := hS2; clear hP2 hD2 hS2; have hP := hPD.1; have hD := hPD.2; clear hPD
              refine W.widen (k := 0) (n := 0) (Nat.le_of_ble_eq_true rfl) (Nat.le_of_ble_eq_true rfl) ?_
              refine lv_iinc (v := (nI (i_18 + 1))) (lv' := [(1, .int (nI (i_18 + 1))), (0, .ref Mm)]) hx hb dX7_ticks_36 hl (k := 0) rfl (nI_1 (i_18)) (by decide) rfl (fun ls hl => ?_)
              refine lv_goto (tgt := 23) hx hb dX7_ticks_39 (by decide) ?_
              exact loop_26_ih (i_18 + 1) fnox_248 (mOK_le hf_249 (show tb = tb by omega) (show ub + i_18 + 1 ≤ ub + (i_18 + 1) by omega)) (show (i_18 + 1) ≤ cc by omega) (show cc - (i_18 + 1) < Nloop_26 by omega) _ _ _ (hP.sub [3, 4, 0, 1, 2] rfl) (hD.sub [3, 4, 0, 1, 2] (by decide) rfl) hS hl
        exact loop_26 _ 0 F_5 (mOK_le hF_5 (show tb = tb by omega) (show ub ≤ ub + 0 by omega)) (show 0 ≤ cc by omega) (Nat.lt_succ_self _) _ _ _ hP hD hS hl
      · skip
        have cn_250 : i_4 < hp := Nat.lt_of_not_le (fun q9 => cb_13 ((nI_leI (show hp < 2 ^ 31 by omega) (show i_4 < 2 ^ 31 by omega)).mpr q9))
        refine lv_aload_n hx hb dX7_ticks_10 rfl (lv_at hl 1 rfl) ?_
        refine lv_iload_n hx hb dX7_ticks_11 rfl (lv_at hl 0 rfl) ?_
        refine ky_Vv (As := [.int (nI i_4)]) (rest := []) ⟨hx, hb, hml, hown, hts⟩ ⟨hK, hN⟩ hZ hP hD hS hA [0, 1, 2] [3, 4] (wc := [(Mm, .inr (7, [.int zth, .ref Mt, .int (nI tp), .int zma, .int zwr, .ref Mrr, .ref Mrh, .ref Mrc, .int zrh, .int zrc, .ref Mn, .ref Mf, .ref Mr, .ref Mh, .int (nI hp), .int (nI cc), .ref Ma, .ref Mas, .ref Msn, .ref Mac, .ref Mat])), (Mn, .inl (g 0, 1767, .inl F_5)), (Mh, .inl (g 0, 9, .inl fmh))]) (wr := [(Mr, .inl (g 0, 3, .inl fmr)), (Ma, .inl (g 0, 3, .inl fma))]) rfl rfl rfl rfl (by decide) (k_X7_arrives l D g H.size Mm i_4 zth Mt tp zma zwr Mrr Mrh Mrc zrh zrc Mn Mf Mr Mh hp cc Ma Mas Msn Mac Mat F_5 fmh tb ub (show tb < 2 ^ 29 by omega) (show ub < 2 ^ 29 by omega) (hF_5) (show 1 ≤ cc by omega) (show cc ≤ 3 by omega) (show i_4 < 3 by omega) (h7)) (cwV 1 hts gX7_ticks_X7_arrives rfl rfl rfl (by decide +kernel) ⟨(Nat.le_of_ble_eq_true rfl), (Nat.le_of_ble_eq_true rfl)⟩) 0 7 rfl rfl rfl rfl hl.1 rfl (Nat.le_of_ble_eq_true rfl) dX7_ticks_12 ⟨(Nat.le_of_ble_eq_true rfl), (Nat.le_of_ble_eq_true rfl)⟩ (fun u H locs hw hP2 hD2 hS2 => ?_)
        clear hP hD hS
        obtain ⟨fnox_252, rfl, hf_253⟩ := hw
        have hPD : PD D A [(Mr, .inl (g 0, 3, .inl fmr)), (Ma, .inl (g 0, 3, .inl fma)), (Mm, .inr (7, [.int zth, .ref Mt, .int (nI tp), .int zma, .int zwr, .ref Mrr, .ref Mrh, .ref Mrc, .int zrh, .int zrc, .ref Mn, .ref Mf, .ref Mr, .ref Mh, .int (nI hp), .int (nI cc), .ref Ma, .ref Mas, .ref Msn, .ref Mac, .ref Mat])), (Mn, .inl (g 0, 1767, .inl fnox_252)), (Mh, .inl (g 0, 9, .inl fmh))] H := ⟨hP2, hD2⟩
        have hS := hS2; clear hP2 hD2 hS2; have hP := hPD.1; have hD := hPD.2; clear hPD
        refine W.widen (k := 0) (n := 0) (Nat.le_of_ble_eq_true rfl) (Nat.le_of_ble_eq_true rfl) ?_
        refine lv_iinc (v := (nI (i_4 + 1))) (lv' := [(1, .int (nI (i_4 + 1))), (0, .ref Mm)]) hx hb dX7_ticks_15 hl (k := 0) rfl (nI_1 (i_4)) (by decide) rfl (fun ls hl => ?_)
        refine lv_goto (tgt := 2) hx hb dX7_ticks_18 (by decide) ?_
        exact loop_12_ih (i_4 + 1) fnox_252 (hf_253) (show (i_4 + 1) ≤ hp by omega) (show hp - (i_4 + 1) < Nloop_12 by omega) _ _ _ (hP.sub [2, 3, 4, 0, 1] rfl) (hD.sub [2, 3, 4, 0, 1] (by decide) rfl) hS hl
  exact loop_12 _ 0 fno (h2) (show 0 ≤ hp by omega) (Nat.lt_succ_self _) _ _ _ hP hD hS hl

set_option maxHeartbeats 4000000 in
set_option maxRecDepth 100000 in
theorem k_X7_ticksStill (l : Launch) (D : va_G) (g : Nat → ClassId) (sz : Nat) {gs : Nat → Int32} (Mm : Nat) (zth : Int32) (Mt : Nat) (tp : Nat) (zma : Int32) (zwr : Int32) (Mrr : Nat) (Mrh : Nat) (Mrc : Nat) (zrh : Int32) (zrc : Int32) (Mn : Nat) (Mf : Nat) (Mr : Nat) (Mh : Nat) (hp : Nat) (cc : Nat) (Ma : Nat) (Mas : Nat) (Msn : Nat) (Mac : Nat) (Mat : Nat) (fno : Nat → Int32) (fmh : Nat → Int32) (fmr : Nat → Int32) (tb : Nat) (ub : Nat) (h0 : tb < 2 ^ 28) (h1 : ub < 2 ^ 28) (h2 : mOK gs tb ub fno) (h3 : 1 ≤ hp) (h4 : hp ≤ 3) (h5 : 1 ≤ cc) (h6 : cc ≤ 3) (h7 : n3 fmh) : Met l yX7_ticksStill wsX7_ticksStill ({ frames := 5, cells := 0, slots := 0, locals := 110 }) (va_Pc [.ref Mm] (pre D g sz [(Mm, .inr (7, [.int zth, .ref Mt, .int (nI tp), .int zma, .int zwr, .ref Mrr, .ref Mrh, .ref Mrc, .int zrh, .int zrc, .ref Mn, .ref Mf, .ref Mr, .ref Mh, .int (nI hp), .int (nI cc), .ref Ma, .ref Mas, .ref Msn, .ref Mac, .ref Mat])), (Mn, .inl (g 0, 1767, .inl fno)), (Mh, .inl (g 0, 9, .inl fmh)), (Mr, .inl (g 0, 3, .inl fmr))])) (va_Qv (fun (u : va_W) => ∃ (fnox : Nat → Int32), u = [(Mm, .inr (7, [.int zth, .ref Mt, .int (nI tp), .int zma, .int zwr, .ref Mrr, .ref Mrh, .ref Mrc, .int zrh, .int zrc, .ref Mn, .ref Mf, .ref Mr, .ref Mh, .int (nI hp), .int (nI cc), .ref Ma, .ref Mas, .ref Msn, .ref Mac, .ref Mat])), (Mn, .inl (g 0, 1767, .inl fnox)), (Mh, .inl (g 0, 9, .inl fmh)), (Mr, .inl (g 0, 3, .inl fmr))] ∧ (mOK gs (tb + 1) ub fnox)) (wd D (va_A [(Mm, .inr (7, [.int zth, .ref Mt, .int (nI tp), .int zma, .int zwr, .ref Mrr, .ref Mrh, .ref Mrc, .int zrh, .int zrc, .ref Mn, .ref Mf, .ref Mr, .ref Mh, .int (nI hp), .int (nI cc), .ref Ma, .ref Mas, .ref Msn, .ref Mac, .ref Mat])), (Mn, .inl (g 0, 1767, .inl fno)), (Mh, .inl (g 0, 9, .inl fmh)), (Mr, .inl (g 0, 3, .inl fmr))] sz)) (va_A [(Mm, .inr (7, [.int zth, .ref Mt, .int (nI tp), .int zma, .int zwr, .ref Mrr, .ref Mrh, .ref Mrc, .int zrh, .int zrc, .ref Mn, .ref Mf, .ref Mr, .ref Mh, .int (nI hp), .int (nI cc), .ref Ma, .ref Mas, .ref Msn, .ref Mac, .ref Mat])), (Mn, .inl (g 0, 1767, .inl fno)), (Mh, .inl (g 0, 9, .inl fmh)), (Mr, .inl (g 0, 3, .inl fmr))] sz)) 0 0 (va_A [(Mm, .inr (7, [.int zth, .ref Mt, .int (nI tp), .int zma, .int zwr, .ref Mrr, .ref Mrh, .ref Mrc, .int zrh, .int zrc, .ref Mn, .ref Mf, .ref Mr, .ref Mh, .int (nI hp), .int (nI cc), .ref Ma, .ref Mas, .ref Msn, .ref Mac, .ref Mat])), (Mn, .inl (g 0, 1767, .inl fno)), (Mh, .inl (g 0, 9, .inl fmh)), (Mr, .inl (g 0, 3, .inl fmr))] sz) := by
  refine Met.ofW (cc := cX7_ticksStill) (maxL := 2) (ret := none) (by decide) rfl ?_
  intro p e s m args below meth c s₁ B hml hv
  obtain ⟨rfl, hsz, hP, ⟨hK, hN⟩, hD0, hZ⟩ := hv
  have hx := B.exec
  have hb := B.bytes
  have hr := B.returns
  have hts := atoms_spec (ws := wsX7_ticksStill) B.pre
  have hown : s.vm.findClass RX7 = some m.cls := findClass_of_methodNamed B.named
  have hlocks := B.notSynchronized
  clear B
  subst hsz
  have hD := hD0.self (sz := s.heap.size)
  clear hD0
  generalize hAe : va_A [(Mm, .inr (7, [.int zth, .ref Mt, .int (nI tp), .int zma, .int zwr, .ref Mrr, .ref Mrh, .ref Mrc, .int zrh, .int zrc, .ref Mn, .ref Mf, .ref Mr, .ref Mh, .int (nI hp), .int (nI cc), .ref Ma, .ref Mas, .ref Msn, .ref Mac, .ref Mat])), (Mn, .inl (g 0, 1767, .inl fno)), (Mh, .inl (g 0, 9, .inl fmh)), (Mr, .inl (g 0, 3, .inl fmr))] s.heap.size = A at hD hZ ⊢
  have hA : ∀ q : Nat, s.heap.size ≤ q → A q := fun q h => by rw [← hAe]; exact Or.inr h
  have hS : va_S A s.heap s.heap [] := va_S.rf
  have f124 := hts (.fieldLink RX7 124 "HopCreditsModel" "hops" "I") (List.mem_of_getElem? (i := 1) rfl)
  have f22 := hts (.fieldLink RX7 22 "HopCreditsModel" "now" "[I") (List.mem_of_getElem? (i := 2) rfl)
  have iX7 : ∀ w ∈ u_ws RX7 TX7 21, w ∈ wsX7_ticksStill := fun w h => List.mem_cons_of_mem _ (List.mem_append_right _ (h))
  have hl := lv_entry ([.ref Mm]) (n := 2) (Nat.le_of_ble_eq_true rfl)
  rw [lg_entry_eq]
  generalize (lg_sl ([.ref Mm]) ++ List.replicate (2 - (lg_sl ([.ref Mm])).length) Slot.unset).toArray = ls at hl ⊢
  have hl : lv_has ls 2 [(0, .ref Mm)] := hl
  generalize hQ : MQ below _ _ s _ _ _ = Q
  generalize hH : s.heap = H at hP ⊢
  have hS : va_S A s.heap H [] := by rw [← hH]; exact hS
  clear hH
  refine lv_iconst (v := 0) hx hb dX7_ticksStill_0 (by decide) ?_
  refine lv_istore_n (lv' := [(1, .int 0), (0, .ref Mm)]) hx hb dX7_ticksStill_1 rfl hl (by decide) rfl (fun ls hl => ?_)
  have loop_12 : ∀ (Nloop_12 : Nat) (i_4 : Nat) (F_5 : Nat → Int32) (hF_5 : mOK gs tb ub F_5) (hbi_4 : i_4 ≤ hp) (hmloop_12 : hp - i_4 < Nloop_12) (H : Heap) (locs : List Loc) (ls : Array Slot), va_P D vwCl [(Mm, .inr (7, [.int zth, .ref Mt, .int (nI tp), .int zma, .int zwr, .ref Mrr, .ref Mrh, .ref Mrc, .int zrh, .int zrc, .ref Mn, .ref Mf, .ref Mr, .ref Mh, .int (nI hp), .int (nI cc), .ref Ma, .ref Mas, .ref Msn, .ref Mac, .ref Mat])), (Mn, .inl (g 0, 1767, .inl F_5)), (Mh, .inl (g 0, 9, .inl fmh)), (Mr, .inl (g 0, 3, .inl fmr))] H → va_D A [(Mm, .inr (7, [.int zth, .ref Mt, .int (nI tp), .int zma, .int zwr, .ref Mrr, .ref Mrh, .ref Mrc, .int zrh, .int zrc, .ref Mn, .ref Mf, .ref Mr, .ref Mh, .int (nI hp), .int (nI cc), .ref Ma, .ref Mas, .ref Msn, .ref Mac, .ref Mat])), (Mn, .inl (g 0, 1767, .inl F_5)), (Mh, .inl (g 0, 9, .inl fmh)), (Mr, .inl (g 0, 3, .inl fmr))] → va_S A s.heap H locs → lv_has ls 2 [(1, .int (nI i_4)), (0, .ref Mm)] → W p l e (headSpec wsX7_ticksStill ({ frames := 5, cells := 0, slots := 0, locals := 110 })).room s m ([.ref Mm] : List Value).toArray below meth c H locs 0 0 Q (F0 m 2 ls []) := by
    clear hP hD hS hl
    intro Nloop_12
    induction Nloop_12 with
    | zero => intro i_4 F_5 hF_5 hbi_4 hm9; exact absurd hm9 (Nat.not_lt_zero _)
    | succ Nloop_12 loop_12_ih =>
      intro i_4 F_5 hF_5 hbi_4 hmloop_12 H locs ls hP hD hS hl
      refine lv_iload_n hx hb dX7_ticksStill_2 rfl (lv_at hl 0 rfl) ?_
      refine lv_aload_n hx hb dX7_ticksStill_3 rfl (lv_at hl 1 rfl) ?_
      refine va_get (D := D) (ci := 7) (v := .int (nI hp)) (C := RX7) (T := TX7) (N := 21) hx hb hts iX7 hown hK hP 0 rfl rfl 14 (by decide) f124 (fun _ h9 => h9) rfl dX7_ticksStill_4 ?_
      refine lv_icmp_ge (tgt := 21) hx hb dX7_ticksStill_7 (by decide) (fun cb_13 => ?_) (fun cb_13 => ?_)
      · skip
        have cn_14 : hp ≤ i_4 := (nI_leI (show hp < 2 ^ 31 by omega) (show i_4 < 2 ^ 31 by omega)).mp cb_13
        have join_54 : ∀ (F_34 : Nat → Int32) (hF_34 : mOK gs tb ub F_34) (H : Heap) (locs : List Loc) (ls : Array Slot), va_P D vwCl [(Mm, .inr (7, [.int zth, .ref Mt, .int (nI tp), .int zma, .int zwr, .ref Mrr, .ref Mrh, .ref Mrc, .int zrh, .int zrc, .ref Mn, .ref Mf, .ref Mr, .ref Mh, .int (nI hp), .int (nI cc), .ref Ma, .ref Mas, .ref Msn, .ref Mac, .ref Mat])), (Mn, .inl (g 0, 1767, .inl F_34)), (Mh, .inl (g 0, 9, .inl fmh)), (Mr, .inl (g 0, 3, .inl fmr))] H → va_D A [(Mm, .inr (7, [.int zth, .ref Mt, .int (nI tp), .int zma, .int zwr, .ref Mrr, .ref Mrh, .ref Mrc, .int zrh, .int zrc, .ref Mn, .ref Mf, .ref Mr, .ref Mh, .int (nI hp), .int (nI cc), .ref Ma, .ref Mas, .ref Msn, .ref Mac, .ref Mat])), (Mn, .inl (g 0, 1767, .inl F_34)), (Mh, .inl (g 0, 9, .inl fmh)), (Mr, .inl (g 0, 3, .inl fmr))] → va_S A s.heap H locs → lv_has ls 2 [(0, .ref Mm)] → W p l e (headSpec wsX7_ticksStill ({ frames := 5, cells := 0, slots := 0, locals := 110 })).room s m ([.ref Mm] : List Value).toArray below meth c H locs 0 0 Q (F0 m 43 ls []) := by
          clear hP hD hS hl
          intro F_34 hF_34 H locs ls hP hD hS hl
          refine lv_aload_n hx hb dX7_ticksStill_43 rfl (lv_at hl 0 rfl) ?_
          refine va_get (D := D) (ci := 7) (v := .ref Mn) (C := RX7) (T := TX7) (N := 21) hx hb hts iX7 hown hK hP 0 rfl rfl 10 (by decide) f22 (fun _ h9 => h9) rfl dX7_ticksStill_44 ?_
          refine lv_sipush (v := 1764) hx hb dX7_ticksStill_47 (by decide) ?_
          refine lv_dup2_11 hx hb dX7_ticksStill_50 rfl rfl ?_
          refine va_iald hx hb hK hP 1 0 rfl rfl (by unfold vp_in; decide) dX7_ticksStill_51 ?_
          refine lv_eqi (y := (F_34 1764)) (rfl) ?_
          obtain ⟨t_55, ht_55, q9⟩ := mOK_t hF_34
          refine lv_eqi (y := nI t_55) q9 ?_
          refine lv_iconst (v := 1) hx hb dX7_ticksStill_52 (by decide) ?_
          refine lv_iadd hx hb dX7_ticksStill_53 ?_
          refine lv_eqi (y := (nI (t_55 + 1))) (nI_add (t_55) (1)) ?_
          refine va_iast hx hb hK hP hD hS 1 0 rfl rfl (by unfold vp_in; decide) dX7_ticksStill_54 (fun H locs hP2 hD2 hS2 => ?_)
          clear hP hD hS
          have hPD : PD D A [(Mm, .inr (7, [.int zth, .ref Mt, .int (nI tp), .int zma, .int zwr, .ref Mrr, .ref Mrh, .ref Mrc, .int zrh, .int zrc, .ref Mn, .ref Mf, .ref Mr, .ref Mh, .int (nI hp), .int (nI cc), .ref Ma, .ref Mas, .ref Msn, .ref Mac, .ref Mat])), (Mn, .inl (g 0, 1767, .inl (upd F_34 1764 (nI (t_55 + 1))))), (Mh, .inl (g 0, 9, .inl fmh)), (Mr, .inl (g 0, 3, .inl fmr))] H := ⟨hP2, hD2⟩
          have hS := hS2; clear hP2 hD2 hS2; have hP := hPD.1; have hD := hPD.2; clear hPD
          have hF_56 : mOK gs (tb + 1) ub (upd F_34 1764 (nI (t_55 + 1))) := mOK_tick hF_34 (n := t_55 + 1) (show t_55 + 1 = tb + 1 by omega)
          generalize upd F_34 1764 (nI (t_55 + 1)) = F_56 at hP hD hF_56
          have hP9 := hP; have hD9 := hD
          subst hQ
          refine W.widen (k := 0) (n := 0) (Nat.le_of_ble_eq_true rfl) (Nat.le_of_ble_eq_true rfl) ?_
          exact W.vret hx hb hr (fun tS htS _ => ⟨⟨_, rfl, ⟨F_56, rfl, (hF_56)⟩, by rw [htS]; exact hP9, hD9⟩, hS.F htS⟩) hS.2.2 dX7_ticksStill_55
        have hPq_57 := hP; have hDq_57 := hD; have hSq_57 := hS; have hlq_57 := hl; clear hP hD hS hl
        rcases (show hp = 1 ∨ hp = 2 ∨ hp = 3 by omega) with rfl | rfl | rfl
        · skip
          have hP := hPq_57; have hD := hDq_57; have hS := hSq_57; have hl := hlq_57; clear hPq_57 hDq_57 hSq_57 hlq_57
          refine lv_aload_n hx hb dX7_ticksStill_21 rfl (lv_at hl 1 rfl) ?_
          refine va_get (D := D) (ci := 7) (v := .int (nI 1)) (C := RX7) (T := TX7) (N := 21) hx hb hts iX7 hown hK hP 0 rfl rfl 14 (by decide) f124 (fun _ h9 => h9) rfl dX7_ticksStill_22 ?_
          refine lv_iconst (v := 1) hx hb dX7_ticksStill_25 (by decide) ?_
          refine lv_isub hx hb dX7_ticksStill_26 ?_
          refine lv_eqi (y := 0) (by decide) ?_
          refine lv_istore_n (lv' := [(1, .int 0), (0, .ref Mm)]) hx hb dX7_ticksStill_27 rfl hl (by decide) rfl (fun ls hl => ?_)
          refine lv_iload_n hx hb dX7_ticksStill_28 rfl (lv_at hl 0 rfl) ?_
          refine lv_if_lt (tgt := 43) hx hb dX7_ticksStill_29 (by decide) (fun cb => absurd cb (by decide)) (fun _ => ?_)
          refine lv_aload_n hx hb dX7_ticksStill_32 rfl (lv_at hl 1 rfl) ?_
          refine lv_iload_n hx hb dX7_ticksStill_33 rfl (lv_at hl 0 rfl) ?_
          refine ky_Vv (As := [.int 0]) (rest := []) ⟨hx, hb, hml, hown, hts⟩ ⟨hK, hN⟩ hZ hP hD hS hA [0, 1, 2, 3] [] (wc := [(Mm, .inr (7, [.int zth, .ref Mt, .int (nI tp), .int zma, .int zwr, .ref Mrr, .ref Mrh, .ref Mrc, .int zrh, .int zrc, .ref Mn, .ref Mf, .ref Mr, .ref Mh, .int (nI 1), .int (nI cc), .ref Ma, .ref Mas, .ref Msn, .ref Mac, .ref Mat])), (Mn, .inl (g 0, 1767, .inl F_5)), (Mh, .inl (g 0, 9, .inl fmh)), (Mr, .inl (g 0, 3, .inl fmr))]) (wr := []) rfl rfl rfl rfl (by decide) (k_X7_waits l D g H.size Mm 0 zth Mt tp zma zwr Mrr Mrh Mrc zrh zrc Mn Mf Mr Mh 1 cc Ma Mas Msn Mac Mat F_5 fmh fmr tb ub (show tb < 2 ^ 29 by omega) (show ub < 2 ^ 29 by omega) (hF_5) (show 1 ≤ cc by omega) (show cc ≤ 3 by omega) (show 0 < 3 by omega) (h7)) (cwV 1 hts gX7_ticksStill_X7_waits rfl rfl rfl (by decide +kernel) ⟨(Nat.le_of_ble_eq_true rfl), (Nat.le_of_ble_eq_true rfl)⟩) 0 7 rfl rfl rfl rfl hl.1 rfl (Nat.le_of_ble_eq_true rfl) dX7_ticksStill_34 ⟨(Nat.le_of_ble_eq_true rfl), (Nat.le_of_ble_eq_true rfl)⟩ (fun u H locs hw hP2 hD2 hS2 => ?_)
          clear hP hD hS
          obtain ⟨fnox_59, rfl, hf_60⟩ := hw
          have hPD : PD D A [(Mm, .inr (7, [.int zth, .ref Mt, .int (nI tp), .int zma, .int zwr, .ref Mrr, .ref Mrh, .ref Mrc, .int zrh, .int zrc, .ref Mn, .ref Mf, .ref Mr, .ref Mh, .int (nI 1), .int (nI cc), .ref Ma, .ref Mas, .ref Msn, .ref Mac, .ref Mat])), (Mn, .inl (g 0, 1767, .inl fnox_59)), (Mh, .inl (g 0, 9, .inl fmh)), (Mr, .inl (g 0, 3, .inl fmr))] H := ⟨hP2, hD2⟩
          have hS := hS2; clear hP2 hD2 hS2; have hP := hPD.1; have hD := hPD.2; clear hPD
          refine W.widen (k := 0) (n := 0) (Nat.le_of_ble_eq_true rfl) (Nat.le_of_ble_eq_true rfl) ?_
          refine lv_iinc (v := (-1)) (lv' := [(1, .int (-1)), (0, .ref Mm)]) hx hb dX7_ticksStill_37 hl (k := 0) rfl (by decide) (by decide) rfl (fun ls hl => ?_)
          refine lv_goto (tgt := 28) hx hb dX7_ticksStill_40 (by decide) ?_
          refine lv_iload_n hx hb dX7_ticksStill_28 rfl (lv_at hl 0 rfl) ?_
          refine lv_if_lt (tgt := 43) hx hb dX7_ticksStill_29 (by decide) (fun _ => ?_) (fun cb => absurd (by decide) cb)
          exact join_54 fnox_59 (hf_60) _ _ _ hP hD hS (lv_sub hl [1] rfl)
        · skip
          have hP := hPq_57; have hD := hDq_57; have hS := hSq_57; have hl := hlq_57; clear hPq_57 hDq_57 hSq_57 hlq_57
          refine lv_aload_n hx hb dX7_ticksStill_21 rfl (lv_at hl 1 rfl) ?_
          refine va_get (D := D) (ci := 7) (v := .int (nI 2)) (C := RX7) (T := TX7) (N := 21) hx hb hts iX7 hown hK hP 0 rfl rfl 14 (by decide) f124 (fun _ h9 => h9) rfl dX7_ticksStill_22 ?_
          refine lv_iconst (v := 1) hx hb dX7_ticksStill_25 (by decide) ?_
          refine lv_isub hx hb dX7_ticksStill_26 ?_
          refine lv_eqi (y := 1) (by decide) ?_
          refine lv_istore_n (lv' := [(1, .int 1), (0, .ref Mm)]) hx hb dX7_ticksStill_27 rfl hl (by decide) rfl (fun ls hl => ?_)
          refine lv_iload_n hx hb dX7_ticksStill_28 rfl (lv_at hl 0 rfl) ?_
          refine lv_if_lt (tgt := 43) hx hb dX7_ticksStill_29 (by decide) (fun cb => absurd cb (by decide)) (fun _ => ?_)
          refine lv_aload_n hx hb dX7_ticksStill_32 rfl (lv_at hl 1 rfl) ?_
          refine lv_iload_n hx hb dX7_ticksStill_33 rfl (lv_at hl 0 rfl) ?_
          refine ky_Vv (As := [.int 1]) (rest := []) ⟨hx, hb, hml, hown, hts⟩ ⟨hK, hN⟩ hZ hP hD hS hA [0, 1, 2, 3] [] (wc := [(Mm, .inr (7, [.int zth, .ref Mt, .int (nI tp), .int zma, .int zwr, .ref Mrr, .ref Mrh, .ref Mrc, .int zrh, .int zrc, .ref Mn, .ref Mf, .ref Mr, .ref Mh, .int (nI 2), .int (nI cc), .ref Ma, .ref Mas, .ref Msn, .ref Mac, .ref Mat])), (Mn, .inl (g 0, 1767, .inl F_5)), (Mh, .inl (g 0, 9, .inl fmh)), (Mr, .inl (g 0, 3, .inl fmr))]) (wr := []) rfl rfl rfl rfl (by decide) (k_X7_waits l D g H.size Mm 1 zth Mt tp zma zwr Mrr Mrh Mrc zrh zrc Mn Mf Mr Mh 2 cc Ma Mas Msn Mac Mat F_5 fmh fmr tb ub (show tb < 2 ^ 29 by omega) (show ub < 2 ^ 29 by omega) (hF_5) (show 1 ≤ cc by omega) (show cc ≤ 3 by omega) (show 1 < 3 by omega) (h7)) (cwV 1 hts gX7_ticksStill_X7_waits rfl rfl rfl (by decide +kernel) ⟨(Nat.le_of_ble_eq_true rfl), (Nat.le_of_ble_eq_true rfl)⟩) 0 7 rfl rfl rfl rfl hl.1 rfl (Nat.le_of_ble_eq_true rfl) dX7_ticksStill_34 ⟨(Nat.le_of_ble_eq_true rfl), (Nat.le_of_ble_eq_true rfl)⟩ (fun u H locs hw hP2 hD2 hS2 => ?_)
          clear hP hD hS
          obtain ⟨fnox_62, rfl, hf_63⟩ := hw
          have hPD : PD D A [(Mm, .inr (7, [.int zth, .ref Mt, .int (nI tp), .int zma, .int zwr, .ref Mrr, .ref Mrh, .ref Mrc, .int zrh, .int zrc, .ref Mn, .ref Mf, .ref Mr, .ref Mh, .int (nI 2), .int (nI cc), .ref Ma, .ref Mas, .ref Msn, .ref Mac, .ref Mat])), (Mn, .inl (g 0, 1767, .inl fnox_62)), (Mh, .inl (g 0, 9, .inl fmh)), (Mr, .inl (g 0, 3, .inl fmr))] H := ⟨hP2, hD2⟩
          have hS := hS2; clear hP2 hD2 hS2; have hP := hPD.1; have hD := hPD.2; clear hPD
          refine W.widen (k := 0) (n := 0) (Nat.le_of_ble_eq_true rfl) (Nat.le_of_ble_eq_true rfl) ?_
          refine lv_iinc (v := 0) (lv' := [(1, .int 0), (0, .ref Mm)]) hx hb dX7_ticksStill_37 hl (k := 0) rfl (by decide) (by decide) rfl (fun ls hl => ?_)
          refine lv_goto (tgt := 28) hx hb dX7_ticksStill_40 (by decide) ?_
          refine lv_iload_n hx hb dX7_ticksStill_28 rfl (lv_at hl 0 rfl) ?_
          refine lv_if_lt (tgt := 43) hx hb dX7_ticksStill_29 (by decide) (fun cb => absurd cb (by decide)) (fun _ => ?_)
          refine lv_aload_n hx hb dX7_ticksStill_32 rfl (lv_at hl 1 rfl) ?_
          refine lv_iload_n hx hb dX7_ticksStill_33 rfl (lv_at hl 0 rfl) ?_
          refine ky_Vv (As := [.int 0]) (rest := []) ⟨hx, hb, hml, hown, hts⟩ ⟨hK, hN⟩ hZ hP hD hS hA [0, 1, 2, 3] [] (wc := [(Mm, .inr (7, [.int zth, .ref Mt, .int (nI tp), .int zma, .int zwr, .ref Mrr, .ref Mrh, .ref Mrc, .int zrh, .int zrc, .ref Mn, .ref Mf, .ref Mr, .ref Mh, .int (nI 2), .int (nI cc), .ref Ma, .ref Mas, .ref Msn, .ref Mac, .ref Mat])), (Mn, .inl (g 0, 1767, .inl fnox_62)), (Mh, .inl (g 0, 9, .inl fmh)), (Mr, .inl (g 0, 3, .inl fmr))]) (wr := []) rfl rfl rfl rfl (by decide) (k_X7_waits l D g H.size Mm 0 zth Mt tp zma zwr Mrr Mrh Mrc zrh zrc Mn Mf Mr Mh 2 cc Ma Mas Msn Mac Mat fnox_62 fmh fmr tb ub (show tb < 2 ^ 29 by omega) (show ub < 2 ^ 29 by omega) (hf_63) (show 1 ≤ cc by omega) (show cc ≤ 3 by omega) (show 0 < 3 by omega) (h7)) (cwV 1 hts gX7_ticksStill_X7_waits rfl rfl rfl (by decide +kernel) ⟨(Nat.le_of_ble_eq_true rfl), (Nat.le_of_ble_eq_true rfl)⟩) 0 7 rfl rfl rfl rfl hl.1 rfl (Nat.le_of_ble_eq_true rfl) dX7_ticksStill_34 ⟨(Nat.le_of_ble_eq_true rfl), (Nat.le_of_ble_eq_true rfl)⟩ (fun u H locs hw hP2 hD2 hS2 => ?_)
          clear hP hD hS
          obtain ⟨fnox_65, rfl, hf_66⟩ := hw
          have hPD : PD D A [(Mm, .inr (7, [.int zth, .ref Mt, .int (nI tp), .int zma, .int zwr, .ref Mrr, .ref Mrh, .ref Mrc, .int zrh, .int zrc, .ref Mn, .ref Mf, .ref Mr, .ref Mh, .int (nI 2), .int (nI cc), .ref Ma, .ref Mas, .ref Msn, .ref Mac, .ref Mat])), (Mn, .inl (g 0, 1767, .inl fnox_65)), (Mh, .inl (g 0, 9, .inl fmh)), (Mr, .inl (g 0, 3, .inl fmr))] H := ⟨hP2, hD2⟩
          have hS := hS2; clear hP2 hD2 hS2; have hP := hPD.1; have hD := hPD.2; clear hPD
          refine W.widen (k := 0) (n := 0) (Nat.le_of_ble_eq_true rfl) (Nat.le_of_ble_eq_true rfl) ?_
          refine lv_iinc (v := (-1)) (lv' := [(1, .int (-1)), (0, .ref Mm)]) hx hb dX7_ticksStill_37 hl (k := 0) rfl (by decide) (by decide) rfl (fun ls hl => ?_)
          refine lv_goto (tgt := 28) hx hb dX7_ticksStill_40 (by decide) ?_
          refine lv_iload_n hx hb dX7_ticksStill_28 rfl (lv_at hl 0 rfl) ?_
          refine lv_if_lt (tgt := 43) hx hb dX7_ticksStill_29 (by decide) (fun _ => ?_) (fun cb => absurd (by decide) cb)
          exact join_54 fnox_65 (hf_66) _ _ _ hP hD hS (lv_sub hl [1] rfl)
        · skip
          have hP := hPq_57; have hD := hDq_57; have hS := hSq_57; have hl := hlq_57; clear hPq_57 hDq_57 hSq_57 hlq_57
          refine lv_aload_n hx hb dX7_ticksStill_21 rfl (lv_at hl 1 rfl) ?_
          refine va_get (D := D) (ci := 7) (v := .int (nI 3)) (C := RX7) (T := TX7) (N := 21) hx hb hts iX7 hown hK hP 0 rfl rfl 14 (by decide) f124 (fun _ h9 => h9) rfl dX7_ticksStill_22 ?_
          refine lv_iconst (v := 1) hx hb dX7_ticksStill_25 (by decide) ?_
          refine lv_isub hx hb dX7_ticksStill_26 ?_
          refine lv_eqi (y := 2) (by decide) ?_
          refine lv_istore_n (lv' := [(1, .int 2), (0, .ref Mm)]) hx hb dX7_ticksStill_27 rfl hl (by decide) rfl (fun ls hl => ?_)
          refine lv_iload_n hx hb dX7_ticksStill_28 rfl (lv_at hl 0 rfl) ?_
          refine lv_if_lt (tgt := 43) hx hb dX7_ticksStill_29 (by decide) (fun cb => absurd cb (by decide)) (fun _ => ?_)
          refine lv_aload_n hx hb dX7_ticksStill_32 rfl (lv_at hl 1 rfl) ?_
          refine lv_iload_n hx hb dX7_ticksStill_33 rfl (lv_at hl 0 rfl) ?_
          refine ky_Vv (As := [.int 2]) (rest := []) ⟨hx, hb, hml, hown, hts⟩ ⟨hK, hN⟩ hZ hP hD hS hA [0, 1, 2, 3] [] (wc := [(Mm, .inr (7, [.int zth, .ref Mt, .int (nI tp), .int zma, .int zwr, .ref Mrr, .ref Mrh, .ref Mrc, .int zrh, .int zrc, .ref Mn, .ref Mf, .ref Mr, .ref Mh, .int (nI 3), .int (nI cc), .ref Ma, .ref Mas, .ref Msn, .ref Mac, .ref Mat])), (Mn, .inl (g 0, 1767, .inl F_5)), (Mh, .inl (g 0, 9, .inl fmh)), (Mr, .inl (g 0, 3, .inl fmr))]) (wr := []) rfl rfl rfl rfl (by decide) (k_X7_waits l D g H.size Mm 2 zth Mt tp zma zwr Mrr Mrh Mrc zrh zrc Mn Mf Mr Mh 3 cc Ma Mas Msn Mac Mat F_5 fmh fmr tb ub (show tb < 2 ^ 29 by omega) (show ub < 2 ^ 29 by omega) (hF_5) (show 1 ≤ cc by omega) (show cc ≤ 3 by omega) (show 2 < 3 by omega) (h7)) (cwV 1 hts gX7_ticksStill_X7_waits rfl rfl rfl (by decide +kernel) ⟨(Nat.le_of_ble_eq_true rfl), (Nat.le_of_ble_eq_true rfl)⟩) 0 7 rfl rfl rfl rfl hl.1 rfl (Nat.le_of_ble_eq_true rfl) dX7_ticksStill_34 ⟨(Nat.le_of_ble_eq_true rfl), (Nat.le_of_ble_eq_true rfl)⟩ (fun u H locs hw hP2 hD2 hS2 => ?_)
          clear hP hD hS
          obtain ⟨fnox_68, rfl, hf_69⟩ := hw
          have hPD : PD D A [(Mm, .inr (7, [.int zth, .ref Mt, .int (nI tp), .int zma, .int zwr, .ref Mrr, .ref Mrh, .ref Mrc, .int zrh, .int zrc, .ref Mn, .ref Mf, .ref Mr, .ref Mh, .int (nI 3), .int (nI cc), .ref Ma, .ref Mas, .ref Msn, .ref Mac, .ref Mat])), (Mn, .inl (g 0, 1767, .inl fnox_68)), (Mh, .inl (g 0, 9, .inl fmh)), (Mr, .inl (g 0, 3, .inl fmr))] H := ⟨hP2, hD2⟩
          have hS := hS2; clear hP2 hD2 hS2; have hP := hPD.1; have hD := hPD.2; clear hPD
          refine W.widen (k := 0) (n := 0) (Nat.le_of_ble_eq_true rfl) (Nat.le_of_ble_eq_true rfl) ?_
          refine lv_iinc (v := 1) (lv' := [(1, .int 1), (0, .ref Mm)]) hx hb dX7_ticksStill_37 hl (k := 0) rfl (by decide) (by decide) rfl (fun ls hl => ?_)
          refine lv_goto (tgt := 28) hx hb dX7_ticksStill_40 (by decide) ?_
          refine lv_iload_n hx hb dX7_ticksStill_28 rfl (lv_at hl 0 rfl) ?_
          refine lv_if_lt (tgt := 43) hx hb dX7_ticksStill_29 (by decide) (fun cb => absurd cb (by decide)) (fun _ => ?_)
          refine lv_aload_n hx hb dX7_ticksStill_32 rfl (lv_at hl 1 rfl) ?_
          refine lv_iload_n hx hb dX7_ticksStill_33 rfl (lv_at hl 0 rfl) ?_
          refine ky_Vv (As := [.int 1]) (rest := []) ⟨hx, hb, hml, hown, hts⟩ ⟨hK, hN⟩ hZ hP hD hS hA [0, 1, 2, 3] [] (wc := [(Mm, .inr (7, [.int zth, .ref Mt, .int (nI tp), .int zma, .int zwr, .ref Mrr, .ref Mrh, .ref Mrc, .int zrh, .int zrc, .ref Mn, .ref Mf, .ref Mr, .ref Mh, .int (nI 3), .int (nI cc), .ref Ma, .ref Mas, .ref Msn, .ref Mac, .ref Mat])), (Mn, .inl (g 0, 1767, .inl fnox_68)), (Mh, .inl (g 0, 9, .inl fmh)), (Mr, .inl (g 0, 3, .inl fmr))]) (wr := []) rfl rfl rfl rfl (by decide) (k_X7_waits l D g H.size Mm 1 zth Mt tp zma zwr Mrr Mrh Mrc zrh zrc Mn Mf Mr Mh 3 cc Ma Mas Msn Mac Mat fnox_68 fmh fmr tb ub (show tb < 2 ^ 29 by omega) (show ub < 2 ^ 29 by omega) (hf_69) (show 1 ≤ cc by omega) (show cc ≤ 3 by omega) (show 1 < 3 by omega) (h7)) (cwV 1 hts gX7_ticksStill_X7_waits rfl rfl rfl (by decide +kernel) ⟨(Nat.le_of_ble_eq_true rfl), (Nat.le_of_ble_eq_true rfl)⟩) 0 7 rfl rfl rfl rfl hl.1 rfl (Nat.le_of_ble_eq_true rfl) dX7_ticksStill_34 ⟨(Nat.le_of_ble_eq_true rfl), (Nat.le_of_ble_eq_true rfl)⟩ (fun u H locs hw hP2 hD2 hS2 => ?_)
          clear hP hD hS
          obtain ⟨fnox_71, rfl, hf_72⟩ := hw
          have hPD : PD D A [(Mm, .inr (7, [.int zth, .ref Mt, .int (nI tp), .int zma, .int zwr, .ref Mrr, .ref Mrh, .ref Mrc, .int zrh, .int zrc, .ref Mn, .ref Mf, .ref Mr, .ref Mh, .int (nI 3), .int (nI cc), .ref Ma, .ref Mas, .ref Msn, .ref Mac, .ref Mat])), (Mn, .inl (g 0, 1767, .inl fnox_71)), (Mh, .inl (g 0, 9, .inl fmh)), (Mr, .inl (g 0, 3, .inl fmr))] H := ⟨hP2, hD2⟩
          have hS := hS2; clear hP2 hD2 hS2; have hP := hPD.1; have hD := hPD.2; clear hPD
          refine W.widen (k := 0) (n := 0) (Nat.le_of_ble_eq_true rfl) (Nat.le_of_ble_eq_true rfl) ?_
          refine lv_iinc (v := 0) (lv' := [(1, .int 0), (0, .ref Mm)]) hx hb dX7_ticksStill_37 hl (k := 0) rfl (by decide) (by decide) rfl (fun ls hl => ?_)
          refine lv_goto (tgt := 28) hx hb dX7_ticksStill_40 (by decide) ?_
          refine lv_iload_n hx hb dX7_ticksStill_28 rfl (lv_at hl 0 rfl) ?_
          refine lv_if_lt (tgt := 43) hx hb dX7_ticksStill_29 (by decide) (fun cb => absurd cb (by decide)) (fun _ => ?_)
          refine lv_aload_n hx hb dX7_ticksStill_32 rfl (lv_at hl 1 rfl) ?_
          refine lv_iload_n hx hb dX7_ticksStill_33 rfl (lv_at hl 0 rfl) ?_
          refine ky_Vv (As := [.int 0]) (rest := []) ⟨hx, hb, hml, hown, hts⟩ ⟨hK, hN⟩ hZ hP hD hS hA [0, 1, 2, 3] [] (wc := [(Mm, .inr (7, [.int zth, .ref Mt, .int (nI tp), .int zma, .int zwr, .ref Mrr, .ref Mrh, .ref Mrc, .int zrh, .int zrc, .ref Mn, .ref Mf, .ref Mr, .ref Mh, .int (nI 3), .int (nI cc), .ref Ma, .ref Mas, .ref Msn, .ref Mac, .ref Mat])), (Mn, .inl (g 0, 1767, .inl fnox_71)), (Mh, .inl (g 0, 9, .inl fmh)), (Mr, .inl (g 0, 3, .inl fmr))]) (wr := []) rfl rfl rfl rfl (by decide) (k_X7_waits l D g H.size Mm 0 zth Mt tp zma zwr Mrr Mrh Mrc zrh zrc Mn Mf Mr Mh 3 cc Ma Mas Msn Mac Mat fnox_71 fmh fmr tb ub (show tb < 2 ^ 29 by omega) (show ub < 2 ^ 29 by omega) (hf_72) (show 1 ≤ cc by omega) (show cc ≤ 3 by omega) (show 0 < 3 by omega) (h7)) (cwV 1 hts gX7_ticksStill_X7_waits rfl rfl rfl (by decide +kernel) ⟨(Nat.le_of_ble_eq_true rfl), (Nat.le_of_ble_eq_true rfl)⟩) 0 7 rfl rfl rfl rfl hl.1 rfl (Nat.le_of_ble_eq_true rfl) dX7_ticksStill_34 ⟨(Nat.le_of_ble_eq_true rfl), (Nat.le_of_ble_eq_true rfl)⟩ (fun u H locs hw hP2 hD2 hS2 => ?_)
          clear hP hD hS
          obtain ⟨fnox_74, rfl, hf_75⟩ := hw
          have hPD : PD D A [(Mm, .inr (7, [.int zth, .ref Mt, .int (nI tp), .int zma, .int zwr, .ref Mrr, .ref Mrh, .ref Mrc, .int zrh, .int zrc, .ref Mn, .ref Mf, .ref Mr, .ref Mh, .int (nI 3), .int (nI cc), .ref Ma, .ref Mas, .ref Msn, .ref Mac, .ref Mat])), (Mn, .inl (g 0, 1767, .inl fnox_74)), (Mh, .inl (g 0, 9, .inl fmh)), (Mr, .inl (g 0, 3, .inl fmr))] H := ⟨hP2, hD2⟩
          have hS := hS2; clear hP2 hD2 hS2; have hP := hPD.1; have hD := hPD.2; clear hPD
          refine W.widen (k := 0) (n := 0) (Nat.le_of_ble_eq_true rfl) (Nat.le_of_ble_eq_true rfl) ?_
          refine lv_iinc (v := (-1)) (lv' := [(1, .int (-1)), (0, .ref Mm)]) hx hb dX7_ticksStill_37 hl (k := 0) rfl (by decide) (by decide) rfl (fun ls hl => ?_)
          refine lv_goto (tgt := 28) hx hb dX7_ticksStill_40 (by decide) ?_
          refine lv_iload_n hx hb dX7_ticksStill_28 rfl (lv_at hl 0 rfl) ?_
          refine lv_if_lt (tgt := 43) hx hb dX7_ticksStill_29 (by decide) (fun _ => ?_) (fun cb => absurd (by decide) cb)
          exact join_54 fnox_74 (hf_75) _ _ _ hP hD hS (lv_sub hl [1] rfl)
      · skip
        have cn_76 : i_4 < hp := Nat.lt_of_not_le (fun q9 => cb_13 ((nI_leI (show hp < 2 ^ 31 by omega) (show i_4 < 2 ^ 31 by omega)).mpr q9))
        refine lv_aload_n hx hb dX7_ticksStill_10 rfl (lv_at hl 1 rfl) ?_
        refine lv_iload_n hx hb dX7_ticksStill_11 rfl (lv_at hl 0 rfl) ?_
        refine ky_Vv (As := [.int (nI i_4)]) (rest := []) ⟨hx, hb, hml, hown, hts⟩ ⟨hK, hN⟩ hZ hP hD hS hA [0, 1, 2] [3] (wc := [(Mm, .inr (7, [.int zth, .ref Mt, .int (nI tp), .int zma, .int zwr, .ref Mrr, .ref Mrh, .ref Mrc, .int zrh, .int zrc, .ref Mn, .ref Mf, .ref Mr, .ref Mh, .int (nI hp), .int (nI cc), .ref Ma, .ref Mas, .ref Msn, .ref Mac, .ref Mat])), (Mn, .inl (g 0, 1767, .inl F_5)), (Mh, .inl (g 0, 9, .inl fmh))]) (wr := [(Mr, .inl (g 0, 3, .inl fmr))]) rfl rfl rfl rfl (by decide) (k_X7_arrives l D g H.size Mm i_4 zth Mt tp zma zwr Mrr Mrh Mrc zrh zrc Mn Mf Mr Mh hp cc Ma Mas Msn Mac Mat F_5 fmh tb ub (show tb < 2 ^ 29 by omega) (show ub < 2 ^ 29 by omega) (hF_5) (show 1 ≤ cc by omega) (show cc ≤ 3 by omega) (show i_4 < 3 by omega) (h7)) (cwV 1 hts gX7_ticksStill_X7_arrives rfl rfl rfl (by decide +kernel) ⟨(Nat.le_of_ble_eq_true rfl), (Nat.le_of_ble_eq_true rfl)⟩) 0 7 rfl rfl rfl rfl hl.1 rfl (Nat.le_of_ble_eq_true rfl) dX7_ticksStill_12 ⟨(Nat.le_of_ble_eq_true rfl), (Nat.le_of_ble_eq_true rfl)⟩ (fun u H locs hw hP2 hD2 hS2 => ?_)
        clear hP hD hS
        obtain ⟨fnox_78, rfl, hf_79⟩ := hw
        have hPD : PD D A [(Mr, .inl (g 0, 3, .inl fmr)), (Mm, .inr (7, [.int zth, .ref Mt, .int (nI tp), .int zma, .int zwr, .ref Mrr, .ref Mrh, .ref Mrc, .int zrh, .int zrc, .ref Mn, .ref Mf, .ref Mr, .ref Mh, .int (nI hp), .int (nI cc), .ref Ma, .ref Mas, .ref Msn, .ref Mac, .ref Mat])), (Mn, .inl (g 0, 1767, .inl fnox_78)), (Mh, .inl (g 0, 9, .inl fmh))] H := ⟨hP2, hD2⟩
        have hS := hS2; clear hP2 hD2 hS2; have hP := hPD.1; have hD := hPD.2; clear hPD
        refine W.widen (k := 0) (n := 0) (Nat.le_of_ble_eq_true rfl) (Nat.le_of_ble_eq_true rfl) ?_
        refine lv_iinc (v := (nI (i_4 + 1))) (lv' := [(1, .int (nI (i_4 + 1))), (0, .ref Mm)]) hx hb dX7_ticksStill_15 hl (k := 0) rfl (nI_1 (i_4)) (by decide) rfl (fun ls hl => ?_)
        refine lv_goto (tgt := 2) hx hb dX7_ticksStill_18 (by decide) ?_
        exact loop_12_ih (i_4 + 1) fnox_78 (hf_79) (show (i_4 + 1) ≤ hp by omega) (show hp - (i_4 + 1) < Nloop_12 by omega) _ _ _ (hP.sub [1, 2, 3, 0] rfl) (hD.sub [1, 2, 3, 0] (by decide) rfl) hS hl
  exact loop_12 _ 0 fno (h2) (show 0 ≤ hp by omega) (Nat.lt_succ_self _) _ _ _ hP hD hS hl

set_option maxHeartbeats 4000000 in
set_option maxRecDepth 100000 in
theorem k_X7_goesOn (l : Launch) (D : va_G) (g : Nat → ClassId) (sz : Nat) {gs : Nat → Int32} (Mm : Nat) (nx : Nat) (zth : Int32) (Mt : Nat) (tp : Nat) (zma : Int32) (zwr : Int32) (Mrr : Nat) (Mrh : Nat) (Mrc : Nat) (zrh : Int32) (zrc : Int32) (Mn : Nat) (Mf : Nat) (Mr : Nat) (Mh : Nat) (hp : Nat) (cc : Nat) (Ma : Nat) (Mas : Nat) (Msn : Nat) (Mac : Nat) (Mat : Nat) (fno : Nat → Int32) (fmh : Nat → Int32) (fmr : Nat → Int32) (fma : Nat → Int32) (tb : Nat) (ub : Nat) (h0 : tb < 2 ^ 27) (h1 : ub < 2 ^ 27) (h2 : mOK gs tb ub fno) (h3 : 1 ≤ hp) (h4 : hp ≤ 3) (h5 : 1 ≤ cc) (h6 : cc ≤ 3) (h7 : n3 fmh) (h8 : nx ≤ 200) : Met l yX7_goesOn wsX7_goesOn ({ frames := 6, cells := 0, slots := 0, locals := 133 }) (va_Pc [.ref Mm, .int (nI nx)] (pre D g sz [(Mm, .inr (7, [.int zth, .ref Mt, .int (nI tp), .int zma, .int zwr, .ref Mrr, .ref Mrh, .ref Mrc, .int zrh, .int zrc, .ref Mn, .ref Mf, .ref Mr, .ref Mh, .int (nI hp), .int (nI cc), .ref Ma, .ref Mas, .ref Msn, .ref Mac, .ref Mat])), (Mn, .inl (g 0, 1767, .inl fno)), (Mh, .inl (g 0, 9, .inl fmh)), (Mr, .inl (g 0, 3, .inl fmr)), (Ma, .inl (g 0, 3, .inl fma))])) (va_Qv (fun (u : va_W) => ∃ (fnox : Nat → Int32) (fmax : Nat → Int32), u = [(Mm, .inr (7, [.int zth, .ref Mt, .int (nI tp), .int zma, .int zwr, .ref Mrr, .ref Mrh, .ref Mrc, .int zrh, .int zrc, .ref Mn, .ref Mf, .ref Mr, .ref Mh, .int (nI hp), .int (nI cc), .ref Ma, .ref Mas, .ref Msn, .ref Mac, .ref Mat])), (Mn, .inl (g 0, 1767, .inl fnox)), (Mh, .inl (g 0, 9, .inl fmh)), (Mr, .inl (g 0, 3, .inl fmr)), (Ma, .inl (g 0, 3, .inl fmax))] ∧ (mOK gs (tb + nx) (ub + 6 * nx) fnox)) (wd D (va_A [(Mm, .inr (7, [.int zth, .ref Mt, .int (nI tp), .int zma, .int zwr, .ref Mrr, .ref Mrh, .ref Mrc, .int zrh, .int zrc, .ref Mn, .ref Mf, .ref Mr, .ref Mh, .int (nI hp), .int (nI cc), .ref Ma, .ref Mas, .ref Msn, .ref Mac, .ref Mat])), (Mn, .inl (g 0, 1767, .inl fno)), (Mh, .inl (g 0, 9, .inl fmh)), (Mr, .inl (g 0, 3, .inl fmr)), (Ma, .inl (g 0, 3, .inl fma))] sz)) (va_A [(Mm, .inr (7, [.int zth, .ref Mt, .int (nI tp), .int zma, .int zwr, .ref Mrr, .ref Mrh, .ref Mrc, .int zrh, .int zrc, .ref Mn, .ref Mf, .ref Mr, .ref Mh, .int (nI hp), .int (nI cc), .ref Ma, .ref Mas, .ref Msn, .ref Mac, .ref Mat])), (Mn, .inl (g 0, 1767, .inl fno)), (Mh, .inl (g 0, 9, .inl fmh)), (Mr, .inl (g 0, 3, .inl fmr)), (Ma, .inl (g 0, 3, .inl fma))] sz)) 0 0 (va_A [(Mm, .inr (7, [.int zth, .ref Mt, .int (nI tp), .int zma, .int zwr, .ref Mrr, .ref Mrh, .ref Mrc, .int zrh, .int zrc, .ref Mn, .ref Mf, .ref Mr, .ref Mh, .int (nI hp), .int (nI cc), .ref Ma, .ref Mas, .ref Msn, .ref Mac, .ref Mat])), (Mn, .inl (g 0, 1767, .inl fno)), (Mh, .inl (g 0, 9, .inl fmh)), (Mr, .inl (g 0, 3, .inl fmr)), (Ma, .inl (g 0, 3, .inl fma))] sz) := by
  refine Met.ofW (cc := cX7_goesOn) (maxL := 3) (ret := none) (by decide) rfl ?_
  intro p e s m args below meth c s₁ B hml hv
  obtain ⟨rfl, hsz, hP, ⟨hK, hN⟩, hD0, hZ⟩ := hv
  have hx := B.exec
  have hb := B.bytes
  have hr := B.returns
  have hts := atoms_spec (ws := wsX7_goesOn) B.pre
  have hown : s.vm.findClass RX7 = some m.cls := findClass_of_methodNamed B.named
  have hlocks := B.notSynchronized
  clear B
  subst hsz
  have hD := hD0.self (sz := s.heap.size)
  clear hD0
  generalize hAe : va_A [(Mm, .inr (7, [.int zth, .ref Mt, .int (nI tp), .int zma, .int zwr, .ref Mrr, .ref Mrh, .ref Mrc, .int zrh, .int zrc, .ref Mn, .ref Mf, .ref Mr, .ref Mh, .int (nI hp), .int (nI cc), .ref Ma, .ref Mas, .ref Msn, .ref Mac, .ref Mat])), (Mn, .inl (g 0, 1767, .inl fno)), (Mh, .inl (g 0, 9, .inl fmh)), (Mr, .inl (g 0, 3, .inl fmr)), (Ma, .inl (g 0, 3, .inl fma))] s.heap.size = A at hD hZ ⊢
  have hA : ∀ q : Nat, s.heap.size ≤ q → A q := fun q h => by rw [← hAe]; exact Or.inr h
  have hS : va_S A s.heap s.heap [] := va_S.rf
  have hl := lv_entry ([.ref Mm, .int (nI nx)]) (n := 3) (Nat.le_of_ble_eq_true rfl)
  rw [lg_entry_eq]
  generalize (lg_sl ([.ref Mm, .int (nI nx)]) ++ List.replicate (3 - (lg_sl ([.ref Mm, .int (nI nx)])).length) Slot.unset).toArray = ls at hl ⊢
  have hl : lv_has ls 3 [(0, .ref Mm), (1, .int (nI nx))] := hl
  generalize hQ : MQ below _ _ s _ _ _ = Q
  generalize hH : s.heap = H at hP ⊢
  have hS : va_S A s.heap H [] := by rw [← hH]; exact hS
  clear hH
  refine lv_iconst (v := 0) hx hb dX7_goesOn_0 (by decide) ?_
  refine lv_istore_n (lv' := [(2, .int 0), (0, .ref Mm), (1, .int (nI nx))]) hx hb dX7_goesOn_1 rfl hl (by decide) rfl (fun ls hl => ?_)
  have loop_18 : ∀ (Nloop_18 : Nat) (i_8 : Nat) (F_9 : Nat → Int32) (F_10 : Nat → Int32) (hF_9 : mOK gs (tb + i_8) (ub + 6 * i_8) F_9) (hbi_8 : i_8 ≤ nx) (hmloop_18 : nx - i_8 < Nloop_18) (H : Heap) (locs : List Loc) (ls : Array Slot), va_P D vwCl [(Mm, .inr (7, [.int zth, .ref Mt, .int (nI tp), .int zma, .int zwr, .ref Mrr, .ref Mrh, .ref Mrc, .int zrh, .int zrc, .ref Mn, .ref Mf, .ref Mr, .ref Mh, .int (nI hp), .int (nI cc), .ref Ma, .ref Mas, .ref Msn, .ref Mac, .ref Mat])), (Mn, .inl (g 0, 1767, .inl F_9)), (Mh, .inl (g 0, 9, .inl fmh)), (Mr, .inl (g 0, 3, .inl fmr)), (Ma, .inl (g 0, 3, .inl F_10))] H → va_D A [(Mm, .inr (7, [.int zth, .ref Mt, .int (nI tp), .int zma, .int zwr, .ref Mrr, .ref Mrh, .ref Mrc, .int zrh, .int zrc, .ref Mn, .ref Mf, .ref Mr, .ref Mh, .int (nI hp), .int (nI cc), .ref Ma, .ref Mas, .ref Msn, .ref Mac, .ref Mat])), (Mn, .inl (g 0, 1767, .inl F_9)), (Mh, .inl (g 0, 9, .inl fmh)), (Mr, .inl (g 0, 3, .inl fmr)), (Ma, .inl (g 0, 3, .inl F_10))] → va_S A s.heap H locs → lv_has ls 3 [(2, .int (nI i_8)), (0, .ref Mm), (1, .int (nI nx))] → W p l e (headSpec wsX7_goesOn ({ frames := 6, cells := 0, slots := 0, locals := 133 })).room s m ([.ref Mm, .int (nI nx)] : List Value).toArray below meth c H locs 0 0 Q (F0 m 2 ls []) := by
    clear hP hD hS hl
    intro Nloop_18
    induction Nloop_18 with
    | zero => intro i_8 F_9 F_10 hF_9 hbi_8 hm9; exact absurd hm9 (Nat.not_lt_zero _)
    | succ Nloop_18 loop_18_ih =>
      intro i_8 F_9 F_10 hF_9 hbi_8 hmloop_18 H locs ls hP hD hS hl
      refine lv_iload_n hx hb dX7_goesOn_2 rfl (lv_at hl 0 rfl) ?_
      refine lv_iload_n hx hb dX7_goesOn_3 rfl (lv_at hl 2 rfl) ?_
      refine lv_icmp_ge (tgt := 17) hx hb dX7_goesOn_4 (by decide) (fun cb_19 => ?_) (fun cb_19 => ?_)
      · skip
        have cn_20 : nx ≤ i_8 := (nI_leI (show nx < 2 ^ 31 by omega) (show i_8 < 2 ^ 31 by omega)).mp cb_19
        have hP9 := hP; have hD9 := hD
        subst hQ
        refine W.widen (k := 0) (n := 0) (Nat.le_of_ble_eq_true rfl) (Nat.le_of_ble_eq_true rfl) ?_
        exact W.vret hx hb hr (fun tS htS _ => ⟨⟨_, rfl, ⟨F_9, F_10, rfl, (mOK_le hF_9 (show tb + i_8 = tb + nx by omega) (show ub + 6 * i_8 ≤ ub + 6 * nx by omega))⟩, by rw [htS]; exact hP9, hD9⟩, hS.F htS⟩) hS.2.2 dX7_goesOn_17
      · skip
        have cn_21 : i_8 < nx := Nat.lt_of_not_le (fun q9 => cb_19 ((nI_leI (show nx < 2 ^ 31 by omega) (show i_8 < 2 ^ 31 by omega)).mpr q9))
        refine lv_aload_n hx hb dX7_goesOn_7 rfl (lv_at hl 1 rfl) ?_
        refine ky_Vv (As := []) (rest := []) ⟨hx, hb, hml, hown, hts⟩ ⟨hK, hN⟩ hZ hP hD hS hA [0, 1, 2, 3, 4] [] (wc := [(Mm, .inr (7, [.int zth, .ref Mt, .int (nI tp), .int zma, .int zwr, .ref Mrr, .ref Mrh, .ref Mrc, .int zrh, .int zrc, .ref Mn, .ref Mf, .ref Mr, .ref Mh, .int (nI hp), .int (nI cc), .ref Ma, .ref Mas, .ref Msn, .ref Mac, .ref Mat])), (Mn, .inl (g 0, 1767, .inl F_9)), (Mh, .inl (g 0, 9, .inl fmh)), (Mr, .inl (g 0, 3, .inl fmr)), (Ma, .inl (g 0, 3, .inl F_10))]) (wr := []) rfl rfl rfl rfl (by decide) (k_X7_ticks l D g H.size Mm zth Mt tp zma zwr Mrr Mrh Mrc zrh zrc Mn Mf Mr Mh hp cc Ma Mas Msn Mac Mat F_9 fmh fmr F_10 (tb + i_8) (ub + 6 * i_8) (show tb + i_8 < 2 ^ 28 by omega) (show ub + 6 * i_8 < 2 ^ 28 by omega) (hF_9) (show 1 ≤ hp by omega) (show hp ≤ 3 by omega) (show 1 ≤ cc by omega) (show cc ≤ 3 by omega) (h7)) (cwV 0 hts gX7_goesOn_X7_ticks rfl rfl rfl (by decide +kernel) ⟨(Nat.le_of_ble_eq_true rfl), (Nat.le_of_ble_eq_true rfl)⟩) 0 7 rfl rfl rfl rfl hl.1 rfl (Nat.le_of_ble_eq_true rfl) dX7_goesOn_8 ⟨(Nat.le_of_ble_eq_true rfl), (Nat.le_of_ble_eq_true rfl)⟩ (fun u H locs hw hP2 hD2 hS2 => ?_)
        clear hP hD hS
        obtain ⟨fnox_23, fmax_24, rfl, hf_25⟩ := hw
        have hPD : PD D A [(Mm, .inr (7, [.int zth, .ref Mt, .int (nI tp), .int zma, .int zwr, .ref Mrr, .ref Mrh, .ref Mrc, .int zrh, .int zrc, .ref Mn, .ref Mf, .ref Mr, .ref Mh, .int (nI hp), .int (nI cc), .ref Ma, .ref Mas, .ref Msn, .ref Mac, .ref Mat])), (Mn, .inl (g 0, 1767, .inl fnox_23)), (Mh, .inl (g 0, 9, .inl fmh)), (Mr, .inl (g 0, 3, .inl fmr)), (Ma, .inl (g 0, 3, .inl fmax_24))] H := ⟨hP2, hD2⟩
        have hS := hS2; clear hP2 hD2 hS2; have hP := hPD.1; have hD := hPD.2; clear hPD
        refine W.widen (k := 0) (n := 0) (Nat.le_of_ble_eq_true rfl) (Nat.le_of_ble_eq_true rfl) ?_
        refine lv_iinc (v := (nI (i_8 + 1))) (lv' := [(2, .int (nI (i_8 + 1))), (0, .ref Mm), (1, .int (nI nx))]) hx hb dX7_goesOn_11 hl (k := 0) rfl (nI_1 (i_8)) (by decide) rfl (fun ls hl => ?_)
        refine lv_goto (tgt := 2) hx hb dX7_goesOn_14 (by decide) ?_
        exact loop_18_ih (i_8 + 1) fnox_23 fmax_24 (mOK_le hf_25 (show tb + i_8 + 1 = tb + (i_8 + 1) by omega) (show ub + 6 * i_8 + 6 ≤ ub + 6 * (i_8 + 1) by omega)) (show (i_8 + 1) ≤ nx by omega) (show nx - (i_8 + 1) < Nloop_18 by omega) _ _ _ hP hD hS hl
  exact loop_18 _ 0 fno fma (mOK_le h2 (show tb = tb + 0 by omega) (show ub ≤ ub + 6 * 0 by omega)) (show 0 ≤ nx by omega) (Nat.lt_succ_self _) _ _ _ hP hD hS hl

set_option maxHeartbeats 4000000 in
set_option maxRecDepth 100000 in
theorem k_X7_putAside (l : Launch) (D : va_G) (g : Nat → ClassId) (sz : Nat) {gs : Nat → Int32} (Mm : Nat) (zth : Int32) (Mt : Nat) (tp : Nat) (zma : Int32) (zwr : Int32) (Mrr : Nat) (Mrh : Nat) (Mrc : Nat) (zrh : Int32) (zrc : Int32) (Mn : Nat) (Mf : Nat) (Mr : Nat) (Mh : Nat) (hp : Nat) (cc : Nat) (Ma : Nat) (Mas : Nat) (Msn : Nat) (Mac : Nat) (Mat : Nat) (fno : Nat → Int32) (fas : Nat → Int32) (tb : Nat) (ub : Nat) (h0 : mOK gs tb ub fno) : Met l yX7_putAside wsX7_putAside ({ frames := 0, cells := 0, slots := 0, locals := 0 }) (va_Pc [.ref Mm] (pre D g sz [(Mm, .inr (7, [.int zth, .ref Mt, .int (nI tp), .int zma, .int zwr, .ref Mrr, .ref Mrh, .ref Mrc, .int zrh, .int zrc, .ref Mn, .ref Mf, .ref Mr, .ref Mh, .int (nI hp), .int (nI cc), .ref Ma, .ref Mas, .ref Msn, .ref Mac, .ref Mat])), (Mn, .inl (g 0, 1767, .inl fno)), (Mas, .inl (g 0, 1767, .inl fas))])) (va_Qv (fun (u : va_W) => ∃ (fasx : Nat → Int32), u = [(Mm, .inr (7, [.int zth, .ref Mt, .int (nI tp), .int zma, .int zwr, .ref Mrr, .ref Mrh, .ref Mrc, .int zrh, .int zrc, .ref Mn, .ref Mf, .ref Mr, .ref Mh, .int (nI hp), .int (nI cc), .ref Ma, .ref Mas, .ref Msn, .ref Mac, .ref Mat])), (Mn, .inl (g 0, 1767, .inl fno)), (Mas, .inl (g 0, 1767, .inl fasx))] ∧ (mOK gs tb ub fasx)) (wd D (va_A [(Mm, .inr (7, [.int zth, .ref Mt, .int (nI tp), .int zma, .int zwr, .ref Mrr, .ref Mrh, .ref Mrc, .int zrh, .int zrc, .ref Mn, .ref Mf, .ref Mr, .ref Mh, .int (nI hp), .int (nI cc), .ref Ma, .ref Mas, .ref Msn, .ref Mac, .ref Mat])), (Mn, .inl (g 0, 1767, .inl fno)), (Mas, .inl (g 0, 1767, .inl fas))] sz)) (va_A [(Mm, .inr (7, [.int zth, .ref Mt, .int (nI tp), .int zma, .int zwr, .ref Mrr, .ref Mrh, .ref Mrc, .int zrh, .int zrc, .ref Mn, .ref Mf, .ref Mr, .ref Mh, .int (nI hp), .int (nI cc), .ref Ma, .ref Mas, .ref Msn, .ref Mac, .ref Mat])), (Mn, .inl (g 0, 1767, .inl fno)), (Mas, .inl (g 0, 1767, .inl fas))] sz)) 0 0 (va_A [(Mm, .inr (7, [.int zth, .ref Mt, .int (nI tp), .int zma, .int zwr, .ref Mrr, .ref Mrh, .ref Mrc, .int zrh, .int zrc, .ref Mn, .ref Mf, .ref Mr, .ref Mh, .int (nI hp), .int (nI cc), .ref Ma, .ref Mas, .ref Msn, .ref Mac, .ref Mat])), (Mn, .inl (g 0, 1767, .inl fno)), (Mas, .inl (g 0, 1767, .inl fas))] sz) := by
  refine Met.ofW (cc := cX7_putAside) (maxL := 2) (ret := none) (by decide) rfl ?_
  intro p e s m args below meth c s₁ B hml hv
  obtain ⟨rfl, hsz, hP, ⟨hK, hN⟩, hD0, hZ⟩ := hv
  have hx := B.exec
  have hb := B.bytes
  have hr := B.returns
  have hts := atoms_spec (ws := wsX7_putAside) B.pre
  have hown : s.vm.findClass RX7 = some m.cls := findClass_of_methodNamed B.named
  have hlocks := B.notSynchronized
  clear B
  subst hsz
  have hD := hD0.self (sz := s.heap.size)
  clear hD0
  generalize hAe : va_A [(Mm, .inr (7, [.int zth, .ref Mt, .int (nI tp), .int zma, .int zwr, .ref Mrr, .ref Mrh, .ref Mrc, .int zrh, .int zrc, .ref Mn, .ref Mf, .ref Mr, .ref Mh, .int (nI hp), .int (nI cc), .ref Ma, .ref Mas, .ref Msn, .ref Mac, .ref Mat])), (Mn, .inl (g 0, 1767, .inl fno)), (Mas, .inl (g 0, 1767, .inl fas))] s.heap.size = A at hD hZ ⊢
  have hA : ∀ q : Nat, s.heap.size ≤ q → A q := fun q h => by rw [← hAe]; exact Or.inr h
  have hS : va_S A s.heap s.heap [] := va_S.rf
  have f22 := hts (.fieldLink RX7 22 "HopCreditsModel" "now" "[I") (List.mem_of_getElem? (i := 2) rfl)
  have f37 := hts (.fieldLink RX7 37 "HopCreditsModel" "aside" "[I") (List.mem_of_getElem? (i := 1) rfl)
  have iX7 : ∀ w ∈ u_ws RX7 TX7 21, w ∈ wsX7_putAside := fun w h => List.mem_cons_of_mem _ (List.mem_append_right _ (h))
  have hl := lv_entry ([.ref Mm]) (n := 2) (Nat.le_of_ble_eq_true rfl)
  rw [lg_entry_eq]
  generalize (lg_sl ([.ref Mm]) ++ List.replicate (2 - (lg_sl ([.ref Mm])).length) Slot.unset).toArray = ls at hl ⊢
  have hl : lv_has ls 2 [(0, .ref Mm)] := hl
  generalize hQ : MQ below _ _ s _ _ _ = Q
  generalize hH : s.heap = H at hP ⊢
  have hS : va_S A s.heap H [] := by rw [← hH]; exact hS
  clear hH
  refine lv_iconst (v := 0) hx hb dX7_putAside_0 (by decide) ?_
  refine lv_istore_n (lv' := [(1, .int 0), (0, .ref Mm)]) hx hb dX7_putAside_1 rfl hl (by decide) rfl (fun ls hl => ?_)
  have loop_7 : ∀ (Nloop_7 : Nat) (i_1 : Nat) (F_2 : Nat → Int32) (hbi_1 : i_1 ≤ 1767) (hv_6 : agr i_1 fno F_2) (hmloop_7 : 1767 - i_1 < Nloop_7) (H : Heap) (locs : List Loc) (ls : Array Slot), va_P D vwCl [(Mm, .inr (7, [.int zth, .ref Mt, .int (nI tp), .int zma, .int zwr, .ref Mrr, .ref Mrh, .ref Mrc, .int zrh, .int zrc, .ref Mn, .ref Mf, .ref Mr, .ref Mh, .int (nI hp), .int (nI cc), .ref Ma, .ref Mas, .ref Msn, .ref Mac, .ref Mat])), (Mn, .inl (g 0, 1767, .inl fno)), (Mas, .inl (g 0, 1767, .inl F_2))] H → va_D A [(Mm, .inr (7, [.int zth, .ref Mt, .int (nI tp), .int zma, .int zwr, .ref Mrr, .ref Mrh, .ref Mrc, .int zrh, .int zrc, .ref Mn, .ref Mf, .ref Mr, .ref Mh, .int (nI hp), .int (nI cc), .ref Ma, .ref Mas, .ref Msn, .ref Mac, .ref Mat])), (Mn, .inl (g 0, 1767, .inl fno)), (Mas, .inl (g 0, 1767, .inl F_2))] → va_S A s.heap H locs → lv_has ls 2 [(1, .int (nI i_1)), (0, .ref Mm)] → W p l e (headSpec wsX7_putAside ({ frames := 0, cells := 0, slots := 0, locals := 0 })).room s m ([.ref Mm] : List Value).toArray below meth c H locs 0 0 Q (F0 m 2 ls []) := by
    clear hP hD hS hl
    intro Nloop_7
    induction Nloop_7 with
    | zero => intro i_1 F_2 hbi_1 hv_6 hm9; exact absurd hm9 (Nat.not_lt_zero _)
    | succ Nloop_7 loop_7_ih =>
      intro i_1 F_2 hbi_1 hv_6 hmloop_7 H locs ls hP hD hS hl
      refine lv_iload_n hx hb dX7_putAside_2 rfl (lv_at hl 0 rfl) ?_
      refine lv_sipush (v := 1767) hx hb dX7_putAside_3 (by decide) ?_
      refine lv_icmp_ge (tgt := 27) hx hb dX7_putAside_6 (by decide) (fun cb_8 => ?_) (fun cb_8 => ?_)
      · skip
        have cn_9 : 1767 ≤ i_1 := (nI_leI (show 1767 < 2 ^ 31 by omega) (show i_1 < 2 ^ 31 by omega)).mp cb_8
        have hP9 := hP; have hD9 := hD
        subst hQ
        refine W.widen (k := 0) (n := 0) (Nat.le_of_ble_eq_true rfl) (Nat.le_of_ble_eq_true rfl) ?_
        exact W.vret hx hb hr (fun tS htS _ => ⟨⟨_, rfl, ⟨F_2, rfl, (mOK_agr (h0) hv_6 (show 1767 ≤ i_1 by omega))⟩, by rw [htS]; exact hP9, hD9⟩, hS.F htS⟩) hS.2.2 dX7_putAside_27
      · skip
        have cn_10 : i_1 < 1767 := Nat.lt_of_not_le (fun q9 => cb_8 ((nI_leI (show 1767 < 2 ^ 31 by omega) (show i_1 < 2 ^ 31 by omega)).mpr q9))
        refine lv_aload_n hx hb dX7_putAside_9 rfl (lv_at hl 1 rfl) ?_
        refine va_get (D := D) (ci := 7) (v := .ref Mas) (C := RX7) (T := TX7) (N := 21) hx hb hts iX7 hown hK hP 0 rfl rfl 17 (by decide) f37 (fun _ h9 => h9) rfl dX7_putAside_10 ?_
        refine lv_iload_n hx hb dX7_putAside_13 rfl (lv_at hl 0 rfl) ?_
        refine lv_aload_n hx hb dX7_putAside_14 rfl (lv_at hl 1 rfl) ?_
        refine va_get (D := D) (ci := 7) (v := .ref Mn) (C := RX7) (T := TX7) (N := 21) hx hb hts iX7 hown hK hP 0 rfl rfl 10 (by decide) f22 (fun _ h9 => h9) rfl dX7_putAside_15 ?_
        refine lv_iload_n hx hb dX7_putAside_18 rfl (lv_at hl 0 rfl) ?_
        refine va_iald hx hb hK hP 1 0 rfl rfl (vp_in_nI (show i_1 < 1767 by omega) (by decide)) dX7_putAside_19 ?_
        refine lv_eqi (y := (fno (i_1))) (congrArg fno (nI_clamp (show i_1 < 2 ^ 31 by omega))) ?_
        refine va_iast hx hb hK hP hD hS 2 0 rfl rfl (vp_in_nI (show i_1 < 1767 by omega) (by decide)) dX7_putAside_20 (fun H locs hP2 hD2 hS2 => ?_)
        clear hP hD hS
        have hPD : PD D A [(Mm, .inr (7, [.int zth, .ref Mt, .int (nI tp), .int zma, .int zwr, .ref Mrr, .ref Mrh, .ref Mrc, .int zrh, .int zrc, .ref Mn, .ref Mf, .ref Mr, .ref Mh, .int (nI hp), .int (nI cc), .ref Ma, .ref Mas, .ref Msn, .ref Mac, .ref Mat])), (Mn, .inl (g 0, 1767, .inl fno)), (Mas, .inl (g 0, 1767, .inl (upd F_2 (nI i_1).toNatClampNeg (fno (i_1)))))] H := ⟨hP2, hD2⟩
        have hS := hS2; clear hP2 hD2 hS2; have hP := hPD.1; have hD := hPD.2; clear hPD
        rw [nI_clamp (show i_1 < 2 ^ 31 by omega)] at hP hD
        have hPD : PD D A [(Mm, .inr (7, [.int zth, .ref Mt, .int (nI tp), .int zma, .int zwr, .ref Mrr, .ref Mrh, .ref Mrc, .int zrh, .int zrc, .ref Mn, .ref Mf, .ref Mr, .ref Mh, .int (nI hp), .int (nI cc), .ref Ma, .ref Mas, .ref Msn, .ref Mac, .ref Mat])), (Mn, .inl (g 0, 1767, .inl fno)), (Mas, .inl (g 0, 1767, .inl (upd F_2 (i_1) (fno (i_1)))))] H := ⟨hP, hD⟩
        clear hP hD; have hP := hPD.1; have hD := hPD.2; clear hPD
        refine lv_iinc (v := (nI (i_1 + 1))) (lv' := [(1, .int (nI (i_1 + 1))), (0, .ref Mm)]) hx hb dX7_putAside_21 hl (k := 0) rfl (nI_1 (i_1)) (by decide) rfl (fun ls hl => ?_)
        refine lv_goto (tgt := 2) hx hb dX7_putAside_24 (by decide) ?_
        exact loop_7_ih (i_1 + 1) (upd F_2 (i_1) (fno (i_1))) (show (i_1 + 1) ≤ 1767 by omega) (agr_upd hv_6) (show 1767 - (i_1 + 1) < Nloop_7 by omega) _ _ _ hP hD hS hl
  exact loop_7 _ 0 fas (show 0 ≤ 1767 by omega) (agr_0) (Nat.lt_succ_self _) _ _ _ hP hD hS hl

set_option maxHeartbeats 4000000 in
set_option maxRecDepth 100000 in
theorem k_X7_bringBack (l : Launch) (D : va_G) (g : Nat → ClassId) (sz : Nat) {gs : Nat → Int32} (Mm : Nat) (zth : Int32) (Mt : Nat) (tp : Nat) (zma : Int32) (zwr : Int32) (Mrr : Nat) (Mrh : Nat) (Mrc : Nat) (zrh : Int32) (zrc : Int32) (Mn : Nat) (Mf : Nat) (Mr : Nat) (Mh : Nat) (hp : Nat) (cc : Nat) (Ma : Nat) (Mas : Nat) (Msn : Nat) (Mac : Nat) (Mat : Nat) (fno : Nat → Int32) (fas : Nat → Int32) (tb : Nat) (ub : Nat) (h0 : mOK gs tb ub fas) : Met l yX7_bringBack wsX7_bringBack ({ frames := 0, cells := 0, slots := 0, locals := 0 }) (va_Pc [.ref Mm] (pre D g sz [(Mm, .inr (7, [.int zth, .ref Mt, .int (nI tp), .int zma, .int zwr, .ref Mrr, .ref Mrh, .ref Mrc, .int zrh, .int zrc, .ref Mn, .ref Mf, .ref Mr, .ref Mh, .int (nI hp), .int (nI cc), .ref Ma, .ref Mas, .ref Msn, .ref Mac, .ref Mat])), (Mn, .inl (g 0, 1767, .inl fno)), (Mas, .inl (g 0, 1767, .inl fas))])) (va_Qv (fun (u : va_W) => ∃ (fnox : Nat → Int32), u = [(Mm, .inr (7, [.int zth, .ref Mt, .int (nI tp), .int zma, .int zwr, .ref Mrr, .ref Mrh, .ref Mrc, .int zrh, .int zrc, .ref Mn, .ref Mf, .ref Mr, .ref Mh, .int (nI hp), .int (nI cc), .ref Ma, .ref Mas, .ref Msn, .ref Mac, .ref Mat])), (Mn, .inl (g 0, 1767, .inl fnox)), (Mas, .inl (g 0, 1767, .inl fas))] ∧ (mOK gs tb ub fnox)) (wd D (va_A [(Mm, .inr (7, [.int zth, .ref Mt, .int (nI tp), .int zma, .int zwr, .ref Mrr, .ref Mrh, .ref Mrc, .int zrh, .int zrc, .ref Mn, .ref Mf, .ref Mr, .ref Mh, .int (nI hp), .int (nI cc), .ref Ma, .ref Mas, .ref Msn, .ref Mac, .ref Mat])), (Mn, .inl (g 0, 1767, .inl fno)), (Mas, .inl (g 0, 1767, .inl fas))] sz)) (va_A [(Mm, .inr (7, [.int zth, .ref Mt, .int (nI tp), .int zma, .int zwr, .ref Mrr, .ref Mrh, .ref Mrc, .int zrh, .int zrc, .ref Mn, .ref Mf, .ref Mr, .ref Mh, .int (nI hp), .int (nI cc), .ref Ma, .ref Mas, .ref Msn, .ref Mac, .ref Mat])), (Mn, .inl (g 0, 1767, .inl fno)), (Mas, .inl (g 0, 1767, .inl fas))] sz)) 0 0 (va_A [(Mm, .inr (7, [.int zth, .ref Mt, .int (nI tp), .int zma, .int zwr, .ref Mrr, .ref Mrh, .ref Mrc, .int zrh, .int zrc, .ref Mn, .ref Mf, .ref Mr, .ref Mh, .int (nI hp), .int (nI cc), .ref Ma, .ref Mas, .ref Msn, .ref Mac, .ref Mat])), (Mn, .inl (g 0, 1767, .inl fno)), (Mas, .inl (g 0, 1767, .inl fas))] sz) := by
  refine Met.ofW (cc := cX7_bringBack) (maxL := 2) (ret := none) (by decide) rfl ?_
  intro p e s m args below meth c s₁ B hml hv
  obtain ⟨rfl, hsz, hP, ⟨hK, hN⟩, hD0, hZ⟩ := hv
  have hx := B.exec
  have hb := B.bytes
  have hr := B.returns
  have hts := atoms_spec (ws := wsX7_bringBack) B.pre
  have hown : s.vm.findClass RX7 = some m.cls := findClass_of_methodNamed B.named
  have hlocks := B.notSynchronized
  clear B
  subst hsz
  have hD := hD0.self (sz := s.heap.size)
  clear hD0
  generalize hAe : va_A [(Mm, .inr (7, [.int zth, .ref Mt, .int (nI tp), .int zma, .int zwr, .ref Mrr, .ref Mrh, .ref Mrc, .int zrh, .int zrc, .ref Mn, .ref Mf, .ref Mr, .ref Mh, .int (nI hp), .int (nI cc), .ref Ma, .ref Mas, .ref Msn, .ref Mac, .ref Mat])), (Mn, .inl (g 0, 1767, .inl fno)), (Mas, .inl (g 0, 1767, .inl fas))] s.heap.size = A at hD hZ ⊢
  have hA : ∀ q : Nat, s.heap.size ≤ q → A q := fun q h => by rw [← hAe]; exact Or.inr h
  have hS : va_S A s.heap s.heap [] := va_S.rf
  have f22 := hts (.fieldLink RX7 22 "HopCreditsModel" "now" "[I") (List.mem_of_getElem? (i := 1) rfl)
  have f37 := hts (.fieldLink RX7 37 "HopCreditsModel" "aside" "[I") (List.mem_of_getElem? (i := 2) rfl)
  have iX7 : ∀ w ∈ u_ws RX7 TX7 21, w ∈ wsX7_bringBack := fun w h => List.mem_cons_of_mem _ (List.mem_append_right _ (h))
  have hl := lv_entry ([.ref Mm]) (n := 2) (Nat.le_of_ble_eq_true rfl)
  rw [lg_entry_eq]
  generalize (lg_sl ([.ref Mm]) ++ List.replicate (2 - (lg_sl ([.ref Mm])).length) Slot.unset).toArray = ls at hl ⊢
  have hl : lv_has ls 2 [(0, .ref Mm)] := hl
  generalize hQ : MQ below _ _ s _ _ _ = Q
  generalize hH : s.heap = H at hP ⊢
  have hS : va_S A s.heap H [] := by rw [← hH]; exact hS
  clear hH
  refine lv_iconst (v := 0) hx hb dX7_bringBack_0 (by decide) ?_
  refine lv_istore_n (lv' := [(1, .int 0), (0, .ref Mm)]) hx hb dX7_bringBack_1 rfl hl (by decide) rfl (fun ls hl => ?_)
  have loop_7 : ∀ (Nloop_7 : Nat) (i_1 : Nat) (F_2 : Nat → Int32) (hbi_1 : i_1 ≤ 1767) (hv_6 : agr i_1 fas F_2) (hmloop_7 : 1767 - i_1 < Nloop_7) (H : Heap) (locs : List Loc) (ls : Array Slot), va_P D vwCl [(Mm, .inr (7, [.int zth, .ref Mt, .int (nI tp), .int zma, .int zwr, .ref Mrr, .ref Mrh, .ref Mrc, .int zrh, .int zrc, .ref Mn, .ref Mf, .ref Mr, .ref Mh, .int (nI hp), .int (nI cc), .ref Ma, .ref Mas, .ref Msn, .ref Mac, .ref Mat])), (Mn, .inl (g 0, 1767, .inl F_2)), (Mas, .inl (g 0, 1767, .inl fas))] H → va_D A [(Mm, .inr (7, [.int zth, .ref Mt, .int (nI tp), .int zma, .int zwr, .ref Mrr, .ref Mrh, .ref Mrc, .int zrh, .int zrc, .ref Mn, .ref Mf, .ref Mr, .ref Mh, .int (nI hp), .int (nI cc), .ref Ma, .ref Mas, .ref Msn, .ref Mac, .ref Mat])), (Mn, .inl (g 0, 1767, .inl F_2)), (Mas, .inl (g 0, 1767, .inl fas))] → va_S A s.heap H locs → lv_has ls 2 [(1, .int (nI i_1)), (0, .ref Mm)] → W p l e (headSpec wsX7_bringBack ({ frames := 0, cells := 0, slots := 0, locals := 0 })).room s m ([.ref Mm] : List Value).toArray below meth c H locs 0 0 Q (F0 m 2 ls []) := by
    clear hP hD hS hl
    intro Nloop_7
    induction Nloop_7 with
    | zero => intro i_1 F_2 hbi_1 hv_6 hm9; exact absurd hm9 (Nat.not_lt_zero _)
    | succ Nloop_7 loop_7_ih =>
      intro i_1 F_2 hbi_1 hv_6 hmloop_7 H locs ls hP hD hS hl
      refine lv_iload_n hx hb dX7_bringBack_2 rfl (lv_at hl 0 rfl) ?_
      refine lv_sipush (v := 1767) hx hb dX7_bringBack_3 (by decide) ?_
      refine lv_icmp_ge (tgt := 27) hx hb dX7_bringBack_6 (by decide) (fun cb_8 => ?_) (fun cb_8 => ?_)
      · skip
        have cn_9 : 1767 ≤ i_1 := (nI_leI (show 1767 < 2 ^ 31 by omega) (show i_1 < 2 ^ 31 by omega)).mp cb_8
        have hP9 := hP; have hD9 := hD
        subst hQ
        refine W.widen (k := 0) (n := 0) (Nat.le_of_ble_eq_true rfl) (Nat.le_of_ble_eq_true rfl) ?_
        exact W.vret hx hb hr (fun tS htS _ => ⟨⟨_, rfl, ⟨F_2, rfl, (mOK_agr (h0) hv_6 (show 1767 ≤ i_1 by omega))⟩, by rw [htS]; exact hP9, hD9⟩, hS.F htS⟩) hS.2.2 dX7_bringBack_27
      · skip
        have cn_10 : i_1 < 1767 := Nat.lt_of_not_le (fun q9 => cb_8 ((nI_leI (show 1767 < 2 ^ 31 by omega) (show i_1 < 2 ^ 31 by omega)).mpr q9))
        refine lv_aload_n hx hb dX7_bringBack_9 rfl (lv_at hl 1 rfl) ?_
        refine va_get (D := D) (ci := 7) (v := .ref Mn) (C := RX7) (T := TX7) (N := 21) hx hb hts iX7 hown hK hP 0 rfl rfl 10 (by decide) f22 (fun _ h9 => h9) rfl dX7_bringBack_10 ?_
        refine lv_iload_n hx hb dX7_bringBack_13 rfl (lv_at hl 0 rfl) ?_
        refine lv_aload_n hx hb dX7_bringBack_14 rfl (lv_at hl 1 rfl) ?_
        refine va_get (D := D) (ci := 7) (v := .ref Mas) (C := RX7) (T := TX7) (N := 21) hx hb hts iX7 hown hK hP 0 rfl rfl 17 (by decide) f37 (fun _ h9 => h9) rfl dX7_bringBack_15 ?_
        refine lv_iload_n hx hb dX7_bringBack_18 rfl (lv_at hl 0 rfl) ?_
        refine va_iald hx hb hK hP 2 0 rfl rfl (vp_in_nI (show i_1 < 1767 by omega) (by decide)) dX7_bringBack_19 ?_
        refine lv_eqi (y := (fas (i_1))) (congrArg fas (nI_clamp (show i_1 < 2 ^ 31 by omega))) ?_
        refine va_iast hx hb hK hP hD hS 1 0 rfl rfl (vp_in_nI (show i_1 < 1767 by omega) (by decide)) dX7_bringBack_20 (fun H locs hP2 hD2 hS2 => ?_)
        clear hP hD hS
        have hPD : PD D A [(Mm, .inr (7, [.int zth, .ref Mt, .int (nI tp), .int zma, .int zwr, .ref Mrr, .ref Mrh, .ref Mrc, .int zrh, .int zrc, .ref Mn, .ref Mf, .ref Mr, .ref Mh, .int (nI hp), .int (nI cc), .ref Ma, .ref Mas, .ref Msn, .ref Mac, .ref Mat])), (Mn, .inl (g 0, 1767, .inl (upd F_2 (nI i_1).toNatClampNeg (fas (i_1))))), (Mas, .inl (g 0, 1767, .inl fas))] H := ⟨hP2, hD2⟩
        have hS := hS2; clear hP2 hD2 hS2; have hP := hPD.1; have hD := hPD.2; clear hPD
        rw [nI_clamp (show i_1 < 2 ^ 31 by omega)] at hP hD
        have hPD : PD D A [(Mm, .inr (7, [.int zth, .ref Mt, .int (nI tp), .int zma, .int zwr, .ref Mrr, .ref Mrh, .ref Mrc, .int zrh, .int zrc, .ref Mn, .ref Mf, .ref Mr, .ref Mh, .int (nI hp), .int (nI cc), .ref Ma, .ref Mas, .ref Msn, .ref Mac, .ref Mat])), (Mn, .inl (g 0, 1767, .inl (upd F_2 (i_1) (fas (i_1))))), (Mas, .inl (g 0, 1767, .inl fas))] H := ⟨hP, hD⟩
        clear hP hD; have hP := hPD.1; have hD := hPD.2; clear hPD
        refine lv_iinc (v := (nI (i_1 + 1))) (lv' := [(1, .int (nI (i_1 + 1))), (0, .ref Mm)]) hx hb dX7_bringBack_21 hl (k := 0) rfl (nI_1 (i_1)) (by decide) rfl (fun ls hl => ?_)
        refine lv_goto (tgt := 2) hx hb dX7_bringBack_24 (by decide) ?_
        exact loop_7_ih (i_1 + 1) (upd F_2 (i_1) (fas (i_1))) (show (i_1 + 1) ≤ 1767 by omega) (agr_upd hv_6) (show 1767 - (i_1 + 1) < Nloop_7 by omega) _ _ _ hP hD hS hl
  exact loop_7 _ 0 fno (show 0 ≤ 1767 by omega) (agr_0) (Nat.lt_succ_self _) _ _ _ hP hD hS hl

set_option maxHeartbeats 4000000 in
set_option maxRecDepth 100000 in
theorem k_X7_isNet (l : Launch) (D : va_G) (g : Nat → ClassId) (sz : Nat) (Mm : Nat) (zth : Int32) (Mt : Nat) (tp : Nat) (zma : Int32) (zwr : Int32) (Mrr : Nat) (Mrh : Nat) (Mrc : Nat) (zrh : Int32) (zrc : Int32) (Mn : Nat) (Mf : Nat) (Mr : Nat) (Mh : Nat) (hp : Nat) (cc : Nat) (Ma : Nat) (Mas : Nat) (Msn : Nat) (Mac : Nat) (Mat : Nat) (h0 : 1 ≤ hp) (h1 : hp ≤ 3) : Met l yX7_isNet wsX7_isNet ({ frames := 0, cells := 0, slots := 0, locals := 0 }) (va_Pc [.ref Mm] (pre D g sz [(Mm, .inr (7, [.int zth, .ref Mt, .int (nI tp), .int zma, .int zwr, .ref Mrr, .ref Mrh, .ref Mrc, .int zrh, .int zrc, .ref Mn, .ref Mf, .ref Mr, .ref Mh, .int (nI hp), .int (nI cc), .ref Ma, .ref Mas, .ref Msn, .ref Mac, .ref Mat]))])) (va_Qi (fun (r : Int32) (u : va_W) => u = [(Mm, .inr (7, [.int zth, .ref Mt, .int (nI tp), .int zma, .int zwr, .ref Mrr, .ref Mrh, .ref Mrc, .int zrh, .int zrc, .ref Mn, .ref Mf, .ref Mr, .ref Mh, .int (nI hp), .int (nI cc), .ref Ma, .ref Mas, .ref Msn, .ref Mac, .ref Mat]))] ∧ r = 1) (wd D (va_A [(Mm, .inr (7, [.int zth, .ref Mt, .int (nI tp), .int zma, .int zwr, .ref Mrr, .ref Mrh, .ref Mrc, .int zrh, .int zrc, .ref Mn, .ref Mf, .ref Mr, .ref Mh, .int (nI hp), .int (nI cc), .ref Ma, .ref Mas, .ref Msn, .ref Mac, .ref Mat]))] sz)) (va_A [(Mm, .inr (7, [.int zth, .ref Mt, .int (nI tp), .int zma, .int zwr, .ref Mrr, .ref Mrh, .ref Mrc, .int zrh, .int zrc, .ref Mn, .ref Mf, .ref Mr, .ref Mh, .int (nI hp), .int (nI cc), .ref Ma, .ref Mas, .ref Msn, .ref Mac, .ref Mat]))] sz)) 0 0 (va_A [(Mm, .inr (7, [.int zth, .ref Mt, .int (nI tp), .int zma, .int zwr, .ref Mrr, .ref Mrh, .ref Mrc, .int zrh, .int zrc, .ref Mn, .ref Mf, .ref Mr, .ref Mh, .int (nI hp), .int (nI cc), .ref Ma, .ref Mas, .ref Msn, .ref Mac, .ref Mat]))] sz) := by
  refine Met.ofW (cc := cX7_isNet) (maxL := 1) (ret := (some .boolean)) (by decide) rfl ?_
  intro p e s m args below meth c s₁ B hml hv
  obtain ⟨rfl, hsz, hP, ⟨hK, hN⟩, hD0, hZ⟩ := hv
  have hx := B.exec
  have hb := B.bytes
  have hr := B.returns
  have hts := atoms_spec (ws := wsX7_isNet) B.pre
  have hown : s.vm.findClass RX7 = some m.cls := findClass_of_methodNamed B.named
  have hlocks := B.notSynchronized
  clear B
  subst hsz
  have hD := hD0.self (sz := s.heap.size)
  clear hD0
  generalize hAe : va_A [(Mm, .inr (7, [.int zth, .ref Mt, .int (nI tp), .int zma, .int zwr, .ref Mrr, .ref Mrh, .ref Mrc, .int zrh, .int zrc, .ref Mn, .ref Mf, .ref Mr, .ref Mh, .int (nI hp), .int (nI cc), .ref Ma, .ref Mas, .ref Msn, .ref Mac, .ref Mat]))] s.heap.size = A at hD hZ ⊢
  have hA : ∀ q : Nat, s.heap.size ≤ q → A q := fun q h => by rw [← hAe]; exact Or.inr h
  have hS : va_S A s.heap s.heap [] := va_S.rf
  have f124 := hts (.fieldLink RX7 124 "HopCreditsModel" "hops" "I") (List.mem_of_getElem? (i := 1) rfl)
  have iX7 : ∀ w ∈ u_ws RX7 TX7 21, w ∈ wsX7_isNet := fun w h => List.mem_cons_of_mem _ (List.mem_append_right _ (h))
  have hl := lv_entry ([.ref Mm]) (n := 1) (Nat.le_of_ble_eq_true rfl)
  rw [lg_entry_eq]
  generalize (lg_sl ([.ref Mm]) ++ List.replicate (1 - (lg_sl ([.ref Mm])).length) Slot.unset).toArray = ls at hl ⊢
  have hl : lv_has ls 1 [(0, .ref Mm)] := hl
  generalize hQ : MQ below _ _ s _ _ _ = Q
  generalize hH : s.heap = H at hP ⊢
  have hS : va_S A s.heap H [] := by rw [← hH]; exact hS
  clear hH
  refine lv_aload_n hx hb dX7_isNet_0 rfl (lv_at hl 0 rfl) ?_
  refine va_get (D := D) (ci := 7) (v := .int (nI hp)) (C := RX7) (T := TX7) (N := 21) hx hb hts iX7 hown hK hP 0 rfl rfl 14 (by decide) f124 (fun _ h9 => h9) rfl dX7_isNet_1 ?_
  refine lv_if_le (tgt := 11) hx hb dX7_isNet_4 (by decide) (fun cb => absurd cb (nI_ge (show 0 < hp by omega) (show hp < 2 ^ 31 by omega))) (fun _ => ?_)
  refine lv_iconst (v := 1) hx hb dX7_isNet_7 (by decide) ?_
  refine lv_goto (tgt := 12) hx hb dX7_isNet_8 (by decide) ?_
  have hP9 := hP; have hD9 := hD
  subst hQ
  refine W.widen (k := 0) (n := 0) (Nat.le_of_ble_eq_true rfl) (Nat.le_of_ble_eq_true rfl) ?_
  exact W.zret (v := 1) (ty := .boolean) hx hb hr (rfl) (fun tS htS _ => ⟨⟨_, _, rfl, ⟨rfl, rfl⟩, by rw [htS]; exact hP9, hD9⟩, hS.F htS⟩) hS.2.2 dX7_isNet_12

set_option maxHeartbeats 4000000 in
set_option maxRecDepth 100000 in
theorem k_X7_isHop (l : Launch) (D : va_G) (g : Nat → ClassId) (sz : Nat) (Mm : Nat) (zh : Int32) (zth : Int32) (Mt : Nat) (tp : Nat) (zma : Int32) (zwr : Int32) (Mrr : Nat) (Mrh : Nat) (Mrc : Nat) (zrh : Int32) (zrc : Int32) (Mn : Nat) (Mf : Nat) (Mr : Nat) (Mh : Nat) (hp : Nat) (cc : Nat) (Ma : Nat) (Mas : Nat) (Msn : Nat) (Mac : Nat) (Mat : Nat) (h0 : 1 ≤ hp) (h1 : hp ≤ 3) : Met l yX7_isHop wsX7_isHop ({ frames := 1, cells := 0, slots := 0, locals := 22 }) (va_Pc [.ref Mm, .int zh] (pre D g sz [(Mm, .inr (7, [.int zth, .ref Mt, .int (nI tp), .int zma, .int zwr, .ref Mrr, .ref Mrh, .ref Mrc, .int zrh, .int zrc, .ref Mn, .ref Mf, .ref Mr, .ref Mh, .int (nI hp), .int (nI cc), .ref Ma, .ref Mas, .ref Msn, .ref Mac, .ref Mat]))])) (va_Qi (fun (r : Int32) (u : va_W) => u = [(Mm, .inr (7, [.int zth, .ref Mt, .int (nI tp), .int zma, .int zwr, .ref Mrr, .ref Mrh, .ref Mrc, .int zrh, .int zrc, .ref Mn, .ref Mf, .ref Mr, .ref Mh, .int (nI hp), .int (nI cc), .ref Ma, .ref Mas, .ref Msn, .ref Mac, .ref Mat]))] ∧ r = (if 0 ≤ zh ∧ zh ≤ (nI (hp - 1)) then 1 else 0)) (wd D (va_A [(Mm, .inr (7, [.int zth, .ref Mt, .int (nI tp), .int zma, .int zwr, .ref Mrr, .ref Mrh, .ref Mrc, .int zrh, .int zrc, .ref Mn, .ref Mf, .ref Mr, .ref Mh, .int (nI hp), .int (nI cc), .ref Ma, .ref Mas, .ref Msn, .ref Mac, .ref Mat]))] sz)) (va_A [(Mm, .inr (7, [.int zth, .ref Mt, .int (nI tp), .int zma, .int zwr, .ref Mrr, .ref Mrh, .ref Mrc, .int zrh, .int zrc, .ref Mn, .ref Mf, .ref Mr, .ref Mh, .int (nI hp), .int (nI cc), .ref Ma, .ref Mas, .ref Msn, .ref Mac, .ref Mat]))] sz)) 0 0 (va_A [(Mm, .inr (7, [.int zth, .ref Mt, .int (nI tp), .int zma, .int zwr, .ref Mrr, .ref Mrh, .ref Mrc, .int zrh, .int zrc, .ref Mn, .ref Mf, .ref Mr, .ref Mh, .int (nI hp), .int (nI cc), .ref Ma, .ref Mas, .ref Msn, .ref Mac, .ref Mat]))] sz) := by
  refine Met.ofW (cc := cX7_isHop) (maxL := 2) (ret := (some .boolean)) (by decide) rfl ?_
  intro p e s m args below meth c s₁ B hml hv
  obtain ⟨rfl, hsz, hP, ⟨hK, hN⟩, hD0, hZ⟩ := hv
  have hx := B.exec
  have hb := B.bytes
  have hr := B.returns
  have hts := atoms_spec (ws := wsX7_isHop) B.pre
  have hown : s.vm.findClass RX7 = some m.cls := findClass_of_methodNamed B.named
  have hlocks := B.notSynchronized
  clear B
  subst hsz
  have hD := hD0.self (sz := s.heap.size)
  clear hD0
  generalize hAe : va_A [(Mm, .inr (7, [.int zth, .ref Mt, .int (nI tp), .int zma, .int zwr, .ref Mrr, .ref Mrh, .ref Mrc, .int zrh, .int zrc, .ref Mn, .ref Mf, .ref Mr, .ref Mh, .int (nI hp), .int (nI cc), .ref Ma, .ref Mas, .ref Msn, .ref Mac, .ref Mat]))] s.heap.size = A at hD hZ ⊢
  have hA : ∀ q : Nat, s.heap.size ≤ q → A q := fun q h => by rw [← hAe]; exact Or.inr h
  have hS : va_S A s.heap s.heap [] := va_S.rf
  have f124 := hts (.fieldLink RX7 124 "HopCreditsModel" "hops" "I") (List.mem_of_getElem? (i := 1) rfl)
  have iX7 : ∀ w ∈ u_ws RX7 TX7 21, w ∈ wsX7_isHop := fun w h => List.mem_cons_of_mem _ (List.mem_append_right _ (h))
  have hl := lv_entry ([.ref Mm, .int zh]) (n := 2) (Nat.le_of_ble_eq_true rfl)
  rw [lg_entry_eq]
  generalize (lg_sl ([.ref Mm, .int zh]) ++ List.replicate (2 - (lg_sl ([.ref Mm, .int zh])).length) Slot.unset).toArray = ls at hl ⊢
  have hl : lv_has ls 2 [(0, .ref Mm), (1, .int zh)] := hl
  generalize hQ : MQ below _ _ s _ _ _ = Q
  generalize hH : s.heap = H at hP ⊢
  have hS : va_S A s.heap H [] := by rw [← hH]; exact hS
  clear hH
  refine lv_iload_n hx hb dX7_isHop_0 rfl (lv_at hl 1 rfl) ?_
  refine lv_iconst (v := 0) hx hb dX7_isHop_1 (by decide) ?_
  refine lv_aload_n hx hb dX7_isHop_2 rfl (lv_at hl 0 rfl) ?_
  refine va_get (D := D) (ci := 7) (v := .int (nI hp)) (C := RX7) (T := TX7) (N := 21) hx hb hts iX7 hown hK hP 0 rfl rfl 14 (by decide) f124 (fun _ h9 => h9) rfl dX7_isHop_3 ?_
  refine lv_iconst (v := 1) hx hb dX7_isHop_6 (by decide) ?_
  refine lv_isub hx hb dX7_isHop_7 ?_
  refine lv_eqi (y := (nI (hp - 1))) (pk_sub (show 1 ≤ hp by omega)) ?_
  refine ky_Si (As := [.int zh, .int 0, .int (nI (hp - 1))]) (rest := []) ⟨hx, hb, hml, hown, hts⟩ ⟨hK, hN⟩ hZ hP hD hS hA [] [0] (wc := []) (wr := [(Mm, .inr (7, [.int zth, .ref Mt, .int (nI tp), .int zma, .int zwr, .ref Mrr, .ref Mrh, .ref Mrc, .int zrh, .int zrc, .ref Mn, .ref Mf, .ref Mr, .ref Mh, .int (nI hp), .int (nI cc), .ref Ma, .ref Mas, .ref Msn, .ref Mac, .ref Mat]))]) rfl rfl rfl rfl (by decide) (k_X7_in l D g H.size zh 0 (nI (hp - 1))) (va_cwS 3 hts gX7_isHop_X7_in rfl rfl rfl (by decide +kernel) ⟨(Nat.le_of_ble_eq_true rfl), (Nat.le_of_ble_eq_true rfl)⟩) rfl hl.1 rfl (Nat.le_of_ble_eq_true rfl) dX7_isHop_8 ⟨(Nat.le_of_ble_eq_true rfl), (Nat.le_of_ble_eq_true rfl)⟩ (fun r_1 u H locs hw hP2 hD2 hS2 => ?_)
  clear hP hD hS
  obtain ⟨rfl, rfl⟩ := hw
  have hPD : PD D A [(Mm, .inr (7, [.int zth, .ref Mt, .int (nI tp), .int zma, .int zwr, .ref Mrr, .ref Mrh, .ref Mrc, .int zrh, .int zrc, .ref Mn, .ref Mf, .ref Mr, .ref Mh, .int (nI hp), .int (nI cc), .ref Ma, .ref Mas, .ref Msn, .ref Mac, .ref Mat]))] H := ⟨hP2, hD2⟩
  have hS := hS2; clear hP2 hD2 hS2; have hP := hPD.1; have hD := hPD.2; clear hPD
  refine W.widen (k := 0) (n := 0) (Nat.le_of_ble_eq_true rfl) (Nat.le_of_ble_eq_true rfl) ?_
  have hP9 := hP; have hD9 := hD
  subst hQ
  refine W.widen (k := 0) (n := 0) (Nat.le_of_ble_eq_true rfl) (Nat.le_of_ble_eq_true rfl) ?_
  exact W.zret (v := (if 0 ≤ zh ∧ zh ≤ (nI (hp - 1)) then 1 else 0)) (ty := .boolean) hx hb hr (zb_nar (zb_ite)) (fun tS htS _ => ⟨⟨_, _, rfl, ⟨rfl, rfl⟩, by rw [htS]; exact hP9, hD9⟩, hS.F htS⟩) hS.2.2 dX7_isHop_11
