set_option maxHeartbeats 4000000 in
set_option maxRecDepth 100000 in
theorem k_X7_probes (l : Launch) (D : va_G) (g : Nat → ClassId) (sz : Nat) {gs : Nat → Int32} (Mm : Nat) (hix : Nat) (cx : Nat) (zth : Int32) (Mt : Nat) (tp : Nat) (zma : Int32) (zwr : Int32) (Mrr : Nat) (Mrh : Nat) (Mrc : Nat) (zrh : Int32) (zrc : Int32) (Mn : Nat) (Mf : Nat) (Mr : Nat) (Mh : Nat) (hp : Nat) (cc : Nat) (Ma : Nat) (Mas : Nat) (Msn : Nat) (Mac : Nat) (Mat : Nat) (fno : Nat → Int32) (fmh : Nat → Int32) (tb : Nat) (ub : Nat) (h0 : tb < 2 ^ 29) (h1 : ub < 2 ^ 29) (h2 : mOK gs tb ub fno) (h3 : hix < 3) (h4 : cx < 3) (h5 : n3 fmh) : Met l yX7_probes wsX7_probes ({ frames := 1, cells := 0, slots := 0, locals := 21 }) (va_Pc [.ref Mm, .int (nI hix), .int (nI cx)] (pre D g sz [(Mm, .inr (7, [.int zth, .ref Mt, .int (nI tp), .int zma, .int zwr, .ref Mrr, .ref Mrh, .ref Mrc, .int zrh, .int zrc, .ref Mn, .ref Mf, .ref Mr, .ref Mh, .int (nI hp), .int (nI cc), .ref Ma, .ref Mas, .ref Msn, .ref Mac, .ref Mat])), (Mn, .inl (g 0, 1767, .inl fno)), (Mh, .inl (g 0, 9, .inl fmh))])) (va_Qv (fun (u : va_W) => ∃ (fnox : Nat → Int32), u = [(Mm, .inr (7, [.int zth, .ref Mt, .int (nI tp), .int zma, .int zwr, .ref Mrr, .ref Mrh, .ref Mrc, .int zrh, .int zrc, .ref Mn, .ref Mf, .ref Mr, .ref Mh, .int (nI hp), .int (nI cc), .ref Ma, .ref Mas, .ref Msn, .ref Mac, .ref Mat])), (Mn, .inl (g 0, 1767, .inl fnox)), (Mh, .inl (g 0, 9, .inl fmh))] ∧ (mOK gs tb ub fnox)) (wd D (va_A [(Mm, .inr (7, [.int zth, .ref Mt, .int (nI tp), .int zma, .int zwr, .ref Mrr, .ref Mrh, .ref Mrc, .int zrh, .int zrc, .ref Mn, .ref Mf, .ref Mr, .ref Mh, .int (nI hp), .int (nI cc), .ref Ma, .ref Mas, .ref Msn, .ref Mac, .ref Mat])), (Mn, .inl (g 0, 1767, .inl fno)), (Mh, .inl (g 0, 9, .inl fmh))] sz)) (va_A [(Mm, .inr (7, [.int zth, .ref Mt, .int (nI tp), .int zma, .int zwr, .ref Mrr, .ref Mrh, .ref Mrc, .int zrh, .int zrc, .ref Mn, .ref Mf, .ref Mr, .ref Mh, .int (nI hp), .int (nI cc), .ref Ma, .ref Mas, .ref Msn, .ref Mac, .ref Mat])), (Mn, .inl (g 0, 1767, .inl fno)), (Mh, .inl (g 0, 9, .inl fmh))] sz)) 0 0 (va_A [(Mm, .inr (7, [.int zth, .ref Mt, .int (nI tp), .int zma, .int zwr, .ref Mrr, .ref Mrh, .ref Mrc, .int zrh, .int zrc, .ref Mn, .ref Mf, .ref Mr, .ref Mh, .int (nI hp), .int (nI cc), .ref Ma, .ref Mas, .ref Msn, .ref Mac, .ref Mat])), (Mn, .inl (g 0, 1767, .inl fno)), (Mh, .inl (g 0, 9, .inl fmh))] sz) := by
  refine Met.ofW (cc := cX7_probes) (maxL := 3) (ret := none) (by decide) rfl ?_
  intro p e s m args below meth c s₁ B hml hv
  obtain ⟨rfl, hsz, hP, ⟨hK, hN⟩, hD0, hZ⟩ := hv
  have hx := B.exec
  have hb := B.bytes
  have hr := B.returns
  have hts := atoms_spec (ws := wsX7_probes) B.pre
  have hown : s.vm.findClass RX7 = some m.cls := findClass_of_methodNamed B.named
  have hlocks := B.notSynchronized
  clear B
  subst hsz
  have hD := hD0.self (sz := s.heap.size)
  clear hD0
  generalize hAe : va_A [(Mm, .inr (7, [.int zth, .ref Mt, .int (nI tp), .int zma, .int zwr, .ref Mrr, .ref Mrh, .ref Mrc, .int zrh, .int zrc, .ref Mn, .ref Mf, .ref Mr, .ref Mh, .int (nI hp), .int (nI cc), .ref Ma, .ref Mas, .ref Msn, .ref Mac, .ref Mat])), (Mn, .inl (g 0, 1767, .inl fno)), (Mh, .inl (g 0, 9, .inl fmh))] s.heap.size = A at hD hZ ⊢
  have hA : ∀ q : Nat, s.heap.size ≤ q → A q := fun q h => by rw [← hAe]; exact Or.inr h
  have hS : va_S A s.heap s.heap [] := va_S.rf
  have f22 := hts (.fieldLink RX7 22 "HopCreditsModel" "now" "[I") (List.mem_of_getElem? (i := 1) rfl)
  have iX7 : ∀ w ∈ u_ws RX7 TX7 21, w ∈ wsX7_probes := fun w h => List.mem_cons_of_mem _ (List.mem_append_right _ (h))
  have hl := lv_entry ([.ref Mm, .int (nI hix), .int (nI cx)]) (n := 3) (Nat.le_of_ble_eq_true rfl)
  rw [lg_entry_eq]
  generalize (lg_sl ([.ref Mm, .int (nI hix), .int (nI cx)]) ++ List.replicate (3 - (lg_sl ([.ref Mm, .int (nI hix), .int (nI cx)])).length) Slot.unset).toArray = ls at hl ⊢
  have hl : lv_has ls 3 [(0, .ref Mm), (1, .int (nI hix)), (2, .int (nI cx))] := hl
  generalize hQ : MQ below _ _ s _ _ _ = Q
  generalize hH : s.heap = H at hP ⊢
  have hS : va_S A s.heap H [] := by rw [← hH]; exact hS
  clear hH
  refine lv_aload_n hx hb dX7_probes_0 rfl (lv_at hl 0 rfl) ?_
  refine va_get (D := D) (ci := 7) (v := .ref Mn) (C := RX7) (T := TX7) (N := 21) hx hb hts iX7 hown hK hP 0 rfl rfl 10 (by decide) f22 (fun _ h9 => h9) rfl dX7_probes_1 ?_
  refine lv_iload_n hx hb dX7_probes_4 rfl (lv_at hl 1 rfl) ?_
  refine lv_aload_n hx hb dX7_probes_5 rfl (lv_at hl 0 rfl) ?_
  refine va_get (D := D) (ci := 7) (v := .ref Mn) (C := RX7) (T := TX7) (N := 21) hx hb hts iX7 hown hK hP 0 rfl rfl 10 (by decide) f22 (fun _ h9 => h9) rfl dX7_probes_6 ?_
  refine lv_sipush (v := 1764) hx hb dX7_probes_9 (by decide) ?_
  refine va_iald hx hb hK hP 1 0 rfl rfl (by unfold vp_in; decide) dX7_probes_12 ?_
  refine lv_eqi (y := (fno 1764)) (rfl) ?_
  obtain ⟨t_1, ht_1, q9⟩ := mOK_t h2
  refine lv_eqi (y := nI t_1) q9 ?_
  refine lv_aload_n hx hb dX7_probes_13 rfl (lv_at hl 0 rfl) ?_
  refine lv_iload_n hx hb dX7_probes_14 rfl (lv_at hl 1 rfl) ?_
  refine ky_Vi (As := [.int (nI hix)]) (rest := [.int (nI t_1), .int (nI hix), .ref Mn]) ⟨hx, hb, hml, hown, hts⟩ ⟨hK, hN⟩ hZ hP hD hS hA [0, 2] [1] (wc := [(Mm, .inr (7, [.int zth, .ref Mt, .int (nI tp), .int zma, .int zwr, .ref Mrr, .ref Mrh, .ref Mrc, .int zrh, .int zrc, .ref Mn, .ref Mf, .ref Mr, .ref Mh, .int (nI hp), .int (nI cc), .ref Ma, .ref Mas, .ref Msn, .ref Mac, .ref Mat])), (Mh, .inl (g 0, 9, .inl fmh))]) (wr := [(Mn, .inl (g 0, 1767, .inl fno))]) rfl rfl rfl rfl (by decide) (k_X7_delay l D g H.size Mm hix zth Mt tp zma zwr Mrr Mrh Mrc zrh zrc Mn Mf Mr Mh hp cc Ma Mas Msn Mac Mat fmh (show hix < 3 by omega) (h5)) (cwV 1 hts gX7_probes_X7_delay rfl rfl rfl (by decide +kernel) ⟨(Nat.le_of_ble_eq_true rfl), (Nat.le_of_ble_eq_true rfl)⟩) 0 7 rfl rfl rfl rfl hl.1 rfl (Nat.le_of_ble_eq_true rfl) dX7_probes_15 ⟨(Nat.le_of_ble_eq_true rfl), (Nat.le_of_ble_eq_true rfl)⟩ (fun r_2 u H locs hw hP2 hD2 hS2 => ?_)
  clear hP hD hS
  obtain ⟨dx_3, rfl, rfl, hf_4⟩ := hw
  have hPD : PD D A [(Mn, .inl (g 0, 1767, .inl fno)), (Mm, .inr (7, [.int zth, .ref Mt, .int (nI tp), .int zma, .int zwr, .ref Mrr, .ref Mrh, .ref Mrc, .int zrh, .int zrc, .ref Mn, .ref Mf, .ref Mr, .ref Mh, .int (nI hp), .int (nI cc), .ref Ma, .ref Mas, .ref Msn, .ref Mac, .ref Mat])), (Mh, .inl (g 0, 9, .inl fmh))] H := ⟨hP2, hD2⟩
  have hS := hS2; clear hP2 hD2 hS2; have hP := hPD.1; have hD := hPD.2; clear hPD
  refine W.widen (k := 0) (n := 0) (Nat.le_of_ble_eq_true rfl) (Nat.le_of_ble_eq_true rfl) ?_
  refine lv_iadd hx hb dX7_probes_18 ?_
  refine lv_eqi (y := (nI (t_1 + dx_3))) (nI_add (t_1) (dx_3)) ?_
  refine ky_Si (As := [.int (nI hix), .int (nI (t_1 + dx_3))]) (rest := [.ref Mn]) ⟨hx, hb, hml, hown, hts⟩ ⟨hK, hN⟩ hZ hP hD hS hA [] [0, 1, 2] (wc := []) (wr := [(Mn, .inl (g 0, 1767, .inl fno)), (Mm, .inr (7, [.int zth, .ref Mt, .int (nI tp), .int zma, .int zwr, .ref Mrr, .ref Mrh, .ref Mrc, .int zrh, .int zrc, .ref Mn, .ref Mf, .ref Mr, .ref Mh, .int (nI hp), .int (nI cc), .ref Ma, .ref Mas, .ref Msn, .ref Mac, .ref Mat])), (Mh, .inl (g 0, 9, .inl fmh))]) rfl rfl rfl rfl (by decide) (k_X7_wayAt l D g H.size hix (t_1 + dx_3) (show hix < 3 by omega) (show (t_1 + dx_3) < 2 ^ 30 by omega)) (va_cwS 2 hts gX7_probes_X7_wayAt rfl rfl rfl (by decide +kernel) ⟨(Nat.le_of_ble_eq_true rfl), (Nat.le_of_ble_eq_true rfl)⟩) rfl hl.1 rfl (Nat.le_of_ble_eq_true rfl) dX7_probes_19 ⟨(Nat.le_of_ble_eq_true rfl), (Nat.le_of_ble_eq_true rfl)⟩ (fun r_5 u H locs hw hP2 hD2 hS2 => ?_)
  clear hP hD hS
  obtain ⟨rfl, rfl⟩ := hw
  have hPD : PD D A [(Mn, .inl (g 0, 1767, .inl fno)), (Mm, .inr (7, [.int zth, .ref Mt, .int (nI tp), .int zma, .int zwr, .ref Mrr, .ref Mrh, .ref Mrc, .int zrh, .int zrc, .ref Mn, .ref Mf, .ref Mr, .ref Mh, .int (nI hp), .int (nI cc), .ref Ma, .ref Mas, .ref Msn, .ref Mac, .ref Mat])), (Mh, .inl (g 0, 9, .inl fmh))] H := ⟨hP2, hD2⟩
  have hS := hS2; clear hP2 hD2 hS2; have hP := hPD.1; have hD := hPD.2; clear hPD
  refine W.widen (k := 0) (n := 0) (Nat.le_of_ble_eq_true rfl) (Nat.le_of_ble_eq_true rfl) ?_
  refine lv_iconst (v := 4) hx hb dX7_probes_22 (by decide) ?_
  refine lv_iadd hx hb dX7_probes_23 ?_
  refine lv_eqi (y := (nI (69 + 5 * (8 * hix + (t_1 + dx_3) % 8) + 4))) (nI_add (69 + 5 * (8 * hix + (t_1 + dx_3) % 8)) (4)) ?_
  refine lv_dup2_11 hx hb dX7_probes_24 rfl rfl ?_
  refine va_iald hx hb hK hP 0 0 rfl rfl (vp_in_nI (show 69 + 5 * (8 * hix + (t_1 + dx_3) % 8) + 4 < 1767 by omega) (by decide)) dX7_probes_25 ?_
  refine lv_eqi (y := (fno (69 + 5 * (8 * hix + (t_1 + dx_3) % 8) + 4))) (congrArg fno (nI_clamp (show 69 + 5 * (8 * hix + (t_1 + dx_3) % 8) + 4 < 2 ^ 31 by omega))) ?_
  refine lv_topi (fun y_6 _ => ?_)
  refine lv_iconst (v := 1) hx hb dX7_probes_26 (by decide) ?_
  refine lv_iload_n hx hb dX7_probes_27 rfl (lv_at hl 2 rfl) ?_
  refine lv_ishl hx hb dX7_probes_28 ?_
  refine lv_topi (fun y_7 _ => ?_)
  refine lv_ior hx hb dX7_probes_29 ?_
  refine lv_topi (fun y_8 _ => ?_)
  refine va_iast hx hb hK hP hD hS 0 0 rfl rfl (vp_in_nI (show 69 + 5 * (8 * hix + (t_1 + dx_3) % 8) + 4 < 1767 by omega) (by decide)) dX7_probes_30 (fun H locs hP2 hD2 hS2 => ?_)
  clear hP hD hS
  have hPD : PD D A [(Mn, .inl (g 0, 1767, .inl (upd fno (nI (69 + 5 * (8 * hix + (t_1 + dx_3) % 8) + 4)).toNatClampNeg y_8))), (Mm, .inr (7, [.int zth, .ref Mt, .int (nI tp), .int zma, .int zwr, .ref Mrr, .ref Mrh, .ref Mrc, .int zrh, .int zrc, .ref Mn, .ref Mf, .ref Mr, .ref Mh, .int (nI hp), .int (nI cc), .ref Ma, .ref Mas, .ref Msn, .ref Mac, .ref Mat])), (Mh, .inl (g 0, 9, .inl fmh))] H := ⟨hP2, hD2⟩
  have hS := hS2; clear hP2 hD2 hS2; have hP := hPD.1; have hD := hPD.2; clear hPD
  rw [nI_clamp (show 69 + 5 * (8 * hix + (t_1 + dx_3) % 8) + 4 < 2 ^ 31 by omega)] at hP hD
  have hPD : PD D A [(Mn, .inl (g 0, 1767, .inl (upd fno (69 + 5 * (8 * hix + (t_1 + dx_3) % 8) + 4) y_8))), (Mm, .inr (7, [.int zth, .ref Mt, .int (nI tp), .int zma, .int zwr, .ref Mrr, .ref Mrh, .ref Mrc, .int zrh, .int zrc, .ref Mn, .ref Mf, .ref Mr, .ref Mh, .int (nI hp), .int (nI cc), .ref Ma, .ref Mas, .ref Msn, .ref Mac, .ref Mat])), (Mh, .inl (g 0, 9, .inl fmh))] H := ⟨hP, hD⟩
  clear hP hD; have hP := hPD.1; have hD := hPD.2; clear hPD
  have hF_9 : mOK gs tb ub (upd fno (69 + 5 * (8 * hix + (t_1 + dx_3) % 8) + 4) y_8) := mOK_free h2 (show mfree (69 + 5 * (8 * hix + (t_1 + dx_3) % 8) + 4) by unfold mfree; omega)
  generalize upd fno (69 + 5 * (8 * hix + (t_1 + dx_3) % 8) + 4) y_8 = F_9 at hP hD hF_9
  refine lv_aload_n hx hb dX7_probes_31 rfl (lv_at hl 0 rfl) ?_
  refine va_get (D := D) (ci := 7) (v := .ref Mn) (C := RX7) (T := TX7) (N := 21) hx hb hts iX7 hown hK hP 1 rfl rfl 10 (by decide) f22 (fun _ h9 => h9) rfl dX7_probes_32 ?_
  refine lv_sipush (v := 1766) hx hb dX7_probes_35 (by decide) ?_
  refine lv_dup2_11 hx hb dX7_probes_38 rfl rfl ?_
  refine va_iald hx hb hK hP 0 0 rfl rfl (by unfold vp_in; decide) dX7_probes_39 ?_
  refine lv_eqi (y := (F_9 1766)) (rfl) ?_
  refine lv_topi (fun y_10 _ => ?_)
  refine lv_iconst (v := 1) hx hb dX7_probes_40 (by decide) ?_
  refine lv_iadd hx hb dX7_probes_41 ?_
  refine lv_topi (fun y_11 _ => ?_)
  refine va_iast hx hb hK hP hD hS 0 0 rfl rfl (by unfold vp_in; decide) dX7_probes_42 (fun H locs hP2 hD2 hS2 => ?_)
  clear hP hD hS
  have hPD : PD D A [(Mn, .inl (g 0, 1767, .inl (upd F_9 1766 y_11))), (Mm, .inr (7, [.int zth, .ref Mt, .int (nI tp), .int zma, .int zwr, .ref Mrr, .ref Mrh, .ref Mrc, .int zrh, .int zrc, .ref Mn, .ref Mf, .ref Mr, .ref Mh, .int (nI hp), .int (nI cc), .ref Ma, .ref Mas, .ref Msn, .ref Mac, .ref Mat])), (Mh, .inl (g 0, 9, .inl fmh))] H := ⟨hP2, hD2⟩
  have hS := hS2; clear hP2 hD2 hS2; have hP := hPD.1; have hD := hPD.2; clear hPD
  have hF_12 : mOK gs tb ub (upd F_9 1766 y_11) := mOK_free hF_9 (show mfree (1766) by unfold mfree; omega)
  generalize upd F_9 1766 y_11 = F_12 at hP hD hF_12
  refine lv_aload_n hx hb dX7_probes_43 rfl (lv_at hl 0 rfl) ?_
  refine va_get (D := D) (ci := 7) (v := .ref Mn) (C := RX7) (T := TX7) (N := 21) hx hb hts iX7 hown hK hP 1 rfl rfl 10 (by decide) f22 (fun _ h9 => h9) rfl dX7_probes_44 ?_
  refine lv_iload_n hx hb dX7_probes_47 rfl (lv_at hl 1 rfl) ?_
  refine lv_iload_n hx hb dX7_probes_48 rfl (lv_at hl 2 rfl) ?_
  refine ky_Si (As := [.int (nI hix), .int (nI cx)]) (rest := [.ref Mn]) ⟨hx, hb, hml, hown, hts⟩ ⟨hK, hN⟩ hZ hP hD hS hA [] [0, 1, 2] (wc := []) (wr := [(Mn, .inl (g 0, 1767, .inl F_12)), (Mm, .inr (7, [.int zth, .ref Mt, .int (nI tp), .int zma, .int zwr, .ref Mrr, .ref Mrh, .ref Mrc, .int zrh, .int zrc, .ref Mn, .ref Mf, .ref Mr, .ref Mh, .int (nI hp), .int (nI cc), .ref Ma, .ref Mas, .ref Msn, .ref Mac, .ref Mat])), (Mh, .inl (g 0, 9, .inl fmh))]) rfl rfl rfl rfl (by decide) (k_X7_lane l D g H.size hix cx (show hix < 3 by omega) (show cx < 3 by omega)) (va_cwS 2 hts gX7_probes_X7_lane rfl rfl rfl (by decide +kernel) ⟨(Nat.le_of_ble_eq_true rfl), (Nat.le_of_ble_eq_true rfl)⟩) rfl hl.1 rfl (Nat.le_of_ble_eq_true rfl) dX7_probes_49 ⟨(Nat.le_of_ble_eq_true rfl), (Nat.le_of_ble_eq_true rfl)⟩ (fun r_13 u H locs hw hP2 hD2 hS2 => ?_)
  clear hP hD hS
  obtain ⟨rfl, rfl⟩ := hw
  have hPD : PD D A [(Mn, .inl (g 0, 1767, .inl F_12)), (Mm, .inr (7, [.int zth, .ref Mt, .int (nI tp), .int zma, .int zwr, .ref Mrr, .ref Mrh, .ref Mrc, .int zrh, .int zrc, .ref Mn, .ref Mf, .ref Mr, .ref Mh, .int (nI hp), .int (nI cc), .ref Ma, .ref Mas, .ref Msn, .ref Mac, .ref Mat])), (Mh, .inl (g 0, 9, .inl fmh))] H := ⟨hP2, hD2⟩
  have hS := hS2; clear hP2 hD2 hS2; have hP := hPD.1; have hD := hPD.2; clear hPD
  refine W.widen (k := 0) (n := 0) (Nat.le_of_ble_eq_true rfl) (Nat.le_of_ble_eq_true rfl) ?_
  refine lv_iconst (v := 4) hx hb dX7_probes_52 (by decide) ?_
  refine lv_iadd hx hb dX7_probes_53 ?_
  refine lv_eqi (y := (nI (7 * (3 * hix + cx) + 4))) (nI_add (7 * (3 * hix + cx)) (4)) ?_
  refine lv_iconst (v := 0) hx hb dX7_probes_54 (by decide) ?_
  refine va_iast hx hb hK hP hD hS 0 0 rfl rfl (vp_in_nI (show 7 * (3 * hix + cx) + 4 < 1767 by omega) (by decide)) dX7_probes_55 (fun H locs hP2 hD2 hS2 => ?_)
  clear hP hD hS
  have hPD : PD D A [(Mn, .inl (g 0, 1767, .inl (upd F_12 (nI (7 * (3 * hix + cx) + 4)).toNatClampNeg 0))), (Mm, .inr (7, [.int zth, .ref Mt, .int (nI tp), .int zma, .int zwr, .ref Mrr, .ref Mrh, .ref Mrc, .int zrh, .int zrc, .ref Mn, .ref Mf, .ref Mr, .ref Mh, .int (nI hp), .int (nI cc), .ref Ma, .ref Mas, .ref Msn, .ref Mac, .ref Mat])), (Mh, .inl (g 0, 9, .inl fmh))] H := ⟨hP2, hD2⟩
  have hS := hS2; clear hP2 hD2 hS2; have hP := hPD.1; have hD := hPD.2; clear hPD
  rw [nI_clamp (show 7 * (3 * hix + cx) + 4 < 2 ^ 31 by omega)] at hP hD
  have hPD : PD D A [(Mn, .inl (g 0, 1767, .inl (upd F_12 (7 * (3 * hix + cx) + 4) 0))), (Mm, .inr (7, [.int zth, .ref Mt, .int (nI tp), .int zma, .int zwr, .ref Mrr, .ref Mrh, .ref Mrc, .int zrh, .int zrc, .ref Mn, .ref Mf, .ref Mr, .ref Mh, .int (nI hp), .int (nI cc), .ref Ma, .ref Mas, .ref Msn, .ref Mac, .ref Mat])), (Mh, .inl (g 0, 9, .inl fmh))] H := ⟨hP, hD⟩
  clear hP hD; have hP := hPD.1; have hD := hPD.2; clear hPD
  have hF_14 : mOK gs tb ub (upd F_12 (7 * (3 * hix + cx) + 4) 0) := mOK_free hF_12 (show mfree (7 * (3 * hix + cx) + 4) by unfold mfree; omega)
  generalize upd F_12 (7 * (3 * hix + cx) + 4) 0 = F_14 at hP hD hF_14
  have hPD9 : PD D A [(Mm, .inr (7, [.int zth, .ref Mt, .int (nI tp), .int zma, .int zwr, .ref Mrr, .ref Mrh, .ref Mrc, .int zrh, .int zrc, .ref Mn, .ref Mf, .ref Mr, .ref Mh, .int (nI hp), .int (nI cc), .ref Ma, .ref Mas, .ref Msn, .ref Mac, .ref Mat])), (Mn, .inl (g 0, 1767, .inl F_14)), (Mh, .inl (g 0, 9, .inl fmh))] H := ⟨hP.sub [1, 0, 2] rfl, hD.sub [1, 0, 2] (by decide) rfl⟩
  have hP9 := hPD9.1; have hD9 := hPD9.2
  subst hQ
  refine W.widen (k := 0) (n := 0) (Nat.le_of_ble_eq_true rfl) (Nat.le_of_ble_eq_true rfl) ?_
  exact W.vret hx hb hr (fun tS htS _ => ⟨⟨_, rfl, ⟨F_14, rfl, (hF_14)⟩, by rw [htS]; exact hP9, hD9⟩, hS.F htS⟩) hS.2.2 dX7_probes_56

set_option maxHeartbeats 4000000 in
set_option maxRecDepth 100000 in
theorem k_X7_arrives (l : Launch) (D : va_G) (g : Nat → ClassId) (sz : Nat) {gs : Nat → Int32} (Mm : Nat) (hix : Nat) (zth : Int32) (Mt : Nat) (tp : Nat) (zma : Int32) (zwr : Int32) (Mrr : Nat) (Mrh : Nat) (Mrc : Nat) (zrh : Int32) (zrc : Int32) (Mn : Nat) (Mf : Nat) (Mr : Nat) (Mh : Nat) (hp : Nat) (cc : Nat) (Ma : Nat) (Mas : Nat) (Msn : Nat) (Mac : Nat) (Mat : Nat) (fno : Nat → Int32) (fmh : Nat → Int32) (tb : Nat) (ub : Nat) (h0 : tb < 2 ^ 29) (h1 : ub < 2 ^ 29) (h2 : mOK gs tb ub fno) (h3 : 1 ≤ cc) (h4 : cc ≤ 3) (h5 : hix < 3) (h6 : n3 fmh) : Met l yX7_arrives wsX7_arrives ({ frames := 2, cells := 0, slots := 0, locals := 45 }) (va_Pc [.ref Mm, .int (nI hix)] (pre D g sz [(Mm, .inr (7, [.int zth, .ref Mt, .int (nI tp), .int zma, .int zwr, .ref Mrr, .ref Mrh, .ref Mrc, .int zrh, .int zrc, .ref Mn, .ref Mf, .ref Mr, .ref Mh, .int (nI hp), .int (nI cc), .ref Ma, .ref Mas, .ref Msn, .ref Mac, .ref Mat])), (Mn, .inl (g 0, 1767, .inl fno)), (Mh, .inl (g 0, 9, .inl fmh))])) (va_Qv (fun (u : va_W) => ∃ (fnox : Nat → Int32), u = [(Mm, .inr (7, [.int zth, .ref Mt, .int (nI tp), .int zma, .int zwr, .ref Mrr, .ref Mrh, .ref Mrc, .int zrh, .int zrc, .ref Mn, .ref Mf, .ref Mr, .ref Mh, .int (nI hp), .int (nI cc), .ref Ma, .ref Mas, .ref Msn, .ref Mac, .ref Mat])), (Mn, .inl (g 0, 1767, .inl fnox)), (Mh, .inl (g 0, 9, .inl fmh))] ∧ (mOK gs tb ub fnox)) (wd D (va_A [(Mm, .inr (7, [.int zth, .ref Mt, .int (nI tp), .int zma, .int zwr, .ref Mrr, .ref Mrh, .ref Mrc, .int zrh, .int zrc, .ref Mn, .ref Mf, .ref Mr, .ref Mh, .int (nI hp), .int (nI cc), .ref Ma, .ref Mas, .ref Msn, .ref Mac, .ref Mat])), (Mn, .inl (g 0, 1767, .inl fno)), (Mh, .inl (g 0, 9, .inl fmh))] sz)) (va_A [(Mm, .inr (7, [.int zth, .ref Mt, .int (nI tp), .int zma, .int zwr, .ref Mrr, .ref Mrh, .ref Mrc, .int zrh, .int zrc, .ref Mn, .ref Mf, .ref Mr, .ref Mh, .int (nI hp), .int (nI cc), .ref Ma, .ref Mas, .ref Msn, .ref Mac, .ref Mat])), (Mn, .inl (g 0, 1767, .inl fno)), (Mh, .inl (g 0, 9, .inl fmh))] sz)) 0 0 (va_A [(Mm, .inr (7, [.int zth, .ref Mt, .int (nI tp), .int zma, .int zwr, .ref Mrr, .ref Mrh, .ref Mrc, .int zrh, .int zrc, .ref Mn, .ref Mf, .ref Mr, .ref Mh, .int (nI hp), .int (nI cc), .ref Ma, .ref Mas, .ref Msn, .ref Mac, .ref Mat])), (Mn, .inl (g 0, 1767, .inl fno)), (Mh, .inl (g 0, 9, .inl fmh))] sz) := by
  refine Met.ofW (cc := cX7_arrives) (maxL := 6) (ret := none) (by decide) rfl ?_
  intro p e s m args below meth c s₁ B hml hv
  obtain ⟨rfl, hsz, hP, ⟨hK, hN⟩, hD0, hZ⟩ := hv
  have hx := B.exec
  have hb := B.bytes
  have hr := B.returns
  have hts := atoms_spec (ws := wsX7_arrives) B.pre
  have hown : s.vm.findClass RX7 = some m.cls := findClass_of_methodNamed B.named
  have hlocks := B.notSynchronized
  clear B
  subst hsz
  have hD := hD0.self (sz := s.heap.size)
  clear hD0
  generalize hAe : va_A [(Mm, .inr (7, [.int zth, .ref Mt, .int (nI tp), .int zma, .int zwr, .ref Mrr, .ref Mrh, .ref Mrc, .int zrh, .int zrc, .ref Mn, .ref Mf, .ref Mr, .ref Mh, .int (nI hp), .int (nI cc), .ref Ma, .ref Mas, .ref Msn, .ref Mac, .ref Mat])), (Mn, .inl (g 0, 1767, .inl fno)), (Mh, .inl (g 0, 9, .inl fmh))] s.heap.size = A at hD hZ ⊢
  have hA : ∀ q : Nat, s.heap.size ≤ q → A q := fun q h => by rw [← hAe]; exact Or.inr h
  have hS : va_S A s.heap s.heap [] := va_S.rf
  have f127 := hts (.fieldLink RX7 127 "HopCreditsModel" "circuits" "I") (List.mem_of_getElem? (i := 2) rfl)
  have f22 := hts (.fieldLink RX7 22 "HopCreditsModel" "now" "[I") (List.mem_of_getElem? (i := 1) rfl)
  have iX7 : ∀ w ∈ u_ws RX7 TX7 21, w ∈ wsX7_arrives := fun w h => List.mem_cons_of_mem _ (List.mem_append_right _ (h))
  have hl := lv_entry ([.ref Mm, .int (nI hix)]) (n := 6) (Nat.le_of_ble_eq_true rfl)
  rw [lg_entry_eq]
  generalize (lg_sl ([.ref Mm, .int (nI hix)]) ++ List.replicate (6 - (lg_sl ([.ref Mm, .int (nI hix)])).length) Slot.unset).toArray = ls at hl ⊢
  have hl : lv_has ls 6 [(0, .ref Mm), (1, .int (nI hix))] := hl
  generalize hQ : MQ below _ _ s _ _ _ = Q
  generalize hH : s.heap = H at hP ⊢
  have hS : va_S A s.heap H [] := by rw [← hH]; exact hS
  clear hH
  refine lv_iload_n hx hb dX7_arrives_0 rfl (lv_at hl 1 rfl) ?_
  refine lv_aload_n hx hb dX7_arrives_1 rfl (lv_at hl 0 rfl) ?_
  refine va_get (D := D) (ci := 7) (v := .ref Mn) (C := RX7) (T := TX7) (N := 21) hx hb hts iX7 hown hK hP 0 rfl rfl 10 (by decide) f22 (fun _ h9 => h9) rfl dX7_arrives_2 ?_
  refine lv_sipush (v := 1764) hx hb dX7_arrives_5 (by decide) ?_
  refine va_iald hx hb hK hP 1 0 rfl rfl (by unfold vp_in; decide) dX7_arrives_8 ?_
  refine lv_eqi (y := (fno 1764)) (rfl) ?_
  obtain ⟨t_1, ht_1, q9⟩ := mOK_t h2
  refine lv_eqi (y := nI t_1) q9 ?_
  refine ky_Si (As := [.int (nI hix), .int (nI t_1)]) (rest := []) ⟨hx, hb, hml, hown, hts⟩ ⟨hK, hN⟩ hZ hP hD hS hA [] [0, 1, 2] (wc := []) (wr := [(Mm, .inr (7, [.int zth, .ref Mt, .int (nI tp), .int zma, .int zwr, .ref Mrr, .ref Mrh, .ref Mrc, .int zrh, .int zrc, .ref Mn, .ref Mf, .ref Mr, .ref Mh, .int (nI hp), .int (nI cc), .ref Ma, .ref Mas, .ref Msn, .ref Mac, .ref Mat])), (Mn, .inl (g 0, 1767, .inl fno)), (Mh, .inl (g 0, 9, .inl fmh))]) rfl rfl rfl rfl (by decide) (k_X7_wayAt l D g H.size hix t_1 (show hix < 3 by omega) (show t_1 < 2 ^ 30 by omega)) (va_cwS 2 hts gX7_arrives_X7_wayAt rfl rfl rfl (by decide +kernel) ⟨(Nat.le_of_ble_eq_true rfl), (Nat.le_of_ble_eq_true rfl)⟩) rfl hl.1 rfl (Nat.le_of_ble_eq_true rfl) dX7_arrives_9 ⟨(Nat.le_of_ble_eq_true rfl), (Nat.le_of_ble_eq_true rfl)⟩ (fun r_2 u H locs hw hP2 hD2 hS2 => ?_)
  clear hP hD hS
  obtain ⟨rfl, rfl⟩ := hw
  have hPD : PD D A [(Mm, .inr (7, [.int zth, .ref Mt, .int (nI tp), .int zma, .int zwr, .ref Mrr, .ref Mrh, .ref Mrc, .int zrh, .int zrc, .ref Mn, .ref Mf, .ref Mr, .ref Mh, .int (nI hp), .int (nI cc), .ref Ma, .ref Mas, .ref Msn, .ref Mac, .ref Mat])), (Mn, .inl (g 0, 1767, .inl fno)), (Mh, .inl (g 0, 9, .inl fmh))] H := ⟨hP2, hD2⟩
  have hS := hS2; clear hP2 hD2 hS2; have hP := hPD.1; have hD := hPD.2; clear hPD
  refine W.widen (k := 0) (n := 0) (Nat.le_of_ble_eq_true rfl) (Nat.le_of_ble_eq_true rfl) ?_
  refine lv_istore_n (lv' := [(2, .int (nI (69 + 5 * (8 * hix + t_1 % 8)))), (0, .ref Mm), (1, .int (nI hix))]) hx hb dX7_arrives_12 rfl hl (by decide) rfl (fun ls hl => ?_)
  refine lv_aload_n hx hb dX7_arrives_13 rfl (lv_at hl 1 rfl) ?_
  refine va_get (D := D) (ci := 7) (v := .ref Mn) (C := RX7) (T := TX7) (N := 21) hx hb hts iX7 hown hK hP 0 rfl rfl 10 (by decide) f22 (fun _ h9 => h9) rfl dX7_arrives_14 ?_
  refine lv_iload_n hx hb dX7_arrives_17 rfl (lv_at hl 0 rfl) ?_
  refine lv_iconst (v := 0) hx hb dX7_arrives_18 (by decide) ?_
  refine lv_iadd hx hb dX7_arrives_19 ?_
  refine lv_eqi (y := (nI (69 + 5 * (8 * hix + t_1 % 8) + 0))) (nI_add (69 + 5 * (8 * hix + t_1 % 8)) (0)) ?_
  refine va_iald hx hb hK hP 1 0 rfl rfl (vp_in_nI (show 69 + 5 * (8 * hix + t_1 % 8) + 0 < 1767 by omega) (by decide)) dX7_arrives_20 ?_
  refine lv_eqi (y := (fno (69 + 5 * (8 * hix + t_1 % 8) + 0))) (congrArg fno (nI_clamp (show 69 + 5 * (8 * hix + t_1 % 8) + 0 < 2 ^ 31 by omega))) ?_
  refine lv_topc (mOK_c h2 (show cidx (69 + 5 * (8 * hix + t_1 % 8) + 0) by unfold cidx; omega)) (fun y_3 hc_4 => ?_)
  refine lv_istore_n (lv' := [(3, .int y_3), (2, .int (nI (69 + 5 * (8 * hix + t_1 % 8)))), (0, .ref Mm), (1, .int (nI hix))]) hx hb dX7_arrives_21 rfl hl (by decide) rfl (fun ls hl => ?_)
  refine lv_iload_n hx hb dX7_arrives_22 rfl (lv_at hl 0 rfl) ?_
  refine lv_iconst (v := (-1)) hx hb dX7_arrives_23 (by decide) ?_
  refine lv_icmp_eq (tgt := 43) hx hb dX7_arrives_24 (by decide) (fun cb_5 => ?_) (fun cb_5 => ?_)
  · skip
    have hPq_6 := hP; have hDq_6 := hD; have hSq_6 := hS; have hlq_6 := hl; clear hP hD hS hl
    subst cb_5
    have hP := hPq_6; have hD := hDq_6; have hS := hSq_6; have hl := hlq_6; clear hPq_6 hDq_6 hSq_6 hlq_6
    refine lv_iconst (v := 0) hx hb dX7_arrives_43 (by decide) ?_
    refine lv_istore (lv' := [(4, .int 0), (3, .int (-1)), (2, .int (nI (69 + 5 * (8 * hix + t_1 % 8)))), (0, .ref Mm), (1, .int (nI hix))]) hx hb dX7_arrives_44 hl (by decide) rfl (fun ls hl => ?_)
    have loop_30 : ∀ (Nloop_30 : Nat) (i_16 : Nat) (F_17 : Nat → Int32) (hF_17 : mOK gs tb ub F_17) (hbi_16 : i_16 ≤ cc) (hmloop_30 : cc - i_16 < Nloop_30) (H : Heap) (locs : List Loc) (ls : Array Slot), va_P D vwCl [(Mm, .inr (7, [.int zth, .ref Mt, .int (nI tp), .int zma, .int zwr, .ref Mrr, .ref Mrh, .ref Mrc, .int zrh, .int zrc, .ref Mn, .ref Mf, .ref Mr, .ref Mh, .int (nI hp), .int (nI cc), .ref Ma, .ref Mas, .ref Msn, .ref Mac, .ref Mat])), (Mn, .inl (g 0, 1767, .inl F_17)), (Mh, .inl (g 0, 9, .inl fmh))] H → va_D A [(Mm, .inr (7, [.int zth, .ref Mt, .int (nI tp), .int zma, .int zwr, .ref Mrr, .ref Mrh, .ref Mrc, .int zrh, .int zrc, .ref Mn, .ref Mf, .ref Mr, .ref Mh, .int (nI hp), .int (nI cc), .ref Ma, .ref Mas, .ref Msn, .ref Mac, .ref Mat])), (Mn, .inl (g 0, 1767, .inl F_17)), (Mh, .inl (g 0, 9, .inl fmh))] → va_S A s.heap H locs → lv_has ls 6 [(4, .int (nI i_16)), (2, .int (nI (69 + 5 * (8 * hix + t_1 % 8)))), (0, .ref Mm), (1, .int (nI hix))] → W p l e (headSpec wsX7_arrives ({ frames := 2, cells := 0, slots := 0, locals := 45 })).room s m ([.ref Mm, .int (nI hix)] : List Value).toArray below meth c H locs 0 0 Q (F0 m 46 ls []) := by
      clear hP hD hS hl
      intro Nloop_30
      induction Nloop_30 with
      | zero => intro i_16 F_17 hF_17 hbi_16 hm9; exact absurd hm9 (Nat.not_lt_zero _)
      | succ Nloop_30 loop_30_ih =>
        intro i_16 F_17 hF_17 hbi_16 hmloop_30 H locs ls hP hD hS hl
        refine lv_iload hx hb dX7_arrives_46 (lv_at hl 0 rfl) ?_
        refine lv_aload_n hx hb dX7_arrives_48 rfl (lv_at hl 2 rfl) ?_
        refine va_get (D := D) (ci := 7) (v := .int (nI cc)) (C := RX7) (T := TX7) (N := 21) hx hb hts iX7 hown hK hP 0 rfl rfl 15 (by decide) f127 (fun _ h9 => h9) rfl dX7_arrives_49 ?_
        refine lv_icmp_ge (tgt := 118) hx hb dX7_arrives_52 (by decide) (fun cb_31 => ?_) (fun cb_31 => ?_)
        · skip
          have cn_32 : cc ≤ i_16 := (nI_leI (show cc < 2 ^ 31 by omega) (show i_16 < 2 ^ 31 by omega)).mp cb_31
          refine lv_aload_n hx hb dX7_arrives_118 rfl (lv_at hl 2 rfl) ?_
          refine va_get (D := D) (ci := 7) (v := .ref Mn) (C := RX7) (T := TX7) (N := 21) hx hb hts iX7 hown hK hP 0 rfl rfl 10 (by decide) f22 (fun _ h9 => h9) rfl dX7_arrives_119 ?_
          refine lv_iload_n hx hb dX7_arrives_122 rfl (lv_at hl 1 rfl) ?_
          refine lv_iconst (v := 4) hx hb dX7_arrives_123 (by decide) ?_
          refine lv_iadd hx hb dX7_arrives_124 ?_
          refine lv_eqi (y := (nI (69 + 5 * (8 * hix + t_1 % 8) + 4))) (nI_add (69 + 5 * (8 * hix + t_1 % 8)) (4)) ?_
          refine va_iald hx hb hK hP 1 0 rfl rfl (vp_in_nI (show 69 + 5 * (8 * hix + t_1 % 8) + 4 < 1767 by omega) (by decide)) dX7_arrives_125 ?_
          refine lv_eqi (y := (F_17 (69 + 5 * (8 * hix + t_1 % 8) + 4))) (congrArg F_17 (nI_clamp (show 69 + 5 * (8 * hix + t_1 % 8) + 4 < 2 ^ 31 by omega))) ?_
          refine lv_topi (fun y_33 _ => ?_)
          refine lv_istore (lv' := [(4, .int y_33), (2, .int (nI (69 + 5 * (8 * hix + t_1 % 8)))), (0, .ref Mm), (1, .int (nI hix))]) hx hb dX7_arrives_126 hl (by decide) rfl (fun ls hl => ?_)
          refine lv_aload_n hx hb dX7_arrives_128 rfl (lv_at hl 2 rfl) ?_
          refine lv_iload_n hx hb dX7_arrives_129 rfl (lv_at hl 3 rfl) ?_
          refine lv_aload_n hx hb dX7_arrives_130 rfl (lv_at hl 2 rfl) ?_
          refine va_get (D := D) (ci := 7) (v := .ref Mn) (C := RX7) (T := TX7) (N := 21) hx hb hts iX7 hown hK hP 0 rfl rfl 10 (by decide) f22 (fun _ h9 => h9) rfl dX7_arrives_131 ?_
          refine lv_sipush (v := 1764) hx hb dX7_arrives_134 (by decide) ?_
          refine va_iald hx hb hK hP 1 0 rfl rfl (by unfold vp_in; decide) dX7_arrives_137 ?_
          refine lv_eqi (y := (F_17 1764)) (rfl) ?_
          obtain ⟨t_34, ht_34, q9⟩ := mOK_t hF_17
          refine lv_eqi (y := nI t_34) q9 ?_
          refine ky_Vv (As := [.int (nI hix), .int (nI t_34)]) (rest := []) ⟨hx, hb, hml, hown, hts⟩ ⟨hK, hN⟩ hZ hP hD hS hA [0, 1] [2] (wc := [(Mm, .inr (7, [.int zth, .ref Mt, .int (nI tp), .int zma, .int zwr, .ref Mrr, .ref Mrh, .ref Mrc, .int zrh, .int zrc, .ref Mn, .ref Mf, .ref Mr, .ref Mh, .int (nI hp), .int (nI cc), .ref Ma, .ref Mas, .ref Msn, .ref Mac, .ref Mat])), (Mn, .inl (g 0, 1767, .inl F_17))]) (wr := [(Mh, .inl (g 0, 9, .inl fmh))]) rfl rfl rfl rfl (by decide) (k_X7_clearsWay l D g H.size Mm hix t_34 zth Mt tp zma zwr Mrr Mrh Mrc zrh zrc Mn Mf Mr Mh hp cc Ma Mas Msn Mac Mat F_17 tb ub (show tb < 2 ^ 29 by omega) (show ub < 2 ^ 29 by omega) (hF_17) (show hix < 3 by omega) (show t_34 < 2 ^ 30 by omega)) (cwV 2 hts gX7_arrives_X7_clearsWay rfl rfl rfl (by decide +kernel) ⟨(Nat.le_of_ble_eq_true rfl), (Nat.le_of_ble_eq_true rfl)⟩) 0 7 rfl rfl rfl rfl hl.1 rfl (Nat.le_of_ble_eq_true rfl) dX7_arrives_138 ⟨(Nat.le_of_ble_eq_true rfl), (Nat.le_of_ble_eq_true rfl)⟩ (fun u H locs hw hP2 hD2 hS2 => ?_)
          clear hP hD hS
          obtain ⟨fnox_36, rfl, hf_37⟩ := hw
          have hPD : PD D A [(Mh, .inl (g 0, 9, .inl fmh)), (Mm, .inr (7, [.int zth, .ref Mt, .int (nI tp), .int zma, .int zwr, .ref Mrr, .ref Mrh, .ref Mrc, .int zrh, .int zrc, .ref Mn, .ref Mf, .ref Mr, .ref Mh, .int (nI hp), .int (nI cc), .ref Ma, .ref Mas, .ref Msn, .ref Mac, .ref Mat])), (Mn, .inl (g 0, 1767, .inl fnox_36))] H := ⟨hP2, hD2⟩
          have hS := hS2; clear hP2 hD2 hS2; have hP := hPD.1; have hD := hPD.2; clear hPD
          refine W.widen (k := 0) (n := 0) (Nat.le_of_ble_eq_true rfl) (Nat.le_of_ble_eq_true rfl) ?_
          refine lv_iconst (v := 0) hx hb dX7_arrives_141 (by decide) ?_
          refine lv_istore (lv' := [(5, .int 0), (4, .int y_33), (2, .int (nI (69 + 5 * (8 * hix + t_1 % 8)))), (0, .ref Mm), (1, .int (nI hix))]) hx hb dX7_arrives_142 hl (by decide) rfl (fun ls hl => ?_)
          have loop_55 : ∀ (Nloop_55 : Nat) (i_44 : Nat) (F_45 : Nat → Int32) (hF_45 : mOK gs tb ub F_45) (hbi_44 : i_44 ≤ cc) (hmloop_55 : cc - i_44 < Nloop_55) (H : Heap) (locs : List Loc) (ls : Array Slot), va_P D vwCl [(Mh, .inl (g 0, 9, .inl fmh)), (Mm, .inr (7, [.int zth, .ref Mt, .int (nI tp), .int zma, .int zwr, .ref Mrr, .ref Mrh, .ref Mrc, .int zrh, .int zrc, .ref Mn, .ref Mf, .ref Mr, .ref Mh, .int (nI hp), .int (nI cc), .ref Ma, .ref Mas, .ref Msn, .ref Mac, .ref Mat])), (Mn, .inl (g 0, 1767, .inl F_45))] H → va_D A [(Mh, .inl (g 0, 9, .inl fmh)), (Mm, .inr (7, [.int zth, .ref Mt, .int (nI tp), .int zma, .int zwr, .ref Mrr, .ref Mrh, .ref Mrc, .int zrh, .int zrc, .ref Mn, .ref Mf, .ref Mr, .ref Mh, .int (nI hp), .int (nI cc), .ref Ma, .ref Mas, .ref Msn, .ref Mac, .ref Mat])), (Mn, .inl (g 0, 1767, .inl F_45))] → va_S A s.heap H locs → lv_has ls 6 [(5, .int (nI i_44)), (4, .int y_33), (0, .ref Mm), (1, .int (nI hix))] → W p l e (headSpec wsX7_arrives ({ frames := 2, cells := 0, slots := 0, locals := 45 })).room s m ([.ref Mm, .int (nI hix)] : List Value).toArray below meth c H locs 0 0 Q (F0 m 144 ls []) := by
            clear hP hD hS hl
            intro Nloop_55
            induction Nloop_55 with
            | zero => intro i_44 F_45 hF_45 hbi_44 hm9; exact absurd hm9 (Nat.not_lt_zero _)
            | succ Nloop_55 loop_55_ih =>
              intro i_44 F_45 hF_45 hbi_44 hmloop_55 H locs ls hP hD hS hl
              refine lv_iload hx hb dX7_arrives_144 (lv_at hl 0 rfl) ?_
              refine lv_aload_n hx hb dX7_arrives_146 rfl (lv_at hl 2 rfl) ?_
              refine va_get (D := D) (ci := 7) (v := .int (nI cc)) (C := RX7) (T := TX7) (N := 21) hx hb hts iX7 hown hK hP 1 rfl rfl 15 (by decide) f127 (fun _ h9 => h9) rfl dX7_arrives_147 ?_
              refine lv_icmp_ge (tgt := 176) hx hb dX7_arrives_150 (by decide) (fun cb_56 => ?_) (fun cb_56 => ?_)
              · skip
                have cn_57 : cc ≤ i_44 := (nI_leI (show cc < 2 ^ 31 by omega) (show i_44 < 2 ^ 31 by omega)).mp cb_56
                have hPD9 : PD D A [(Mm, .inr (7, [.int zth, .ref Mt, .int (nI tp), .int zma, .int zwr, .ref Mrr, .ref Mrh, .ref Mrc, .int zrh, .int zrc, .ref Mn, .ref Mf, .ref Mr, .ref Mh, .int (nI hp), .int (nI cc), .ref Ma, .ref Mas, .ref Msn, .ref Mac, .ref Mat])), (Mn, .inl (g 0, 1767, .inl F_45)), (Mh, .inl (g 0, 9, .inl fmh))] H := ⟨hP.sub [1, 2, 0] rfl, hD.sub [1, 2, 0] (by decide) rfl⟩
                have hP9 := hPD9.1; have hD9 := hPD9.2
                subst hQ
                refine W.widen (k := 0) (n := 0) (Nat.le_of_ble_eq_true rfl) (Nat.le_of_ble_eq_true rfl) ?_
                exact W.vret hx hb hr (fun tS htS _ => ⟨⟨_, rfl, ⟨F_45, rfl, (hF_45)⟩, by rw [htS]; exact hP9, hD9⟩, hS.F htS⟩) hS.2.2 dX7_arrives_176
              · skip
                have cn_58 : i_44 < cc := Nat.lt_of_not_le (fun q9 => cb_56 ((nI_leI (show cc < 2 ^ 31 by omega) (show i_44 < 2 ^ 31 by omega)).mpr q9))
                refine lv_iload hx hb dX7_arrives_153 (lv_at hl 1 rfl) ?_
                refine lv_iload hx hb dX7_arrives_155 (lv_at hl 0 rfl) ?_
                refine ky_Si (As := [.int y_33, .int (nI i_44)]) (rest := []) ⟨hx, hb, hml, hown, hts⟩ ⟨hK, hN⟩ hZ hP hD hS hA [] [0, 1, 2] (wc := []) (wr := [(Mh, .inl (g 0, 9, .inl fmh)), (Mm, .inr (7, [.int zth, .ref Mt, .int (nI tp), .int zma, .int zwr, .ref Mrr, .ref Mrh, .ref Mrc, .int zrh, .int zrc, .ref Mn, .ref Mf, .ref Mr, .ref Mh, .int (nI hp), .int (nI cc), .ref Ma, .ref Mas, .ref Msn, .ref Mac, .ref Mat])), (Mn, .inl (g 0, 1767, .inl F_45))]) rfl rfl rfl rfl (by decide) (k_X7_has l D g H.size y_33 (nI i_44)) (va_cwS 2 hts gX7_arrives_X7_has rfl rfl rfl (by decide +kernel) ⟨(Nat.le_of_ble_eq_true rfl), (Nat.le_of_ble_eq_true rfl)⟩) rfl hl.1 rfl (Nat.le_of_ble_eq_true rfl) dX7_arrives_157 ⟨(Nat.le_of_ble_eq_true rfl), (Nat.le_of_ble_eq_true rfl)⟩ (fun r_59 u H locs hw hP2 hD2 hS2 => ?_)
                clear hP hD hS
                obtain rfl := hw
                have hPD : PD D A [(Mh, .inl (g 0, 9, .inl fmh)), (Mm, .inr (7, [.int zth, .ref Mt, .int (nI tp), .int zma, .int zwr, .ref Mrr, .ref Mrh, .ref Mrc, .int zrh, .int zrc, .ref Mn, .ref Mf, .ref Mr, .ref Mh, .int (nI hp), .int (nI cc), .ref Ma, .ref Mas, .ref Msn, .ref Mac, .ref Mat])), (Mn, .inl (g 0, 1767, .inl F_45))] H := ⟨hP2, hD2⟩
                have hS := hS2; clear hP2 hD2 hS2; have hP := hPD.1; have hD := hPD.2; clear hPD
                refine W.widen (k := 0) (n := 0) (Nat.le_of_ble_eq_true rfl) (Nat.le_of_ble_eq_true rfl) ?_
                refine lv_if_eq (tgt := 170) hx hb dX7_arrives_160 (by decide) (fun cb_60 => ?_) (fun cb_60 => ?_)
                · skip
                  have hPq_61 := hP; have hDq_61 := hD; have hSq_61 := hS; have hlq_61 := hl; clear hP hD hS hl
                  subst cb_60
                  have hP := hPq_61; have hD := hDq_61; have hS := hSq_61; have hl := hlq_61; clear hPq_61 hDq_61 hSq_61 hlq_61
                  refine lv_iinc (v := (nI (i_44 + 1))) (lv' := [(5, .int (nI (i_44 + 1))), (4, .int y_33), (0, .ref Mm), (1, .int (nI hix))]) hx hb dX7_arrives_170 hl (k := 0) rfl (nI_1 (i_44)) (by decide) rfl (fun ls hl => ?_)
                  refine lv_goto (tgt := 144) hx hb dX7_arrives_173 (by decide) ?_
                  exact loop_55_ih (i_44 + 1) F_45 (hF_45) (show (i_44 + 1) ≤ cc by omega) (show cc - (i_44 + 1) < Nloop_55 by omega) _ _ _ hP hD hS hl
                · skip
                  refine lv_aload_n hx hb dX7_arrives_163 rfl (lv_at hl 2 rfl) ?_
                  refine lv_iload_n hx hb dX7_arrives_164 rfl (lv_at hl 3 rfl) ?_
                  refine lv_iload hx hb dX7_arrives_165 (lv_at hl 0 rfl) ?_
                  refine ky_Vv (As := [.int (nI hix), .int (nI i_44)]) (rest := []) ⟨hx, hb, hml, hown, hts⟩ ⟨hK, hN⟩ hZ hP hD hS hA [1, 2, 0] [] (wc := [(Mm, .inr (7, [.int zth, .ref Mt, .int (nI tp), .int zma, .int zwr, .ref Mrr, .ref Mrh, .ref Mrc, .int zrh, .int zrc, .ref Mn, .ref Mf, .ref Mr, .ref Mh, .int (nI hp), .int (nI cc), .ref Ma, .ref Mas, .ref Msn, .ref Mac, .ref Mat])), (Mn, .inl (g 0, 1767, .inl F_45)), (Mh, .inl (g 0, 9, .inl fmh))]) (wr := []) rfl rfl rfl rfl (by decide) (k_X7_updates l D g H.size Mm hix i_44 zth Mt tp zma zwr Mrr Mrh Mrc zrh zrc Mn Mf Mr Mh hp cc Ma Mas Msn Mac Mat F_45 fmh tb ub (show tb < 2 ^ 29 by omega) (show ub < 2 ^ 29 by omega) (hF_45) (show hix < 3 by omega) (show i_44 < 3 by omega) (h6)) (cwV 2 hts gX7_arrives_X7_updates rfl rfl rfl (by decide +kernel) ⟨(Nat.le_of_ble_eq_true rfl), (Nat.le_of_ble_eq_true rfl)⟩) 1 7 rfl rfl rfl rfl hl.1 rfl (Nat.le_of_ble_eq_true rfl) dX7_arrives_167 ⟨(Nat.le_of_ble_eq_true rfl), (Nat.le_of_ble_eq_true rfl)⟩ (fun u H locs hw hP2 hD2 hS2 => ?_)
                  clear hP hD hS
                  obtain ⟨fnox_63, rfl, hf_64⟩ := hw
                  have hPD : PD D A [(Mm, .inr (7, [.int zth, .ref Mt, .int (nI tp), .int zma, .int zwr, .ref Mrr, .ref Mrh, .ref Mrc, .int zrh, .int zrc, .ref Mn, .ref Mf, .ref Mr, .ref Mh, .int (nI hp), .int (nI cc), .ref Ma, .ref Mas, .ref Msn, .ref Mac, .ref Mat])), (Mn, .inl (g 0, 1767, .inl fnox_63)), (Mh, .inl (g 0, 9, .inl fmh))] H := ⟨hP2, hD2⟩
                  have hS := hS2; clear hP2 hD2 hS2; have hP := hPD.1; have hD := hPD.2; clear hPD
                  refine W.widen (k := 0) (n := 0) (Nat.le_of_ble_eq_true rfl) (Nat.le_of_ble_eq_true rfl) ?_
                  refine lv_iinc (v := (nI (i_44 + 1))) (lv' := [(5, .int (nI (i_44 + 1))), (4, .int y_33), (0, .ref Mm), (1, .int (nI hix))]) hx hb dX7_arrives_170 hl (k := 0) rfl (nI_1 (i_44)) (by decide) rfl (fun ls hl => ?_)
                  refine lv_goto (tgt := 144) hx hb dX7_arrives_173 (by decide) ?_
                  exact loop_55_ih (i_44 + 1) fnox_63 (hf_64) (show (i_44 + 1) ≤ cc by omega) (show cc - (i_44 + 1) < Nloop_55 by omega) _ _ _ (hP.sub [2, 0, 1] rfl) (hD.sub [2, 0, 1] (by decide) rfl) hS hl
          exact loop_55 _ 0 fnox_36 (hf_37) (show 0 ≤ cc by omega) (Nat.lt_succ_self _) _ _ _ hP hD hS (lv_sub hl [0, 1, 3, 4] rfl)
        · skip
          have cn_65 : i_16 < cc := Nat.lt_of_not_le (fun q9 => cb_31 ((nI_leI (show cc < 2 ^ 31 by omega) (show i_16 < 2 ^ 31 by omega)).mpr q9))
          refine lv_aload_n hx hb dX7_arrives_55 rfl (lv_at hl 2 rfl) ?_
          refine va_get (D := D) (ci := 7) (v := .ref Mn) (C := RX7) (T := TX7) (N := 21) hx hb hts iX7 hown hK hP 0 rfl rfl 10 (by decide) f22 (fun _ h9 => h9) rfl dX7_arrives_56 ?_
          refine lv_iload_n hx hb dX7_arrives_59 rfl (lv_at hl 1 rfl) ?_
          refine lv_iconst (v := 1) hx hb dX7_arrives_60 (by decide) ?_
          refine lv_iadd hx hb dX7_arrives_61 ?_
          refine lv_eqi (y := (nI (69 + 5 * (8 * hix + t_1 % 8) + 1))) (nI_add (69 + 5 * (8 * hix + t_1 % 8)) (1)) ?_
          refine lv_iload hx hb dX7_arrives_62 (lv_at hl 0 rfl) ?_
          refine lv_iadd hx hb dX7_arrives_64 ?_
          refine lv_eqi (y := (nI (69 + 5 * (8 * hix + t_1 % 8) + 1 + i_16))) (nI_add (69 + 5 * (8 * hix + t_1 % 8) + 1) (i_16)) ?_
          refine va_iald hx hb hK hP 1 0 rfl rfl (vp_in_nI (show 69 + 5 * (8 * hix + t_1 % 8) + 1 + i_16 < 1767 by omega) (by decide)) dX7_arrives_65 ?_
          refine lv_eqi (y := (F_17 (69 + 5 * (8 * hix + t_1 % 8) + 1 + i_16))) (congrArg F_17 (nI_clamp (show 69 + 5 * (8 * hix + t_1 % 8) + 1 + i_16 < 2 ^ 31 by omega))) ?_
          refine lv_topi (fun y_66 _ => ?_)
          refine lv_istore (lv' := [(5, .int y_66), (4, .int (nI i_16)), (2, .int (nI (69 + 5 * (8 * hix + t_1 % 8)))), (0, .ref Mm), (1, .int (nI hix))]) hx hb dX7_arrives_66 hl (by decide) rfl (fun ls hl => ?_)
          refine lv_iload hx hb dX7_arrives_68 (lv_at hl 0 rfl) ?_
          refine lv_iconst (v := (-1)) hx hb dX7_arrives_70 (by decide) ?_
          refine lv_icmp_eq (tgt := 112) hx hb dX7_arrives_71 (by decide) (fun cb_67 => ?_) (fun cb_67 => ?_)
          · skip
            have hPq_68 := hP; have hDq_68 := hD; have hSq_68 := hS; have hlq_68 := hl; clear hP hD hS hl
            subst cb_67
            have hP := hPq_68; have hD := hDq_68; have hS := hSq_68; have hl := hlq_68; clear hPq_68 hDq_68 hSq_68 hlq_68
            refine lv_iinc (v := (nI (i_16 + 1))) (lv' := [(4, .int (nI (i_16 + 1))), (5, .int (-1)), (2, .int (nI (69 + 5 * (8 * hix + t_1 % 8)))), (0, .ref Mm), (1, .int (nI hix))]) hx hb dX7_arrives_112 hl (k := 1) rfl (nI_1 (i_16)) (by decide) rfl (fun ls hl => ?_)
            refine lv_goto (tgt := 46) hx hb dX7_arrives_115 (by decide) ?_
            exact loop_30_ih (i_16 + 1) F_17 (hF_17) (show (i_16 + 1) ≤ cc by omega) (show cc - (i_16 + 1) < Nloop_30 by omega) _ _ _ hP hD hS (lv_sub hl [0, 2, 3, 4] rfl)
          · skip
            refine lv_iload hx hb dX7_arrives_74 (lv_at hl 0 rfl) ?_
            refine lv_aload_n hx hb dX7_arrives_76 rfl (lv_at hl 3 rfl) ?_
            refine va_get (D := D) (ci := 7) (v := .ref Mn) (C := RX7) (T := TX7) (N := 21) hx hb hts iX7 hown hK hP 0 rfl rfl 10 (by decide) f22 (fun _ h9 => h9) rfl dX7_arrives_77 ?_
            refine lv_iload_n hx hb dX7_arrives_80 rfl (lv_at hl 4 rfl) ?_
            refine lv_iload hx hb dX7_arrives_81 (lv_at hl 1 rfl) ?_
            refine ky_Si (As := [.int (nI hix), .int (nI i_16)]) (rest := [.ref Mn, .int y_66]) ⟨hx, hb, hml, hown, hts⟩ ⟨hK, hN⟩ hZ hP hD hS hA [] [0, 1, 2] (wc := []) (wr := [(Mm, .inr (7, [.int zth, .ref Mt, .int (nI tp), .int zma, .int zwr, .ref Mrr, .ref Mrh, .ref Mrc, .int zrh, .int zrc, .ref Mn, .ref Mf, .ref Mr, .ref Mh, .int (nI hp), .int (nI cc), .ref Ma, .ref Mas, .ref Msn, .ref Mac, .ref Mat])), (Mn, .inl (g 0, 1767, .inl F_17)), (Mh, .inl (g 0, 9, .inl fmh))]) rfl rfl rfl rfl (by decide) (k_X7_lane l D g H.size hix i_16 (show hix < 3 by omega) (show i_16 < 3 by omega)) (va_cwS 2 hts gX7_arrives_X7_lane rfl rfl rfl (by decide +kernel) ⟨(Nat.le_of_ble_eq_true rfl), (Nat.le_of_ble_eq_true rfl)⟩) rfl hl.1 rfl (Nat.le_of_ble_eq_true rfl) dX7_arrives_83 ⟨(Nat.le_of_ble_eq_true rfl), (Nat.le_of_ble_eq_true rfl)⟩ (fun r_69 u H locs hw hP2 hD2 hS2 => ?_)
            clear hP hD hS
            obtain ⟨rfl, rfl⟩ := hw
            have hPD : PD D A [(Mm, .inr (7, [.int zth, .ref Mt, .int (nI tp), .int zma, .int zwr, .ref Mrr, .ref Mrh, .ref Mrc, .int zrh, .int zrc, .ref Mn, .ref Mf, .ref Mr, .ref Mh, .int (nI hp), .int (nI cc), .ref Ma, .ref Mas, .ref Msn, .ref Mac, .ref Mat])), (Mn, .inl (g 0, 1767, .inl F_17)), (Mh, .inl (g 0, 9, .inl fmh))] H := ⟨hP2, hD2⟩
            have hS := hS2; clear hP2 hD2 hS2; have hP := hPD.1; have hD := hPD.2; clear hPD
            refine W.widen (k := 0) (n := 0) (Nat.le_of_ble_eq_true rfl) (Nat.le_of_ble_eq_true rfl) ?_
            refine lv_iconst (v := 2) hx hb dX7_arrives_86 (by decide) ?_
            refine lv_iadd hx hb dX7_arrives_87 ?_
            refine lv_eqi (y := (nI (7 * (3 * hix + i_16) + 2))) (nI_add (7 * (3 * hix + i_16)) (2)) ?_
            refine va_iald hx hb hK hP 1 0 rfl rfl (vp_in_nI (show 7 * (3 * hix + i_16) + 2 < 1767 by omega) (by decide)) dX7_arrives_88 ?_
            refine lv_eqi (y := (F_17 (7 * (3 * hix + i_16) + 2))) (congrArg F_17 (nI_clamp (show 7 * (3 * hix + i_16) + 2 < 2 ^ 31 by omega))) ?_
            refine lv_topi (fun y_70 _ => ?_)
            refine ky_Si (As := [.int y_66, .int y_70]) (rest := []) ⟨hx, hb, hml, hown, hts⟩ ⟨hK, hN⟩ hZ hP hD hS hA [] [0, 1, 2] (wc := []) (wr := [(Mm, .inr (7, [.int zth, .ref Mt, .int (nI tp), .int zma, .int zwr, .ref Mrr, .ref Mrh, .ref Mrc, .int zrh, .int zrc, .ref Mn, .ref Mf, .ref Mr, .ref Mh, .int (nI hp), .int (nI cc), .ref Ma, .ref Mas, .ref Msn, .ref Mac, .ref Mat])), (Mn, .inl (g 0, 1767, .inl F_17)), (Mh, .inl (g 0, 9, .inl fmh))]) rfl rfl rfl rfl (by decide) (k_X7_less l D g H.size y_66 y_70) (va_cwS 2 hts gX7_arrives_X7_less rfl rfl rfl (by decide +kernel) ⟨(Nat.le_of_ble_eq_true rfl), (Nat.le_of_ble_eq_true rfl)⟩) rfl hl.1 rfl (Nat.le_of_ble_eq_true rfl) dX7_arrives_89 ⟨(Nat.le_of_ble_eq_true rfl), (Nat.le_of_ble_eq_true rfl)⟩ (fun r_71 u H locs hw hP2 hD2 hS2 => ?_)
            clear hP hD hS
            obtain rfl := hw
            have hPD : PD D A [(Mm, .inr (7, [.int zth, .ref Mt, .int (nI tp), .int zma, .int zwr, .ref Mrr, .ref Mrh, .ref Mrc, .int zrh, .int zrc, .ref Mn, .ref Mf, .ref Mr, .ref Mh, .int (nI hp), .int (nI cc), .ref Ma, .ref Mas, .ref Msn, .ref Mac, .ref Mat])), (Mn, .inl (g 0, 1767, .inl F_17)), (Mh, .inl (g 0, 9, .inl fmh))] H := ⟨hP2, hD2⟩
            have hS := hS2; clear hP2 hD2 hS2; have hP := hPD.1; have hD := hPD.2; clear hPD
            refine W.widen (k := 0) (n := 0) (Nat.le_of_ble_eq_true rfl) (Nat.le_of_ble_eq_true rfl) ?_
            refine lv_bipush (v := 32) hx hb dX7_arrives_92 (by decide) ?_
            refine lv_icmp_ge (tgt := 112) hx hb dX7_arrives_94 (by decide) (fun cb_72 => ?_) (fun cb_72 => ?_)
            · skip
              refine lv_iinc (v := (nI (i_16 + 1))) (lv' := [(4, .int (nI (i_16 + 1))), (5, .int y_66), (2, .int (nI (69 + 5 * (8 * hix + t_1 % 8)))), (0, .ref Mm), (1, .int (nI hix))]) hx hb dX7_arrives_112 hl (k := 1) rfl (nI_1 (i_16)) (by decide) rfl (fun ls hl => ?_)
              refine lv_goto (tgt := 46) hx hb dX7_arrives_115 (by decide) ?_
              exact loop_30_ih (i_16 + 1) F_17 (hF_17) (show (i_16 + 1) ≤ cc by omega) (show cc - (i_16 + 1) < Nloop_30 by omega) _ _ _ hP hD hS (lv_sub hl [0, 2, 3, 4] rfl)
            · skip
              refine lv_aload_n hx hb dX7_arrives_97 rfl (lv_at hl 3 rfl) ?_
              refine va_get (D := D) (ci := 7) (v := .ref Mn) (C := RX7) (T := TX7) (N := 21) hx hb hts iX7 hown hK hP 0 rfl rfl 10 (by decide) f22 (fun _ h9 => h9) rfl dX7_arrives_98 ?_
              refine lv_iload_n hx hb dX7_arrives_101 rfl (lv_at hl 4 rfl) ?_
              refine lv_iload hx hb dX7_arrives_102 (lv_at hl 1 rfl) ?_
              refine ky_Si (As := [.int (nI hix), .int (nI i_16)]) (rest := [.ref Mn]) ⟨hx, hb, hml, hown, hts⟩ ⟨hK, hN⟩ hZ hP hD hS hA [] [0, 1, 2] (wc := []) (wr := [(Mm, .inr (7, [.int zth, .ref Mt, .int (nI tp), .int zma, .int zwr, .ref Mrr, .ref Mrh, .ref Mrc, .int zrh, .int zrc, .ref Mn, .ref Mf, .ref Mr, .ref Mh, .int (nI hp), .int (nI cc), .ref Ma, .ref Mas, .ref Msn, .ref Mac, .ref Mat])), (Mn, .inl (g 0, 1767, .inl F_17)), (Mh, .inl (g 0, 9, .inl fmh))]) rfl rfl rfl rfl (by decide) (k_X7_lane l D g H.size hix i_16 (show hix < 3 by omega) (show i_16 < 3 by omega)) (va_cwS 2 hts gX7_arrives_X7_lane rfl rfl rfl (by decide +kernel) ⟨(Nat.le_of_ble_eq_true rfl), (Nat.le_of_ble_eq_true rfl)⟩) rfl hl.1 rfl (Nat.le_of_ble_eq_true rfl) dX7_arrives_104 ⟨(Nat.le_of_ble_eq_true rfl), (Nat.le_of_ble_eq_true rfl)⟩ (fun r_73 u H locs hw hP2 hD2 hS2 => ?_)
              clear hP hD hS
              obtain ⟨rfl, rfl⟩ := hw
              have hPD : PD D A [(Mm, .inr (7, [.int zth, .ref Mt, .int (nI tp), .int zma, .int zwr, .ref Mrr, .ref Mrh, .ref Mrc, .int zrh, .int zrc, .ref Mn, .ref Mf, .ref Mr, .ref Mh, .int (nI hp), .int (nI cc), .ref Ma, .ref Mas, .ref Msn, .ref Mac, .ref Mat])), (Mn, .inl (g 0, 1767, .inl F_17)), (Mh, .inl (g 0, 9, .inl fmh))] H := ⟨hP2, hD2⟩
              have hS := hS2; clear hP2 hD2 hS2; have hP := hPD.1; have hD := hPD.2; clear hPD
              refine W.widen (k := 0) (n := 0) (Nat.le_of_ble_eq_true rfl) (Nat.le_of_ble_eq_true rfl) ?_
              refine lv_iconst (v := 2) hx hb dX7_arrives_107 (by decide) ?_
              refine lv_iadd hx hb dX7_arrives_108 ?_
              refine lv_eqi (y := (nI (7 * (3 * hix + i_16) + 2))) (nI_add (7 * (3 * hix + i_16)) (2)) ?_
              refine lv_iload hx hb dX7_arrives_109 (lv_at hl 0 rfl) ?_
              refine va_iast hx hb hK hP hD hS 1 0 rfl rfl (vp_in_nI (show 7 * (3 * hix + i_16) + 2 < 1767 by omega) (by decide)) dX7_arrives_111 (fun H locs hP2 hD2 hS2 => ?_)
              clear hP hD hS
              have hPD : PD D A [(Mm, .inr (7, [.int zth, .ref Mt, .int (nI tp), .int zma, .int zwr, .ref Mrr, .ref Mrh, .ref Mrc, .int zrh, .int zrc, .ref Mn, .ref Mf, .ref Mr, .ref Mh, .int (nI hp), .int (nI cc), .ref Ma, .ref Mas, .ref Msn, .ref Mac, .ref Mat])), (Mn, .inl (g 0, 1767, .inl (upd F_17 (nI (7 * (3 * hix + i_16) + 2)).toNatClampNeg y_66))), (Mh, .inl (g 0, 9, .inl fmh))] H := ⟨hP2, hD2⟩
              have hS := hS2; clear hP2 hD2 hS2; have hP := hPD.1; have hD := hPD.2; clear hPD
              rw [nI_clamp (show 7 * (3 * hix + i_16) + 2 < 2 ^ 31 by omega)] at hP hD
              have hPD : PD D A [(Mm, .inr (7, [.int zth, .ref Mt, .int (nI tp), .int zma, .int zwr, .ref Mrr, .ref Mrh, .ref Mrc, .int zrh, .int zrc, .ref Mn, .ref Mf, .ref Mr, .ref Mh, .int (nI hp), .int (nI cc), .ref Ma, .ref Mas, .ref Msn, .ref Mac, .ref Mat])), (Mn, .inl (g 0, 1767, .inl (upd F_17 (7 * (3 * hix + i_16) + 2) y_66))), (Mh, .inl (g 0, 9, .inl fmh))] H := ⟨hP, hD⟩
              clear hP hD; have hP := hPD.1; have hD := hPD.2; clear hPD
              have hF_74 : mOK gs tb ub (upd F_17 (7 * (3 * hix + i_16) + 2) y_66) := mOK_free hF_17 (show mfree (7 * (3 * hix + i_16) + 2) by unfold mfree; omega)
              generalize upd F_17 (7 * (3 * hix + i_16) + 2) y_66 = F_74 at hP hD hF_74
              refine lv_iinc (v := (nI (i_16 + 1))) (lv' := [(4, .int (nI (i_16 + 1))), (5, .int y_66), (2, .int (nI (69 + 5 * (8 * hix + t_1 % 8)))), (0, .ref Mm), (1, .int (nI hix))]) hx hb dX7_arrives_112 hl (k := 1) rfl (nI_1 (i_16)) (by decide) rfl (fun ls hl => ?_)
              refine lv_goto (tgt := 46) hx hb dX7_arrives_115 (by decide) ?_
              exact loop_30_ih (i_16 + 1) F_74 (hF_74) (show (i_16 + 1) ≤ cc by omega) (show cc - (i_16 + 1) < Nloop_30 by omega) _ _ _ hP hD hS (lv_sub hl [0, 2, 3, 4] rfl)
    exact loop_30 _ 0 fno (h2) (show 0 ≤ cc by omega) (Nat.lt_succ_self _) _ _ _ hP hD hS (lv_sub hl [0, 2, 3, 4] rfl)
  · skip
    have hPq_77 := hP; have hDq_77 := hD; have hSq_77 := hS; have hlq_77 := hl; clear hP hD hS hl
    obtain ⟨j_75, hj_76, rfl⟩ := okc_j (hc_4) cb_5
    have hP := hPq_77; have hD := hDq_77; have hS := hSq_77; have hl := hlq_77; clear hPq_77 hDq_77 hSq_77 hlq_77
    refine lv_aload_n hx hb dX7_arrives_27 rfl (lv_at hl 2 rfl) ?_
    refine va_get (D := D) (ci := 7) (v := .ref Mn) (C := RX7) (T := TX7) (N := 21) hx hb hts iX7 hown hK hP 0 rfl rfl 10 (by decide) f22 (fun _ h9 => h9) rfl dX7_arrives_28 ?_
    refine lv_iload_n hx hb dX7_arrives_31 rfl (lv_at hl 3 rfl) ?_
    refine lv_iconst (v := 1) hx hb dX7_arrives_32 (by decide) ?_
    refine lv_iadd hx hb dX7_arrives_33 ?_
    refine lv_eqi (y := (nI (hix + 1))) (nI_add (hix) (1)) ?_
    refine lv_iload_n hx hb dX7_arrives_34 rfl (lv_at hl 0 rfl) ?_
    refine ky_Si (As := [.int (nI (hix + 1)), .int (nI j_75)]) (rest := [.ref Mn]) ⟨hx, hb, hml, hown, hts⟩ ⟨hK, hN⟩ hZ hP hD hS hA [] [0, 1, 2] (wc := []) (wr := [(Mm, .inr (7, [.int zth, .ref Mt, .int (nI tp), .int zma, .int zwr, .ref Mrr, .ref Mrh, .ref Mrc, .int zrh, .int zrc, .ref Mn, .ref Mf, .ref Mr, .ref Mh, .int (nI hp), .int (nI cc), .ref Ma, .ref Mas, .ref Msn, .ref Mac, .ref Mat])), (Mn, .inl (g 0, 1767, .inl fno)), (Mh, .inl (g 0, 9, .inl fmh))]) rfl rfl rfl rfl (by decide) (k_X7_bufferAt l D g H.size (hix + 1) j_75 (show (hix + 1) ≤ 3 by omega) (show j_75 < 3 by omega)) (va_cwS 2 hts gX7_arrives_X7_bufferAt rfl rfl rfl (by decide +kernel) ⟨(Nat.le_of_ble_eq_true rfl), (Nat.le_of_ble_eq_true rfl)⟩) rfl hl.1 rfl (Nat.le_of_ble_eq_true rfl) dX7_arrives_35 ⟨(Nat.le_of_ble_eq_true rfl), (Nat.le_of_ble_eq_true rfl)⟩ (fun r_78 u H locs hw hP2 hD2 hS2 => ?_)
    clear hP hD hS
    obtain ⟨rfl, rfl⟩ := hw
    have hPD : PD D A [(Mm, .inr (7, [.int zth, .ref Mt, .int (nI tp), .int zma, .int zwr, .ref Mrr, .ref Mrh, .ref Mrc, .int zrh, .int zrc, .ref Mn, .ref Mf, .ref Mr, .ref Mh, .int (nI hp), .int (nI cc), .ref Ma, .ref Mas, .ref Msn, .ref Mac, .ref Mat])), (Mn, .inl (g 0, 1767, .inl fno)), (Mh, .inl (g 0, 9, .inl fmh))] H := ⟨hP2, hD2⟩
    have hS := hS2; clear hP2 hD2 hS2; have hP := hPD.1; have hD := hPD.2; clear hPD
    refine W.widen (k := 0) (n := 0) (Nat.le_of_ble_eq_true rfl) (Nat.le_of_ble_eq_true rfl) ?_
    refine lv_dup2_11 hx hb dX7_arrives_38 rfl rfl ?_
    refine va_iald hx hb hK hP 1 0 rfl rfl (vp_in_nI (show 189 + 3 * (hix + 1) + j_75 < 1767 by omega) (by decide)) dX7_arrives_39 ?_
    refine lv_eqi (y := (fno (189 + 3 * (hix + 1) + j_75))) (congrArg fno (nI_clamp (show 189 + 3 * (hix + 1) + j_75 < 2 ^ 31 by omega))) ?_
    refine lv_topi (fun y_79 _ => ?_)
    refine lv_iconst (v := 1) hx hb dX7_arrives_40 (by decide) ?_
    refine lv_iadd hx hb dX7_arrives_41 ?_
    refine lv_topi (fun y_80 _ => ?_)
    refine va_iast hx hb hK hP hD hS 1 0 rfl rfl (vp_in_nI (show 189 + 3 * (hix + 1) + j_75 < 1767 by omega) (by decide)) dX7_arrives_42 (fun H locs hP2 hD2 hS2 => ?_)
    clear hP hD hS
    have hPD : PD D A [(Mm, .inr (7, [.int zth, .ref Mt, .int (nI tp), .int zma, .int zwr, .ref Mrr, .ref Mrh, .ref Mrc, .int zrh, .int zrc, .ref Mn, .ref Mf, .ref Mr, .ref Mh, .int (nI hp), .int (nI cc), .ref Ma, .ref Mas, .ref Msn, .ref Mac, .ref Mat])), (Mn, .inl (g 0, 1767, .inl (upd fno (nI (189 + 3 * (hix + 1) + j_75)).toNatClampNeg y_80))), (Mh, .inl (g 0, 9, .inl fmh))] H := ⟨hP2, hD2⟩
    have hS := hS2; clear hP2 hD2 hS2; have hP := hPD.1; have hD := hPD.2; clear hPD
    rw [nI_clamp (show 189 + 3 * (hix + 1) + j_75 < 2 ^ 31 by omega)] at hP hD
    have hPD : PD D A [(Mm, .inr (7, [.int zth, .ref Mt, .int (nI tp), .int zma, .int zwr, .ref Mrr, .ref Mrh, .ref Mrc, .int zrh, .int zrc, .ref Mn, .ref Mf, .ref Mr, .ref Mh, .int (nI hp), .int (nI cc), .ref Ma, .ref Mas, .ref Msn, .ref Mac, .ref Mat])), (Mn, .inl (g 0, 1767, .inl (upd fno (189 + 3 * (hix + 1) + j_75) y_80))), (Mh, .inl (g 0, 9, .inl fmh))] H := ⟨hP, hD⟩
    clear hP hD; have hP := hPD.1; have hD := hPD.2; clear hPD
    have hF_81 : mOK gs tb ub (upd fno (189 + 3 * (hix + 1) + j_75) y_80) := mOK_free h2 (show mfree (189 + 3 * (hix + 1) + j_75) by unfold mfree; omega)
    generalize upd fno (189 + 3 * (hix + 1) + j_75) y_80 = F_81 at hP hD hF_81
    refine lv_iconst (v := 0) hx hb dX7_arrives_43 (by decide) ?_
    refine lv_istore (lv' := [(4, .int 0), (3, .int (nI j_75)), (2, .int (nI (69 + 5 * (8 * hix + t_1 % 8)))), (0, .ref Mm), (1, .int (nI hix))]) hx hb dX7_arrives_44 hl (by decide) rfl (fun ls hl => ?_)
    have loop_105 : ∀ (Nloop_105 : Nat) (i_91 : Nat) (F_92 : Nat → Int32) (hF_92 : mOK gs tb ub F_92) (hbi_91 : i_91 ≤ cc) (hmloop_105 : cc - i_91 < Nloop_105) (H : Heap) (locs : List Loc) (ls : Array Slot), va_P D vwCl [(Mm, .inr (7, [.int zth, .ref Mt, .int (nI tp), .int zma, .int zwr, .ref Mrr, .ref Mrh, .ref Mrc, .int zrh, .int zrc, .ref Mn, .ref Mf, .ref Mr, .ref Mh, .int (nI hp), .int (nI cc), .ref Ma, .ref Mas, .ref Msn, .ref Mac, .ref Mat])), (Mn, .inl (g 0, 1767, .inl F_92)), (Mh, .inl (g 0, 9, .inl fmh))] H → va_D A [(Mm, .inr (7, [.int zth, .ref Mt, .int (nI tp), .int zma, .int zwr, .ref Mrr, .ref Mrh, .ref Mrc, .int zrh, .int zrc, .ref Mn, .ref Mf, .ref Mr, .ref Mh, .int (nI hp), .int (nI cc), .ref Ma, .ref Mas, .ref Msn, .ref Mac, .ref Mat])), (Mn, .inl (g 0, 1767, .inl F_92)), (Mh, .inl (g 0, 9, .inl fmh))] → va_S A s.heap H locs → lv_has ls 6 [(4, .int (nI i_91)), (2, .int (nI (69 + 5 * (8 * hix + t_1 % 8)))), (0, .ref Mm), (1, .int (nI hix))] → W p l e (headSpec wsX7_arrives ({ frames := 2, cells := 0, slots := 0, locals := 45 })).room s m ([.ref Mm, .int (nI hix)] : List Value).toArray below meth c H locs 0 0 Q (F0 m 46 ls []) := by
      clear hP hD hS hl
      intro Nloop_105
      induction Nloop_105 with
      | zero => intro i_91 F_92 hF_92 hbi_91 hm9; exact absurd hm9 (Nat.not_lt_zero _)
      | succ Nloop_105 loop_105_ih =>
        intro i_91 F_92 hF_92 hbi_91 hmloop_105 H locs ls hP hD hS hl
        refine lv_iload hx hb dX7_arrives_46 (lv_at hl 0 rfl) ?_
        refine lv_aload_n hx hb dX7_arrives_48 rfl (lv_at hl 2 rfl) ?_
        refine va_get (D := D) (ci := 7) (v := .int (nI cc)) (C := RX7) (T := TX7) (N := 21) hx hb hts iX7 hown hK hP 0 rfl rfl 15 (by decide) f127 (fun _ h9 => h9) rfl dX7_arrives_49 ?_
        refine lv_icmp_ge (tgt := 118) hx hb dX7_arrives_52 (by decide) (fun cb_106 => ?_) (fun cb_106 => ?_)
        · skip
          have cn_107 : cc ≤ i_91 := (nI_leI (show cc < 2 ^ 31 by omega) (show i_91 < 2 ^ 31 by omega)).mp cb_106
          refine lv_aload_n hx hb dX7_arrives_118 rfl (lv_at hl 2 rfl) ?_
          refine va_get (D := D) (ci := 7) (v := .ref Mn) (C := RX7) (T := TX7) (N := 21) hx hb hts iX7 hown hK hP 0 rfl rfl 10 (by decide) f22 (fun _ h9 => h9) rfl dX7_arrives_119 ?_
          refine lv_iload_n hx hb dX7_arrives_122 rfl (lv_at hl 1 rfl) ?_
          refine lv_iconst (v := 4) hx hb dX7_arrives_123 (by decide) ?_
          refine lv_iadd hx hb dX7_arrives_124 ?_
          refine lv_eqi (y := (nI (69 + 5 * (8 * hix + t_1 % 8) + 4))) (nI_add (69 + 5 * (8 * hix + t_1 % 8)) (4)) ?_
          refine va_iald hx hb hK hP 1 0 rfl rfl (vp_in_nI (show 69 + 5 * (8 * hix + t_1 % 8) + 4 < 1767 by omega) (by decide)) dX7_arrives_125 ?_
          refine lv_eqi (y := (F_92 (69 + 5 * (8 * hix + t_1 % 8) + 4))) (congrArg F_92 (nI_clamp (show 69 + 5 * (8 * hix + t_1 % 8) + 4 < 2 ^ 31 by omega))) ?_
          refine lv_topi (fun y_108 _ => ?_)
          refine lv_istore (lv' := [(4, .int y_108), (2, .int (nI (69 + 5 * (8 * hix + t_1 % 8)))), (0, .ref Mm), (1, .int (nI hix))]) hx hb dX7_arrives_126 hl (by decide) rfl (fun ls hl => ?_)
          refine lv_aload_n hx hb dX7_arrives_128 rfl (lv_at hl 2 rfl) ?_
          refine lv_iload_n hx hb dX7_arrives_129 rfl (lv_at hl 3 rfl) ?_
          refine lv_aload_n hx hb dX7_arrives_130 rfl (lv_at hl 2 rfl) ?_
          refine va_get (D := D) (ci := 7) (v := .ref Mn) (C := RX7) (T := TX7) (N := 21) hx hb hts iX7 hown hK hP 0 rfl rfl 10 (by decide) f22 (fun _ h9 => h9) rfl dX7_arrives_131 ?_
          refine lv_sipush (v := 1764) hx hb dX7_arrives_134 (by decide) ?_
          refine va_iald hx hb hK hP 1 0 rfl rfl (by unfold vp_in; decide) dX7_arrives_137 ?_
          refine lv_eqi (y := (F_92 1764)) (rfl) ?_
          obtain ⟨t_109, ht_109, q9⟩ := mOK_t hF_92
          refine lv_eqi (y := nI t_109) q9 ?_
          refine ky_Vv (As := [.int (nI hix), .int (nI t_109)]) (rest := []) ⟨hx, hb, hml, hown, hts⟩ ⟨hK, hN⟩ hZ hP hD hS hA [0, 1] [2] (wc := [(Mm, .inr (7, [.int zth, .ref Mt, .int (nI tp), .int zma, .int zwr, .ref Mrr, .ref Mrh, .ref Mrc, .int zrh, .int zrc, .ref Mn, .ref Mf, .ref Mr, .ref Mh, .int (nI hp), .int (nI cc), .ref Ma, .ref Mas, .ref Msn, .ref Mac, .ref Mat])), (Mn, .inl (g 0, 1767, .inl F_92))]) (wr := [(Mh, .inl (g 0, 9, .inl fmh))]) rfl rfl rfl rfl (by decide) (k_X7_clearsWay l D g H.size Mm hix t_109 zth Mt tp zma zwr Mrr Mrh Mrc zrh zrc Mn Mf Mr Mh hp cc Ma Mas Msn Mac Mat F_92 tb ub (show tb < 2 ^ 29 by omega) (show ub < 2 ^ 29 by omega) (hF_92) (show hix < 3 by omega) (show t_109 < 2 ^ 30 by omega)) (cwV 2 hts gX7_arrives_X7_clearsWay rfl rfl rfl (by decide +kernel) ⟨(Nat.le_of_ble_eq_true rfl), (Nat.le_of_ble_eq_true rfl)⟩) 0 7 rfl rfl rfl rfl hl.1 rfl (Nat.le_of_ble_eq_true rfl) dX7_arrives_138 ⟨(Nat.le_of_ble_eq_true rfl), (Nat.le_of_ble_eq_true rfl)⟩ (fun u H locs hw hP2 hD2 hS2 => ?_)
          clear hP hD hS
          obtain ⟨fnox_111, rfl, hf_112⟩ := hw
          have hPD : PD D A [(Mh, .inl (g 0, 9, .inl fmh)), (Mm, .inr (7, [.int zth, .ref Mt, .int (nI tp), .int zma, .int zwr, .ref Mrr, .ref Mrh, .ref Mrc, .int zrh, .int zrc, .ref Mn, .ref Mf, .ref Mr, .ref Mh, .int (nI hp), .int (nI cc), .ref Ma, .ref Mas, .ref Msn, .ref Mac, .ref Mat])), (Mn, .inl (g 0, 1767, .inl fnox_111))] H := ⟨hP2, hD2⟩
          have hS := hS2; clear hP2 hD2 hS2; have hP := hPD.1; have hD := hPD.2; clear hPD
          refine W.widen (k := 0) (n := 0) (Nat.le_of_ble_eq_true rfl) (Nat.le_of_ble_eq_true rfl) ?_
          refine lv_iconst (v := 0) hx hb dX7_arrives_141 (by decide) ?_
          refine lv_istore (lv' := [(5, .int 0), (4, .int y_108), (2, .int (nI (69 + 5 * (8 * hix + t_1 % 8)))), (0, .ref Mm), (1, .int (nI hix))]) hx hb dX7_arrives_142 hl (by decide) rfl (fun ls hl => ?_)
          have loop_130 : ∀ (Nloop_130 : Nat) (i_119 : Nat) (F_120 : Nat → Int32) (hF_120 : mOK gs tb ub F_120) (hbi_119 : i_119 ≤ cc) (hmloop_130 : cc - i_119 < Nloop_130) (H : Heap) (locs : List Loc) (ls : Array Slot), va_P D vwCl [(Mh, .inl (g 0, 9, .inl fmh)), (Mm, .inr (7, [.int zth, .ref Mt, .int (nI tp), .int zma, .int zwr, .ref Mrr, .ref Mrh, .ref Mrc, .int zrh, .int zrc, .ref Mn, .ref Mf, .ref Mr, .ref Mh, .int (nI hp), .int (nI cc), .ref Ma, .ref Mas, .ref Msn, .ref Mac, .ref Mat])), (Mn, .inl (g 0, 1767, .inl F_120))] H → va_D A [(Mh, .inl (g 0, 9, .inl fmh)), (Mm, .inr (7, [.int zth, .ref Mt, .int (nI tp), .int zma, .int zwr, .ref Mrr, .ref Mrh, .ref Mrc, .int zrh, .int zrc, .ref Mn, .ref Mf, .ref Mr, .ref Mh, .int (nI hp), .int (nI cc), .ref Ma, .ref Mas, .ref Msn, .ref Mac, .ref Mat])), (Mn, .inl (g 0, 1767, .inl F_120))] → va_S A s.heap H locs → lv_has ls 6 [(5, .int (nI i_119)), (4, .int y_108), (0, .ref Mm), (1, .int (nI hix))] → W p l e (headSpec wsX7_arrives ({ frames := 2, cells := 0, slots := 0, locals := 45 })).room s m ([.ref Mm, .int (nI hix)] : List Value).toArray below meth c H locs 0 0 Q (F0 m 144 ls []) := by
            clear hP hD hS hl
            intro Nloop_130
            induction Nloop_130 with
            | zero => intro i_119 F_120 hF_120 hbi_119 hm9; exact absurd hm9 (Nat.not_lt_zero _)
            | succ Nloop_130 loop_130_ih =>
              intro i_119 F_120 hF_120 hbi_119 hmloop_130 H locs ls hP hD hS hl
              refine lv_iload hx hb dX7_arrives_144 (lv_at hl 0 rfl) ?_
              refine lv_aload_n hx hb dX7_arrives_146 rfl (lv_at hl 2 rfl) ?_
              refine va_get (D := D) (ci := 7) (v := .int (nI cc)) (C := RX7) (T := TX7) (N := 21) hx hb hts iX7 hown hK hP 1 rfl rfl 15 (by decide) f127 (fun _ h9 => h9) rfl dX7_arrives_147 ?_
              refine lv_icmp_ge (tgt := 176) hx hb dX7_arrives_150 (by decide) (fun cb_131 => ?_) (fun cb_131 => ?_)
              · skip
                have cn_132 : cc ≤ i_119 := (nI_leI (show cc < 2 ^ 31 by omega) (show i_119 < 2 ^ 31 by omega)).mp cb_131
                have hPD9 : PD D A [(Mm, .inr (7, [.int zth, .ref Mt, .int (nI tp), .int zma, .int zwr, .ref Mrr, .ref Mrh, .ref Mrc, .int zrh, .int zrc, .ref Mn, .ref Mf, .ref Mr, .ref Mh, .int (nI hp), .int (nI cc), .ref Ma, .ref Mas, .ref Msn, .ref Mac, .ref Mat])), (Mn, .inl (g 0, 1767, .inl F_120)), (Mh, .inl (g 0, 9, .inl fmh))] H := ⟨hP.sub [1, 2, 0] rfl, hD.sub [1, 2, 0] (by decide) rfl⟩
                have hP9 := hPD9.1; have hD9 := hPD9.2
                subst hQ
                refine W.widen (k := 0) (n := 0) (Nat.le_of_ble_eq_true rfl) (Nat.le_of_ble_eq_true rfl) ?_
                exact W.vret hx hb hr (fun tS htS _ => ⟨⟨_, rfl, ⟨F_120, rfl, (hF_120)⟩, by rw [htS]; exact hP9, hD9⟩, hS.F htS⟩) hS.2.2 dX7_arrives_176
              · skip
                have cn_133 : i_119 < cc := Nat.lt_of_not_le (fun q9 => cb_131 ((nI_leI (show cc < 2 ^ 31 by omega) (show i_119 < 2 ^ 31 by omega)).mpr q9))
                refine lv_iload hx hb dX7_arrives_153 (lv_at hl 1 rfl) ?_
                refine lv_iload hx hb dX7_arrives_155 (lv_at hl 0 rfl) ?_
                refine ky_Si (As := [.int y_108, .int (nI i_119)]) (rest := []) ⟨hx, hb, hml, hown, hts⟩ ⟨hK, hN⟩ hZ hP hD hS hA [] [0, 1, 2] (wc := []) (wr := [(Mh, .inl (g 0, 9, .inl fmh)), (Mm, .inr (7, [.int zth, .ref Mt, .int (nI tp), .int zma, .int zwr, .ref Mrr, .ref Mrh, .ref Mrc, .int zrh, .int zrc, .ref Mn, .ref Mf, .ref Mr, .ref Mh, .int (nI hp), .int (nI cc), .ref Ma, .ref Mas, .ref Msn, .ref Mac, .ref Mat])), (Mn, .inl (g 0, 1767, .inl F_120))]) rfl rfl rfl rfl (by decide) (k_X7_has l D g H.size y_108 (nI i_119)) (va_cwS 2 hts gX7_arrives_X7_has rfl rfl rfl (by decide +kernel) ⟨(Nat.le_of_ble_eq_true rfl), (Nat.le_of_ble_eq_true rfl)⟩) rfl hl.1 rfl (Nat.le_of_ble_eq_true rfl) dX7_arrives_157 ⟨(Nat.le_of_ble_eq_true rfl), (Nat.le_of_ble_eq_true rfl)⟩ (fun r_134 u H locs hw hP2 hD2 hS2 => ?_)
                clear hP hD hS
                obtain rfl := hw
                have hPD : PD D A [(Mh, .inl (g 0, 9, .inl fmh)), (Mm, .inr (7, [.int zth, .ref Mt, .int (nI tp), .int zma, .int zwr, .ref Mrr, .ref Mrh, .ref Mrc, .int zrh, .int zrc, .ref Mn, .ref Mf, .ref Mr, .ref Mh, .int (nI hp), .int (nI cc), .ref Ma, .ref Mas, .ref Msn, .ref Mac, .ref Mat])), (Mn, .inl (g 0, 1767, .inl F_120))] H := ⟨hP2, hD2⟩
                have hS := hS2; clear hP2 hD2 hS2; have hP := hPD.1; have hD := hPD.2; clear hPD
                refine W.widen (k := 0) (n := 0) (Nat.le_of_ble_eq_true rfl) (Nat.le_of_ble_eq_true rfl) ?_
                refine lv_if_eq (tgt := 170) hx hb dX7_arrives_160 (by decide) (fun cb_135 => ?_) (fun cb_135 => ?_)
                · skip
                  have hPq_136 := hP; have hDq_136 := hD; have hSq_136 := hS; have hlq_136 := hl; clear hP hD hS hl
                  subst cb_135
                  have hP := hPq_136; have hD := hDq_136; have hS := hSq_136; have hl := hlq_136; clear hPq_136 hDq_136 hSq_136 hlq_136
                  refine lv_iinc (v := (nI (i_119 + 1))) (lv' := [(5, .int (nI (i_119 + 1))), (4, .int y_108), (0, .ref Mm), (1, .int (nI hix))]) hx hb dX7_arrives_170 hl (k := 0) rfl (nI_1 (i_119)) (by decide) rfl (fun ls hl => ?_)
                  refine lv_goto (tgt := 144) hx hb dX7_arrives_173 (by decide) ?_
                  exact loop_130_ih (i_119 + 1) F_120 (hF_120) (show (i_119 + 1) ≤ cc by omega) (show cc - (i_119 + 1) < Nloop_130 by omega) _ _ _ hP hD hS hl
                · skip
                  refine lv_aload_n hx hb dX7_arrives_163 rfl (lv_at hl 2 rfl) ?_
                  refine lv_iload_n hx hb dX7_arrives_164 rfl (lv_at hl 3 rfl) ?_
                  refine lv_iload hx hb dX7_arrives_165 (lv_at hl 0 rfl) ?_
                  refine ky_Vv (As := [.int (nI hix), .int (nI i_119)]) (rest := []) ⟨hx, hb, hml, hown, hts⟩ ⟨hK, hN⟩ hZ hP hD hS hA [1, 2, 0] [] (wc := [(Mm, .inr (7, [.int zth, .ref Mt, .int (nI tp), .int zma, .int zwr, .ref Mrr, .ref Mrh, .ref Mrc, .int zrh, .int zrc, .ref Mn, .ref Mf, .ref Mr, .ref Mh, .int (nI hp), .int (nI cc), .ref Ma, .ref Mas, .ref Msn, .ref Mac, .ref Mat])), (Mn, .inl (g 0, 1767, .inl F_120)), (Mh, .inl (g 0, 9, .inl fmh))]) (wr := []) rfl rfl rfl rfl (by decide) (k_X7_updates l D g H.size Mm hix i_119 zth Mt tp zma zwr Mrr Mrh Mrc zrh zrc Mn Mf Mr Mh hp cc Ma Mas Msn Mac Mat F_120 fmh tb ub (show tb < 2 ^ 29 by omega) (show ub < 2 ^ 29 by omega) (hF_120) (show hix < 3 by omega) (show i_119 < 3 by omega) (h6)) (cwV 2 hts gX7_arrives_X7_updates rfl rfl rfl (by decide +kernel) ⟨(Nat.le_of_ble_eq_true rfl), (Nat.le_of_ble_eq_true rfl)⟩) 1 7 rfl rfl rfl rfl hl.1 rfl (Nat.le_of_ble_eq_true rfl) dX7_arrives_167 ⟨(Nat.le_of_ble_eq_true rfl), (Nat.le_of_ble_eq_true rfl)⟩ (fun u H locs hw hP2 hD2 hS2 => ?_)
                  clear hP hD hS
                  obtain ⟨fnox_138, rfl, hf_139⟩ := hw
                  have hPD : PD D A [(Mm, .inr (7, [.int zth, .ref Mt, .int (nI tp), .int zma, .int zwr, .ref Mrr, .ref Mrh, .ref Mrc, .int zrh, .int zrc, .ref Mn, .ref Mf, .ref Mr, .ref Mh, .int (nI hp), .int (nI cc), .ref Ma, .ref Mas, .ref Msn, .ref Mac, .ref Mat])), (Mn, .inl (g 0, 1767, .inl fnox_138)), (Mh, .inl (g 0, 9, .inl fmh))] H := ⟨hP2, hD2⟩
                  have hS := hS2; clear hP2 hD2 hS2; have hP := hPD.1; have hD := hPD.2; clear hPD
                  refine W.widen (k := 0) (n := 0) (Nat.le_of_ble_eq_true rfl) (Nat.le_of_ble_eq_true rfl) ?_
                  refine lv_iinc (v := (nI (i_119 + 1))) (lv' := [(5, .int (nI (i_119 + 1))), (4, .int y_108), (0, .ref Mm), (1, .int (nI hix))]) hx hb dX7_arrives_170 hl (k := 0) rfl (nI_1 (i_119)) (by decide) rfl (fun ls hl => ?_)
                  refine lv_goto (tgt := 144) hx hb dX7_arrives_173 (by decide) ?_
                  exact loop_130_ih (i_119 + 1) fnox_138 (hf_139) (show (i_119 + 1) ≤ cc by omega) (show cc - (i_119 + 1) < Nloop_130 by omega) _ _ _ (hP.sub [2, 0, 1] rfl) (hD.sub [2, 0, 1] (by decide) rfl) hS hl
          exact loop_130 _ 0 fnox_111 (hf_112) (show 0 ≤ cc by omega) (Nat.lt_succ_self _) _ _ _ hP hD hS (lv_sub hl [0, 1, 3, 4] rfl)
        · skip
          have cn_140 : i_91 < cc := Nat.lt_of_not_le (fun q9 => cb_106 ((nI_leI (show cc < 2 ^ 31 by omega) (show i_91 < 2 ^ 31 by omega)).mpr q9))
          refine lv_aload_n hx hb dX7_arrives_55 rfl (lv_at hl 2 rfl) ?_
          refine va_get (D := D) (ci := 7) (v := .ref Mn) (C := RX7) (T := TX7) (N := 21) hx hb hts iX7 hown hK hP 0 rfl rfl 10 (by decide) f22 (fun _ h9 => h9) rfl dX7_arrives_56 ?_
          refine lv_iload_n hx hb dX7_arrives_59 rfl (lv_at hl 1 rfl) ?_
          refine lv_iconst (v := 1) hx hb dX7_arrives_60 (by decide) ?_
          refine lv_iadd hx hb dX7_arrives_61 ?_
          refine lv_eqi (y := (nI (69 + 5 * (8 * hix + t_1 % 8) + 1))) (nI_add (69 + 5 * (8 * hix + t_1 % 8)) (1)) ?_
          refine lv_iload hx hb dX7_arrives_62 (lv_at hl 0 rfl) ?_
          refine lv_iadd hx hb dX7_arrives_64 ?_
          refine lv_eqi (y := (nI (69 + 5 * (8 * hix + t_1 % 8) + 1 + i_91))) (nI_add (69 + 5 * (8 * hix + t_1 % 8) + 1) (i_91)) ?_
          refine va_iald hx hb hK hP 1 0 rfl rfl (vp_in_nI (show 69 + 5 * (8 * hix + t_1 % 8) + 1 + i_91 < 1767 by omega) (by decide)) dX7_arrives_65 ?_
          refine lv_eqi (y := (F_92 (69 + 5 * (8 * hix + t_1 % 8) + 1 + i_91))) (congrArg F_92 (nI_clamp (show 69 + 5 * (8 * hix + t_1 % 8) + 1 + i_91 < 2 ^ 31 by omega))) ?_
          refine lv_topi (fun y_141 _ => ?_)
          refine lv_istore (lv' := [(5, .int y_141), (4, .int (nI i_91)), (2, .int (nI (69 + 5 * (8 * hix + t_1 % 8)))), (0, .ref Mm), (1, .int (nI hix))]) hx hb dX7_arrives_66 hl (by decide) rfl (fun ls hl => ?_)
          refine lv_iload hx hb dX7_arrives_68 (lv_at hl 0 rfl) ?_
          refine lv_iconst (v := (-1)) hx hb dX7_arrives_70 (by decide) ?_
          refine lv_icmp_eq (tgt := 112) hx hb dX7_arrives_71 (by decide) (fun cb_142 => ?_) (fun cb_142 => ?_)
          · skip
            have hPq_143 := hP; have hDq_143 := hD; have hSq_143 := hS; have hlq_143 := hl; clear hP hD hS hl
            subst cb_142
            have hP := hPq_143; have hD := hDq_143; have hS := hSq_143; have hl := hlq_143; clear hPq_143 hDq_143 hSq_143 hlq_143
            refine lv_iinc (v := (nI (i_91 + 1))) (lv' := [(4, .int (nI (i_91 + 1))), (5, .int (-1)), (2, .int (nI (69 + 5 * (8 * hix + t_1 % 8)))), (0, .ref Mm), (1, .int (nI hix))]) hx hb dX7_arrives_112 hl (k := 1) rfl (nI_1 (i_91)) (by decide) rfl (fun ls hl => ?_)
            refine lv_goto (tgt := 46) hx hb dX7_arrives_115 (by decide) ?_
            exact loop_105_ih (i_91 + 1) F_92 (hF_92) (show (i_91 + 1) ≤ cc by omega) (show cc - (i_91 + 1) < Nloop_105 by omega) _ _ _ hP hD hS (lv_sub hl [0, 2, 3, 4] rfl)
          · skip
            refine lv_iload hx hb dX7_arrives_74 (lv_at hl 0 rfl) ?_
            refine lv_aload_n hx hb dX7_arrives_76 rfl (lv_at hl 3 rfl) ?_
            refine va_get (D := D) (ci := 7) (v := .ref Mn) (C := RX7) (T := TX7) (N := 21) hx hb hts iX7 hown hK hP 0 rfl rfl 10 (by decide) f22 (fun _ h9 => h9) rfl dX7_arrives_77 ?_
            refine lv_iload_n hx hb dX7_arrives_80 rfl (lv_at hl 4 rfl) ?_
            refine lv_iload hx hb dX7_arrives_81 (lv_at hl 1 rfl) ?_
            refine ky_Si (As := [.int (nI hix), .int (nI i_91)]) (rest := [.ref Mn, .int y_141]) ⟨hx, hb, hml, hown, hts⟩ ⟨hK, hN⟩ hZ hP hD hS hA [] [0, 1, 2] (wc := []) (wr := [(Mm, .inr (7, [.int zth, .ref Mt, .int (nI tp), .int zma, .int zwr, .ref Mrr, .ref Mrh, .ref Mrc, .int zrh, .int zrc, .ref Mn, .ref Mf, .ref Mr, .ref Mh, .int (nI hp), .int (nI cc), .ref Ma, .ref Mas, .ref Msn, .ref Mac, .ref Mat])), (Mn, .inl (g 0, 1767, .inl F_92)), (Mh, .inl (g 0, 9, .inl fmh))]) rfl rfl rfl rfl (by decide) (k_X7_lane l D g H.size hix i_91 (show hix < 3 by omega) (show i_91 < 3 by omega)) (va_cwS 2 hts gX7_arrives_X7_lane rfl rfl rfl (by decide +kernel) ⟨(Nat.le_of_ble_eq_true rfl), (Nat.le_of_ble_eq_true rfl)⟩) rfl hl.1 rfl (Nat.le_of_ble_eq_true rfl) dX7_arrives_83 ⟨(Nat.le_of_ble_eq_true rfl), (Nat.le_of_ble_eq_true rfl)⟩ (fun r_144 u H locs hw hP2 hD2 hS2 => ?_)
            clear hP hD hS
            obtain ⟨rfl, rfl⟩ := hw
            have hPD : PD D A [(Mm, .inr (7, [.int zth, .ref Mt, .int (nI tp), .int zma, .int zwr, .ref Mrr, .ref Mrh, .ref Mrc, .int zrh, .int zrc, .ref Mn, .ref Mf, .ref Mr, .ref Mh, .int (nI hp), .int (nI cc), .ref Ma, .ref Mas, .ref Msn, .ref Mac, .ref Mat])), (Mn, .inl (g 0, 1767, .inl F_92)), (Mh, .inl (g 0, 9, .inl fmh))] H := ⟨hP2, hD2⟩
            have hS := hS2; clear hP2 hD2 hS2; have hP := hPD.1; have hD := hPD.2; clear hPD
            refine W.widen (k := 0) (n := 0) (Nat.le_of_ble_eq_true rfl) (Nat.le_of_ble_eq_true rfl) ?_
            refine lv_iconst (v := 2) hx hb dX7_arrives_86 (by decide) ?_
            refine lv_iadd hx hb dX7_arrives_87 ?_
            refine lv_eqi (y := (nI (7 * (3 * hix + i_91) + 2))) (nI_add (7 * (3 * hix + i_91)) (2)) ?_
            refine va_iald hx hb hK hP 1 0 rfl rfl (vp_in_nI (show 7 * (3 * hix + i_91) + 2 < 1767 by omega) (by decide)) dX7_arrives_88 ?_
            refine lv_eqi (y := (F_92 (7 * (3 * hix + i_91) + 2))) (congrArg F_92 (nI_clamp (show 7 * (3 * hix + i_91) + 2 < 2 ^ 31 by omega))) ?_
            refine lv_topi (fun y_145 _ => ?_)
            refine ky_Si (As := [.int y_141, .int y_145]) (rest := []) ⟨hx, hb, hml, hown, hts⟩ ⟨hK, hN⟩ hZ hP hD hS hA [] [0, 1, 2] (wc := []) (wr := [(Mm, .inr (7, [.int zth, .ref Mt, .int (nI tp), .int zma, .int zwr, .ref Mrr, .ref Mrh, .ref Mrc, .int zrh, .int zrc, .ref Mn, .ref Mf, .ref Mr, .ref Mh, .int (nI hp), .int (nI cc), .ref Ma, .ref Mas, .ref Msn, .ref Mac, .ref Mat])), (Mn, .inl (g 0, 1767, .inl F_92)), (Mh, .inl (g 0, 9, .inl fmh))]) rfl rfl rfl rfl (by decide) (k_X7_less l D g H.size y_141 y_145) (va_cwS 2 hts gX7_arrives_X7_less rfl rfl rfl (by decide +kernel) ⟨(Nat.le_of_ble_eq_true rfl), (Nat.le_of_ble_eq_true rfl)⟩) rfl hl.1 rfl (Nat.le_of_ble_eq_true rfl) dX7_arrives_89 ⟨(Nat.le_of_ble_eq_true rfl), (Nat.le_of_ble_eq_true rfl)⟩ (fun r_146 u H locs hw hP2 hD2 hS2 => ?_)
            clear hP hD hS
            obtain rfl := hw
            have hPD : PD D A [(Mm, .inr (7, [.int zth, .ref Mt, .int (nI tp), .int zma, .int zwr, .ref Mrr, .ref Mrh, .ref Mrc, .int zrh, .int zrc, .ref Mn, .ref Mf, .ref Mr, .ref Mh, .int (nI hp), .int (nI cc), .ref Ma, .ref Mas, .ref Msn, .ref Mac, .ref Mat])), (Mn, .inl (g 0, 1767, .inl F_92)), (Mh, .inl (g 0, 9, .inl fmh))] H := ⟨hP2, hD2⟩
            have hS := hS2; clear hP2 hD2 hS2; have hP := hPD.1; have hD := hPD.2; clear hPD
            refine W.widen (k := 0) (n := 0) (Nat.le_of_ble_eq_true rfl) (Nat.le_of_ble_eq_true rfl) ?_
            refine lv_bipush (v := 32) hx hb dX7_arrives_92 (by decide) ?_
            refine lv_icmp_ge (tgt := 112) hx hb dX7_arrives_94 (by decide) (fun cb_147 => ?_) (fun cb_147 => ?_)
            · skip
              refine lv_iinc (v := (nI (i_91 + 1))) (lv' := [(4, .int (nI (i_91 + 1))), (5, .int y_141), (2, .int (nI (69 + 5 * (8 * hix + t_1 % 8)))), (0, .ref Mm), (1, .int (nI hix))]) hx hb dX7_arrives_112 hl (k := 1) rfl (nI_1 (i_91)) (by decide) rfl (fun ls hl => ?_)
              refine lv_goto (tgt := 46) hx hb dX7_arrives_115 (by decide) ?_
              exact loop_105_ih (i_91 + 1) F_92 (hF_92) (show (i_91 + 1) ≤ cc by omega) (show cc - (i_91 + 1) < Nloop_105 by omega) _ _ _ hP hD hS (lv_sub hl [0, 2, 3, 4] rfl)
            · skip
              refine lv_aload_n hx hb dX7_arrives_97 rfl (lv_at hl 3 rfl) ?_
              refine va_get (D := D) (ci := 7) (v := .ref Mn) (C := RX7) (T := TX7) (N := 21) hx hb hts iX7 hown hK hP 0 rfl rfl 10 (by decide) f22 (fun _ h9 => h9) rfl dX7_arrives_98 ?_
              refine lv_iload_n hx hb dX7_arrives_101 rfl (lv_at hl 4 rfl) ?_
              refine lv_iload hx hb dX7_arrives_102 (lv_at hl 1 rfl) ?_
              refine ky_Si (As := [.int (nI hix), .int (nI i_91)]) (rest := [.ref Mn]) ⟨hx, hb, hml, hown, hts⟩ ⟨hK, hN⟩ hZ hP hD hS hA [] [0, 1, 2] (wc := []) (wr := [(Mm, .inr (7, [.int zth, .ref Mt, .int (nI tp), .int zma, .int zwr, .ref Mrr, .ref Mrh, .ref Mrc, .int zrh, .int zrc, .ref Mn, .ref Mf, .ref Mr, .ref Mh, .int (nI hp), .int (nI cc), .ref Ma, .ref Mas, .ref Msn, .ref Mac, .ref Mat])), (Mn, .inl (g 0, 1767, .inl F_92)), (Mh, .inl (g 0, 9, .inl fmh))]) rfl rfl rfl rfl (by decide) (k_X7_lane l D g H.size hix i_91 (show hix < 3 by omega) (show i_91 < 3 by omega)) (va_cwS 2 hts gX7_arrives_X7_lane rfl rfl rfl (by decide +kernel) ⟨(Nat.le_of_ble_eq_true rfl), (Nat.le_of_ble_eq_true rfl)⟩) rfl hl.1 rfl (Nat.le_of_ble_eq_true rfl) dX7_arrives_104 ⟨(Nat.le_of_ble_eq_true rfl), (Nat.le_of_ble_eq_true rfl)⟩ (fun r_148 u H locs hw hP2 hD2 hS2 => ?_)
              clear hP hD hS
              obtain ⟨rfl, rfl⟩ := hw
              have hPD : PD D A [(Mm, .inr (7, [.int zth, .ref Mt, .int (nI tp), .int zma, .int zwr, .ref Mrr, .ref Mrh, .ref Mrc, .int zrh, .int zrc, .ref Mn, .ref Mf, .ref Mr, .ref Mh, .int (nI hp), .int (nI cc), .ref Ma, .ref Mas, .ref Msn, .ref Mac, .ref Mat])), (Mn, .inl (g 0, 1767, .inl F_92)), (Mh, .inl (g 0, 9, .inl fmh))] H := ⟨hP2, hD2⟩
              have hS := hS2; clear hP2 hD2 hS2; have hP := hPD.1; have hD := hPD.2; clear hPD
              refine W.widen (k := 0) (n := 0) (Nat.le_of_ble_eq_true rfl) (Nat.le_of_ble_eq_true rfl) ?_
              refine lv_iconst (v := 2) hx hb dX7_arrives_107 (by decide) ?_
              refine lv_iadd hx hb dX7_arrives_108 ?_
              refine lv_eqi (y := (nI (7 * (3 * hix + i_91) + 2))) (nI_add (7 * (3 * hix + i_91)) (2)) ?_
              refine lv_iload hx hb dX7_arrives_109 (lv_at hl 0 rfl) ?_
              refine va_iast hx hb hK hP hD hS 1 0 rfl rfl (vp_in_nI (show 7 * (3 * hix + i_91) + 2 < 1767 by omega) (by decide)) dX7_arrives_111 (fun H locs hP2 hD2 hS2 => ?_)
              clear hP hD hS
              have hPD : PD D A [(Mm, .inr (7, [.int zth, .ref Mt, .int (nI tp), .int zma, .int zwr, .ref Mrr, .ref Mrh, .ref Mrc, .int zrh, .int zrc, .ref Mn, .ref Mf, .ref Mr, .ref Mh, .int (nI hp), .int (nI cc), .ref Ma, .ref Mas, .ref Msn, .ref Mac, .ref Mat])), (Mn, .inl (g 0, 1767, .inl (upd F_92 (nI (7 * (3 * hix + i_91) + 2)).toNatClampNeg y_141))), (Mh, .inl (g 0, 9, .inl fmh))] H := ⟨hP2, hD2⟩
              have hS := hS2; clear hP2 hD2 hS2; have hP := hPD.1; have hD := hPD.2; clear hPD
              rw [nI_clamp (show 7 * (3 * hix + i_91) + 2 < 2 ^ 31 by omega)] at hP hD
              have hPD : PD D A [(Mm, .inr (7, [.int zth, .ref Mt, .int (nI tp), .int zma, .int zwr, .ref Mrr, .ref Mrh, .ref Mrc, .int zrh, .int zrc, .ref Mn, .ref Mf, .ref Mr, .ref Mh, .int (nI hp), .int (nI cc), .ref Ma, .ref Mas, .ref Msn, .ref Mac, .ref Mat])), (Mn, .inl (g 0, 1767, .inl (upd F_92 (7 * (3 * hix + i_91) + 2) y_141))), (Mh, .inl (g 0, 9, .inl fmh))] H := ⟨hP, hD⟩
              clear hP hD; have hP := hPD.1; have hD := hPD.2; clear hPD
              have hF_149 : mOK gs tb ub (upd F_92 (7 * (3 * hix + i_91) + 2) y_141) := mOK_free hF_92 (show mfree (7 * (3 * hix + i_91) + 2) by unfold mfree; omega)
              generalize upd F_92 (7 * (3 * hix + i_91) + 2) y_141 = F_149 at hP hD hF_149
              refine lv_iinc (v := (nI (i_91 + 1))) (lv' := [(4, .int (nI (i_91 + 1))), (5, .int y_141), (2, .int (nI (69 + 5 * (8 * hix + t_1 % 8)))), (0, .ref Mm), (1, .int (nI hix))]) hx hb dX7_arrives_112 hl (k := 1) rfl (nI_1 (i_91)) (by decide) rfl (fun ls hl => ?_)
              refine lv_goto (tgt := 46) hx hb dX7_arrives_115 (by decide) ?_
              exact loop_105_ih (i_91 + 1) F_149 (hF_149) (show (i_91 + 1) ≤ cc by omega) (show cc - (i_91 + 1) < Nloop_105 by omega) _ _ _ hP hD hS (lv_sub hl [0, 2, 3, 4] rfl)
    exact loop_105 _ 0 F_81 (hF_81) (show 0 ≤ cc by omega) (Nat.lt_succ_self _) _ _ _ hP hD hS (lv_sub hl [0, 2, 3, 4] rfl)

set_option maxHeartbeats 4000000 in
set_option maxRecDepth 100000 in
theorem k_X7_comes (l : Launch) (D : va_G) (g : Nat → ClassId) (sz : Nat) {gs : Nat → Int32} (Mm : Nat) (cx : Nat) (zth : Int32) (Mt : Nat) (tp : Nat) (zma : Int32) (zwr : Int32) (Mrr : Nat) (Mrh : Nat) (Mrc : Nat) (zrh : Int32) (zrc : Int32) (Mn : Nat) (Mf : Nat) (Mr : Nat) (Mh : Nat) (hp : Nat) (cc : Nat) (Ma : Nat) (Mas : Nat) (Msn : Nat) (Mac : Nat) (Mat : Nat) (fno : Nat → Int32) (tb : Nat) (ub : Nat) (h0 : tb < 2 ^ 29) (h1 : ub < 2 ^ 29) (h2 : mOK gs tb ub fno) (h3 : cx < 3) : Met l yX7_comes wsX7_comes ({ frames := 1, cells := 0, slots := 0, locals := 21 }) (va_Pc [.ref Mm, .int (nI cx)] (pre D g sz [(Mm, .inr (7, [.int zth, .ref Mt, .int (nI tp), .int zma, .int zwr, .ref Mrr, .ref Mrh, .ref Mrc, .int zrh, .int zrc, .ref Mn, .ref Mf, .ref Mr, .ref Mh, .int (nI hp), .int (nI cc), .ref Ma, .ref Mas, .ref Msn, .ref Mac, .ref Mat])), (Mn, .inl (g 0, 1767, .inl fno))])) (va_Qv (fun (u : va_W) => ∃ (fnox : Nat → Int32), u = [(Mm, .inr (7, [.int zth, .ref Mt, .int (nI tp), .int zma, .int zwr, .ref Mrr, .ref Mrh, .ref Mrc, .int zrh, .int zrc, .ref Mn, .ref Mf, .ref Mr, .ref Mh, .int (nI hp), .int (nI cc), .ref Ma, .ref Mas, .ref Msn, .ref Mac, .ref Mat])), (Mn, .inl (g 0, 1767, .inl fnox))] ∧ (mOK gs tb (ub + 1) fnox)) (wd D (va_A [(Mm, .inr (7, [.int zth, .ref Mt, .int (nI tp), .int zma, .int zwr, .ref Mrr, .ref Mrh, .ref Mrc, .int zrh, .int zrc, .ref Mn, .ref Mf, .ref Mr, .ref Mh, .int (nI hp), .int (nI cc), .ref Ma, .ref Mas, .ref Msn, .ref Mac, .ref Mat])), (Mn, .inl (g 0, 1767, .inl fno))] sz)) (va_A [(Mm, .inr (7, [.int zth, .ref Mt, .int (nI tp), .int zma, .int zwr, .ref Mrr, .ref Mrh, .ref Mrc, .int zrh, .int zrc, .ref Mn, .ref Mf, .ref Mr, .ref Mh, .int (nI hp), .int (nI cc), .ref Ma, .ref Mas, .ref Msn, .ref Mac, .ref Mat])), (Mn, .inl (g 0, 1767, .inl fno))] sz)) 0 0 (va_A [(Mm, .inr (7, [.int zth, .ref Mt, .int (nI tp), .int zma, .int zwr, .ref Mrr, .ref Mrh, .ref Mrc, .int zrh, .int zrc, .ref Mn, .ref Mf, .ref Mr, .ref Mh, .int (nI hp), .int (nI cc), .ref Ma, .ref Mas, .ref Msn, .ref Mac, .ref Mat])), (Mn, .inl (g 0, 1767, .inl fno))] sz) := by
  refine Met.ofW (cc := cX7_comes) (maxL := 5) (ret := none) (by decide) rfl ?_
  intro p e s m args below meth c s₁ B hml hv
  obtain ⟨rfl, hsz, hP, ⟨hK, hN⟩, hD0, hZ⟩ := hv
  have hx := B.exec
  have hb := B.bytes
  have hr := B.returns
  have hts := atoms_spec (ws := wsX7_comes) B.pre
  have hown : s.vm.findClass RX7 = some m.cls := findClass_of_methodNamed B.named
  have hlocks := B.notSynchronized
  clear B
  subst hsz
  have hD := hD0.self (sz := s.heap.size)
  clear hD0
  generalize hAe : va_A [(Mm, .inr (7, [.int zth, .ref Mt, .int (nI tp), .int zma, .int zwr, .ref Mrr, .ref Mrh, .ref Mrc, .int zrh, .int zrc, .ref Mn, .ref Mf, .ref Mr, .ref Mh, .int (nI hp), .int (nI cc), .ref Ma, .ref Mas, .ref Msn, .ref Mac, .ref Mat])), (Mn, .inl (g 0, 1767, .inl fno))] s.heap.size = A at hD hZ ⊢
  have hA : ∀ q : Nat, s.heap.size ≤ q → A q := fun q h => by rw [← hAe]; exact Or.inr h
  have hS : va_S A s.heap s.heap [] := va_S.rf
  have f22 := hts (.fieldLink RX7 22 "HopCreditsModel" "now" "[I") (List.mem_of_getElem? (i := 1) rfl)
  have iX7 : ∀ w ∈ u_ws RX7 TX7 21, w ∈ wsX7_comes := fun w h => List.mem_cons_of_mem _ (List.mem_append_right _ (h))
  have hl := lv_entry ([.ref Mm, .int (nI cx)]) (n := 5) (Nat.le_of_ble_eq_true rfl)
  rw [lg_entry_eq]
  generalize (lg_sl ([.ref Mm, .int (nI cx)]) ++ List.replicate (5 - (lg_sl ([.ref Mm, .int (nI cx)])).length) Slot.unset).toArray = ls at hl ⊢
  have hl : lv_has ls 5 [(0, .ref Mm), (1, .int (nI cx))] := hl
  generalize hQ : MQ below _ _ s _ _ _ = Q
  generalize hH : s.heap = H at hP ⊢
  have hS : va_S A s.heap H [] := by rw [← hH]; exact hS
  clear hH
  refine lv_iload_n hx hb dX7_comes_0 rfl (lv_at hl 1 rfl) ?_
  refine ky_Si (As := [.int (nI cx)]) (rest := []) ⟨hx, hb, hml, hown, hts⟩ ⟨hK, hN⟩ hZ hP hD hS hA [] [0, 1] (wc := []) (wr := [(Mm, .inr (7, [.int zth, .ref Mt, .int (nI tp), .int zma, .int zwr, .ref Mrr, .ref Mrh, .ref Mrc, .int zrh, .int zrc, .ref Mn, .ref Mf, .ref Mr, .ref Mh, .int (nI hp), .int (nI cc), .ref Ma, .ref Mas, .ref Msn, .ref Mac, .ref Mat])), (Mn, .inl (g 0, 1767, .inl fno))]) rfl rfl rfl rfl (by decide) (k_X7_circuitAt l D g H.size cx (show cx < 3 by omega)) (va_cwS 1 hts gX7_comes_X7_circuitAt rfl rfl rfl (by decide +kernel) ⟨(Nat.le_of_ble_eq_true rfl), (Nat.le_of_ble_eq_true rfl)⟩) rfl hl.1 rfl (Nat.le_of_ble_eq_true rfl) dX7_comes_1 ⟨(Nat.le_of_ble_eq_true rfl), (Nat.le_of_ble_eq_true rfl)⟩ (fun r_1 u H locs hw hP2 hD2 hS2 => ?_)
  clear hP hD hS
  obtain ⟨rfl, rfl⟩ := hw
  have hPD : PD D A [(Mm, .inr (7, [.int zth, .ref Mt, .int (nI tp), .int zma, .int zwr, .ref Mrr, .ref Mrh, .ref Mrc, .int zrh, .int zrc, .ref Mn, .ref Mf, .ref Mr, .ref Mh, .int (nI hp), .int (nI cc), .ref Ma, .ref Mas, .ref Msn, .ref Mac, .ref Mat])), (Mn, .inl (g 0, 1767, .inl fno))] H := ⟨hP2, hD2⟩
  have hS := hS2; clear hP2 hD2 hS2; have hP := hPD.1; have hD := hPD.2; clear hPD
  refine W.widen (k := 0) (n := 0) (Nat.le_of_ble_eq_true rfl) (Nat.le_of_ble_eq_true rfl) ?_
  refine lv_istore_n (lv' := [(2, .int (nI (201 + 9 * cx))), (0, .ref Mm), (1, .int (nI cx))]) hx hb dX7_comes_4 rfl hl (by decide) rfl (fun ls hl => ?_)
  refine lv_aload_n hx hb dX7_comes_5 rfl (lv_at hl 1 rfl) ?_
  refine va_get (D := D) (ci := 7) (v := .ref Mn) (C := RX7) (T := TX7) (N := 21) hx hb hts iX7 hown hK hP 0 rfl rfl 10 (by decide) f22 (fun _ h9 => h9) rfl dX7_comes_6 ?_
  refine lv_iload_n hx hb dX7_comes_9 rfl (lv_at hl 0 rfl) ?_
  refine lv_iconst (v := 0) hx hb dX7_comes_10 (by decide) ?_
  refine lv_iadd hx hb dX7_comes_11 ?_
  refine lv_eqi (y := (nI (201 + 9 * cx + 0))) (nI_add (201 + 9 * cx) (0)) ?_
  refine va_iald hx hb hK hP 1 0 rfl rfl (vp_in_nI (show 201 + 9 * cx + 0 < 1767 by omega) (by decide)) dX7_comes_12 ?_
  refine lv_eqi (y := (fno (201 + 9 * cx + 0))) (congrArg fno (nI_clamp (show 201 + 9 * cx + 0 < 2 ^ 31 by omega))) ?_
  refine lv_topi (fun y_2 _ => ?_)
  refine lv_istore_n (lv' := [(3, .int y_2), (2, .int (nI (201 + 9 * cx))), (0, .ref Mm), (1, .int (nI cx))]) hx hb dX7_comes_13 rfl hl (by decide) rfl (fun ls hl => ?_)
  refine lv_aload_n hx hb dX7_comes_14 rfl (lv_at hl 2 rfl) ?_
  refine va_get (D := D) (ci := 7) (v := .ref Mn) (C := RX7) (T := TX7) (N := 21) hx hb hts iX7 hown hK hP 0 rfl rfl 10 (by decide) f22 (fun _ h9 => h9) rfl dX7_comes_15 ?_
  refine lv_sipush (v := 1764) hx hb dX7_comes_18 (by decide) ?_
  refine va_iald hx hb hK hP 1 0 rfl rfl (by unfold vp_in; decide) dX7_comes_21 ?_
  refine lv_eqi (y := (fno 1764)) (rfl) ?_
  obtain ⟨t_3, ht_3, q9⟩ := mOK_t h2
  refine lv_eqi (y := nI t_3) q9 ?_
  refine lv_aload_n hx hb dX7_comes_22 rfl (lv_at hl 2 rfl) ?_
  refine va_get (D := D) (ci := 7) (v := .ref Mn) (C := RX7) (T := TX7) (N := 21) hx hb hts iX7 hown hK hP 0 rfl rfl 10 (by decide) f22 (fun _ h9 => h9) rfl dX7_comes_23 ?_
  refine lv_iload_n hx hb dX7_comes_26 rfl (lv_at hl 1 rfl) ?_
  refine lv_iconst (v := 1) hx hb dX7_comes_27 (by decide) ?_
  refine lv_iadd hx hb dX7_comes_28 ?_
  refine lv_eqi (y := (nI (201 + 9 * cx + 1))) (nI_add (201 + 9 * cx) (1)) ?_
  refine va_iald hx hb hK hP 1 0 rfl rfl (vp_in_nI (show 201 + 9 * cx + 1 < 1767 by omega) (by decide)) dX7_comes_29 ?_
  refine lv_eqi (y := (fno (201 + 9 * cx + 1))) (congrArg fno (nI_clamp (show 201 + 9 * cx + 1 < 2 ^ 31 by omega))) ?_
  refine lv_topi (fun y_4 _ => ?_)
  refine lv_isub hx hb dX7_comes_30 ?_
  refine lv_topi (fun y_5 _ => ?_)
  refine lv_istore (lv' := [(4, .int y_5), (3, .int y_2), (2, .int (nI (201 + 9 * cx))), (0, .ref Mm), (1, .int (nI cx))]) hx hb dX7_comes_31 hl (by decide) rfl (fun ls hl => ?_)
  refine lv_iload_n hx hb dX7_comes_33 rfl (lv_at hl 1 rfl) ?_
  refine lv_if_eq (tgt := 49) hx hb dX7_comes_34 (by decide) (fun cb_6 => ?_) (fun cb_6 => ?_)
  · skip
    have hPq_7 := hP; have hDq_7 := hD; have hSq_7 := hS; have hlq_7 := hl; clear hP hD hS hl
    subst cb_6
    have hP := hPq_7; have hD := hDq_7; have hS := hSq_7; have hl := hlq_7; clear hPq_7 hDq_7 hSq_7 hlq_7
    have hP9 := hP; have hD9 := hD
    subst hQ
    refine W.widen (k := 0) (n := 0) (Nat.le_of_ble_eq_true rfl) (Nat.le_of_ble_eq_true rfl) ?_
    exact W.vret hx hb hr (fun tS htS _ => ⟨⟨_, rfl, ⟨fno, rfl, (mOK_le h2 (show tb = tb by omega) (show ub ≤ ub + 1 by omega))⟩, by rw [htS]; exact hP9, hD9⟩, hS.F htS⟩) hS.2.2 dX7_comes_49
  · skip
    refine lv_iload hx hb dX7_comes_37 (lv_at hl 0 rfl) ?_
    refine lv_if_lt (tgt := 49) hx hb dX7_comes_39 (by decide) (fun cb_8 => ?_) (fun cb_8 => ?_)
    · skip
      have hP9 := hP; have hD9 := hD
      subst hQ
      refine W.widen (k := 0) (n := 0) (Nat.le_of_ble_eq_true rfl) (Nat.le_of_ble_eq_true rfl) ?_
      exact W.vret hx hb hr (fun tS htS _ => ⟨⟨_, rfl, ⟨fno, rfl, (mOK_le h2 (show tb = tb by omega) (show ub ≤ ub + 1 by omega))⟩, by rw [htS]; exact hP9, hD9⟩, hS.F htS⟩) hS.2.2 dX7_comes_49
    · skip
      refine lv_iload hx hb dX7_comes_42 (lv_at hl 0 rfl) ?_
      refine lv_iload_n hx hb dX7_comes_44 rfl (lv_at hl 1 rfl) ?_
      refine lv_irem hx hb dX7_comes_45 (cb_6) ?_
      refine lv_topi (fun y_9 _ => ?_)
      refine lv_if_eq (tgt := 50) hx hb dX7_comes_46 (by decide) (fun cb_10 => ?_) (fun cb_10 => ?_)
      · skip
        have hPq_11 := hP; have hDq_11 := hD; have hSq_11 := hS; have hlq_11 := hl; clear hP hD hS hl
        subst cb_10
        have hP := hPq_11; have hD := hDq_11; have hS := hSq_11; have hl := hlq_11; clear hPq_11 hDq_11 hSq_11 hlq_11
        refine lv_aload_n hx hb dX7_comes_50 rfl (lv_at hl 3 rfl) ?_
        refine va_get (D := D) (ci := 7) (v := .ref Mn) (C := RX7) (T := TX7) (N := 21) hx hb hts iX7 hown hK hP 0 rfl rfl 10 (by decide) f22 (fun _ h9 => h9) rfl dX7_comes_51 ?_
        refine lv_iconst (v := 0) hx hb dX7_comes_54 (by decide) ?_
        refine lv_iload_n hx hb dX7_comes_55 rfl (lv_at hl 4 rfl) ?_
        refine ky_Si (As := [.int 0, .int (nI cx)]) (rest := [.ref Mn]) ⟨hx, hb, hml, hown, hts⟩ ⟨hK, hN⟩ hZ hP hD hS hA [] [0, 1] (wc := []) (wr := [(Mm, .inr (7, [.int zth, .ref Mt, .int (nI tp), .int zma, .int zwr, .ref Mrr, .ref Mrh, .ref Mrc, .int zrh, .int zrc, .ref Mn, .ref Mf, .ref Mr, .ref Mh, .int (nI hp), .int (nI cc), .ref Ma, .ref Mas, .ref Msn, .ref Mac, .ref Mat])), (Mn, .inl (g 0, 1767, .inl fno))]) rfl rfl rfl rfl (by decide) (k_X7_bufferAt l D g H.size 0 cx (show 0 ≤ 3 by omega) (show cx < 3 by omega)) (va_cwS 2 hts gX7_comes_X7_bufferAt rfl rfl rfl (by decide +kernel) ⟨(Nat.le_of_ble_eq_true rfl), (Nat.le_of_ble_eq_true rfl)⟩) rfl hl.1 rfl (Nat.le_of_ble_eq_true rfl) dX7_comes_56 ⟨(Nat.le_of_ble_eq_true rfl), (Nat.le_of_ble_eq_true rfl)⟩ (fun r_12 u H locs hw hP2 hD2 hS2 => ?_)
        clear hP hD hS
        obtain ⟨rfl, rfl⟩ := hw
        have hPD : PD D A [(Mm, .inr (7, [.int zth, .ref Mt, .int (nI tp), .int zma, .int zwr, .ref Mrr, .ref Mrh, .ref Mrc, .int zrh, .int zrc, .ref Mn, .ref Mf, .ref Mr, .ref Mh, .int (nI hp), .int (nI cc), .ref Ma, .ref Mas, .ref Msn, .ref Mac, .ref Mat])), (Mn, .inl (g 0, 1767, .inl fno))] H := ⟨hP2, hD2⟩
        have hS := hS2; clear hP2 hD2 hS2; have hP := hPD.1; have hD := hPD.2; clear hPD
        refine W.widen (k := 0) (n := 0) (Nat.le_of_ble_eq_true rfl) (Nat.le_of_ble_eq_true rfl) ?_
        refine va_iald hx hb hK hP 1 0 rfl rfl (vp_in_nI (show 189 + 3 * 0 + cx < 1767 by omega) (by decide)) dX7_comes_59 ?_
        refine lv_eqi (y := (fno (189 + 3 * 0 + cx))) (congrArg fno (nI_clamp (show 189 + 3 * 0 + cx < 2 ^ 31 by omega))) ?_
        refine lv_topi (fun y_13 _ => ?_)
        refine lv_bipush (v := 99) hx hb dX7_comes_60 (by decide) ?_
        refine lv_icmp_ne (tgt := 78) hx hb dX7_comes_62 (by decide) (fun cb_14 => ?_) (fun cb_14 => ?_)
        · skip
          refine lv_aload_n hx hb dX7_comes_78 rfl (lv_at hl 3 rfl) ?_
          refine va_get (D := D) (ci := 7) (v := .ref Mn) (C := RX7) (T := TX7) (N := 21) hx hb hts iX7 hown hK hP 0 rfl rfl 10 (by decide) f22 (fun _ h9 => h9) rfl dX7_comes_79 ?_
          refine lv_sipush (v := 228) hx hb dX7_comes_82 (by decide) ?_
          refine lv_sipush (v := 512) hx hb dX7_comes_85 (by decide) ?_
          refine lv_iload_n hx hb dX7_comes_88 rfl (lv_at hl 4 rfl) ?_
          refine lv_imul hx hb dX7_comes_89 ?_
          refine lv_eqi (y := (nI (512 * cx))) (pk_mul (512) (cx)) ?_
          refine lv_iadd hx hb dX7_comes_90 ?_
          refine lv_eqi (y := (nI (228 + (512 * cx)))) (nI_add (228) (512 * cx)) ?_
          refine lv_aload_n hx hb dX7_comes_91 rfl (lv_at hl 3 rfl) ?_
          refine va_get (D := D) (ci := 7) (v := .ref Mn) (C := RX7) (T := TX7) (N := 21) hx hb hts iX7 hown hK hP 0 rfl rfl 10 (by decide) f22 (fun _ h9 => h9) rfl dX7_comes_92 ?_
          refine lv_iload_n hx hb dX7_comes_95 rfl (lv_at hl 2 rfl) ?_
          refine lv_iconst (v := 3) hx hb dX7_comes_96 (by decide) ?_
          refine lv_iadd hx hb dX7_comes_97 ?_
          refine lv_eqi (y := (nI (201 + 9 * cx + 3))) (nI_add (201 + 9 * cx) (3)) ?_
          refine va_iald hx hb hK hP 1 0 rfl rfl (vp_in_nI (show 201 + 9 * cx + 3 < 1767 by omega) (by decide)) dX7_comes_98 ?_
          refine lv_eqi (y := (fno (201 + 9 * cx + 3))) (congrArg fno (nI_clamp (show 201 + 9 * cx + 3 < 2 ^ 31 by omega))) ?_
          obtain ⟨n_15, hn_15, q9⟩ := mOK_n h2 (show nidx (201 + 9 * cx + 3) by unfold nidx; omega)
          refine lv_eqi (y := nI n_15) q9 ?_
          refine lv_sipush (v := 512) hx hb dX7_comes_99 (by decide) ?_
          refine lv_irem hx hb dX7_comes_102 (by decide) ?_
          refine lv_eqi (y := (nI ((n_15) % 512))) (pk_rem (show n_15 < 2 ^ 31 by omega) (show 0 < 512 by omega) (show 512 < 2 ^ 31 by omega)) ?_
          refine lv_iadd hx hb dX7_comes_103 ?_
          refine lv_eqi (y := (nI (228 + (512 * cx) + ((n_15) % 512)))) (nI_add (228 + (512 * cx)) ((n_15) % 512)) ?_
          refine lv_aload_n hx hb dX7_comes_104 rfl (lv_at hl 3 rfl) ?_
          refine va_get (D := D) (ci := 7) (v := .ref Mn) (C := RX7) (T := TX7) (N := 21) hx hb hts iX7 hown hK hP 0 rfl rfl 10 (by decide) f22 (fun _ h9 => h9) rfl dX7_comes_105 ?_
          refine lv_sipush (v := 1764) hx hb dX7_comes_108 (by decide) ?_
          refine va_iald hx hb hK hP 1 0 rfl rfl (by unfold vp_in; decide) dX7_comes_111 ?_
          refine lv_eqi (y := (fno 1764)) (rfl) ?_
          obtain ⟨t_16, ht_16, q9⟩ := mOK_t h2
          refine lv_eqi (y := nI t_16) q9 ?_
          refine va_iast hx hb hK hP hD hS 1 0 rfl rfl (vp_in_nI (show 228 + (512 * cx) + ((n_15) % 512) < 1767 by omega) (by decide)) dX7_comes_112 (fun H locs hP2 hD2 hS2 => ?_)
          clear hP hD hS
          have hPD : PD D A [(Mm, .inr (7, [.int zth, .ref Mt, .int (nI tp), .int zma, .int zwr, .ref Mrr, .ref Mrh, .ref Mrc, .int zrh, .int zrc, .ref Mn, .ref Mf, .ref Mr, .ref Mh, .int (nI hp), .int (nI cc), .ref Ma, .ref Mas, .ref Msn, .ref Mac, .ref Mat])), (Mn, .inl (g 0, 1767, .inl (upd fno (nI (228 + (512 * cx) + ((n_15) % 512))).toNatClampNeg (nI t_16))))] H := ⟨hP2, hD2⟩
          have hS := hS2; clear hP2 hD2 hS2; have hP := hPD.1; have hD := hPD.2; clear hPD
          rw [nI_clamp (show 228 + (512 * cx) + ((n_15) % 512) < 2 ^ 31 by omega)] at hP hD
          have hPD : PD D A [(Mm, .inr (7, [.int zth, .ref Mt, .int (nI tp), .int zma, .int zwr, .ref Mrr, .ref Mrh, .ref Mrc, .int zrh, .int zrc, .ref Mn, .ref Mf, .ref Mr, .ref Mh, .int (nI hp), .int (nI cc), .ref Ma, .ref Mas, .ref Msn, .ref Mac, .ref Mat])), (Mn, .inl (g 0, 1767, .inl (upd fno (228 + (512 * cx) + ((n_15) % 512)) (nI t_16))))] H := ⟨hP, hD⟩
          clear hP hD; have hP := hPD.1; have hD := hPD.2; clear hPD
          have hF_17 : mOK gs tb ub (upd fno (228 + (512 * cx) + ((n_15) % 512)) (nI t_16)) := mOK_free h2 (show mfree (228 + (512 * cx) + ((n_15) % 512)) by unfold mfree; omega)
          generalize upd fno (228 + (512 * cx) + ((n_15) % 512)) (nI t_16) = F_17 at hP hD hF_17
          refine lv_aload_n hx hb dX7_comes_113 rfl (lv_at hl 3 rfl) ?_
          refine va_get (D := D) (ci := 7) (v := .ref Mn) (C := RX7) (T := TX7) (N := 21) hx hb hts iX7 hown hK hP 0 rfl rfl 10 (by decide) f22 (fun _ h9 => h9) rfl dX7_comes_114 ?_
          refine lv_iload_n hx hb dX7_comes_117 rfl (lv_at hl 2 rfl) ?_
          refine lv_iconst (v := 3) hx hb dX7_comes_118 (by decide) ?_
          refine lv_iadd hx hb dX7_comes_119 ?_
          refine lv_eqi (y := (nI (201 + 9 * cx + 3))) (nI_add (201 + 9 * cx) (3)) ?_
          refine lv_dup2_11 hx hb dX7_comes_120 rfl rfl ?_
          refine va_iald hx hb hK hP 1 0 rfl rfl (vp_in_nI (show 201 + 9 * cx + 3 < 1767 by omega) (by decide)) dX7_comes_121 ?_
          refine lv_eqi (y := (F_17 (201 + 9 * cx + 3))) (congrArg F_17 (nI_clamp (show 201 + 9 * cx + 3 < 2 ^ 31 by omega))) ?_
          obtain ⟨n_18, hn_18, q9⟩ := mOK_n hF_17 (show nidx (201 + 9 * cx + 3) by unfold nidx; omega)
          refine lv_eqi (y := nI n_18) q9 ?_
          refine lv_iconst (v := 1) hx hb dX7_comes_122 (by decide) ?_
          refine lv_iadd hx hb dX7_comes_123 ?_
          refine lv_eqi (y := (nI (n_18 + 1))) (nI_add (n_18) (1)) ?_
          refine va_iast hx hb hK hP hD hS 1 0 rfl rfl (vp_in_nI (show 201 + 9 * cx + 3 < 1767 by omega) (by decide)) dX7_comes_124 (fun H locs hP2 hD2 hS2 => ?_)
          clear hP hD hS
          have hPD : PD D A [(Mm, .inr (7, [.int zth, .ref Mt, .int (nI tp), .int zma, .int zwr, .ref Mrr, .ref Mrh, .ref Mrc, .int zrh, .int zrc, .ref Mn, .ref Mf, .ref Mr, .ref Mh, .int (nI hp), .int (nI cc), .ref Ma, .ref Mas, .ref Msn, .ref Mac, .ref Mat])), (Mn, .inl (g 0, 1767, .inl (upd F_17 (nI (201 + 9 * cx + 3)).toNatClampNeg (nI (n_18 + 1)))))] H := ⟨hP2, hD2⟩
          have hS := hS2; clear hP2 hD2 hS2; have hP := hPD.1; have hD := hPD.2; clear hPD
          rw [nI_clamp (show 201 + 9 * cx + 3 < 2 ^ 31 by omega)] at hP hD
          have hPD : PD D A [(Mm, .inr (7, [.int zth, .ref Mt, .int (nI tp), .int zma, .int zwr, .ref Mrr, .ref Mrh, .ref Mrc, .int zrh, .int zrc, .ref Mn, .ref Mf, .ref Mr, .ref Mh, .int (nI hp), .int (nI cc), .ref Ma, .ref Mas, .ref Msn, .ref Mac, .ref Mat])), (Mn, .inl (g 0, 1767, .inl (upd F_17 (201 + 9 * cx + 3) (nI (n_18 + 1)))))] H := ⟨hP, hD⟩
          clear hP hD; have hP := hPD.1; have hD := hPD.2; clear hPD
          have hF_19 : mOK gs tb (ub + 1) (upd F_17 (201 + 9 * cx + 3) (nI (n_18 + 1))) := mOK_cnt hF_17 (n := n_18 + 1) (show (201 ≤ 201 + 9 * cx + 3 ∧ 201 + 9 * cx + 3 < 1764) ∧ (201 + 9 * cx + 3 < 201 ∨ 228 ≤ 201 + 9 * cx + 3 ∨ 3 ≤ (201 + 9 * cx + 3 - 201) % 9) by omega) (show n_18 + 1 ≤ ub + 1 by omega)
          generalize upd F_17 (201 + 9 * cx + 3) (nI (n_18 + 1)) = F_19 at hP hD hF_19
          refine lv_aload_n hx hb dX7_comes_125 rfl (lv_at hl 3 rfl) ?_
          refine va_get (D := D) (ci := 7) (v := .ref Mn) (C := RX7) (T := TX7) (N := 21) hx hb hts iX7 hown hK hP 0 rfl rfl 10 (by decide) f22 (fun _ h9 => h9) rfl dX7_comes_126 ?_
          refine lv_iconst (v := 0) hx hb dX7_comes_129 (by decide) ?_
          refine lv_iload_n hx hb dX7_comes_130 rfl (lv_at hl 4 rfl) ?_
          refine ky_Si (As := [.int 0, .int (nI cx)]) (rest := [.ref Mn]) ⟨hx, hb, hml, hown, hts⟩ ⟨hK, hN⟩ hZ hP hD hS hA [] [0, 1] (wc := []) (wr := [(Mm, .inr (7, [.int zth, .ref Mt, .int (nI tp), .int zma, .int zwr, .ref Mrr, .ref Mrh, .ref Mrc, .int zrh, .int zrc, .ref Mn, .ref Mf, .ref Mr, .ref Mh, .int (nI hp), .int (nI cc), .ref Ma, .ref Mas, .ref Msn, .ref Mac, .ref Mat])), (Mn, .inl (g 0, 1767, .inl F_19))]) rfl rfl rfl rfl (by decide) (k_X7_bufferAt l D g H.size 0 cx (show 0 ≤ 3 by omega) (show cx < 3 by omega)) (va_cwS 2 hts gX7_comes_X7_bufferAt rfl rfl rfl (by decide +kernel) ⟨(Nat.le_of_ble_eq_true rfl), (Nat.le_of_ble_eq_true rfl)⟩) rfl hl.1 rfl (Nat.le_of_ble_eq_true rfl) dX7_comes_131 ⟨(Nat.le_of_ble_eq_true rfl), (Nat.le_of_ble_eq_true rfl)⟩ (fun r_20 u H locs hw hP2 hD2 hS2 => ?_)
          clear hP hD hS
          obtain ⟨rfl, rfl⟩ := hw
          have hPD : PD D A [(Mm, .inr (7, [.int zth, .ref Mt, .int (nI tp), .int zma, .int zwr, .ref Mrr, .ref Mrh, .ref Mrc, .int zrh, .int zrc, .ref Mn, .ref Mf, .ref Mr, .ref Mh, .int (nI hp), .int (nI cc), .ref Ma, .ref Mas, .ref Msn, .ref Mac, .ref Mat])), (Mn, .inl (g 0, 1767, .inl F_19))] H := ⟨hP2, hD2⟩
          have hS := hS2; clear hP2 hD2 hS2; have hP := hPD.1; have hD := hPD.2; clear hPD
          refine W.widen (k := 0) (n := 0) (Nat.le_of_ble_eq_true rfl) (Nat.le_of_ble_eq_true rfl) ?_
          refine lv_dup2_11 hx hb dX7_comes_134 rfl rfl ?_
          refine va_iald hx hb hK hP 1 0 rfl rfl (vp_in_nI (show 189 + 3 * 0 + cx < 1767 by omega) (by decide)) dX7_comes_135 ?_
          refine lv_eqi (y := (F_19 (189 + 3 * 0 + cx))) (congrArg F_19 (nI_clamp (show 189 + 3 * 0 + cx < 2 ^ 31 by omega))) ?_
          refine lv_topi (fun y_21 _ => ?_)
          refine lv_iconst (v := 1) hx hb dX7_comes_136 (by decide) ?_
          refine lv_iadd hx hb dX7_comes_137 ?_
          refine lv_topi (fun y_22 _ => ?_)
          refine va_iast hx hb hK hP hD hS 1 0 rfl rfl (vp_in_nI (show 189 + 3 * 0 + cx < 1767 by omega) (by decide)) dX7_comes_138 (fun H locs hP2 hD2 hS2 => ?_)
          clear hP hD hS
          have hPD : PD D A [(Mm, .inr (7, [.int zth, .ref Mt, .int (nI tp), .int zma, .int zwr, .ref Mrr, .ref Mrh, .ref Mrc, .int zrh, .int zrc, .ref Mn, .ref Mf, .ref Mr, .ref Mh, .int (nI hp), .int (nI cc), .ref Ma, .ref Mas, .ref Msn, .ref Mac, .ref Mat])), (Mn, .inl (g 0, 1767, .inl (upd F_19 (nI (189 + 3 * 0 + cx)).toNatClampNeg y_22)))] H := ⟨hP2, hD2⟩
          have hS := hS2; clear hP2 hD2 hS2; have hP := hPD.1; have hD := hPD.2; clear hPD
          rw [nI_clamp (show 189 + 3 * 0 + cx < 2 ^ 31 by omega)] at hP hD
          have hPD : PD D A [(Mm, .inr (7, [.int zth, .ref Mt, .int (nI tp), .int zma, .int zwr, .ref Mrr, .ref Mrh, .ref Mrc, .int zrh, .int zrc, .ref Mn, .ref Mf, .ref Mr, .ref Mh, .int (nI hp), .int (nI cc), .ref Ma, .ref Mas, .ref Msn, .ref Mac, .ref Mat])), (Mn, .inl (g 0, 1767, .inl (upd F_19 (189 + 3 * 0 + cx) y_22)))] H := ⟨hP, hD⟩
          clear hP hD; have hP := hPD.1; have hD := hPD.2; clear hPD
          have hF_23 : mOK gs tb (ub + 1) (upd F_19 (189 + 3 * 0 + cx) y_22) := mOK_free hF_19 (show mfree (189 + 3 * 0 + cx) by unfold mfree; omega)
          generalize upd F_19 (189 + 3 * 0 + cx) y_22 = F_23 at hP hD hF_23
          have hP9 := hP; have hD9 := hD
          subst hQ
          refine W.widen (k := 0) (n := 0) (Nat.le_of_ble_eq_true rfl) (Nat.le_of_ble_eq_true rfl) ?_
          exact W.vret hx hb hr (fun tS htS _ => ⟨⟨_, rfl, ⟨F_23, rfl, (hF_23)⟩, by rw [htS]; exact hP9, hD9⟩, hS.F htS⟩) hS.2.2 dX7_comes_139
        · skip
          have hPq_24 := hP; have hDq_24 := hD; have hSq_24 := hS; have hlq_24 := hl; clear hP hD hS hl
          subst cb_14
          have hP := hPq_24; have hD := hDq_24; have hS := hSq_24; have hl := hlq_24; clear hPq_24 hDq_24 hSq_24 hlq_24
          refine lv_aload_n hx hb dX7_comes_65 rfl (lv_at hl 3 rfl) ?_
          refine va_get (D := D) (ci := 7) (v := .ref Mn) (C := RX7) (T := TX7) (N := 21) hx hb hts iX7 hown hK hP 0 rfl rfl 10 (by decide) f22 (fun _ h9 => h9) rfl dX7_comes_66 ?_
          refine lv_iload_n hx hb dX7_comes_69 rfl (lv_at hl 2 rfl) ?_
          refine lv_iconst (v := 4) hx hb dX7_comes_70 (by decide) ?_
          refine lv_iadd hx hb dX7_comes_71 ?_
          refine lv_eqi (y := (nI (201 + 9 * cx + 4))) (nI_add (201 + 9 * cx) (4)) ?_
          refine lv_dup2_11 hx hb dX7_comes_72 rfl rfl ?_
          refine va_iald hx hb hK hP 1 0 rfl rfl (vp_in_nI (show 201 + 9 * cx + 4 < 1767 by omega) (by decide)) dX7_comes_73 ?_
          refine lv_eqi (y := (fno (201 + 9 * cx + 4))) (congrArg fno (nI_clamp (show 201 + 9 * cx + 4 < 2 ^ 31 by omega))) ?_
          refine lv_topi (fun y_25 _ => ?_)
          refine lv_iconst (v := 1) hx hb dX7_comes_74 (by decide) ?_
          refine lv_iadd hx hb dX7_comes_75 ?_
          refine lv_topi (fun y_26 _ => ?_)
          refine va_iast hx hb hK hP hD hS 1 0 rfl rfl (vp_in_nI (show 201 + 9 * cx + 4 < 1767 by omega) (by decide)) dX7_comes_76 (fun H locs hP2 hD2 hS2 => ?_)
          clear hP hD hS
          have hPD : PD D A [(Mm, .inr (7, [.int zth, .ref Mt, .int (nI tp), .int zma, .int zwr, .ref Mrr, .ref Mrh, .ref Mrc, .int zrh, .int zrc, .ref Mn, .ref Mf, .ref Mr, .ref Mh, .int (nI hp), .int (nI cc), .ref Ma, .ref Mas, .ref Msn, .ref Mac, .ref Mat])), (Mn, .inl (g 0, 1767, .inl (upd fno (nI (201 + 9 * cx + 4)).toNatClampNeg y_26)))] H := ⟨hP2, hD2⟩
          have hS := hS2; clear hP2 hD2 hS2; have hP := hPD.1; have hD := hPD.2; clear hPD
          rw [nI_clamp (show 201 + 9 * cx + 4 < 2 ^ 31 by omega)] at hP hD
          have hPD : PD D A [(Mm, .inr (7, [.int zth, .ref Mt, .int (nI tp), .int zma, .int zwr, .ref Mrr, .ref Mrh, .ref Mrc, .int zrh, .int zrc, .ref Mn, .ref Mf, .ref Mr, .ref Mh, .int (nI hp), .int (nI cc), .ref Ma, .ref Mas, .ref Msn, .ref Mac, .ref Mat])), (Mn, .inl (g 0, 1767, .inl (upd fno (201 + 9 * cx + 4) y_26)))] H := ⟨hP, hD⟩
          clear hP hD; have hP := hPD.1; have hD := hPD.2; clear hPD
          have hF_27 : mOK gs tb ub (upd fno (201 + 9 * cx + 4) y_26) := mOK_free h2 (show mfree (201 + 9 * cx + 4) by unfold mfree; omega)
          generalize upd fno (201 + 9 * cx + 4) y_26 = F_27 at hP hD hF_27
          have hP9 := hP; have hD9 := hD
          subst hQ
          refine W.widen (k := 0) (n := 0) (Nat.le_of_ble_eq_true rfl) (Nat.le_of_ble_eq_true rfl) ?_
          exact W.vret hx hb hr (fun tS htS _ => ⟨⟨_, rfl, ⟨F_27, rfl, (mOK_le hF_27 (show tb = tb by omega) (show ub ≤ ub + 1 by omega))⟩, by rw [htS]; exact hP9, hD9⟩, hS.F htS⟩) hS.2.2 dX7_comes_77
      · skip
        have hP9 := hP; have hD9 := hD
        subst hQ
        refine W.widen (k := 0) (n := 0) (Nat.le_of_ble_eq_true rfl) (Nat.le_of_ble_eq_true rfl) ?_
        exact W.vret hx hb hr (fun tS htS _ => ⟨⟨_, rfl, ⟨fno, rfl, (mOK_le h2 (show tb = tb by omega) (show ub ≤ ub + 1 by omega))⟩, by rw [htS]; exact hP9, hD9⟩, hS.F htS⟩) hS.2.2 dX7_comes_49

set_option maxHeartbeats 4000000 in
set_option maxRecDepth 100000 in
theorem k_X7_isTaken (l : Launch) (D : va_G) (g : Nat → ClassId) (sz : Nat) {gs : Nat → Int32} (Mm : Nat) (cx : Nat) (zth : Int32) (Mt : Nat) (tp : Nat) (zma : Int32) (zwr : Int32) (Mrr : Nat) (Mrh : Nat) (Mrc : Nat) (zrh : Int32) (zrc : Int32) (Mn : Nat) (Mf : Nat) (Mr : Nat) (Mh : Nat) (hp : Nat) (cc : Nat) (Ma : Nat) (Mas : Nat) (Msn : Nat) (Mac : Nat) (Mat : Nat) (fno : Nat → Int32) (fmh : Nat → Int32) (tb : Nat) (ub : Nat) (h0 : tb < 2 ^ 29) (h1 : ub + 8 < 2 ^ 29) (h2 : mOK gs tb ub fno) (h3 : 1 ≤ hp) (h4 : hp ≤ 3) (h5 : cx < 3) (h6 : n3 fmh) : Met l yX7_isTaken wsX7_isTaken ({ frames := 3, cells := 0, slots := 0, locals := 66 }) (va_Pc [.ref Mm, .int (nI cx)] (pre D g sz [(Mm, .inr (7, [.int zth, .ref Mt, .int (nI tp), .int zma, .int zwr, .ref Mrr, .ref Mrh, .ref Mrc, .int zrh, .int zrc, .ref Mn, .ref Mf, .ref Mr, .ref Mh, .int (nI hp), .int (nI cc), .ref Ma, .ref Mas, .ref Msn, .ref Mac, .ref Mat])), (Mn, .inl (g 0, 1767, .inl fno)), (Mh, .inl (g 0, 9, .inl fmh))])) (va_Qv (fun (u : va_W) => ∃ (fnox : Nat → Int32), u = [(Mm, .inr (7, [.int zth, .ref Mt, .int (nI tp), .int zma, .int zwr, .ref Mrr, .ref Mrh, .ref Mrc, .int zrh, .int zrc, .ref Mn, .ref Mf, .ref Mr, .ref Mh, .int (nI hp), .int (nI cc), .ref Ma, .ref Mas, .ref Msn, .ref Mac, .ref Mat])), (Mn, .inl (g 0, 1767, .inl fnox)), (Mh, .inl (g 0, 9, .inl fmh))] ∧ (mOK gs tb (ub + 1) fnox)) (wd D (va_A [(Mm, .inr (7, [.int zth, .ref Mt, .int (nI tp), .int zma, .int zwr, .ref Mrr, .ref Mrh, .ref Mrc, .int zrh, .int zrc, .ref Mn, .ref Mf, .ref Mr, .ref Mh, .int (nI hp), .int (nI cc), .ref Ma, .ref Mas, .ref Msn, .ref Mac, .ref Mat])), (Mn, .inl (g 0, 1767, .inl fno)), (Mh, .inl (g 0, 9, .inl fmh))] sz)) (va_A [(Mm, .inr (7, [.int zth, .ref Mt, .int (nI tp), .int zma, .int zwr, .ref Mrr, .ref Mrh, .ref Mrc, .int zrh, .int zrc, .ref Mn, .ref Mf, .ref Mr, .ref Mh, .int (nI hp), .int (nI cc), .ref Ma, .ref Mas, .ref Msn, .ref Mac, .ref Mat])), (Mn, .inl (g 0, 1767, .inl fno)), (Mh, .inl (g 0, 9, .inl fmh))] sz)) 0 0 (va_A [(Mm, .inr (7, [.int zth, .ref Mt, .int (nI tp), .int zma, .int zwr, .ref Mrr, .ref Mrh, .ref Mrc, .int zrh, .int zrc, .ref Mn, .ref Mf, .ref Mr, .ref Mh, .int (nI hp), .int (nI cc), .ref Ma, .ref Mas, .ref Msn, .ref Mac, .ref Mat])), (Mn, .inl (g 0, 1767, .inl fno)), (Mh, .inl (g 0, 9, .inl fmh))] sz) := by
  refine Met.ofW (cc := cX7_isTaken) (maxL := 4) (ret := none) (by decide) rfl ?_
  intro p e s m args below meth c s₁ B hml hv
  obtain ⟨rfl, hsz, hP, ⟨hK, hN⟩, hD0, hZ⟩ := hv
  have hx := B.exec
  have hb := B.bytes
  have hr := B.returns
  have hts := atoms_spec (ws := wsX7_isTaken) B.pre
  have hown : s.vm.findClass RX7 = some m.cls := findClass_of_methodNamed B.named
  have hlocks := B.notSynchronized
  clear B
  subst hsz
  have hD := hD0.self (sz := s.heap.size)
  clear hD0
  generalize hAe : va_A [(Mm, .inr (7, [.int zth, .ref Mt, .int (nI tp), .int zma, .int zwr, .ref Mrr, .ref Mrh, .ref Mrc, .int zrh, .int zrc, .ref Mn, .ref Mf, .ref Mr, .ref Mh, .int (nI hp), .int (nI cc), .ref Ma, .ref Mas, .ref Msn, .ref Mac, .ref Mat])), (Mn, .inl (g 0, 1767, .inl fno)), (Mh, .inl (g 0, 9, .inl fmh))] s.heap.size = A at hD hZ ⊢
  have hA : ∀ q : Nat, s.heap.size ≤ q → A q := fun q h => by rw [← hAe]; exact Or.inr h
  have hS : va_S A s.heap s.heap [] := va_S.rf
  have f124 := hts (.fieldLink RX7 124 "HopCreditsModel" "hops" "I") (List.mem_of_getElem? (i := 2) rfl)
  have f22 := hts (.fieldLink RX7 22 "HopCreditsModel" "now" "[I") (List.mem_of_getElem? (i := 1) rfl)
  have mcmax := hts (.code Lib.Math.max.name Lib.Math.max.code 2 (some .int)) (List.mem_of_getElem? (i := 6) rfl)
  have mi := hts (.initialized "java/lang/Math") (List.mem_of_getElem? (i := 5) rfl)
  have mmmax := hts (.methodLink RX7 154 Lib.Math.max.name) (List.mem_of_getElem? (i := 3) rfl)
  have mtmax := hts (.static Lib.Math.max.name) (List.mem_of_getElem? (i := 4) rfl)
  have iX7 : ∀ w ∈ u_ws RX7 TX7 21, w ∈ wsX7_isTaken := fun w h => List.mem_cons_of_mem _ (List.mem_append_right _ (h))
  have hl := lv_entry ([.ref Mm, .int (nI cx)]) (n := 4) (Nat.le_of_ble_eq_true rfl)
  rw [lg_entry_eq]
  generalize (lg_sl ([.ref Mm, .int (nI cx)]) ++ List.replicate (4 - (lg_sl ([.ref Mm, .int (nI cx)])).length) Slot.unset).toArray = ls at hl ⊢
  have hl : lv_has ls 4 [(0, .ref Mm), (1, .int (nI cx))] := hl
  generalize hQ : MQ below _ _ s _ _ _ = Q
  generalize hH : s.heap = H at hP ⊢
  have hS : va_S A s.heap H [] := by rw [← hH]; exact hS
  clear hH
  refine lv_iload_n hx hb dX7_isTaken_0 rfl (lv_at hl 1 rfl) ?_
  refine ky_Si (As := [.int (nI cx)]) (rest := []) ⟨hx, hb, hml, hown, hts⟩ ⟨hK, hN⟩ hZ hP hD hS hA [] [0, 1, 2] (wc := []) (wr := [(Mm, .inr (7, [.int zth, .ref Mt, .int (nI tp), .int zma, .int zwr, .ref Mrr, .ref Mrh, .ref Mrc, .int zrh, .int zrc, .ref Mn, .ref Mf, .ref Mr, .ref Mh, .int (nI hp), .int (nI cc), .ref Ma, .ref Mas, .ref Msn, .ref Mac, .ref Mat])), (Mn, .inl (g 0, 1767, .inl fno)), (Mh, .inl (g 0, 9, .inl fmh))]) rfl rfl rfl rfl (by decide) (k_X7_circuitAt l D g H.size cx (show cx < 3 by omega)) (va_cwS 1 hts gX7_isTaken_X7_circuitAt rfl rfl rfl (by decide +kernel) ⟨(Nat.le_of_ble_eq_true rfl), (Nat.le_of_ble_eq_true rfl)⟩) rfl hl.1 rfl (Nat.le_of_ble_eq_true rfl) dX7_isTaken_1 ⟨(Nat.le_of_ble_eq_true rfl), (Nat.le_of_ble_eq_true rfl)⟩ (fun r_1 u H locs hw hP2 hD2 hS2 => ?_)
  clear hP hD hS
  obtain ⟨rfl, rfl⟩ := hw
  have hPD : PD D A [(Mm, .inr (7, [.int zth, .ref Mt, .int (nI tp), .int zma, .int zwr, .ref Mrr, .ref Mrh, .ref Mrc, .int zrh, .int zrc, .ref Mn, .ref Mf, .ref Mr, .ref Mh, .int (nI hp), .int (nI cc), .ref Ma, .ref Mas, .ref Msn, .ref Mac, .ref Mat])), (Mn, .inl (g 0, 1767, .inl fno)), (Mh, .inl (g 0, 9, .inl fmh))] H := ⟨hP2, hD2⟩
  have hS := hS2; clear hP2 hD2 hS2; have hP := hPD.1; have hD := hPD.2; clear hPD
  refine W.widen (k := 0) (n := 0) (Nat.le_of_ble_eq_true rfl) (Nat.le_of_ble_eq_true rfl) ?_
  refine lv_istore_n (lv' := [(2, .int (nI (201 + 9 * cx))), (0, .ref Mm), (1, .int (nI cx))]) hx hb dX7_isTaken_4 rfl hl (by decide) rfl (fun ls hl => ?_)
  refine lv_aload_n hx hb dX7_isTaken_5 rfl (lv_at hl 1 rfl) ?_
  refine va_get (D := D) (ci := 7) (v := .ref Mn) (C := RX7) (T := TX7) (N := 21) hx hb hts iX7 hown hK hP 0 rfl rfl 10 (by decide) f22 (fun _ h9 => h9) rfl dX7_isTaken_6 ?_
  refine lv_iload_n hx hb dX7_isTaken_9 rfl (lv_at hl 0 rfl) ?_
  refine lv_iconst (v := 2) hx hb dX7_isTaken_10 (by decide) ?_
  refine lv_iadd hx hb dX7_isTaken_11 ?_
  refine lv_eqi (y := (nI (201 + 9 * cx + 2))) (nI_add (201 + 9 * cx) (2)) ?_
  refine va_iald hx hb hK hP 1 0 rfl rfl (vp_in_nI (show 201 + 9 * cx + 2 < 1767 by omega) (by decide)) dX7_isTaken_12 ?_
  refine lv_eqi (y := (fno (201 + 9 * cx + 2))) (congrArg fno (nI_clamp (show 201 + 9 * cx + 2 < 2 ^ 31 by omega))) ?_
  refine lv_if_eq (tgt := 52) hx hb dX7_isTaken_13 (by decide) (fun cb_2 => ?_) (fun cb_2 => ?_)
  · skip
    have hP9 := hP; have hD9 := hD
    subst hQ
    refine W.widen (k := 0) (n := 0) (Nat.le_of_ble_eq_true rfl) (Nat.le_of_ble_eq_true rfl) ?_
    exact W.vret hx hb hr (fun tS htS _ => ⟨⟨_, rfl, ⟨fno, rfl, (mOK_le h2 (show tb = tb by omega) (show ub ≤ ub + 1 by omega))⟩, by rw [htS]; exact hP9, hD9⟩, hS.F htS⟩) hS.2.2 dX7_isTaken_52
  · skip
    refine lv_aload_n hx hb dX7_isTaken_16 rfl (lv_at hl 1 rfl) ?_
    refine va_get (D := D) (ci := 7) (v := .ref Mn) (C := RX7) (T := TX7) (N := 21) hx hb hts iX7 hown hK hP 0 rfl rfl 10 (by decide) f22 (fun _ h9 => h9) rfl dX7_isTaken_17 ?_
    refine lv_sipush (v := 1764) hx hb dX7_isTaken_20 (by decide) ?_
    refine va_iald hx hb hK hP 1 0 rfl rfl (by unfold vp_in; decide) dX7_isTaken_23 ?_
    refine lv_eqi (y := (fno 1764)) (rfl) ?_
    obtain ⟨t_3, ht_3, q9⟩ := mOK_t h2
    refine lv_eqi (y := nI t_3) q9 ?_
    refine lv_aload_n hx hb dX7_isTaken_24 rfl (lv_at hl 1 rfl) ?_
    refine va_get (D := D) (ci := 7) (v := .ref Mn) (C := RX7) (T := TX7) (N := 21) hx hb hts iX7 hown hK hP 0 rfl rfl 10 (by decide) f22 (fun _ h9 => h9) rfl dX7_isTaken_25 ?_
    refine lv_iload_n hx hb dX7_isTaken_28 rfl (lv_at hl 0 rfl) ?_
    refine lv_iconst (v := 2) hx hb dX7_isTaken_29 (by decide) ?_
    refine lv_iadd hx hb dX7_isTaken_30 ?_
    refine lv_eqi (y := (nI (201 + 9 * cx + 2))) (nI_add (201 + 9 * cx) (2)) ?_
    refine va_iald hx hb hK hP 1 0 rfl rfl (vp_in_nI (show 201 + 9 * cx + 2 < 1767 by omega) (by decide)) dX7_isTaken_31 ?_
    refine lv_eqi (y := (fno (201 + 9 * cx + 2))) (congrArg fno (nI_clamp (show 201 + 9 * cx + 2 < 2 ^ 31 by omega))) ?_
    refine lv_irem hx hb dX7_isTaken_32 (cb_2) ?_
    refine lv_topi (fun y_4 _ => ?_)
    refine lv_if_ne (tgt := 52) hx hb dX7_isTaken_33 (by decide) (fun cb_5 => ?_) (fun cb_5 => ?_)
    · skip
      have hP9 := hP; have hD9 := hD
      subst hQ
      refine W.widen (k := 0) (n := 0) (Nat.le_of_ble_eq_true rfl) (Nat.le_of_ble_eq_true rfl) ?_
      exact W.vret hx hb hr (fun tS htS _ => ⟨⟨_, rfl, ⟨fno, rfl, (mOK_le h2 (show tb = tb by omega) (show ub ≤ ub + 1 by omega))⟩, by rw [htS]; exact hP9, hD9⟩, hS.F htS⟩) hS.2.2 dX7_isTaken_52
    · skip
      have hPq_6 := hP; have hDq_6 := hD; have hSq_6 := hS; have hlq_6 := hl; clear hP hD hS hl
      subst cb_5
      have hP := hPq_6; have hD := hDq_6; have hS := hSq_6; have hl := hlq_6; clear hPq_6 hDq_6 hSq_6 hlq_6
      refine lv_aload_n hx hb dX7_isTaken_36 rfl (lv_at hl 1 rfl) ?_
      refine va_get (D := D) (ci := 7) (v := .ref Mn) (C := RX7) (T := TX7) (N := 21) hx hb hts iX7 hown hK hP 0 rfl rfl 10 (by decide) f22 (fun _ h9 => h9) rfl dX7_isTaken_37 ?_
      refine lv_aload_n hx hb dX7_isTaken_40 rfl (lv_at hl 1 rfl) ?_
      refine va_get (D := D) (ci := 7) (v := .int (nI hp)) (C := RX7) (T := TX7) (N := 21) hx hb hts iX7 hown hK hP 0 rfl rfl 14 (by decide) f124 (fun _ h9 => h9) rfl dX7_isTaken_41 ?_
      refine lv_iload_n hx hb dX7_isTaken_44 rfl (lv_at hl 2 rfl) ?_
      refine ky_Si (As := [.int (nI hp), .int (nI cx)]) (rest := [.ref Mn]) ⟨hx, hb, hml, hown, hts⟩ ⟨hK, hN⟩ hZ hP hD hS hA [] [0, 1, 2] (wc := []) (wr := [(Mm, .inr (7, [.int zth, .ref Mt, .int (nI tp), .int zma, .int zwr, .ref Mrr, .ref Mrh, .ref Mrc, .int zrh, .int zrc, .ref Mn, .ref Mf, .ref Mr, .ref Mh, .int (nI hp), .int (nI cc), .ref Ma, .ref Mas, .ref Msn, .ref Mac, .ref Mat])), (Mn, .inl (g 0, 1767, .inl fno)), (Mh, .inl (g 0, 9, .inl fmh))]) rfl rfl rfl rfl (by decide) (k_X7_bufferAt l D g H.size hp cx (show hp ≤ 3 by omega) (show cx < 3 by omega)) (va_cwS 2 hts gX7_isTaken_X7_bufferAt rfl rfl rfl (by decide +kernel) ⟨(Nat.le_of_ble_eq_true rfl), (Nat.le_of_ble_eq_true rfl)⟩) rfl hl.1 rfl (Nat.le_of_ble_eq_true rfl) dX7_isTaken_45 ⟨(Nat.le_of_ble_eq_true rfl), (Nat.le_of_ble_eq_true rfl)⟩ (fun r_7 u H locs hw hP2 hD2 hS2 => ?_)
      clear hP hD hS
      obtain ⟨rfl, rfl⟩ := hw
      have hPD : PD D A [(Mm, .inr (7, [.int zth, .ref Mt, .int (nI tp), .int zma, .int zwr, .ref Mrr, .ref Mrh, .ref Mrc, .int zrh, .int zrc, .ref Mn, .ref Mf, .ref Mr, .ref Mh, .int (nI hp), .int (nI cc), .ref Ma, .ref Mas, .ref Msn, .ref Mac, .ref Mat])), (Mn, .inl (g 0, 1767, .inl fno)), (Mh, .inl (g 0, 9, .inl fmh))] H := ⟨hP2, hD2⟩
      have hS := hS2; clear hP2 hD2 hS2; have hP := hPD.1; have hD := hPD.2; clear hPD
      refine W.widen (k := 0) (n := 0) (Nat.le_of_ble_eq_true rfl) (Nat.le_of_ble_eq_true rfl) ?_
      refine va_iald hx hb hK hP 1 0 rfl rfl (vp_in_nI (show 189 + 3 * hp + cx < 1767 by omega) (by decide)) dX7_isTaken_48 ?_
      refine lv_eqi (y := (fno (189 + 3 * hp + cx))) (congrArg fno (nI_clamp (show 189 + 3 * hp + cx < 2 ^ 31 by omega))) ?_
      refine lv_topi (fun y_8 _ => ?_)
      refine lv_if_ne (tgt := 53) hx hb dX7_isTaken_49 (by decide) (fun cb_9 => ?_) (fun cb_9 => ?_)
      · skip
        refine lv_aload_n hx hb dX7_isTaken_53 rfl (lv_at hl 1 rfl) ?_
        refine va_get (D := D) (ci := 7) (v := .ref Mn) (C := RX7) (T := TX7) (N := 21) hx hb hts iX7 hown hK hP 0 rfl rfl 10 (by decide) f22 (fun _ h9 => h9) rfl dX7_isTaken_54 ?_
        refine lv_aload_n hx hb dX7_isTaken_57 rfl (lv_at hl 1 rfl) ?_
        refine va_get (D := D) (ci := 7) (v := .int (nI hp)) (C := RX7) (T := TX7) (N := 21) hx hb hts iX7 hown hK hP 0 rfl rfl 14 (by decide) f124 (fun _ h9 => h9) rfl dX7_isTaken_58 ?_
        refine lv_iload_n hx hb dX7_isTaken_61 rfl (lv_at hl 2 rfl) ?_
        refine ky_Si (As := [.int (nI hp), .int (nI cx)]) (rest := [.ref Mn]) ⟨hx, hb, hml, hown, hts⟩ ⟨hK, hN⟩ hZ hP hD hS hA [] [0, 1, 2] (wc := []) (wr := [(Mm, .inr (7, [.int zth, .ref Mt, .int (nI tp), .int zma, .int zwr, .ref Mrr, .ref Mrh, .ref Mrc, .int zrh, .int zrc, .ref Mn, .ref Mf, .ref Mr, .ref Mh, .int (nI hp), .int (nI cc), .ref Ma, .ref Mas, .ref Msn, .ref Mac, .ref Mat])), (Mn, .inl (g 0, 1767, .inl fno)), (Mh, .inl (g 0, 9, .inl fmh))]) rfl rfl rfl rfl (by decide) (k_X7_bufferAt l D g H.size hp cx (show hp ≤ 3 by omega) (show cx < 3 by omega)) (va_cwS 2 hts gX7_isTaken_X7_bufferAt rfl rfl rfl (by decide +kernel) ⟨(Nat.le_of_ble_eq_true rfl), (Nat.le_of_ble_eq_true rfl)⟩) rfl hl.1 rfl (Nat.le_of_ble_eq_true rfl) dX7_isTaken_62 ⟨(Nat.le_of_ble_eq_true rfl), (Nat.le_of_ble_eq_true rfl)⟩ (fun r_10 u H locs hw hP2 hD2 hS2 => ?_)
        clear hP hD hS
        obtain ⟨rfl, rfl⟩ := hw
        have hPD : PD D A [(Mm, .inr (7, [.int zth, .ref Mt, .int (nI tp), .int zma, .int zwr, .ref Mrr, .ref Mrh, .ref Mrc, .int zrh, .int zrc, .ref Mn, .ref Mf, .ref Mr, .ref Mh, .int (nI hp), .int (nI cc), .ref Ma, .ref Mas, .ref Msn, .ref Mac, .ref Mat])), (Mn, .inl (g 0, 1767, .inl fno)), (Mh, .inl (g 0, 9, .inl fmh))] H := ⟨hP2, hD2⟩
        have hS := hS2; clear hP2 hD2 hS2; have hP := hPD.1; have hD := hPD.2; clear hPD
        refine W.widen (k := 0) (n := 0) (Nat.le_of_ble_eq_true rfl) (Nat.le_of_ble_eq_true rfl) ?_
        refine lv_dup2_11 hx hb dX7_isTaken_65 rfl rfl ?_
        refine va_iald hx hb hK hP 1 0 rfl rfl (vp_in_nI (show 189 + 3 * hp + cx < 1767 by omega) (by decide)) dX7_isTaken_66 ?_
        refine lv_eqi (y := (fno (189 + 3 * hp + cx))) (congrArg fno (nI_clamp (show 189 + 3 * hp + cx < 2 ^ 31 by omega))) ?_
        refine lv_topi (fun y_11 _ => ?_)
        refine lv_iconst (v := 1) hx hb dX7_isTaken_67 (by decide) ?_
        refine lv_isub hx hb dX7_isTaken_68 ?_
        refine lv_topi (fun y_12 _ => ?_)
        refine va_iast hx hb hK hP hD hS 1 0 rfl rfl (vp_in_nI (show 189 + 3 * hp + cx < 1767 by omega) (by decide)) dX7_isTaken_69 (fun H locs hP2 hD2 hS2 => ?_)
        clear hP hD hS
        have hPD : PD D A [(Mm, .inr (7, [.int zth, .ref Mt, .int (nI tp), .int zma, .int zwr, .ref Mrr, .ref Mrh, .ref Mrc, .int zrh, .int zrc, .ref Mn, .ref Mf, .ref Mr, .ref Mh, .int (nI hp), .int (nI cc), .ref Ma, .ref Mas, .ref Msn, .ref Mac, .ref Mat])), (Mn, .inl (g 0, 1767, .inl (upd fno (nI (189 + 3 * hp + cx)).toNatClampNeg y_12))), (Mh, .inl (g 0, 9, .inl fmh))] H := ⟨hP2, hD2⟩
        have hS := hS2; clear hP2 hD2 hS2; have hP := hPD.1; have hD := hPD.2; clear hPD
        rw [nI_clamp (show 189 + 3 * hp + cx < 2 ^ 31 by omega)] at hP hD
        have hPD : PD D A [(Mm, .inr (7, [.int zth, .ref Mt, .int (nI tp), .int zma, .int zwr, .ref Mrr, .ref Mrh, .ref Mrc, .int zrh, .int zrc, .ref Mn, .ref Mf, .ref Mr, .ref Mh, .int (nI hp), .int (nI cc), .ref Ma, .ref Mas, .ref Msn, .ref Mac, .ref Mat])), (Mn, .inl (g 0, 1767, .inl (upd fno (189 + 3 * hp + cx) y_12))), (Mh, .inl (g 0, 9, .inl fmh))] H := ⟨hP, hD⟩
        clear hP hD; have hP := hPD.1; have hD := hPD.2; clear hPD
        have hF_13 : mOK gs tb ub (upd fno (189 + 3 * hp + cx) y_12) := mOK_free h2 (show mfree (189 + 3 * hp + cx) by unfold mfree; omega)
        generalize upd fno (189 + 3 * hp + cx) y_12 = F_13 at hP hD hF_13
        refine lv_aload_n hx hb dX7_isTaken_70 rfl (lv_at hl 1 rfl) ?_
        refine va_get (D := D) (ci := 7) (v := .ref Mn) (C := RX7) (T := TX7) (N := 21) hx hb hts iX7 hown hK hP 0 rfl rfl 10 (by decide) f22 (fun _ h9 => h9) rfl dX7_isTaken_71 ?_
        refine lv_sipush (v := 1764) hx hb dX7_isTaken_74 (by decide) ?_
        refine va_iald hx hb hK hP 1 0 rfl rfl (by unfold vp_in; decide) dX7_isTaken_77 ?_
        refine lv_eqi (y := (F_13 1764)) (rfl) ?_
        obtain ⟨t_14, ht_14, q9⟩ := mOK_t hF_13
        refine lv_eqi (y := nI t_14) q9 ?_
        refine lv_aload_n hx hb dX7_isTaken_78 rfl (lv_at hl 1 rfl) ?_
        refine va_get (D := D) (ci := 7) (v := .ref Mn) (C := RX7) (T := TX7) (N := 21) hx hb hts iX7 hown hK hP 0 rfl rfl 10 (by decide) f22 (fun _ h9 => h9) rfl dX7_isTaken_79 ?_
        refine lv_sipush (v := 228) hx hb dX7_isTaken_82 (by decide) ?_
        refine lv_sipush (v := 512) hx hb dX7_isTaken_85 (by decide) ?_
        refine lv_iload_n hx hb dX7_isTaken_88 rfl (lv_at hl 2 rfl) ?_
        refine lv_imul hx hb dX7_isTaken_89 ?_
        refine lv_eqi (y := (nI (512 * cx))) (pk_mul (512) (cx)) ?_
        refine lv_iadd hx hb dX7_isTaken_90 ?_
        refine lv_eqi (y := (nI (228 + (512 * cx)))) (nI_add (228) (512 * cx)) ?_
        refine lv_aload_n hx hb dX7_isTaken_91 rfl (lv_at hl 1 rfl) ?_
        refine va_get (D := D) (ci := 7) (v := .ref Mn) (C := RX7) (T := TX7) (N := 21) hx hb hts iX7 hown hK hP 0 rfl rfl 10 (by decide) f22 (fun _ h9 => h9) rfl dX7_isTaken_92 ?_
        refine lv_iload_n hx hb dX7_isTaken_95 rfl (lv_at hl 0 rfl) ?_
        refine lv_iconst (v := 5) hx hb dX7_isTaken_96 (by decide) ?_
        refine lv_iadd hx hb dX7_isTaken_97 ?_
        refine lv_eqi (y := (nI (201 + 9 * cx + 5))) (nI_add (201 + 9 * cx) (5)) ?_
        refine va_iald hx hb hK hP 1 0 rfl rfl (vp_in_nI (show 201 + 9 * cx + 5 < 1767 by omega) (by decide)) dX7_isTaken_98 ?_
        refine lv_eqi (y := (F_13 (201 + 9 * cx + 5))) (congrArg F_13 (nI_clamp (show 201 + 9 * cx + 5 < 2 ^ 31 by omega))) ?_
        obtain ⟨n_15, hn_15, q9⟩ := mOK_n hF_13 (show nidx (201 + 9 * cx + 5) by unfold nidx; omega)
        refine lv_eqi (y := nI n_15) q9 ?_
        refine lv_sipush (v := 512) hx hb dX7_isTaken_99 (by decide) ?_
        refine lv_irem hx hb dX7_isTaken_102 (by decide) ?_
        refine lv_eqi (y := (nI ((n_15) % 512))) (pk_rem (show n_15 < 2 ^ 31 by omega) (show 0 < 512 by omega) (show 512 < 2 ^ 31 by omega)) ?_
        refine lv_iadd hx hb dX7_isTaken_103 ?_
        refine lv_eqi (y := (nI (228 + (512 * cx) + ((n_15) % 512)))) (nI_add (228 + (512 * cx)) ((n_15) % 512)) ?_
        refine va_iald hx hb hK hP 1 0 rfl rfl (vp_in_nI (show 228 + (512 * cx) + ((n_15) % 512) < 1767 by omega) (by decide)) dX7_isTaken_104 ?_
        refine lv_eqi (y := (F_13 (228 + (512 * cx) + ((n_15) % 512)))) (congrArg F_13 (nI_clamp (show 228 + (512 * cx) + ((n_15) % 512) < 2 ^ 31 by omega))) ?_
        refine lv_topi (fun y_16 _ => ?_)
        refine lv_isub hx hb dX7_isTaken_105 ?_
        refine lv_topi (fun y_17 _ => ?_)
        refine lv_istore_n (lv' := [(3, .int y_17), (2, .int (nI (201 + 9 * cx))), (0, .ref Mm), (1, .int (nI cx))]) hx hb dX7_isTaken_106 rfl hl (by decide) rfl (fun ls hl => ?_)
        refine lv_aload_n hx hb dX7_isTaken_107 rfl (lv_at hl 2 rfl) ?_
        refine va_get (D := D) (ci := 7) (v := .ref Mn) (C := RX7) (T := TX7) (N := 21) hx hb hts iX7 hown hK hP 0 rfl rfl 10 (by decide) f22 (fun _ h9 => h9) rfl dX7_isTaken_108 ?_
        refine lv_iload_n hx hb dX7_isTaken_111 rfl (lv_at hl 1 rfl) ?_
        refine lv_iconst (v := 5) hx hb dX7_isTaken_112 (by decide) ?_
        refine lv_iadd hx hb dX7_isTaken_113 ?_
        refine lv_eqi (y := (nI (201 + 9 * cx + 5))) (nI_add (201 + 9 * cx) (5)) ?_
        refine lv_dup2_11 hx hb dX7_isTaken_114 rfl rfl ?_
        refine va_iald hx hb hK hP 1 0 rfl rfl (vp_in_nI (show 201 + 9 * cx + 5 < 1767 by omega) (by decide)) dX7_isTaken_115 ?_
        refine lv_eqi (y := (F_13 (201 + 9 * cx + 5))) (congrArg F_13 (nI_clamp (show 201 + 9 * cx + 5 < 2 ^ 31 by omega))) ?_
        obtain ⟨n_18, hn_18, q9⟩ := mOK_n hF_13 (show nidx (201 + 9 * cx + 5) by unfold nidx; omega)
        refine lv_eqi (y := nI n_18) q9 ?_
        refine lv_iconst (v := 1) hx hb dX7_isTaken_116 (by decide) ?_
        refine lv_iadd hx hb dX7_isTaken_117 ?_
        refine lv_eqi (y := (nI (n_18 + 1))) (nI_add (n_18) (1)) ?_
        refine va_iast hx hb hK hP hD hS 1 0 rfl rfl (vp_in_nI (show 201 + 9 * cx + 5 < 1767 by omega) (by decide)) dX7_isTaken_118 (fun H locs hP2 hD2 hS2 => ?_)
        clear hP hD hS
        have hPD : PD D A [(Mm, .inr (7, [.int zth, .ref Mt, .int (nI tp), .int zma, .int zwr, .ref Mrr, .ref Mrh, .ref Mrc, .int zrh, .int zrc, .ref Mn, .ref Mf, .ref Mr, .ref Mh, .int (nI hp), .int (nI cc), .ref Ma, .ref Mas, .ref Msn, .ref Mac, .ref Mat])), (Mn, .inl (g 0, 1767, .inl (upd F_13 (nI (201 + 9 * cx + 5)).toNatClampNeg (nI (n_18 + 1))))), (Mh, .inl (g 0, 9, .inl fmh))] H := ⟨hP2, hD2⟩
        have hS := hS2; clear hP2 hD2 hS2; have hP := hPD.1; have hD := hPD.2; clear hPD
        rw [nI_clamp (show 201 + 9 * cx + 5 < 2 ^ 31 by omega)] at hP hD
        have hPD : PD D A [(Mm, .inr (7, [.int zth, .ref Mt, .int (nI tp), .int zma, .int zwr, .ref Mrr, .ref Mrh, .ref Mrc, .int zrh, .int zrc, .ref Mn, .ref Mf, .ref Mr, .ref Mh, .int (nI hp), .int (nI cc), .ref Ma, .ref Mas, .ref Msn, .ref Mac, .ref Mat])), (Mn, .inl (g 0, 1767, .inl (upd F_13 (201 + 9 * cx + 5) (nI (n_18 + 1))))), (Mh, .inl (g 0, 9, .inl fmh))] H := ⟨hP, hD⟩
        clear hP hD; have hP := hPD.1; have hD := hPD.2; clear hPD
        have hF_19 : mOK gs tb (ub + 1) (upd F_13 (201 + 9 * cx + 5) (nI (n_18 + 1))) := mOK_cnt hF_13 (n := n_18 + 1) (show (201 ≤ 201 + 9 * cx + 5 ∧ 201 + 9 * cx + 5 < 1764) ∧ (201 + 9 * cx + 5 < 201 ∨ 228 ≤ 201 + 9 * cx + 5 ∨ 3 ≤ (201 + 9 * cx + 5 - 201) % 9) by omega) (show n_18 + 1 ≤ ub + 1 by omega)
        generalize upd F_13 (201 + 9 * cx + 5) (nI (n_18 + 1)) = F_19 at hP hD hF_19
        refine lv_aload_n hx hb dX7_isTaken_119 rfl (lv_at hl 2 rfl) ?_
        refine va_get (D := D) (ci := 7) (v := .ref Mn) (C := RX7) (T := TX7) (N := 21) hx hb hts iX7 hown hK hP 0 rfl rfl 10 (by decide) f22 (fun _ h9 => h9) rfl dX7_isTaken_120 ?_
        refine lv_iload_n hx hb dX7_isTaken_123 rfl (lv_at hl 1 rfl) ?_
        refine lv_bipush (v := 6) hx hb dX7_isTaken_124 (by decide) ?_
        refine lv_iadd hx hb dX7_isTaken_126 ?_
        refine lv_eqi (y := (nI (201 + 9 * cx + 6))) (nI_add (201 + 9 * cx) (6)) ?_
        refine lv_iload_n hx hb dX7_isTaken_127 rfl (lv_at hl 0 rfl) ?_
        refine va_iast hx hb hK hP hD hS 1 0 rfl rfl (vp_in_nI (show 201 + 9 * cx + 6 < 1767 by omega) (by decide)) dX7_isTaken_128 (fun H locs hP2 hD2 hS2 => ?_)
        clear hP hD hS
        have hPD : PD D A [(Mm, .inr (7, [.int zth, .ref Mt, .int (nI tp), .int zma, .int zwr, .ref Mrr, .ref Mrh, .ref Mrc, .int zrh, .int zrc, .ref Mn, .ref Mf, .ref Mr, .ref Mh, .int (nI hp), .int (nI cc), .ref Ma, .ref Mas, .ref Msn, .ref Mac, .ref Mat])), (Mn, .inl (g 0, 1767, .inl (upd F_19 (nI (201 + 9 * cx + 6)).toNatClampNeg y_17))), (Mh, .inl (g 0, 9, .inl fmh))] H := ⟨hP2, hD2⟩
        have hS := hS2; clear hP2 hD2 hS2; have hP := hPD.1; have hD := hPD.2; clear hPD
        rw [nI_clamp (show 201 + 9 * cx + 6 < 2 ^ 31 by omega)] at hP hD
        have hPD : PD D A [(Mm, .inr (7, [.int zth, .ref Mt, .int (nI tp), .int zma, .int zwr, .ref Mrr, .ref Mrh, .ref Mrc, .int zrh, .int zrc, .ref Mn, .ref Mf, .ref Mr, .ref Mh, .int (nI hp), .int (nI cc), .ref Ma, .ref Mas, .ref Msn, .ref Mac, .ref Mat])), (Mn, .inl (g 0, 1767, .inl (upd F_19 (201 + 9 * cx + 6) y_17))), (Mh, .inl (g 0, 9, .inl fmh))] H := ⟨hP, hD⟩
        clear hP hD; have hP := hPD.1; have hD := hPD.2; clear hPD
        have hF_20 : mOK gs tb (ub + 1) (upd F_19 (201 + 9 * cx + 6) y_17) := mOK_free hF_19 (show mfree (201 + 9 * cx + 6) by unfold mfree; omega)
        generalize upd F_19 (201 + 9 * cx + 6) y_17 = F_20 at hP hD hF_20
        refine lv_aload_n hx hb dX7_isTaken_129 rfl (lv_at hl 2 rfl) ?_
        refine va_get (D := D) (ci := 7) (v := .ref Mn) (C := RX7) (T := TX7) (N := 21) hx hb hts iX7 hown hK hP 0 rfl rfl 10 (by decide) f22 (fun _ h9 => h9) rfl dX7_isTaken_130 ?_
        refine lv_iload_n hx hb dX7_isTaken_133 rfl (lv_at hl 1 rfl) ?_
        refine lv_bipush (v := 7) hx hb dX7_isTaken_134 (by decide) ?_
        refine lv_iadd hx hb dX7_isTaken_136 ?_
        refine lv_eqi (y := (nI (201 + 9 * cx + 7))) (nI_add (201 + 9 * cx) (7)) ?_
        refine lv_aload_n hx hb dX7_isTaken_137 rfl (lv_at hl 2 rfl) ?_
        refine va_get (D := D) (ci := 7) (v := .ref Mn) (C := RX7) (T := TX7) (N := 21) hx hb hts iX7 hown hK hP 0 rfl rfl 10 (by decide) f22 (fun _ h9 => h9) rfl dX7_isTaken_138 ?_
        refine lv_iload_n hx hb dX7_isTaken_141 rfl (lv_at hl 1 rfl) ?_
        refine lv_bipush (v := 7) hx hb dX7_isTaken_142 (by decide) ?_
        refine lv_iadd hx hb dX7_isTaken_144 ?_
        refine lv_eqi (y := (nI (201 + 9 * cx + 7))) (nI_add (201 + 9 * cx) (7)) ?_
        refine va_iald hx hb hK hP 1 0 rfl rfl (vp_in_nI (show 201 + 9 * cx + 7 < 1767 by omega) (by decide)) dX7_isTaken_145 ?_
        refine lv_eqi (y := (F_20 (201 + 9 * cx + 7))) (congrArg F_20 (nI_clamp (show 201 + 9 * cx + 7 < 2 ^ 31 by omega))) ?_
        refine lv_topi (fun y_21 _ => ?_)
        refine lv_iload_n hx hb dX7_isTaken_146 rfl (lv_at hl 0 rfl) ?_
        refine va_mmax hx hb (hml.trans hl.1.symm) hown mmmax mtmax mi mcmax (Nat.le_of_ble_eq_true rfl) (Nat.le_of_ble_eq_true rfl) (Nat.le_of_ble_eq_true rfl) (Nat.le_of_ble_eq_true rfl) dX7_isTaken_147 ?_
        refine lv_topi (fun y_22 _ => ?_)
        refine va_iast hx hb hK hP hD hS 1 0 rfl rfl (vp_in_nI (show 201 + 9 * cx + 7 < 1767 by omega) (by decide)) dX7_isTaken_150 (fun H locs hP2 hD2 hS2 => ?_)
        clear hP hD hS
        have hPD : PD D A [(Mm, .inr (7, [.int zth, .ref Mt, .int (nI tp), .int zma, .int zwr, .ref Mrr, .ref Mrh, .ref Mrc, .int zrh, .int zrc, .ref Mn, .ref Mf, .ref Mr, .ref Mh, .int (nI hp), .int (nI cc), .ref Ma, .ref Mas, .ref Msn, .ref Mac, .ref Mat])), (Mn, .inl (g 0, 1767, .inl (upd F_20 (nI (201 + 9 * cx + 7)).toNatClampNeg y_22))), (Mh, .inl (g 0, 9, .inl fmh))] H := ⟨hP2, hD2⟩
        have hS := hS2; clear hP2 hD2 hS2; have hP := hPD.1; have hD := hPD.2; clear hPD
        rw [nI_clamp (show 201 + 9 * cx + 7 < 2 ^ 31 by omega)] at hP hD
        have hPD : PD D A [(Mm, .inr (7, [.int zth, .ref Mt, .int (nI tp), .int zma, .int zwr, .ref Mrr, .ref Mrh, .ref Mrc, .int zrh, .int zrc, .ref Mn, .ref Mf, .ref Mr, .ref Mh, .int (nI hp), .int (nI cc), .ref Ma, .ref Mas, .ref Msn, .ref Mac, .ref Mat])), (Mn, .inl (g 0, 1767, .inl (upd F_20 (201 + 9 * cx + 7) y_22))), (Mh, .inl (g 0, 9, .inl fmh))] H := ⟨hP, hD⟩
        clear hP hD; have hP := hPD.1; have hD := hPD.2; clear hPD
        have hF_23 : mOK gs tb (ub + 1) (upd F_20 (201 + 9 * cx + 7) y_22) := mOK_free hF_20 (show mfree (201 + 9 * cx + 7) by unfold mfree; omega)
        generalize upd F_20 (201 + 9 * cx + 7) y_22 = F_23 at hP hD hF_23
        refine lv_aload_n hx hb dX7_isTaken_151 rfl (lv_at hl 2 rfl) ?_
        refine va_get (D := D) (ci := 7) (v := .ref Mn) (C := RX7) (T := TX7) (N := 21) hx hb hts iX7 hown hK hP 0 rfl rfl 10 (by decide) f22 (fun _ h9 => h9) rfl dX7_isTaken_152 ?_
        refine lv_iload_n hx hb dX7_isTaken_155 rfl (lv_at hl 1 rfl) ?_
        refine lv_bipush (v := 8) hx hb dX7_isTaken_156 (by decide) ?_
        refine lv_iadd hx hb dX7_isTaken_158 ?_
        refine lv_eqi (y := (nI (201 + 9 * cx + 8))) (nI_add (201 + 9 * cx) (8)) ?_
        refine lv_dup2_11 hx hb dX7_isTaken_159 rfl rfl ?_
        refine va_iald hx hb hK hP 1 0 rfl rfl (vp_in_nI (show 201 + 9 * cx + 8 < 1767 by omega) (by decide)) dX7_isTaken_160 ?_
        refine lv_eqi (y := (F_23 (201 + 9 * cx + 8))) (congrArg F_23 (nI_clamp (show 201 + 9 * cx + 8 < 2 ^ 31 by omega))) ?_
        refine lv_topi (fun y_24 _ => ?_)
        refine lv_iload_n hx hb dX7_isTaken_161 rfl (lv_at hl 0 rfl) ?_
        refine lv_iadd hx hb dX7_isTaken_162 ?_
        refine lv_topi (fun y_25 _ => ?_)
        refine va_iast hx hb hK hP hD hS 1 0 rfl rfl (vp_in_nI (show 201 + 9 * cx + 8 < 1767 by omega) (by decide)) dX7_isTaken_163 (fun H locs hP2 hD2 hS2 => ?_)
        clear hP hD hS
        have hPD : PD D A [(Mm, .inr (7, [.int zth, .ref Mt, .int (nI tp), .int zma, .int zwr, .ref Mrr, .ref Mrh, .ref Mrc, .int zrh, .int zrc, .ref Mn, .ref Mf, .ref Mr, .ref Mh, .int (nI hp), .int (nI cc), .ref Ma, .ref Mas, .ref Msn, .ref Mac, .ref Mat])), (Mn, .inl (g 0, 1767, .inl (upd F_23 (nI (201 + 9 * cx + 8)).toNatClampNeg y_25))), (Mh, .inl (g 0, 9, .inl fmh))] H := ⟨hP2, hD2⟩
        have hS := hS2; clear hP2 hD2 hS2; have hP := hPD.1; have hD := hPD.2; clear hPD
        rw [nI_clamp (show 201 + 9 * cx + 8 < 2 ^ 31 by omega)] at hP hD
        have hPD : PD D A [(Mm, .inr (7, [.int zth, .ref Mt, .int (nI tp), .int zma, .int zwr, .ref Mrr, .ref Mrh, .ref Mrc, .int zrh, .int zrc, .ref Mn, .ref Mf, .ref Mr, .ref Mh, .int (nI hp), .int (nI cc), .ref Ma, .ref Mas, .ref Msn, .ref Mac, .ref Mat])), (Mn, .inl (g 0, 1767, .inl (upd F_23 (201 + 9 * cx + 8) y_25))), (Mh, .inl (g 0, 9, .inl fmh))] H := ⟨hP, hD⟩
        clear hP hD; have hP := hPD.1; have hD := hPD.2; clear hPD
        have hF_26 : mOK gs tb (ub + 1) (upd F_23 (201 + 9 * cx + 8) y_25) := mOK_free hF_23 (show mfree (201 + 9 * cx + 8) by unfold mfree; omega)
        generalize upd F_23 (201 + 9 * cx + 8) y_25 = F_26 at hP hD hF_26
        refine lv_aload_n hx hb dX7_isTaken_164 rfl (lv_at hl 2 rfl) ?_
        refine lv_aload_n hx hb dX7_isTaken_165 rfl (lv_at hl 2 rfl) ?_
        refine va_get (D := D) (ci := 7) (v := .int (nI hp)) (C := RX7) (T := TX7) (N := 21) hx hb hts iX7 hown hK hP 0 rfl rfl 14 (by decide) f124 (fun _ h9 => h9) rfl dX7_isTaken_166 ?_
        refine lv_iconst (v := 1) hx hb dX7_isTaken_169 (by decide) ?_
        refine lv_isub hx hb dX7_isTaken_170 ?_
        refine lv_eqi (y := (nI (hp - 1))) (pk_sub (show 1 ≤ hp by omega)) ?_
        refine lv_iload_n hx hb dX7_isTaken_171 rfl (lv_at hl 3 rfl) ?_
        refine ky_Vv (As := [.int (nI (hp - 1)), .int (nI cx)]) (rest := []) ⟨hx, hb, hml, hown, hts⟩ ⟨hK, hN⟩ hZ hP hD hS hA [0, 1, 2] [] (wc := [(Mm, .inr (7, [.int zth, .ref Mt, .int (nI tp), .int zma, .int zwr, .ref Mrr, .ref Mrh, .ref Mrc, .int zrh, .int zrc, .ref Mn, .ref Mf, .ref Mr, .ref Mh, .int (nI hp), .int (nI cc), .ref Ma, .ref Mas, .ref Msn, .ref Mac, .ref Mat])), (Mn, .inl (g 0, 1767, .inl F_26)), (Mh, .inl (g 0, 9, .inl fmh))]) (wr := []) rfl rfl rfl rfl (by decide) (k_X7_goesFrom l D g H.size Mm (hp - 1) cx zth Mt tp zma zwr Mrr Mrh Mrc zrh zrc Mn Mf Mr Mh hp cc Ma Mas Msn Mac Mat F_26 fmh tb (ub + 1) (show tb < 2 ^ 29 by omega) (show ub + 1 < 2 ^ 29 by omega) (hF_26) (show (hp - 1) < 3 by omega) (show cx < 3 by omega) (h6)) (cwV 2 hts gX7_isTaken_X7_goesFrom rfl rfl rfl (by decide +kernel) ⟨(Nat.le_of_ble_eq_true rfl), (Nat.le_of_ble_eq_true rfl)⟩) 0 7 rfl rfl rfl rfl hl.1 rfl (Nat.le_of_ble_eq_true rfl) dX7_isTaken_172 ⟨(Nat.le_of_ble_eq_true rfl), (Nat.le_of_ble_eq_true rfl)⟩ (fun u H locs hw hP2 hD2 hS2 => ?_)
        clear hP hD hS
        obtain ⟨fnox_28, rfl, hf_29⟩ := hw
        have hPD : PD D A [(Mm, .inr (7, [.int zth, .ref Mt, .int (nI tp), .int zma, .int zwr, .ref Mrr, .ref Mrh, .ref Mrc, .int zrh, .int zrc, .ref Mn, .ref Mf, .ref Mr, .ref Mh, .int (nI hp), .int (nI cc), .ref Ma, .ref Mas, .ref Msn, .ref Mac, .ref Mat])), (Mn, .inl (g 0, 1767, .inl fnox_28)), (Mh, .inl (g 0, 9, .inl fmh))] H := ⟨hP2, hD2⟩
        have hS := hS2; clear hP2 hD2 hS2; have hP := hPD.1; have hD := hPD.2; clear hPD
        refine W.widen (k := 0) (n := 0) (Nat.le_of_ble_eq_true rfl) (Nat.le_of_ble_eq_true rfl) ?_
        have hP9 := hP; have hD9 := hD
        subst hQ
        refine W.widen (k := 0) (n := 0) (Nat.le_of_ble_eq_true rfl) (Nat.le_of_ble_eq_true rfl) ?_
        exact W.vret hx hb hr (fun tS htS _ => ⟨⟨_, rfl, ⟨fnox_28, rfl, (hf_29)⟩, by rw [htS]; exact hP9, hD9⟩, hS.F htS⟩) hS.2.2 dX7_isTaken_175
      · skip
        have hPq_30 := hP; have hDq_30 := hD; have hSq_30 := hS; have hlq_30 := hl; clear hP hD hS hl
        subst cb_9
        have hP := hPq_30; have hD := hDq_30; have hS := hSq_30; have hl := hlq_30; clear hPq_30 hDq_30 hSq_30 hlq_30
        have hP9 := hP; have hD9 := hD
        subst hQ
        refine W.widen (k := 0) (n := 0) (Nat.le_of_ble_eq_true rfl) (Nat.le_of_ble_eq_true rfl) ?_
        exact W.vret hx hb hr (fun tS htS _ => ⟨⟨_, rfl, ⟨fno, rfl, (mOK_le h2 (show tb = tb by omega) (show ub ≤ ub + 1 by omega))⟩, by rw [htS]; exact hP9, hD9⟩, hS.F htS⟩) hS.2.2 dX7_isTaken_52

set_option maxHeartbeats 4000000 in
set_option maxRecDepth 100000 in
theorem k_X7_sender (l : Launch) (D : va_G) (g : Nat → ClassId) (sz : Nat) {gs : Nat → Int32} (Mm : Nat) (hix : Nat) (zth : Int32) (Mt : Nat) (tp : Nat) (zma : Int32) (zwr : Int32) (Mrr : Nat) (Mrh : Nat) (Mrc : Nat) (zrh : Int32) (zrc : Int32) (Mn : Nat) (Mf : Nat) (Mr : Nat) (Mh : Nat) (hp : Nat) (cc : Nat) (Ma : Nat) (Mas : Nat) (Msn : Nat) (Mac : Nat) (Mat : Nat) (fno : Nat → Int32) (tb : Nat) (ub : Nat) (h0 : tb < 2 ^ 29) (h1 : ub < 2 ^ 29) (h2 : mOK gs tb ub fno) (h3 : 1 ≤ cc) (h4 : cc ≤ 3) (h5 : hix < 3) : Met l yX7_sender wsX7_sender ({ frames := 3, cells := 0, slots := 0, locals := 65 }) (va_Pc [.ref Mm, .int (nI hix)] (pre D g sz [(Mm, .inr (7, [.int zth, .ref Mt, .int (nI tp), .int zma, .int zwr, .ref Mrr, .ref Mrh, .ref Mrc, .int zrh, .int zrc, .ref Mn, .ref Mf, .ref Mr, .ref Mh, .int (nI hp), .int (nI cc), .ref Ma, .ref Mas, .ref Msn, .ref Mac, .ref Mat])), (Mn, .inl (g 0, 1767, .inl fno))])) (va_Qi (fun (r : Int32) (u : va_W) => ∃ (zr : Int32), u = [(Mm, .inr (7, [.int zth, .ref Mt, .int (nI tp), .int zma, .int zwr, .ref Mrr, .ref Mrh, .ref Mrc, .int zrh, .int zrc, .ref Mn, .ref Mf, .ref Mr, .ref Mh, .int (nI hp), .int (nI cc), .ref Ma, .ref Mas, .ref Msn, .ref Mac, .ref Mat])), (Mn, .inl (g 0, 1767, .inl fno))] ∧ r = zr ∧ (okc zr)) (wd D (va_A [(Mm, .inr (7, [.int zth, .ref Mt, .int (nI tp), .int zma, .int zwr, .ref Mrr, .ref Mrh, .ref Mrc, .int zrh, .int zrc, .ref Mn, .ref Mf, .ref Mr, .ref Mh, .int (nI hp), .int (nI cc), .ref Ma, .ref Mas, .ref Msn, .ref Mac, .ref Mat])), (Mn, .inl (g 0, 1767, .inl fno))] sz)) (va_A [(Mm, .inr (7, [.int zth, .ref Mt, .int (nI tp), .int zma, .int zwr, .ref Mrr, .ref Mrh, .ref Mrc, .int zrh, .int zrc, .ref Mn, .ref Mf, .ref Mr, .ref Mh, .int (nI hp), .int (nI cc), .ref Ma, .ref Mas, .ref Msn, .ref Mac, .ref Mat])), (Mn, .inl (g 0, 1767, .inl fno))] sz)) 0 0 (va_A [(Mm, .inr (7, [.int zth, .ref Mt, .int (nI tp), .int zma, .int zwr, .ref Mrr, .ref Mrh, .ref Mrc, .int zrh, .int zrc, .ref Mn, .ref Mf, .ref Mr, .ref Mh, .int (nI hp), .int (nI cc), .ref Ma, .ref Mas, .ref Msn, .ref Mac, .ref Mat])), (Mn, .inl (g 0, 1767, .inl fno))] sz) := by
  refine Met.ofW (cc := cX7_sender) (maxL := 5) (ret := (some .int)) (by decide) rfl ?_
  intro p e s m args below meth c s₁ B hml hv
  obtain ⟨rfl, hsz, hP, ⟨hK, hN⟩, hD0, hZ⟩ := hv
  have hx := B.exec
  have hb := B.bytes
  have hr := B.returns
  have hts := atoms_spec (ws := wsX7_sender) B.pre
  have hown : s.vm.findClass RX7 = some m.cls := findClass_of_methodNamed B.named
  have hlocks := B.notSynchronized
  clear B
  subst hsz
  have hD := hD0.self (sz := s.heap.size)
  clear hD0
  generalize hAe : va_A [(Mm, .inr (7, [.int zth, .ref Mt, .int (nI tp), .int zma, .int zwr, .ref Mrr, .ref Mrh, .ref Mrc, .int zrh, .int zrc, .ref Mn, .ref Mf, .ref Mr, .ref Mh, .int (nI hp), .int (nI cc), .ref Ma, .ref Mas, .ref Msn, .ref Mac, .ref Mat])), (Mn, .inl (g 0, 1767, .inl fno))] s.heap.size = A at hD hZ ⊢
  have hA : ∀ q : Nat, s.heap.size ≤ q → A q := fun q h => by rw [← hAe]; exact Or.inr h
  have hS : va_S A s.heap s.heap [] := va_S.rf
  have f127 := hts (.fieldLink RX7 127 "HopCreditsModel" "circuits" "I") (List.mem_of_getElem? (i := 2) rfl)
  have f22 := hts (.fieldLink RX7 22 "HopCreditsModel" "now" "[I") (List.mem_of_getElem? (i := 1) rfl)
  have iX7 : ∀ w ∈ u_ws RX7 TX7 21, w ∈ wsX7_sender := fun w h => List.mem_cons_of_mem _ (List.mem_append_right _ (h))
  have hl := lv_entry ([.ref Mm, .int (nI hix)]) (n := 5) (Nat.le_of_ble_eq_true rfl)
  rw [lg_entry_eq]
  generalize (lg_sl ([.ref Mm, .int (nI hix)]) ++ List.replicate (5 - (lg_sl ([.ref Mm, .int (nI hix)])).length) Slot.unset).toArray = ls at hl ⊢
  have hl : lv_has ls 5 [(0, .ref Mm), (1, .int (nI hix))] := hl
  generalize hQ : MQ below _ _ s _ _ _ = Q
  generalize hH : s.heap = H at hP ⊢
  have hS : va_S A s.heap H [] := by rw [← hH]; exact hS
  clear hH
  refine lv_aload_n hx hb dX7_sender_0 rfl (lv_at hl 0 rfl) ?_
  refine va_get (D := D) (ci := 7) (v := .ref Mn) (C := RX7) (T := TX7) (N := 21) hx hb hts iX7 hown hK hP 0 rfl rfl 10 (by decide) f22 (fun _ h9 => h9) rfl dX7_sender_1 ?_
  refine lv_bipush (v := 66) hx hb dX7_sender_4 (by decide) ?_
  refine lv_iload_n hx hb dX7_sender_6 rfl (lv_at hl 1 rfl) ?_
  refine lv_iadd hx hb dX7_sender_7 ?_
  refine lv_eqi (y := (nI (66 + hix))) (nI_add (66) (hix)) ?_
  refine va_iald hx hb hK hP 1 0 rfl rfl (vp_in_nI (show 66 + hix < 1767 by omega) (by decide)) dX7_sender_8 ?_
  refine lv_eqi (y := (fno (66 + hix))) (congrArg fno (nI_clamp (show 66 + hix < 2 ^ 31 by omega))) ?_
  refine lv_topc (mOK_c h2 (show cidx (66 + hix) by unfold cidx; omega)) (fun y_1 hc_2 => ?_)
  refine lv_iconst (v := 1) hx hb dX7_sender_9 (by decide) ?_
  refine lv_iadd hx hb dX7_sender_10 ?_
  obtain ⟨m_3, hm_4, q9⟩ := okc_add (i := 1) (hc_2) (by decide)
  refine lv_eqi (y := nI m_3) q9 ?_
  refine lv_istore_n (lv' := [(2, .int (nI m_3)), (0, .ref Mm), (1, .int (nI hix))]) hx hb dX7_sender_11 rfl hl (by decide) rfl (fun ls hl => ?_)
  refine lv_iconst (v := 0) hx hb dX7_sender_12 (by decide) ?_
  refine lv_istore_n (lv' := [(3, .int 0), (2, .int (nI m_3)), (0, .ref Mm), (1, .int (nI hix))]) hx hb dX7_sender_13 rfl hl (by decide) rfl (fun ls hl => ?_)
  have loop_21 : ∀ (Nloop_21 : Nat) (i_11 : Nat) (hbi_11 : i_11 ≤ cc) (hmloop_21 : cc - i_11 < Nloop_21) (H : Heap) (locs : List Loc) (ls : Array Slot), va_P D vwCl [(Mm, .inr (7, [.int zth, .ref Mt, .int (nI tp), .int zma, .int zwr, .ref Mrr, .ref Mrh, .ref Mrc, .int zrh, .int zrc, .ref Mn, .ref Mf, .ref Mr, .ref Mh, .int (nI hp), .int (nI cc), .ref Ma, .ref Mas, .ref Msn, .ref Mac, .ref Mat])), (Mn, .inl (g 0, 1767, .inl fno))] H → va_D A [(Mm, .inr (7, [.int zth, .ref Mt, .int (nI tp), .int zma, .int zwr, .ref Mrr, .ref Mrh, .ref Mrc, .int zrh, .int zrc, .ref Mn, .ref Mf, .ref Mr, .ref Mh, .int (nI hp), .int (nI cc), .ref Ma, .ref Mas, .ref Msn, .ref Mac, .ref Mat])), (Mn, .inl (g 0, 1767, .inl fno))] → va_S A s.heap H locs → lv_has ls 5 [(3, .int (nI i_11)), (2, .int (nI m_3)), (0, .ref Mm), (1, .int (nI hix))] → W p l e (headSpec wsX7_sender ({ frames := 3, cells := 0, slots := 0, locals := 65 })).room s m ([.ref Mm, .int (nI hix)] : List Value).toArray below meth c H locs 0 0 Q (F0 m 14 ls []) := by
    clear hP hD hS hl
    intro Nloop_21
    induction Nloop_21 with
    | zero => intro i_11 hbi_11 hm9; exact absurd hm9 (Nat.not_lt_zero _)
    | succ Nloop_21 loop_21_ih =>
      intro i_11 hbi_11 hmloop_21 H locs ls hP hD hS hl
      refine lv_iload_n hx hb dX7_sender_14 rfl (lv_at hl 0 rfl) ?_
      refine lv_aload_n hx hb dX7_sender_15 rfl (lv_at hl 2 rfl) ?_
      refine va_get (D := D) (ci := 7) (v := .int (nI cc)) (C := RX7) (T := TX7) (N := 21) hx hb hts iX7 hown hK hP 0 rfl rfl 15 (by decide) f127 (fun _ h9 => h9) rfl dX7_sender_16 ?_
      refine lv_icmp_ge (tgt := 65) hx hb dX7_sender_19 (by decide) (fun cb_22 => ?_) (fun cb_22 => ?_)
      · skip
        have cn_23 : cc ≤ i_11 := (nI_leI (show cc < 2 ^ 31 by omega) (show i_11 < 2 ^ 31 by omega)).mp cb_22
        refine lv_iconst (v := (-1)) hx hb dX7_sender_65 (by decide) ?_
        have hP9 := hP; have hD9 := hD
        subst hQ
        refine W.widen (k := 0) (n := 0) (Nat.le_of_ble_eq_true rfl) (Nat.le_of_ble_eq_true rfl) ?_
        exact W.iret (v := (-1)) hx hb hr (fun tS htS _ => ⟨⟨_, _, rfl, ⟨(-1), rfl, rfl, (okc_m)⟩, by rw [htS]; exact hP9, hD9⟩, hS.F htS⟩) hS.2.2 dX7_sender_66
      · skip
        have cn_24 : i_11 < cc := Nat.lt_of_not_le (fun q9 => cb_22 ((nI_leI (show cc < 2 ^ 31 by omega) (show i_11 < 2 ^ 31 by omega)).mpr q9))
        refine lv_iload_n hx hb dX7_sender_22 rfl (lv_at hl 1 rfl) ?_
        refine lv_iload_n hx hb dX7_sender_23 rfl (lv_at hl 0 rfl) ?_
        refine lv_iadd hx hb dX7_sender_24 ?_
        refine lv_eqi (y := (nI (m_3 + i_11))) (nI_add (m_3) (i_11)) ?_
        refine lv_aload_n hx hb dX7_sender_25 rfl (lv_at hl 2 rfl) ?_
        refine va_get (D := D) (ci := 7) (v := .int (nI cc)) (C := RX7) (T := TX7) (N := 21) hx hb hts iX7 hown hK hP 0 rfl rfl 15 (by decide) f127 (fun _ h9 => h9) rfl dX7_sender_26 ?_
        refine lv_irem hx hb dX7_sender_29 (nI_ne0 (show 0 < cc by omega) (show cc < 2 ^ 31 by omega)) ?_
        refine lv_eqi (y := (nI ((m_3 + i_11) % cc))) (pk_rem (show m_3 + i_11 < 2 ^ 31 by omega) (show 0 < cc by omega) (show cc < 2 ^ 31 by omega)) ?_
        have hm_25 := Nat.mod_lt (m_3 + i_11) (show 0 < cc by omega)
        revert hm_25; generalize (m_3 + i_11) % cc = m_25; intro hm_25
        refine lv_istore (lv' := [(4, .int (nI m_25)), (3, .int (nI i_11)), (2, .int (nI m_3)), (0, .ref Mm), (1, .int (nI hix))]) hx hb dX7_sender_30 hl (by decide) rfl (fun ls hl => ?_)
        refine lv_aload_n hx hb dX7_sender_32 rfl (lv_at hl 3 rfl) ?_
        refine va_get (D := D) (ci := 7) (v := .ref Mn) (C := RX7) (T := TX7) (N := 21) hx hb hts iX7 hown hK hP 0 rfl rfl 10 (by decide) f22 (fun _ h9 => h9) rfl dX7_sender_33 ?_
        refine lv_iload_n hx hb dX7_sender_36 rfl (lv_at hl 4 rfl) ?_
        refine lv_iload hx hb dX7_sender_37 (lv_at hl 0 rfl) ?_
        refine ky_Si (As := [.int (nI hix), .int (nI m_25)]) (rest := [.ref Mn]) ⟨hx, hb, hml, hown, hts⟩ ⟨hK, hN⟩ hZ hP hD hS hA [] [0, 1] (wc := []) (wr := [(Mm, .inr (7, [.int zth, .ref Mt, .int (nI tp), .int zma, .int zwr, .ref Mrr, .ref Mrh, .ref Mrc, .int zrh, .int zrc, .ref Mn, .ref Mf, .ref Mr, .ref Mh, .int (nI hp), .int (nI cc), .ref Ma, .ref Mas, .ref Msn, .ref Mac, .ref Mat])), (Mn, .inl (g 0, 1767, .inl fno))]) rfl rfl rfl rfl (by decide) (k_X7_bufferAt l D g H.size hix m_25 (show hix ≤ 3 by omega) (show m_25 < 3 by omega)) (va_cwS 2 hts gX7_sender_X7_bufferAt rfl rfl rfl (by decide +kernel) ⟨(Nat.le_of_ble_eq_true rfl), (Nat.le_of_ble_eq_true rfl)⟩) rfl hl.1 rfl (Nat.le_of_ble_eq_true rfl) dX7_sender_39 ⟨(Nat.le_of_ble_eq_true rfl), (Nat.le_of_ble_eq_true rfl)⟩ (fun r_26 u H locs hw hP2 hD2 hS2 => ?_)
        clear hP hD hS
        obtain ⟨rfl, rfl⟩ := hw
        have hPD : PD D A [(Mm, .inr (7, [.int zth, .ref Mt, .int (nI tp), .int zma, .int zwr, .ref Mrr, .ref Mrh, .ref Mrc, .int zrh, .int zrc, .ref Mn, .ref Mf, .ref Mr, .ref Mh, .int (nI hp), .int (nI cc), .ref Ma, .ref Mas, .ref Msn, .ref Mac, .ref Mat])), (Mn, .inl (g 0, 1767, .inl fno))] H := ⟨hP2, hD2⟩
        have hS := hS2; clear hP2 hD2 hS2; have hP := hPD.1; have hD := hPD.2; clear hPD
        refine W.widen (k := 0) (n := 0) (Nat.le_of_ble_eq_true rfl) (Nat.le_of_ble_eq_true rfl) ?_
        refine va_iald hx hb hK hP 1 0 rfl rfl (vp_in_nI (show 189 + 3 * hix + m_25 < 1767 by omega) (by decide)) dX7_sender_42 ?_
        refine lv_eqi (y := (fno (189 + 3 * hix + m_25))) (congrArg fno (nI_clamp (show 189 + 3 * hix + m_25 < 2 ^ 31 by omega))) ?_
        refine lv_topi (fun y_27 _ => ?_)
        refine lv_if_le (tgt := 59) hx hb dX7_sender_43 (by decide) (fun cb_28 => ?_) (fun cb_28 => ?_)
        · skip
          refine lv_iinc (v := (nI (i_11 + 1))) (lv' := [(3, .int (nI (i_11 + 1))), (4, .int (nI m_25)), (2, .int (nI m_3)), (0, .ref Mm), (1, .int (nI hix))]) hx hb dX7_sender_59 hl (k := 1) rfl (nI_1 (i_11)) (by decide) rfl (fun ls hl => ?_)
          refine lv_goto (tgt := 14) hx hb dX7_sender_62 (by decide) ?_
          exact loop_21_ih (i_11 + 1) (show (i_11 + 1) ≤ cc by omega) (show cc - (i_11 + 1) < Nloop_21 by omega) _ _ _ hP hD hS (lv_sub hl [0, 2, 3, 4] rfl)
        · skip
          refine lv_aload_n hx hb dX7_sender_46 rfl (lv_at hl 3 rfl) ?_
          refine lv_iload_n hx hb dX7_sender_47 rfl (lv_at hl 4 rfl) ?_
          refine lv_iload hx hb dX7_sender_48 (lv_at hl 0 rfl) ?_
          refine ky_Vi (As := [.int (nI hix), .int (nI m_25)]) (rest := []) ⟨hx, hb, hml, hown, hts⟩ ⟨hK, hN⟩ hZ hP hD hS hA [0, 1] [] (wc := [(Mm, .inr (7, [.int zth, .ref Mt, .int (nI tp), .int zma, .int zwr, .ref Mrr, .ref Mrh, .ref Mrc, .int zrh, .int zrc, .ref Mn, .ref Mf, .ref Mr, .ref Mh, .int (nI hp), .int (nI cc), .ref Ma, .ref Mas, .ref Msn, .ref Mac, .ref Mat])), (Mn, .inl (g 0, 1767, .inl fno))]) (wr := []) rfl rfl rfl rfl (by decide) (k_X7_credit l D g H.size Mm hix m_25 zth Mt tp zma zwr Mrr Mrh Mrc zrh zrc Mn Mf Mr Mh hp cc Ma Mas Msn Mac Mat fno (show hix < 3 by omega) (show m_25 < 3 by omega)) (cwV 2 hts gX7_sender_X7_credit rfl rfl rfl (by decide +kernel) ⟨(Nat.le_of_ble_eq_true rfl), (Nat.le_of_ble_eq_true rfl)⟩) 0 7 rfl rfl rfl rfl hl.1 rfl (Nat.le_of_ble_eq_true rfl) dX7_sender_50 ⟨(Nat.le_of_ble_eq_true rfl), (Nat.le_of_ble_eq_true rfl)⟩ (fun r_29 u H locs hw hP2 hD2 hS2 => ?_)
          clear hP hD hS
          obtain rfl := hw
          have hPD : PD D A [(Mm, .inr (7, [.int zth, .ref Mt, .int (nI tp), .int zma, .int zwr, .ref Mrr, .ref Mrh, .ref Mrc, .int zrh, .int zrc, .ref Mn, .ref Mf, .ref Mr, .ref Mh, .int (nI hp), .int (nI cc), .ref Ma, .ref Mas, .ref Msn, .ref Mac, .ref Mat])), (Mn, .inl (g 0, 1767, .inl fno))] H := ⟨hP2, hD2⟩
          have hS := hS2; clear hP2 hD2 hS2; have hP := hPD.1; have hD := hPD.2; clear hPD
          refine W.widen (k := 0) (n := 0) (Nat.le_of_ble_eq_true rfl) (Nat.le_of_ble_eq_true rfl) ?_
          refine lv_if_le (tgt := 59) hx hb dX7_sender_53 (by decide) (fun cb_30 => ?_) (fun cb_30 => ?_)
          · skip
            refine lv_iinc (v := (nI (i_11 + 1))) (lv' := [(3, .int (nI (i_11 + 1))), (4, .int (nI m_25)), (2, .int (nI m_3)), (0, .ref Mm), (1, .int (nI hix))]) hx hb dX7_sender_59 hl (k := 1) rfl (nI_1 (i_11)) (by decide) rfl (fun ls hl => ?_)
            refine lv_goto (tgt := 14) hx hb dX7_sender_62 (by decide) ?_
            exact loop_21_ih (i_11 + 1) (show (i_11 + 1) ≤ cc by omega) (show cc - (i_11 + 1) < Nloop_21 by omega) _ _ _ hP hD hS (lv_sub hl [0, 2, 3, 4] rfl)
          · skip
            refine lv_iload hx hb dX7_sender_56 (lv_at hl 0 rfl) ?_
            have hP9 := hP; have hD9 := hD
            subst hQ
            refine W.widen (k := 0) (n := 0) (Nat.le_of_ble_eq_true rfl) (Nat.le_of_ble_eq_true rfl) ?_
            exact W.iret (v := (nI m_25)) hx hb hr (fun tS htS _ => ⟨⟨_, _, rfl, ⟨(nI m_25), rfl, rfl, (okc_n (show m_25 < 3 by omega))⟩, by rw [htS]; exact hP9, hD9⟩, hS.F htS⟩) hS.2.2 dX7_sender_58
  exact loop_21 _ 0 (show 0 ≤ cc by omega) (Nat.lt_succ_self _) _ _ _ hP hD hS hl

set_option maxHeartbeats 4000000 in
set_option maxRecDepth 100000 in
theorem k_X7_sends (l : Launch) (D : va_G) (g : Nat → ClassId) (sz : Nat) {gs : Nat → Int32} (Mm : Nat) (hix : Nat) (zth : Int32) (Mt : Nat) (tp : Nat) (zma : Int32) (zwr : Int32) (Mrr : Nat) (Mrh : Nat) (Mrc : Nat) (zrh : Int32) (zrc : Int32) (Mn : Nat) (Mf : Nat) (Mr : Nat) (Mh : Nat) (hp : Nat) (cc : Nat) (Ma : Nat) (Mas : Nat) (Msn : Nat) (Mac : Nat) (Mat : Nat) (fno : Nat → Int32) (fmh : Nat → Int32) (tb : Nat) (ub : Nat) (h0 : tb < 2 ^ 29) (h1 : ub < 2 ^ 29) (h2 : mOK gs tb ub fno) (h3 : 1 ≤ cc) (h4 : cc ≤ 3) (h5 : hix < 3) (h6 : n3 fmh) : Met l yX7_sends wsX7_sends ({ frames := 4, cells := 0, slots := 0, locals := 89 }) (va_Pc [.ref Mm, .int (nI hix)] (pre D g sz [(Mm, .inr (7, [.int zth, .ref Mt, .int (nI tp), .int zma, .int zwr, .ref Mrr, .ref Mrh, .ref Mrc, .int zrh, .int zrc, .ref Mn, .ref Mf, .ref Mr, .ref Mh, .int (nI hp), .int (nI cc), .ref Ma, .ref Mas, .ref Msn, .ref Mac, .ref Mat])), (Mn, .inl (g 0, 1767, .inl fno)), (Mh, .inl (g 0, 9, .inl fmh))])) (va_Qv (fun (u : va_W) => ∃ (fnox : Nat → Int32), u = [(Mm, .inr (7, [.int zth, .ref Mt, .int (nI tp), .int zma, .int zwr, .ref Mrr, .ref Mrh, .ref Mrc, .int zrh, .int zrc, .ref Mn, .ref Mf, .ref Mr, .ref Mh, .int (nI hp), .int (nI cc), .ref Ma, .ref Mas, .ref Msn, .ref Mac, .ref Mat])), (Mn, .inl (g 0, 1767, .inl fnox)), (Mh, .inl (g 0, 9, .inl fmh))] ∧ (mOK gs tb ub fnox)) (wd D (va_A [(Mm, .inr (7, [.int zth, .ref Mt, .int (nI tp), .int zma, .int zwr, .ref Mrr, .ref Mrh, .ref Mrc, .int zrh, .int zrc, .ref Mn, .ref Mf, .ref Mr, .ref Mh, .int (nI hp), .int (nI cc), .ref Ma, .ref Mas, .ref Msn, .ref Mac, .ref Mat])), (Mn, .inl (g 0, 1767, .inl fno)), (Mh, .inl (g 0, 9, .inl fmh))] sz)) (va_A [(Mm, .inr (7, [.int zth, .ref Mt, .int (nI tp), .int zma, .int zwr, .ref Mrr, .ref Mrh, .ref Mrc, .int zrh, .int zrc, .ref Mn, .ref Mf, .ref Mr, .ref Mh, .int (nI hp), .int (nI cc), .ref Ma, .ref Mas, .ref Msn, .ref Mac, .ref Mat])), (Mn, .inl (g 0, 1767, .inl fno)), (Mh, .inl (g 0, 9, .inl fmh))] sz)) 0 0 (va_A [(Mm, .inr (7, [.int zth, .ref Mt, .int (nI tp), .int zma, .int zwr, .ref Mrr, .ref Mrh, .ref Mrc, .int zrh, .int zrc, .ref Mn, .ref Mf, .ref Mr, .ref Mh, .int (nI hp), .int (nI cc), .ref Ma, .ref Mas, .ref Msn, .ref Mac, .ref Mat])), (Mn, .inl (g 0, 1767, .inl fno)), (Mh, .inl (g 0, 9, .inl fmh))] sz) := by
  refine Met.ofW (cc := cX7_sends) (maxL := 4) (ret := none) (by decide) rfl ?_
  intro p e s m args below meth c s₁ B hml hv
  obtain ⟨rfl, hsz, hP, ⟨hK, hN⟩, hD0, hZ⟩ := hv
  have hx := B.exec
  have hb := B.bytes
  have hr := B.returns
  have hts := atoms_spec (ws := wsX7_sends) B.pre
  have hown : s.vm.findClass RX7 = some m.cls := findClass_of_methodNamed B.named
  have hlocks := B.notSynchronized
  clear B
  subst hsz
  have hD := hD0.self (sz := s.heap.size)
  clear hD0
  generalize hAe : va_A [(Mm, .inr (7, [.int zth, .ref Mt, .int (nI tp), .int zma, .int zwr, .ref Mrr, .ref Mrh, .ref Mrc, .int zrh, .int zrc, .ref Mn, .ref Mf, .ref Mr, .ref Mh, .int (nI hp), .int (nI cc), .ref Ma, .ref Mas, .ref Msn, .ref Mac, .ref Mat])), (Mn, .inl (g 0, 1767, .inl fno)), (Mh, .inl (g 0, 9, .inl fmh))] s.heap.size = A at hD hZ ⊢
  have hA : ∀ q : Nat, s.heap.size ≤ q → A q := fun q h => by rw [← hAe]; exact Or.inr h
  have hS : va_S A s.heap s.heap [] := va_S.rf
  have f22 := hts (.fieldLink RX7 22 "HopCreditsModel" "now" "[I") (List.mem_of_getElem? (i := 1) rfl)
  have iX7 : ∀ w ∈ u_ws RX7 TX7 21, w ∈ wsX7_sends := fun w h => List.mem_cons_of_mem _ (List.mem_append_right _ (h))
  have hl := lv_entry ([.ref Mm, .int (nI hix)]) (n := 4) (Nat.le_of_ble_eq_true rfl)
  rw [lg_entry_eq]
  generalize (lg_sl ([.ref Mm, .int (nI hix)]) ++ List.replicate (4 - (lg_sl ([.ref Mm, .int (nI hix)])).length) Slot.unset).toArray = ls at hl ⊢
  have hl : lv_has ls 4 [(0, .ref Mm), (1, .int (nI hix))] := hl
  generalize hQ : MQ below _ _ s _ _ _ = Q
  generalize hH : s.heap = H at hP ⊢
  have hS : va_S A s.heap H [] := by rw [← hH]; exact hS
  clear hH
  refine lv_aload_n hx hb dX7_sends_0 rfl (lv_at hl 0 rfl) ?_
  refine lv_iload_n hx hb dX7_sends_1 rfl (lv_at hl 1 rfl) ?_
  refine ky_Vi (As := [.int (nI hix)]) (rest := []) ⟨hx, hb, hml, hown, hts⟩ ⟨hK, hN⟩ hZ hP hD hS hA [0, 1] [2] (wc := [(Mm, .inr (7, [.int zth, .ref Mt, .int (nI tp), .int zma, .int zwr, .ref Mrr, .ref Mrh, .ref Mrc, .int zrh, .int zrc, .ref Mn, .ref Mf, .ref Mr, .ref Mh, .int (nI hp), .int (nI cc), .ref Ma, .ref Mas, .ref Msn, .ref Mac, .ref Mat])), (Mn, .inl (g 0, 1767, .inl fno))]) (wr := [(Mh, .inl (g 0, 9, .inl fmh))]) rfl rfl rfl rfl (by decide) (k_X7_sender l D g H.size Mm hix zth Mt tp zma zwr Mrr Mrh Mrc zrh zrc Mn Mf Mr Mh hp cc Ma Mas Msn Mac Mat fno tb ub (show tb < 2 ^ 29 by omega) (show ub < 2 ^ 29 by omega) (h2) (show 1 ≤ cc by omega) (show cc ≤ 3 by omega) (show hix < 3 by omega)) (cwV 1 hts gX7_sends_X7_sender rfl rfl rfl (by decide +kernel) ⟨(Nat.le_of_ble_eq_true rfl), (Nat.le_of_ble_eq_true rfl)⟩) 0 7 rfl rfl rfl rfl hl.1 rfl (Nat.le_of_ble_eq_true rfl) dX7_sends_2 ⟨(Nat.le_of_ble_eq_true rfl), (Nat.le_of_ble_eq_true rfl)⟩ (fun r_1 u H locs hw hP2 hD2 hS2 => ?_)
  clear hP hD hS
  obtain ⟨zr_2, rfl, rfl, hf_3⟩ := hw
  have hPD : PD D A [(Mh, .inl (g 0, 9, .inl fmh)), (Mm, .inr (7, [.int zth, .ref Mt, .int (nI tp), .int zma, .int zwr, .ref Mrr, .ref Mrh, .ref Mrc, .int zrh, .int zrc, .ref Mn, .ref Mf, .ref Mr, .ref Mh, .int (nI hp), .int (nI cc), .ref Ma, .ref Mas, .ref Msn, .ref Mac, .ref Mat])), (Mn, .inl (g 0, 1767, .inl fno))] H := ⟨hP2, hD2⟩
  have hS := hS2; clear hP2 hD2 hS2; have hP := hPD.1; have hD := hPD.2; clear hPD
  refine W.widen (k := 0) (n := 0) (Nat.le_of_ble_eq_true rfl) (Nat.le_of_ble_eq_true rfl) ?_
  refine lv_istore_n (lv' := [(2, .int r_1), (0, .ref Mm), (1, .int (nI hix))]) hx hb dX7_sends_5 rfl hl (by decide) rfl (fun ls hl => ?_)
  refine lv_iload_n hx hb dX7_sends_6 rfl (lv_at hl 0 rfl) ?_
  refine lv_iconst (v := (-1)) hx hb dX7_sends_7 (by decide) ?_
  refine lv_icmp_ne (tgt := 12) hx hb dX7_sends_8 (by decide) (fun cb_4 => ?_) (fun cb_4 => ?_)
  · skip
    have hPq_7 := hP; have hDq_7 := hD; have hSq_7 := hS; have hlq_7 := hl; clear hP hD hS hl
    obtain ⟨j_5, hj_6, rfl⟩ := okc_j (hf_3) cb_4
    have hP := hPq_7; have hD := hDq_7; have hS := hSq_7; have hl := hlq_7; clear hPq_7 hDq_7 hSq_7 hlq_7
    refine lv_iload_n hx hb dX7_sends_12 rfl (lv_at hl 2 rfl) ?_
    refine lv_iload_n hx hb dX7_sends_13 rfl (lv_at hl 0 rfl) ?_
    refine ky_Si (As := [.int (nI hix), .int (nI j_5)]) (rest := []) ⟨hx, hb, hml, hown, hts⟩ ⟨hK, hN⟩ hZ hP hD hS hA [] [0, 1, 2] (wc := []) (wr := [(Mh, .inl (g 0, 9, .inl fmh)), (Mm, .inr (7, [.int zth, .ref Mt, .int (nI tp), .int zma, .int zwr, .ref Mrr, .ref Mrh, .ref Mrc, .int zrh, .int zrc, .ref Mn, .ref Mf, .ref Mr, .ref Mh, .int (nI hp), .int (nI cc), .ref Ma, .ref Mas, .ref Msn, .ref Mac, .ref Mat])), (Mn, .inl (g 0, 1767, .inl fno))]) rfl rfl rfl rfl (by decide) (k_X7_lane l D g H.size hix j_5 (show hix < 3 by omega) (show j_5 < 3 by omega)) (va_cwS 2 hts gX7_sends_X7_lane rfl rfl rfl (by decide +kernel) ⟨(Nat.le_of_ble_eq_true rfl), (Nat.le_of_ble_eq_true rfl)⟩) rfl hl.1 rfl (Nat.le_of_ble_eq_true rfl) dX7_sends_14 ⟨(Nat.le_of_ble_eq_true rfl), (Nat.le_of_ble_eq_true rfl)⟩ (fun r_8 u H locs hw hP2 hD2 hS2 => ?_)
    clear hP hD hS
    obtain ⟨rfl, rfl⟩ := hw
    have hPD : PD D A [(Mh, .inl (g 0, 9, .inl fmh)), (Mm, .inr (7, [.int zth, .ref Mt, .int (nI tp), .int zma, .int zwr, .ref Mrr, .ref Mrh, .ref Mrc, .int zrh, .int zrc, .ref Mn, .ref Mf, .ref Mr, .ref Mh, .int (nI hp), .int (nI cc), .ref Ma, .ref Mas, .ref Msn, .ref Mac, .ref Mat])), (Mn, .inl (g 0, 1767, .inl fno))] H := ⟨hP2, hD2⟩
    have hS := hS2; clear hP2 hD2 hS2; have hP := hPD.1; have hD := hPD.2; clear hPD
    refine W.widen (k := 0) (n := 0) (Nat.le_of_ble_eq_true rfl) (Nat.le_of_ble_eq_true rfl) ?_
    refine lv_istore_n (lv' := [(3, .int (nI (7 * (3 * hix + j_5)))), (2, .int (nI j_5)), (0, .ref Mm), (1, .int (nI hix))]) hx hb dX7_sends_17 rfl hl (by decide) rfl (fun ls hl => ?_)
    refine lv_aload_n hx hb dX7_sends_18 rfl (lv_at hl 2 rfl) ?_
    refine va_get (D := D) (ci := 7) (v := .ref Mn) (C := RX7) (T := TX7) (N := 21) hx hb hts iX7 hown hK hP 1 rfl rfl 10 (by decide) f22 (fun _ h9 => h9) rfl dX7_sends_19 ?_
    refine lv_bipush (v := 66) hx hb dX7_sends_22 (by decide) ?_
    refine lv_iload_n hx hb dX7_sends_24 rfl (lv_at hl 3 rfl) ?_
    refine lv_iadd hx hb dX7_sends_25 ?_
    refine lv_eqi (y := (nI (66 + hix))) (nI_add (66) (hix)) ?_
    refine lv_iload_n hx hb dX7_sends_26 rfl (lv_at hl 1 rfl) ?_
    refine va_iast hx hb hK hP hD hS 2 0 rfl rfl (vp_in_nI (show 66 + hix < 1767 by omega) (by decide)) dX7_sends_27 (fun H locs hP2 hD2 hS2 => ?_)
    clear hP hD hS
    have hPD : PD D A [(Mh, .inl (g 0, 9, .inl fmh)), (Mm, .inr (7, [.int zth, .ref Mt, .int (nI tp), .int zma, .int zwr, .ref Mrr, .ref Mrh, .ref Mrc, .int zrh, .int zrc, .ref Mn, .ref Mf, .ref Mr, .ref Mh, .int (nI hp), .int (nI cc), .ref Ma, .ref Mas, .ref Msn, .ref Mac, .ref Mat])), (Mn, .inl (g 0, 1767, .inl (upd fno (nI (66 + hix)).toNatClampNeg (nI j_5))))] H := ⟨hP2, hD2⟩
    have hS := hS2; clear hP2 hD2 hS2; have hP := hPD.1; have hD := hPD.2; clear hPD
    rw [nI_clamp (show 66 + hix < 2 ^ 31 by omega)] at hP hD
    have hPD : PD D A [(Mh, .inl (g 0, 9, .inl fmh)), (Mm, .inr (7, [.int zth, .ref Mt, .int (nI tp), .int zma, .int zwr, .ref Mrr, .ref Mrh, .ref Mrc, .int zrh, .int zrc, .ref Mn, .ref Mf, .ref Mr, .ref Mh, .int (nI hp), .int (nI cc), .ref Ma, .ref Mas, .ref Msn, .ref Mac, .ref Mat])), (Mn, .inl (g 0, 1767, .inl (upd fno (66 + hix) (nI j_5))))] H := ⟨hP, hD⟩
    clear hP hD; have hP := hPD.1; have hD := hPD.2; clear hPD
    have hF_9 : mOK gs tb ub (upd fno (66 + hix) (nI j_5)) := mOK_okc h2 (okc_n (show j_5 < 3 by omega)) (show 66 + hix < 189 by omega)
    generalize upd fno (66 + hix) (nI j_5) = F_9 at hP hD hF_9
    refine lv_aload_n hx hb dX7_sends_28 rfl (lv_at hl 2 rfl) ?_
    refine va_get (D := D) (ci := 7) (v := .ref Mn) (C := RX7) (T := TX7) (N := 21) hx hb hts iX7 hown hK hP 1 rfl rfl 10 (by decide) f22 (fun _ h9 => h9) rfl dX7_sends_29 ?_
    refine lv_iload_n hx hb dX7_sends_32 rfl (lv_at hl 3 rfl) ?_
    refine lv_iload_n hx hb dX7_sends_33 rfl (lv_at hl 1 rfl) ?_
    refine ky_Si (As := [.int (nI hix), .int (nI j_5)]) (rest := [.ref Mn]) ⟨hx, hb, hml, hown, hts⟩ ⟨hK, hN⟩ hZ hP hD hS hA [] [0, 1, 2] (wc := []) (wr := [(Mh, .inl (g 0, 9, .inl fmh)), (Mm, .inr (7, [.int zth, .ref Mt, .int (nI tp), .int zma, .int zwr, .ref Mrr, .ref Mrh, .ref Mrc, .int zrh, .int zrc, .ref Mn, .ref Mf, .ref Mr, .ref Mh, .int (nI hp), .int (nI cc), .ref Ma, .ref Mas, .ref Msn, .ref Mac, .ref Mat])), (Mn, .inl (g 0, 1767, .inl F_9))]) rfl rfl rfl rfl (by decide) (k_X7_bufferAt l D g H.size hix j_5 (show hix ≤ 3 by omega) (show j_5 < 3 by omega)) (va_cwS 2 hts gX7_sends_X7_bufferAt rfl rfl rfl (by decide +kernel) ⟨(Nat.le_of_ble_eq_true rfl), (Nat.le_of_ble_eq_true rfl)⟩) rfl hl.1 rfl (Nat.le_of_ble_eq_true rfl) dX7_sends_34 ⟨(Nat.le_of_ble_eq_true rfl), (Nat.le_of_ble_eq_true rfl)⟩ (fun r_10 u H locs hw hP2 hD2 hS2 => ?_)
    clear hP hD hS
    obtain ⟨rfl, rfl⟩ := hw
    have hPD : PD D A [(Mh, .inl (g 0, 9, .inl fmh)), (Mm, .inr (7, [.int zth, .ref Mt, .int (nI tp), .int zma, .int zwr, .ref Mrr, .ref Mrh, .ref Mrc, .int zrh, .int zrc, .ref Mn, .ref Mf, .ref Mr, .ref Mh, .int (nI hp), .int (nI cc), .ref Ma, .ref Mas, .ref Msn, .ref Mac, .ref Mat])), (Mn, .inl (g 0, 1767, .inl F_9))] H := ⟨hP2, hD2⟩
    have hS := hS2; clear hP2 hD2 hS2; have hP := hPD.1; have hD := hPD.2; clear hPD
    refine W.widen (k := 0) (n := 0) (Nat.le_of_ble_eq_true rfl) (Nat.le_of_ble_eq_true rfl) ?_
    refine lv_dup2_11 hx hb dX7_sends_37 rfl rfl ?_
    refine va_iald hx hb hK hP 2 0 rfl rfl (vp_in_nI (show 189 + 3 * hix + j_5 < 1767 by omega) (by decide)) dX7_sends_38 ?_
    refine lv_eqi (y := (F_9 (189 + 3 * hix + j_5))) (congrArg F_9 (nI_clamp (show 189 + 3 * hix + j_5 < 2 ^ 31 by omega))) ?_
    refine lv_topi (fun y_11 _ => ?_)
    refine lv_iconst (v := 1) hx hb dX7_sends_39 (by decide) ?_
    refine lv_isub hx hb dX7_sends_40 ?_
    refine lv_topi (fun y_12 _ => ?_)
    refine va_iast hx hb hK hP hD hS 2 0 rfl rfl (vp_in_nI (show 189 + 3 * hix + j_5 < 1767 by omega) (by decide)) dX7_sends_41 (fun H locs hP2 hD2 hS2 => ?_)
    clear hP hD hS
    have hPD : PD D A [(Mh, .inl (g 0, 9, .inl fmh)), (Mm, .inr (7, [.int zth, .ref Mt, .int (nI tp), .int zma, .int zwr, .ref Mrr, .ref Mrh, .ref Mrc, .int zrh, .int zrc, .ref Mn, .ref Mf, .ref Mr, .ref Mh, .int (nI hp), .int (nI cc), .ref Ma, .ref Mas, .ref Msn, .ref Mac, .ref Mat])), (Mn, .inl (g 0, 1767, .inl (upd F_9 (nI (189 + 3 * hix + j_5)).toNatClampNeg y_12)))] H := ⟨hP2, hD2⟩
    have hS := hS2; clear hP2 hD2 hS2; have hP := hPD.1; have hD := hPD.2; clear hPD
    rw [nI_clamp (show 189 + 3 * hix + j_5 < 2 ^ 31 by omega)] at hP hD
    have hPD : PD D A [(Mh, .inl (g 0, 9, .inl fmh)), (Mm, .inr (7, [.int zth, .ref Mt, .int (nI tp), .int zma, .int zwr, .ref Mrr, .ref Mrh, .ref Mrc, .int zrh, .int zrc, .ref Mn, .ref Mf, .ref Mr, .ref Mh, .int (nI hp), .int (nI cc), .ref Ma, .ref Mas, .ref Msn, .ref Mac, .ref Mat])), (Mn, .inl (g 0, 1767, .inl (upd F_9 (189 + 3 * hix + j_5) y_12)))] H := ⟨hP, hD⟩
    clear hP hD; have hP := hPD.1; have hD := hPD.2; clear hPD
    have hF_13 : mOK gs tb ub (upd F_9 (189 + 3 * hix + j_5) y_12) := mOK_free hF_9 (show mfree (189 + 3 * hix + j_5) by unfold mfree; omega)
    generalize upd F_9 (189 + 3 * hix + j_5) y_12 = F_13 at hP hD hF_13
    refine lv_aload_n hx hb dX7_sends_42 rfl (lv_at hl 2 rfl) ?_
    refine va_get (D := D) (ci := 7) (v := .ref Mn) (C := RX7) (T := TX7) (N := 21) hx hb hts iX7 hown hK hP 1 rfl rfl 10 (by decide) f22 (fun _ h9 => h9) rfl dX7_sends_43 ?_
    refine lv_iload_n hx hb dX7_sends_46 rfl (lv_at hl 0 rfl) ?_
    refine lv_iconst (v := 0) hx hb dX7_sends_47 (by decide) ?_
    refine lv_iadd hx hb dX7_sends_48 ?_
    refine lv_eqi (y := (nI (7 * (3 * hix + j_5) + 0))) (nI_add (7 * (3 * hix + j_5)) (0)) ?_
    refine lv_aload_n hx hb dX7_sends_49 rfl (lv_at hl 2 rfl) ?_
    refine va_get (D := D) (ci := 7) (v := .ref Mn) (C := RX7) (T := TX7) (N := 21) hx hb hts iX7 hown hK hP 1 rfl rfl 10 (by decide) f22 (fun _ h9 => h9) rfl dX7_sends_50 ?_
    refine lv_iload_n hx hb dX7_sends_53 rfl (lv_at hl 0 rfl) ?_
    refine lv_iconst (v := 0) hx hb dX7_sends_54 (by decide) ?_
    refine lv_iadd hx hb dX7_sends_55 ?_
    refine lv_eqi (y := (nI (7 * (3 * hix + j_5) + 0))) (nI_add (7 * (3 * hix + j_5)) (0)) ?_
    refine va_iald hx hb hK hP 2 0 rfl rfl (vp_in_nI (show 7 * (3 * hix + j_5) + 0 < 1767 by omega) (by decide)) dX7_sends_56 ?_
    refine lv_eqi (y := (F_13 (7 * (3 * hix + j_5) + 0))) (congrArg F_13 (nI_clamp (show 7 * (3 * hix + j_5) + 0 < 2 ^ 31 by omega))) ?_
    refine lv_topi (fun y_14 _ => ?_)
    refine lv_iconst (v := 1) hx hb dX7_sends_57 (by decide) ?_
    refine lv_iadd hx hb dX7_sends_58 ?_
    refine lv_topi (fun y_15 _ => ?_)
    refine lv_bipush (v := 64) hx hb dX7_sends_59 (by decide) ?_
    refine lv_irem hx hb dX7_sends_61 (by decide) ?_
    refine lv_topi (fun y_16 _ => ?_)
    refine va_iast hx hb hK hP hD hS 2 0 rfl rfl (vp_in_nI (show 7 * (3 * hix + j_5) + 0 < 1767 by omega) (by decide)) dX7_sends_62 (fun H locs hP2 hD2 hS2 => ?_)
    clear hP hD hS
    have hPD : PD D A [(Mh, .inl (g 0, 9, .inl fmh)), (Mm, .inr (7, [.int zth, .ref Mt, .int (nI tp), .int zma, .int zwr, .ref Mrr, .ref Mrh, .ref Mrc, .int zrh, .int zrc, .ref Mn, .ref Mf, .ref Mr, .ref Mh, .int (nI hp), .int (nI cc), .ref Ma, .ref Mas, .ref Msn, .ref Mac, .ref Mat])), (Mn, .inl (g 0, 1767, .inl (upd F_13 (nI (7 * (3 * hix + j_5) + 0)).toNatClampNeg y_16)))] H := ⟨hP2, hD2⟩
    have hS := hS2; clear hP2 hD2 hS2; have hP := hPD.1; have hD := hPD.2; clear hPD
    rw [nI_clamp (show 7 * (3 * hix + j_5) + 0 < 2 ^ 31 by omega)] at hP hD
    have hPD : PD D A [(Mh, .inl (g 0, 9, .inl fmh)), (Mm, .inr (7, [.int zth, .ref Mt, .int (nI tp), .int zma, .int zwr, .ref Mrr, .ref Mrh, .ref Mrc, .int zrh, .int zrc, .ref Mn, .ref Mf, .ref Mr, .ref Mh, .int (nI hp), .int (nI cc), .ref Ma, .ref Mas, .ref Msn, .ref Mac, .ref Mat])), (Mn, .inl (g 0, 1767, .inl (upd F_13 (7 * (3 * hix + j_5) + 0) y_16)))] H := ⟨hP, hD⟩
    clear hP hD; have hP := hPD.1; have hD := hPD.2; clear hPD
    have hF_17 : mOK gs tb ub (upd F_13 (7 * (3 * hix + j_5) + 0) y_16) := mOK_free hF_13 (show mfree (7 * (3 * hix + j_5) + 0) by unfold mfree; omega)
    generalize upd F_13 (7 * (3 * hix + j_5) + 0) y_16 = F_17 at hP hD hF_17
    refine lv_aload_n hx hb dX7_sends_63 rfl (lv_at hl 2 rfl) ?_
    refine va_get (D := D) (ci := 7) (v := .ref Mn) (C := RX7) (T := TX7) (N := 21) hx hb hts iX7 hown hK hP 1 rfl rfl 10 (by decide) f22 (fun _ h9 => h9) rfl dX7_sends_64 ?_
    refine lv_iload_n hx hb dX7_sends_67 rfl (lv_at hl 0 rfl) ?_
    refine lv_bipush (v := 6) hx hb dX7_sends_68 (by decide) ?_
    refine lv_iadd hx hb dX7_sends_70 ?_
    refine lv_eqi (y := (nI (7 * (3 * hix + j_5) + 6))) (nI_add (7 * (3 * hix + j_5)) (6)) ?_
    refine lv_dup2_11 hx hb dX7_sends_71 rfl rfl ?_
    refine va_iald hx hb hK hP 2 0 rfl rfl (vp_in_nI (show 7 * (3 * hix + j_5) + 6 < 1767 by omega) (by decide)) dX7_sends_72 ?_
    refine lv_eqi (y := (F_17 (7 * (3 * hix + j_5) + 6))) (congrArg F_17 (nI_clamp (show 7 * (3 * hix + j_5) + 6 < 2 ^ 31 by omega))) ?_
    refine lv_topi (fun y_18 _ => ?_)
    refine lv_iconst (v := 1) hx hb dX7_sends_73 (by decide) ?_
    refine lv_iadd hx hb dX7_sends_74 ?_
    refine lv_topi (fun y_19 _ => ?_)
    refine va_iast hx hb hK hP hD hS 2 0 rfl rfl (vp_in_nI (show 7 * (3 * hix + j_5) + 6 < 1767 by omega) (by decide)) dX7_sends_75 (fun H locs hP2 hD2 hS2 => ?_)
    clear hP hD hS
    have hPD : PD D A [(Mh, .inl (g 0, 9, .inl fmh)), (Mm, .inr (7, [.int zth, .ref Mt, .int (nI tp), .int zma, .int zwr, .ref Mrr, .ref Mrh, .ref Mrc, .int zrh, .int zrc, .ref Mn, .ref Mf, .ref Mr, .ref Mh, .int (nI hp), .int (nI cc), .ref Ma, .ref Mas, .ref Msn, .ref Mac, .ref Mat])), (Mn, .inl (g 0, 1767, .inl (upd F_17 (nI (7 * (3 * hix + j_5) + 6)).toNatClampNeg y_19)))] H := ⟨hP2, hD2⟩
    have hS := hS2; clear hP2 hD2 hS2; have hP := hPD.1; have hD := hPD.2; clear hPD
    rw [nI_clamp (show 7 * (3 * hix + j_5) + 6 < 2 ^ 31 by omega)] at hP hD
    have hPD : PD D A [(Mh, .inl (g 0, 9, .inl fmh)), (Mm, .inr (7, [.int zth, .ref Mt, .int (nI tp), .int zma, .int zwr, .ref Mrr, .ref Mrh, .ref Mrc, .int zrh, .int zrc, .ref Mn, .ref Mf, .ref Mr, .ref Mh, .int (nI hp), .int (nI cc), .ref Ma, .ref Mas, .ref Msn, .ref Mac, .ref Mat])), (Mn, .inl (g 0, 1767, .inl (upd F_17 (7 * (3 * hix + j_5) + 6) y_19)))] H := ⟨hP, hD⟩
    clear hP hD; have hP := hPD.1; have hD := hPD.2; clear hPD
    have hF_20 : mOK gs tb ub (upd F_17 (7 * (3 * hix + j_5) + 6) y_19) := mOK_free hF_17 (show mfree (7 * (3 * hix + j_5) + 6) by unfold mfree; omega)
    generalize upd F_17 (7 * (3 * hix + j_5) + 6) y_19 = F_20 at hP hD hF_20
    refine lv_aload_n hx hb dX7_sends_76 rfl (lv_at hl 2 rfl) ?_
    refine va_get (D := D) (ci := 7) (v := .ref Mn) (C := RX7) (T := TX7) (N := 21) hx hb hts iX7 hown hK hP 1 rfl rfl 10 (by decide) f22 (fun _ h9 => h9) rfl dX7_sends_77 ?_
    refine lv_iload_n hx hb dX7_sends_80 rfl (lv_at hl 3 rfl) ?_
    refine lv_aload_n hx hb dX7_sends_81 rfl (lv_at hl 2 rfl) ?_
    refine va_get (D := D) (ci := 7) (v := .ref Mn) (C := RX7) (T := TX7) (N := 21) hx hb hts iX7 hown hK hP 1 rfl rfl 10 (by decide) f22 (fun _ h9 => h9) rfl dX7_sends_82 ?_
    refine lv_sipush (v := 1764) hx hb dX7_sends_85 (by decide) ?_
    refine va_iald hx hb hK hP 2 0 rfl rfl (by unfold vp_in; decide) dX7_sends_88 ?_
    refine lv_eqi (y := (F_20 1764)) (rfl) ?_
    obtain ⟨t_21, ht_21, q9⟩ := mOK_t hF_20
    refine lv_eqi (y := nI t_21) q9 ?_
    refine lv_aload_n hx hb dX7_sends_89 rfl (lv_at hl 2 rfl) ?_
    refine lv_iload_n hx hb dX7_sends_90 rfl (lv_at hl 3 rfl) ?_
    refine ky_Vi (As := [.int (nI hix)]) (rest := [.int (nI t_21), .int (nI hix), .ref Mn]) ⟨hx, hb, hml, hown, hts⟩ ⟨hK, hN⟩ hZ hP hD hS hA [1, 0] [2] (wc := [(Mm, .inr (7, [.int zth, .ref Mt, .int (nI tp), .int zma, .int zwr, .ref Mrr, .ref Mrh, .ref Mrc, .int zrh, .int zrc, .ref Mn, .ref Mf, .ref Mr, .ref Mh, .int (nI hp), .int (nI cc), .ref Ma, .ref Mas, .ref Msn, .ref Mac, .ref Mat])), (Mh, .inl (g 0, 9, .inl fmh))]) (wr := [(Mn, .inl (g 0, 1767, .inl F_20))]) rfl rfl rfl rfl (by decide) (k_X7_delay l D g H.size Mm hix zth Mt tp zma zwr Mrr Mrh Mrc zrh zrc Mn Mf Mr Mh hp cc Ma Mas Msn Mac Mat fmh (show hix < 3 by omega) (h6)) (cwV 1 hts gX7_sends_X7_delay rfl rfl rfl (by decide +kernel) ⟨(Nat.le_of_ble_eq_true rfl), (Nat.le_of_ble_eq_true rfl)⟩) 1 7 rfl rfl rfl rfl hl.1 rfl (Nat.le_of_ble_eq_true rfl) dX7_sends_91 ⟨(Nat.le_of_ble_eq_true rfl), (Nat.le_of_ble_eq_true rfl)⟩ (fun r_22 u H locs hw hP2 hD2 hS2 => ?_)
    clear hP hD hS
    obtain ⟨dx_23, rfl, rfl, hf_24⟩ := hw
    have hPD : PD D A [(Mn, .inl (g 0, 1767, .inl F_20)), (Mm, .inr (7, [.int zth, .ref Mt, .int (nI tp), .int zma, .int zwr, .ref Mrr, .ref Mrh, .ref Mrc, .int zrh, .int zrc, .ref Mn, .ref Mf, .ref Mr, .ref Mh, .int (nI hp), .int (nI cc), .ref Ma, .ref Mas, .ref Msn, .ref Mac, .ref Mat])), (Mh, .inl (g 0, 9, .inl fmh))] H := ⟨hP2, hD2⟩
    have hS := hS2; clear hP2 hD2 hS2; have hP := hPD.1; have hD := hPD.2; clear hPD
    refine W.widen (k := 0) (n := 0) (Nat.le_of_ble_eq_true rfl) (Nat.le_of_ble_eq_true rfl) ?_
    refine lv_iadd hx hb dX7_sends_94 ?_
    refine lv_eqi (y := (nI (t_21 + dx_23))) (nI_add (t_21) (dx_23)) ?_
    refine ky_Si (As := [.int (nI hix), .int (nI (t_21 + dx_23))]) (rest := [.ref Mn]) ⟨hx, hb, hml, hown, hts⟩ ⟨hK, hN⟩ hZ hP hD hS hA [] [0, 1, 2] (wc := []) (wr := [(Mn, .inl (g 0, 1767, .inl F_20)), (Mm, .inr (7, [.int zth, .ref Mt, .int (nI tp), .int zma, .int zwr, .ref Mrr, .ref Mrh, .ref Mrc, .int zrh, .int zrc, .ref Mn, .ref Mf, .ref Mr, .ref Mh, .int (nI hp), .int (nI cc), .ref Ma, .ref Mas, .ref Msn, .ref Mac, .ref Mat])), (Mh, .inl (g 0, 9, .inl fmh))]) rfl rfl rfl rfl (by decide) (k_X7_wayAt l D g H.size hix (t_21 + dx_23) (show hix < 3 by omega) (show (t_21 + dx_23) < 2 ^ 30 by omega)) (va_cwS 2 hts gX7_sends_X7_wayAt rfl rfl rfl (by decide +kernel) ⟨(Nat.le_of_ble_eq_true rfl), (Nat.le_of_ble_eq_true rfl)⟩) rfl hl.1 rfl (Nat.le_of_ble_eq_true rfl) dX7_sends_95 ⟨(Nat.le_of_ble_eq_true rfl), (Nat.le_of_ble_eq_true rfl)⟩ (fun r_25 u H locs hw hP2 hD2 hS2 => ?_)
    clear hP hD hS
    obtain ⟨rfl, rfl⟩ := hw
    have hPD : PD D A [(Mn, .inl (g 0, 1767, .inl F_20)), (Mm, .inr (7, [.int zth, .ref Mt, .int (nI tp), .int zma, .int zwr, .ref Mrr, .ref Mrh, .ref Mrc, .int zrh, .int zrc, .ref Mn, .ref Mf, .ref Mr, .ref Mh, .int (nI hp), .int (nI cc), .ref Ma, .ref Mas, .ref Msn, .ref Mac, .ref Mat])), (Mh, .inl (g 0, 9, .inl fmh))] H := ⟨hP2, hD2⟩
    have hS := hS2; clear hP2 hD2 hS2; have hP := hPD.1; have hD := hPD.2; clear hPD
    refine W.widen (k := 0) (n := 0) (Nat.le_of_ble_eq_true rfl) (Nat.le_of_ble_eq_true rfl) ?_
    refine lv_iconst (v := 0) hx hb dX7_sends_98 (by decide) ?_
    refine lv_iadd hx hb dX7_sends_99 ?_
    refine lv_eqi (y := (nI (69 + 5 * (8 * hix + (t_21 + dx_23) % 8) + 0))) (nI_add (69 + 5 * (8 * hix + (t_21 + dx_23) % 8)) (0)) ?_
    refine lv_iload_n hx hb dX7_sends_100 rfl (lv_at hl 1 rfl) ?_
    refine va_iast hx hb hK hP hD hS 0 0 rfl rfl (vp_in_nI (show 69 + 5 * (8 * hix + (t_21 + dx_23) % 8) + 0 < 1767 by omega) (by decide)) dX7_sends_101 (fun H locs hP2 hD2 hS2 => ?_)
    clear hP hD hS
    have hPD : PD D A [(Mn, .inl (g 0, 1767, .inl (upd F_20 (nI (69 + 5 * (8 * hix + (t_21 + dx_23) % 8) + 0)).toNatClampNeg (nI j_5)))), (Mm, .inr (7, [.int zth, .ref Mt, .int (nI tp), .int zma, .int zwr, .ref Mrr, .ref Mrh, .ref Mrc, .int zrh, .int zrc, .ref Mn, .ref Mf, .ref Mr, .ref Mh, .int (nI hp), .int (nI cc), .ref Ma, .ref Mas, .ref Msn, .ref Mac, .ref Mat])), (Mh, .inl (g 0, 9, .inl fmh))] H := ⟨hP2, hD2⟩
    have hS := hS2; clear hP2 hD2 hS2; have hP := hPD.1; have hD := hPD.2; clear hPD
    rw [nI_clamp (show 69 + 5 * (8 * hix + (t_21 + dx_23) % 8) + 0 < 2 ^ 31 by omega)] at hP hD
    have hPD : PD D A [(Mn, .inl (g 0, 1767, .inl (upd F_20 (69 + 5 * (8 * hix + (t_21 + dx_23) % 8) + 0) (nI j_5)))), (Mm, .inr (7, [.int zth, .ref Mt, .int (nI tp), .int zma, .int zwr, .ref Mrr, .ref Mrh, .ref Mrc, .int zrh, .int zrc, .ref Mn, .ref Mf, .ref Mr, .ref Mh, .int (nI hp), .int (nI cc), .ref Ma, .ref Mas, .ref Msn, .ref Mac, .ref Mat])), (Mh, .inl (g 0, 9, .inl fmh))] H := ⟨hP, hD⟩
    clear hP hD; have hP := hPD.1; have hD := hPD.2; clear hPD
    have hF_26 : mOK gs tb ub (upd F_20 (69 + 5 * (8 * hix + (t_21 + dx_23) % 8) + 0) (nI j_5)) := mOK_okc hF_20 (okc_n (show j_5 < 3 by omega)) (show 69 + 5 * (8 * hix + (t_21 + dx_23) % 8) + 0 < 189 by omega)
    generalize upd F_20 (69 + 5 * (8 * hix + (t_21 + dx_23) % 8) + 0) (nI j_5) = F_26 at hP hD hF_26
    refine lv_iload_n hx hb dX7_sends_102 rfl (lv_at hl 3 rfl) ?_
    refine lv_if_le (tgt := 114) hx hb dX7_sends_103 (by decide) (fun cb_27 => ?_) (fun cb_27 => ?_)
    · skip
      have cn_28 : hix ≤ 0 := (nI_leI (show hix < 2 ^ 31 by omega) (show 0 < 2 ^ 31 by omega)).mp cb_27
      have hPD9 : PD D A [(Mm, .inr (7, [.int zth, .ref Mt, .int (nI tp), .int zma, .int zwr, .ref Mrr, .ref Mrh, .ref Mrc, .int zrh, .int zrc, .ref Mn, .ref Mf, .ref Mr, .ref Mh, .int (nI hp), .int (nI cc), .ref Ma, .ref Mas, .ref Msn, .ref Mac, .ref Mat])), (Mn, .inl (g 0, 1767, .inl F_26)), (Mh, .inl (g 0, 9, .inl fmh))] H := ⟨hP.sub [1, 0, 2] rfl, hD.sub [1, 0, 2] (by decide) rfl⟩
      have hP9 := hPD9.1; have hD9 := hPD9.2
      subst hQ
      refine W.widen (k := 0) (n := 0) (Nat.le_of_ble_eq_true rfl) (Nat.le_of_ble_eq_true rfl) ?_
      exact W.vret hx hb hr (fun tS htS _ => ⟨⟨_, rfl, ⟨F_26, rfl, (hF_26)⟩, by rw [htS]; exact hP9, hD9⟩, hS.F htS⟩) hS.2.2 dX7_sends_114
    · skip
      have cn_29 : 0 < hix := Nat.lt_of_not_le (fun q9 => cb_27 ((nI_leI (show hix < 2 ^ 31 by omega) (show 0 < 2 ^ 31 by omega)).mpr q9))
      refine lv_aload_n hx hb dX7_sends_106 rfl (lv_at hl 2 rfl) ?_
      refine lv_iload_n hx hb dX7_sends_107 rfl (lv_at hl 3 rfl) ?_
      refine lv_iconst (v := 1) hx hb dX7_sends_108 (by decide) ?_
      refine lv_isub hx hb dX7_sends_109 ?_
      refine lv_eqi (y := (nI (hix - 1))) (pk_sub (show 1 ≤ hix by omega)) ?_
      refine lv_iload_n hx hb dX7_sends_110 rfl (lv_at hl 1 rfl) ?_
      refine ky_Vv (As := [.int (nI (hix - 1)), .int (nI j_5)]) (rest := []) ⟨hx, hb, hml, hown, hts⟩ ⟨hK, hN⟩ hZ hP hD hS hA [1, 0, 2] [] (wc := [(Mm, .inr (7, [.int zth, .ref Mt, .int (nI tp), .int zma, .int zwr, .ref Mrr, .ref Mrh, .ref Mrc, .int zrh, .int zrc, .ref Mn, .ref Mf, .ref Mr, .ref Mh, .int (nI hp), .int (nI cc), .ref Ma, .ref Mas, .ref Msn, .ref Mac, .ref Mat])), (Mn, .inl (g 0, 1767, .inl F_26)), (Mh, .inl (g 0, 9, .inl fmh))]) (wr := []) rfl rfl rfl rfl (by decide) (k_X7_goesFrom l D g H.size Mm (hix - 1) j_5 zth Mt tp zma zwr Mrr Mrh Mrc zrh zrc Mn Mf Mr Mh hp cc Ma Mas Msn Mac Mat F_26 fmh tb ub (show tb < 2 ^ 29 by omega) (show ub < 2 ^ 29 by omega) (hF_26) (show (hix - 1) < 3 by omega) (show j_5 < 3 by omega) (h6)) (cwV 2 hts gX7_sends_X7_goesFrom rfl rfl rfl (by decide +kernel) ⟨(Nat.le_of_ble_eq_true rfl), (Nat.le_of_ble_eq_true rfl)⟩) 1 7 rfl rfl rfl rfl hl.1 rfl (Nat.le_of_ble_eq_true rfl) dX7_sends_111 ⟨(Nat.le_of_ble_eq_true rfl), (Nat.le_of_ble_eq_true rfl)⟩ (fun u H locs hw hP2 hD2 hS2 => ?_)
      clear hP hD hS
      obtain ⟨fnox_31, rfl, hf_32⟩ := hw
      have hPD : PD D A [(Mm, .inr (7, [.int zth, .ref Mt, .int (nI tp), .int zma, .int zwr, .ref Mrr, .ref Mrh, .ref Mrc, .int zrh, .int zrc, .ref Mn, .ref Mf, .ref Mr, .ref Mh, .int (nI hp), .int (nI cc), .ref Ma, .ref Mas, .ref Msn, .ref Mac, .ref Mat])), (Mn, .inl (g 0, 1767, .inl fnox_31)), (Mh, .inl (g 0, 9, .inl fmh))] H := ⟨hP2, hD2⟩
      have hS := hS2; clear hP2 hD2 hS2; have hP := hPD.1; have hD := hPD.2; clear hPD
      refine W.widen (k := 0) (n := 0) (Nat.le_of_ble_eq_true rfl) (Nat.le_of_ble_eq_true rfl) ?_
      have hP9 := hP; have hD9 := hD
      subst hQ
      refine W.widen (k := 0) (n := 0) (Nat.le_of_ble_eq_true rfl) (Nat.le_of_ble_eq_true rfl) ?_
      exact W.vret hx hb hr (fun tS htS _ => ⟨⟨_, rfl, ⟨fnox_31, rfl, (hf_32)⟩, by rw [htS]; exact hP9, hD9⟩, hS.F htS⟩) hS.2.2 dX7_sends_114
  · skip
    have hPq_33 := hP; have hDq_33 := hD; have hSq_33 := hS; have hlq_33 := hl; clear hP hD hS hl
    subst cb_4
    have hP := hPq_33; have hD := hDq_33; have hS := hSq_33; have hl := hlq_33; clear hPq_33 hDq_33 hSq_33 hlq_33
    have hPD9 : PD D A [(Mm, .inr (7, [.int zth, .ref Mt, .int (nI tp), .int zma, .int zwr, .ref Mrr, .ref Mrh, .ref Mrc, .int zrh, .int zrc, .ref Mn, .ref Mf, .ref Mr, .ref Mh, .int (nI hp), .int (nI cc), .ref Ma, .ref Mas, .ref Msn, .ref Mac, .ref Mat])), (Mn, .inl (g 0, 1767, .inl fno)), (Mh, .inl (g 0, 9, .inl fmh))] H := ⟨hP.sub [1, 2, 0] rfl, hD.sub [1, 2, 0] (by decide) rfl⟩
    have hP9 := hPD9.1; have hD9 := hPD9.2
    subst hQ
    refine W.widen (k := 0) (n := 0) (Nat.le_of_ble_eq_true rfl) (Nat.le_of_ble_eq_true rfl) ?_
    exact W.vret hx hb hr (fun tS htS _ => ⟨⟨_, rfl, ⟨fno, rfl, (h2)⟩, by rw [htS]; exact hP9, hD9⟩, hS.F htS⟩) hS.2.2 dX7_sends_11
