set_option maxHeartbeats 4000000 in
set_option maxRecDepth 100000 in
theorem k_X7_laysUsual_1 (l : Launch) (D : va_G) (g : Nat → ClassId) (sz : Nat) (Mm : Nat) (Mrh : Nat) (ix : Nat) (zth : Int32) (Mt : Nat) (ztp : Int32) (zma : Int32) (zwr : Int32) (Mrr : Nat) (Mrc : Nat) (zrh : Int32) (zrc : Int32) (Mn : Nat) (Mf : Nat) (Mr : Nat) (Mh : Nat) (zhp : Int32) (zcc : Int32) (Ma : Nat) (Mas : Nat) (Msn : Nat) (Mac : Nat) (Mat : Nat) (frh : Nat → Int32) (h0 : ix ≤ 6) (h1 : n1 frh) : Met l yX7_laysUsual wsX7_laysUsual ({ frames := 1, cells := 0, slots := 0, locals := 21 }) (va_Pc [.ref Mm, .int 1, .ref Mrh, .int (nI ix)] (pre D g sz [(Mm, .inr (7, [.int zth, .ref Mt, .int ztp, .int zma, .int zwr, .ref Mrr, .ref Mrh, .ref Mrc, .int zrh, .int zrc, .ref Mn, .ref Mf, .ref Mr, .ref Mh, .int zhp, .int zcc, .ref Ma, .ref Mas, .ref Msn, .ref Mac, .ref Mat])), (Mrh, .inl (g 0, 9, .inl frh))])) (va_Qv (fun (u : va_W) => ∃ (frhx : Nat → Int32), u = [(Mm, .inr (7, [.int zth, .ref Mt, .int ztp, .int zma, .int zwr, .ref Mrr, .ref Mrh, .ref Mrc, .int zrh, .int zrc, .ref Mn, .ref Mf, .ref Mr, .ref Mh, .int zhp, .int zcc, .ref Ma, .ref Mas, .ref Msn, .ref Mac, .ref Mat])), (Mrh, .inl (g 0, 9, .inl frhx))] ∧ (n1 frhx)) (wd D (va_A [(Mm, .inr (7, [.int zth, .ref Mt, .int ztp, .int zma, .int zwr, .ref Mrr, .ref Mrh, .ref Mrc, .int zrh, .int zrc, .ref Mn, .ref Mf, .ref Mr, .ref Mh, .int zhp, .int zcc, .ref Ma, .ref Mas, .ref Msn, .ref Mac, .ref Mat])), (Mrh, .inl (g 0, 9, .inl frh))] sz)) (va_A [(Mm, .inr (7, [.int zth, .ref Mt, .int ztp, .int zma, .int zwr, .ref Mrr, .ref Mrh, .ref Mrc, .int zrh, .int zrc, .ref Mn, .ref Mf, .ref Mr, .ref Mh, .int zhp, .int zcc, .ref Ma, .ref Mas, .ref Msn, .ref Mac, .ref Mat])), (Mrh, .inl (g 0, 9, .inl frh))] sz)) 0 0 (va_A [(Mm, .inr (7, [.int zth, .ref Mt, .int ztp, .int zma, .int zwr, .ref Mrr, .ref Mrh, .ref Mrc, .int zrh, .int zrc, .ref Mn, .ref Mf, .ref Mr, .ref Mh, .int zhp, .int zcc, .ref Ma, .ref Mas, .ref Msn, .ref Mac, .ref Mat])), (Mrh, .inl (g 0, 9, .inl frh))] sz) := by
  refine Met.ofW (cc := cX7_laysUsual) (maxL := 5) (ret := none) (by decide) rfl ?_
  intro p e s m args below meth c s₁ B hml hv
  obtain ⟨rfl, hsz, hP, ⟨hK, hN⟩, hD0, hZ⟩ := hv
  have hx := B.exec
  have hb := B.bytes
  have hr := B.returns
  have hts := atoms_spec (ws := wsX7_laysUsual) B.pre
  have hown : s.vm.findClass RX7 = some m.cls := findClass_of_methodNamed B.named
  have hlocks := B.notSynchronized
  clear B
  subst hsz
  have hD := hD0.self (sz := s.heap.size)
  clear hD0
  generalize hAe : va_A [(Mm, .inr (7, [.int zth, .ref Mt, .int ztp, .int zma, .int zwr, .ref Mrr, .ref Mrh, .ref Mrc, .int zrh, .int zrc, .ref Mn, .ref Mf, .ref Mr, .ref Mh, .int zhp, .int zcc, .ref Ma, .ref Mas, .ref Msn, .ref Mac, .ref Mat])), (Mrh, .inl (g 0, 9, .inl frh))] s.heap.size = A at hD hZ ⊢
  have hA : ∀ q : Nat, s.heap.size ≤ q → A q := fun q h => by rw [← hAe]; exact Or.inr h
  have hS : va_S A s.heap s.heap [] := va_S.rf
  have hl := lv_entry ([.ref Mm, .int 1, .ref Mrh, .int (nI ix)]) (n := 5) (Nat.le_of_ble_eq_true rfl)
  rw [lg_entry_eq]
  generalize (lg_sl ([.ref Mm, .int 1, .ref Mrh, .int (nI ix)]) ++ List.replicate (5 - (lg_sl ([.ref Mm, .int 1, .ref Mrh, .int (nI ix)])).length) Slot.unset).toArray = ls at hl ⊢
  have hl : lv_has ls 5 [(0, .ref Mm), (1, .int 1), (2, .ref Mrh), (3, .int (nI ix))] := hl
  generalize hQ : MQ below _ _ s _ _ _ = Q
  generalize hH : s.heap = H at hP ⊢
  have hS : va_S A s.heap H [] := by rw [← hH]; exact hS
  clear hH
  refine lv_iconst (v := 0) hx hb dX7_laysUsual_0 (by decide) ?_
  refine lv_istore (lv' := [(4, .int 0), (0, .ref Mm), (1, .int 1), (2, .ref Mrh), (3, .int (nI ix))]) hx hb dX7_laysUsual_1 hl (by decide) rfl (fun ls hl => ?_)
  have loop_14 : ∀ (Nloop_14 : Nat) (i_5 : Nat) (F_6 : Nat → Int32) (hF_6 : n1 F_6) (hbi_5 : i_5 ≤ 3) (hmloop_14 : 3 - i_5 < Nloop_14) (H : Heap) (locs : List Loc) (ls : Array Slot), va_P D vwCl [(Mm, .inr (7, [.int zth, .ref Mt, .int ztp, .int zma, .int zwr, .ref Mrr, .ref Mrh, .ref Mrc, .int zrh, .int zrc, .ref Mn, .ref Mf, .ref Mr, .ref Mh, .int zhp, .int zcc, .ref Ma, .ref Mas, .ref Msn, .ref Mac, .ref Mat])), (Mrh, .inl (g 0, 9, .inl F_6))] H → va_D A [(Mm, .inr (7, [.int zth, .ref Mt, .int ztp, .int zma, .int zwr, .ref Mrr, .ref Mrh, .ref Mrc, .int zrh, .int zrc, .ref Mn, .ref Mf, .ref Mr, .ref Mh, .int zhp, .int zcc, .ref Ma, .ref Mas, .ref Msn, .ref Mac, .ref Mat])), (Mrh, .inl (g 0, 9, .inl F_6))] → va_S A s.heap H locs → lv_has ls 5 [(4, .int (nI i_5)), (1, .int 1), (2, .ref Mrh), (3, .int (nI ix))] → W p l e (headSpec wsX7_laysUsual ({ frames := 1, cells := 0, slots := 0, locals := 21 })).room s m ([.ref Mm, .int 1, .ref Mrh, .int (nI ix)] : List Value).toArray below meth c H locs 0 0 Q (F0 m 3 ls []) := by
    clear hP hD hS hl
    intro Nloop_14
    induction Nloop_14 with
    | zero => intro i_5 F_6 hF_6 hbi_5 hm9; exact absurd hm9 (Nat.not_lt_zero _)
    | succ Nloop_14 loop_14_ih =>
      intro i_5 F_6 hF_6 hbi_5 hmloop_14 H locs ls hP hD hS hl
      refine lv_iload hx hb dX7_laysUsual_3 (lv_at hl 0 rfl) ?_
      refine lv_iconst (v := 3) hx hb dX7_laysUsual_5 (by decide) ?_
      refine lv_icmp_ge (tgt := 27) hx hb dX7_laysUsual_6 (by decide) (fun cb_15 => ?_) (fun cb_15 => ?_)
      · skip
        have cn_16 : 3 ≤ i_5 := (nI_leI (show 3 < 2 ^ 31 by omega) (show i_5 < 2 ^ 31 by omega)).mp cb_15
        have hP9 := hP; have hD9 := hD
        subst hQ
        refine W.widen (k := 0) (n := 0) (Nat.le_of_ble_eq_true rfl) (Nat.le_of_ble_eq_true rfl) ?_
        exact W.vret hx hb hr (fun tS htS _ => ⟨⟨_, rfl, ⟨F_6, rfl, (hF_6)⟩, by rw [htS]; exact hP9, hD9⟩, hS.F htS⟩) hS.2.2 dX7_laysUsual_27
      · skip
        have cn_17 : i_5 < 3 := Nat.lt_of_not_le (fun q9 => cb_15 ((nI_leI (show 3 < 2 ^ 31 by omega) (show i_5 < 2 ^ 31 by omega)).mpr q9))
        refine lv_aload_n hx hb dX7_laysUsual_9 rfl (lv_at hl 2 rfl) ?_
        refine lv_iload_n hx hb dX7_laysUsual_10 rfl (lv_at hl 3 rfl) ?_
        refine lv_iload hx hb dX7_laysUsual_11 (lv_at hl 0 rfl) ?_
        refine lv_iadd hx hb dX7_laysUsual_13 ?_
        refine lv_eqi (y := (nI (ix + i_5))) (nI_add (ix) (i_5)) ?_
        refine lv_iload_n hx hb dX7_laysUsual_14 rfl (lv_at hl 1 rfl) ?_
        refine lv_iload hx hb dX7_laysUsual_15 (lv_at hl 0 rfl) ?_
        refine ky_Si (As := [.int 1, .int (nI i_5)]) (rest := [.int (nI (ix + i_5)), .ref Mrh]) ⟨hx, hb, hml, hown, hts⟩ ⟨hK, hN⟩ hZ hP hD hS hA [] [0, 1] (wc := []) (wr := [(Mm, .inr (7, [.int zth, .ref Mt, .int ztp, .int zma, .int zwr, .ref Mrr, .ref Mrh, .ref Mrc, .int zrh, .int zrc, .ref Mn, .ref Mf, .ref Mr, .ref Mh, .int zhp, .int zcc, .ref Ma, .ref Mas, .ref Msn, .ref Mac, .ref Mat])), (Mrh, .inl (g 0, 9, .inl F_6))]) rfl rfl rfl rfl (by decide) (k_X7_usual_1 l D g H.size (nI i_5)) (va_cwS 2 hts gX7_laysUsual_X7_usual rfl rfl rfl (by decide +kernel) ⟨(Nat.le_of_ble_eq_true rfl), (Nat.le_of_ble_eq_true rfl)⟩) rfl hl.1 rfl (Nat.le_of_ble_eq_true rfl) dX7_laysUsual_17 ⟨(Nat.le_of_ble_eq_true rfl), (Nat.le_of_ble_eq_true rfl)⟩ (fun r_18 u H locs hw hP2 hD2 hS2 => ?_)
        clear hP hD hS
        obtain ⟨nx_19, rfl, rfl, hf_20⟩ := hw
        have hPD : PD D A [(Mm, .inr (7, [.int zth, .ref Mt, .int ztp, .int zma, .int zwr, .ref Mrr, .ref Mrh, .ref Mrc, .int zrh, .int zrc, .ref Mn, .ref Mf, .ref Mr, .ref Mh, .int zhp, .int zcc, .ref Ma, .ref Mas, .ref Msn, .ref Mac, .ref Mat])), (Mrh, .inl (g 0, 9, .inl F_6))] H := ⟨hP2, hD2⟩
        have hS := hS2; clear hP2 hD2 hS2; have hP := hPD.1; have hD := hPD.2; clear hPD
        refine W.widen (k := 0) (n := 0) (Nat.le_of_ble_eq_true rfl) (Nat.le_of_ble_eq_true rfl) ?_
        refine va_iast hx hb hK hP hD hS 1 0 rfl rfl (vp_in_nI (show ix + i_5 < 9 by omega) (by decide)) dX7_laysUsual_20 (fun H locs hP2 hD2 hS2 => ?_)
        clear hP hD hS
        have hPD : PD D A [(Mm, .inr (7, [.int zth, .ref Mt, .int ztp, .int zma, .int zwr, .ref Mrr, .ref Mrh, .ref Mrc, .int zrh, .int zrc, .ref Mn, .ref Mf, .ref Mr, .ref Mh, .int zhp, .int zcc, .ref Ma, .ref Mas, .ref Msn, .ref Mac, .ref Mat])), (Mrh, .inl (g 0, 9, .inl (upd F_6 (nI (ix + i_5)).toNatClampNeg (nI nx_19))))] H := ⟨hP2, hD2⟩
        have hS := hS2; clear hP2 hD2 hS2; have hP := hPD.1; have hD := hPD.2; clear hPD
        rw [nI_clamp (show ix + i_5 < 2 ^ 31 by omega)] at hP hD
        have hPD : PD D A [(Mm, .inr (7, [.int zth, .ref Mt, .int ztp, .int zma, .int zwr, .ref Mrr, .ref Mrh, .ref Mrc, .int zrh, .int zrc, .ref Mn, .ref Mf, .ref Mr, .ref Mh, .int zhp, .int zcc, .ref Ma, .ref Mas, .ref Msn, .ref Mac, .ref Mat])), (Mrh, .inl (g 0, 9, .inl (upd F_6 (ix + i_5) (nI nx_19))))] H := ⟨hP, hD⟩
        clear hP hD; have hP := hPD.1; have hD := hPD.2; clear hPD
        have hF_21 : n1 (upd F_6 (ix + i_5) (nI nx_19)) := n1_upd (hF_6) (n := nx_19) (show nx_19 ≤ 99 by omega)
        generalize upd F_6 (ix + i_5) (nI nx_19) = F_21 at hP hD hF_21
        refine lv_iinc (v := (nI (i_5 + 1))) (lv' := [(4, .int (nI (i_5 + 1))), (1, .int 1), (2, .ref Mrh), (3, .int (nI ix))]) hx hb dX7_laysUsual_21 hl (k := 0) rfl (nI_1 (i_5)) (by decide) rfl (fun ls hl => ?_)
        refine lv_goto (tgt := 3) hx hb dX7_laysUsual_24 (by decide) ?_
        exact loop_14_ih (i_5 + 1) F_21 (hF_21) (show (i_5 + 1) ≤ 3 by omega) (show 3 - (i_5 + 1) < Nloop_14 by omega) _ _ _ hP hD hS hl
  exact loop_14 _ 0 frh (h1) (show 0 ≤ 3 by omega) (Nat.lt_succ_self _) _ _ _ hP hD hS (lv_sub hl [0, 2, 3, 4] rfl)

set_option maxHeartbeats 4000000 in
set_option maxRecDepth 100000 in
theorem k_X7_items_1 (l : Launch) (D : va_G) (g : Nat → ClassId) (sz : Nat) (Mm : Nat) (Mrh : Nat) (ix : Nat) (zth : Int32) (Mt : Nat) (tp : Nat) (ma : Nat) (zwr : Int32) (Mrr : Nat) (Mrc : Nat) (rh : Nat) (rc : Nat) (Mn : Nat) (Mf : Nat) (Mr : Nat) (Mh : Nat) (zhp : Int32) (zcc : Int32) (Ma : Nat) (Mas : Nat) (Msn : Nat) (Mac : Nat) (Mat : Nat) (fmt : Nat → Int32) (frh : Nat → Int32) (h0 : tp ≤ 160) (h1 : ma ≤ tp) (h2 : ix ≤ 6) (h3 : n1 frh) : Met l yX7_items wsX7_items ({ frames := 3, cells := 0, slots := 0, locals := 64 }) (va_Pc [.ref Mm, .int 1, .ref Mrh, .int (nI ix)] (pre D g sz [(Mm, .inr (7, [.int zth, .ref Mt, .int (nI tp), .int (nI ma), .int zwr, .ref Mrr, .ref Mrh, .ref Mrc, .int (nI rh), .int (nI rc), .ref Mn, .ref Mf, .ref Mr, .ref Mh, .int zhp, .int zcc, .ref Ma, .ref Mas, .ref Msn, .ref Mac, .ref Mat])), (Mt, .inl (g 0, 160, .inl fmt)), (Mrh, .inl (g 0, 9, .inl frh))])) (va_Qv (fun (u : va_W) => ∃ (max : Nat) (zwrx : Int32) (frhx : Nat → Int32), u = [(Mm, .inr (7, [.int zth, .ref Mt, .int (nI tp), .int (nI max), .int zwrx, .ref Mrr, .ref Mrh, .ref Mrc, .int (nI rh), .int (nI rc), .ref Mn, .ref Mf, .ref Mr, .ref Mh, .int zhp, .int zcc, .ref Ma, .ref Mas, .ref Msn, .ref Mac, .ref Mat])), (Mt, .inl (g 0, 160, .inl fmt)), (Mrh, .inl (g 0, 9, .inl frhx))] ∧ (n1 frhx) ∧ (max ≤ tp) ∧ (ma ≤ max)) (wd D (va_A [(Mm, .inr (7, [.int zth, .ref Mt, .int (nI tp), .int (nI ma), .int zwr, .ref Mrr, .ref Mrh, .ref Mrc, .int (nI rh), .int (nI rc), .ref Mn, .ref Mf, .ref Mr, .ref Mh, .int zhp, .int zcc, .ref Ma, .ref Mas, .ref Msn, .ref Mac, .ref Mat])), (Mt, .inl (g 0, 160, .inl fmt)), (Mrh, .inl (g 0, 9, .inl frh))] sz)) (va_A [(Mm, .inr (7, [.int zth, .ref Mt, .int (nI tp), .int (nI ma), .int zwr, .ref Mrr, .ref Mrh, .ref Mrc, .int (nI rh), .int (nI rc), .ref Mn, .ref Mf, .ref Mr, .ref Mh, .int zhp, .int zcc, .ref Ma, .ref Mas, .ref Msn, .ref Mac, .ref Mat])), (Mt, .inl (g 0, 160, .inl fmt)), (Mrh, .inl (g 0, 9, .inl frh))] sz)) 0 0 (va_A [(Mm, .inr (7, [.int zth, .ref Mt, .int (nI tp), .int (nI ma), .int zwr, .ref Mrr, .ref Mrh, .ref Mrc, .int (nI rh), .int (nI rc), .ref Mn, .ref Mf, .ref Mr, .ref Mh, .int zhp, .int zcc, .ref Ma, .ref Mas, .ref Msn, .ref Mac, .ref Mat])), (Mt, .inl (g 0, 160, .inl fmt)), (Mrh, .inl (g 0, 9, .inl frh))] sz) := by
  refine Met.ofW (cc := cX7_items) (maxL := 6) (ret := none) (by decide) rfl ?_
  intro p e s m args below meth c s₁ B hml hv
  obtain ⟨rfl, hsz, hP, ⟨hK, hN⟩, hD0, hZ⟩ := hv
  have hx := B.exec
  have hb := B.bytes
  have hr := B.returns
  have hts := atoms_spec (ws := wsX7_items) B.pre
  have hown : s.vm.findClass RX7 = some m.cls := findClass_of_methodNamed B.named
  have hlocks := B.notSynchronized
  clear B
  subst hsz
  have hD := hD0.self (sz := s.heap.size)
  clear hD0
  generalize hAe : va_A [(Mm, .inr (7, [.int zth, .ref Mt, .int (nI tp), .int (nI ma), .int zwr, .ref Mrr, .ref Mrh, .ref Mrc, .int (nI rh), .int (nI rc), .ref Mn, .ref Mf, .ref Mr, .ref Mh, .int zhp, .int zcc, .ref Ma, .ref Mas, .ref Msn, .ref Mac, .ref Mat])), (Mt, .inl (g 0, 160, .inl fmt)), (Mrh, .inl (g 0, 9, .inl frh))] s.heap.size = A at hD hZ ⊢
  have hA : ∀ q : Nat, s.heap.size ≤ q → A q := fun q h => by rw [← hAe]; exact Or.inr h
  have hS : va_S A s.heap s.heap [] := va_S.rf
  have f64 := hts (.fieldLink RX7 64 "HopCreditsModel" "at" "I") (List.mem_of_getElem? (i := 2) rfl)
  have f71 := hts (.fieldLink RX7 71 "HopCreditsModel" "wrong" "I") (List.mem_of_getElem? (i := 1) rfl)
  have iX7 : ∀ w ∈ u_ws RX7 TX7 21, w ∈ wsX7_items := fun w h => List.mem_cons_of_mem _ (List.mem_append_right _ (h))
  have hl := lv_entry ([.ref Mm, .int 1, .ref Mrh, .int (nI ix)]) (n := 6) (Nat.le_of_ble_eq_true rfl)
  rw [lg_entry_eq]
  generalize (lg_sl ([.ref Mm, .int 1, .ref Mrh, .int (nI ix)]) ++ List.replicate (6 - (lg_sl ([.ref Mm, .int 1, .ref Mrh, .int (nI ix)])).length) Slot.unset).toArray = ls at hl ⊢
  have hl : lv_has ls 6 [(0, .ref Mm), (1, .int 1), (2, .ref Mrh), (3, .int (nI ix))] := hl
  generalize hQ : MQ below _ _ s _ _ _ = Q
  generalize hH : s.heap = H at hP ⊢
  have hS : va_S A s.heap H [] := by rw [← hH]; exact hS
  clear hH
  refine lv_aload_n hx hb dX7_items_0 rfl (lv_at hl 0 rfl) ?_
  refine lv_iload_n hx hb dX7_items_1 rfl (lv_at hl 1 rfl) ?_
  refine lv_aload_n hx hb dX7_items_2 rfl (lv_at hl 2 rfl) ?_
  refine lv_iload_n hx hb dX7_items_3 rfl (lv_at hl 3 rfl) ?_
  refine ky_Vv (As := [.int 1, .ref Mrh, .int (nI ix)]) (rest := []) ⟨hx, hb, hml, hown, hts⟩ ⟨hK, hN⟩ hZ hP hD hS hA [0, 2] [1] (wc := [(Mm, .inr (7, [.int zth, .ref Mt, .int (nI tp), .int (nI ma), .int zwr, .ref Mrr, .ref Mrh, .ref Mrc, .int (nI rh), .int (nI rc), .ref Mn, .ref Mf, .ref Mr, .ref Mh, .int zhp, .int zcc, .ref Ma, .ref Mas, .ref Msn, .ref Mac, .ref Mat])), (Mrh, .inl (g 0, 9, .inl frh))]) (wr := [(Mt, .inl (g 0, 160, .inl fmt))]) rfl rfl rfl rfl (by decide) (k_X7_laysUsual_1 l D g H.size Mm Mrh ix zth Mt (nI tp) (nI ma) zwr Mrr Mrc (nI rh) (nI rc) Mn Mf Mr Mh zhp zcc Ma Mas Msn Mac Mat frh (show ix ≤ 6 by omega) (h3)) (cwV 3 hts gX7_items_X7_laysUsual rfl rfl rfl (by decide +kernel) ⟨(Nat.le_of_ble_eq_true rfl), (Nat.le_of_ble_eq_true rfl)⟩) 0 7 rfl rfl rfl rfl hl.1 rfl (Nat.le_of_ble_eq_true rfl) dX7_items_4 ⟨(Nat.le_of_ble_eq_true rfl), (Nat.le_of_ble_eq_true rfl)⟩ (fun u H locs hw hP2 hD2 hS2 => ?_)
  clear hP hD hS
  obtain ⟨frhx_2, rfl, hf_3⟩ := hw
  have hPD : PD D A [(Mt, .inl (g 0, 160, .inl fmt)), (Mm, .inr (7, [.int zth, .ref Mt, .int (nI tp), .int (nI ma), .int zwr, .ref Mrr, .ref Mrh, .ref Mrc, .int (nI rh), .int (nI rc), .ref Mn, .ref Mf, .ref Mr, .ref Mh, .int zhp, .int zcc, .ref Ma, .ref Mas, .ref Msn, .ref Mac, .ref Mat])), (Mrh, .inl (g 0, 9, .inl frhx_2))] H := ⟨hP2, hD2⟩
  have hS := hS2; clear hP2 hD2 hS2; have hP := hPD.1; have hD := hPD.2; clear hPD
  refine W.widen (k := 0) (n := 0) (Nat.le_of_ble_eq_true rfl) (Nat.le_of_ble_eq_true rfl) ?_
  refine lv_iconst (v := 0) hx hb dX7_items_7 (by decide) ?_
  refine lv_istore (lv' := [(4, .int 0), (0, .ref Mm), (1, .int 1), (2, .ref Mrh), (3, .int (nI ix))]) hx hb dX7_items_8 hl (by decide) rfl (fun ls hl => ?_)
  refine lv_iload_n hx hb dX7_items_10 rfl (lv_at hl 2 rfl) ?_
  refine lv_aload_n hx hb dX7_items_11 rfl (lv_at hl 1 rfl) ?_
  refine ky_Vi (As := []) (rest := [.int 1]) ⟨hx, hb, hml, hown, hts⟩ ⟨hK, hN⟩ hZ hP hD hS hA [1, 0] [2] (wc := [(Mm, .inr (7, [.int zth, .ref Mt, .int (nI tp), .int (nI ma), .int zwr, .ref Mrr, .ref Mrh, .ref Mrc, .int (nI rh), .int (nI rc), .ref Mn, .ref Mf, .ref Mr, .ref Mh, .int zhp, .int zcc, .ref Ma, .ref Mas, .ref Msn, .ref Mac, .ref Mat])), (Mt, .inl (g 0, 160, .inl fmt))]) (wr := [(Mrh, .inl (g 0, 9, .inl frhx_2))]) rfl rfl rfl rfl (by decide) (k_X7_ahead l D g H.size Mm zth Mt tp ma zwr Mrr Mrh Mrc rh rc Mn Mf Mr Mh zhp zcc Ma Mas Msn Mac Mat fmt (show tp ≤ 160 by omega) (show ma ≤ tp by omega)) (cwV 0 hts gX7_items_X7_ahead rfl rfl rfl (by decide +kernel) ⟨(Nat.le_of_ble_eq_true rfl), (Nat.le_of_ble_eq_true rfl)⟩) 1 7 rfl rfl rfl rfl hl.1 rfl (Nat.le_of_ble_eq_true rfl) dX7_items_12 ⟨(Nat.le_of_ble_eq_true rfl), (Nat.le_of_ble_eq_true rfl)⟩ (fun r_4 u H locs hw hP2 hD2 hS2 => ?_)
  clear hP hD hS
  obtain ⟨max_5, rfl, rfl, hf_6, hf_7⟩ := hw
  have hPD : PD D A [(Mrh, .inl (g 0, 9, .inl frhx_2)), (Mm, .inr (7, [.int zth, .ref Mt, .int (nI tp), .int (nI max_5), .int zwr, .ref Mrr, .ref Mrh, .ref Mrc, .int (nI rh), .int (nI rc), .ref Mn, .ref Mf, .ref Mr, .ref Mh, .int zhp, .int zcc, .ref Ma, .ref Mas, .ref Msn, .ref Mac, .ref Mat])), (Mt, .inl (g 0, 160, .inl fmt))] H := ⟨hP2, hD2⟩
  have hS := hS2; clear hP2 hD2 hS2; have hP := hPD.1; have hD := hPD.2; clear hPD
  refine W.widen (k := 0) (n := 0) (Nat.le_of_ble_eq_true rfl) (Nat.le_of_ble_eq_true rfl) ?_
  refine lv_topi (fun y_8 hey_8 => ?_)
  refine ky_Si (As := [.int 1, .int y_8]) (rest := []) ⟨hx, hb, hml, hown, hts⟩ ⟨hK, hN⟩ hZ hP hD hS hA [] [0, 1, 2] (wc := []) (wr := [(Mrh, .inl (g 0, 9, .inl frhx_2)), (Mm, .inr (7, [.int zth, .ref Mt, .int (nI tp), .int (nI max_5), .int zwr, .ref Mrr, .ref Mrh, .ref Mrc, .int (nI rh), .int (nI rc), .ref Mn, .ref Mf, .ref Mr, .ref Mh, .int zhp, .int zcc, .ref Ma, .ref Mas, .ref Msn, .ref Mac, .ref Mat])), (Mt, .inl (g 0, 160, .inl fmt))]) rfl rfl rfl rfl (by decide) (k_X7_itemBy_1 l D g H.size y_8) (va_cwS 2 hts gX7_items_X7_itemBy rfl rfl rfl (by decide +kernel) ⟨(Nat.le_of_ble_eq_true rfl), (Nat.le_of_ble_eq_true rfl)⟩) rfl hl.1 rfl (Nat.le_of_ble_eq_true rfl) dX7_items_15 ⟨(Nat.le_of_ble_eq_true rfl), (Nat.le_of_ble_eq_true rfl)⟩ (fun r_9 u H locs hw hP2 hD2 hS2 => ?_)
  clear hP hD hS
  obtain ⟨zr_10, rfl, rfl, hf_11, hf_12⟩ := hw
  have hPD : PD D A [(Mrh, .inl (g 0, 9, .inl frhx_2)), (Mm, .inr (7, [.int zth, .ref Mt, .int (nI tp), .int (nI max_5), .int zwr, .ref Mrr, .ref Mrh, .ref Mrc, .int (nI rh), .int (nI rc), .ref Mn, .ref Mf, .ref Mr, .ref Mh, .int zhp, .int zcc, .ref Ma, .ref Mas, .ref Msn, .ref Mac, .ref Mat])), (Mt, .inl (g 0, 160, .inl fmt))] H := ⟨hP2, hD2⟩
  have hS := hS2; clear hP2 hD2 hS2; have hP := hPD.1; have hD := hPD.2; clear hPD
  refine W.widen (k := 0) (n := 0) (Nat.le_of_ble_eq_true rfl) (Nat.le_of_ble_eq_true rfl) ?_
  refine lv_istore (lv' := [(5, .int r_9), (4, .int 0), (0, .ref Mm), (1, .int 1), (2, .ref Mrh), (3, .int (nI ix))]) hx hb dX7_items_18 hl (by decide) rfl (fun ls hl => ?_)
  have loop_89 : ∀ (Nloop_89 : Nat) (i_47 : Int32) (i_48 : Int32) (F_49 : Nat → Int32) (z_50 : Nat) (z_51 : Int32) (hi_47 : okc i_47) (hF_49 : n1 F_49) (hv_86 : z_50 ≤ tp) (hv_87 : ¬ i_47 = -1 → z_50 < tp) (hv_88 : ma ≤ z_50) (hmloop_89 : tp - z_50 < Nloop_89) (H : Heap) (locs : List Loc) (ls : Array Slot), va_P D vwCl [(Mrh, .inl (g 0, 9, .inl F_49)), (Mm, .inr (7, [.int zth, .ref Mt, .int (nI tp), .int (nI z_50), .int z_51, .ref Mrr, .ref Mrh, .ref Mrc, .int (nI rh), .int (nI rc), .ref Mn, .ref Mf, .ref Mr, .ref Mh, .int zhp, .int zcc, .ref Ma, .ref Mas, .ref Msn, .ref Mac, .ref Mat])), (Mt, .inl (g 0, 160, .inl fmt))] H → va_D A [(Mrh, .inl (g 0, 9, .inl F_49)), (Mm, .inr (7, [.int zth, .ref Mt, .int (nI tp), .int (nI z_50), .int z_51, .ref Mrr, .ref Mrh, .ref Mrc, .int (nI rh), .int (nI rc), .ref Mn, .ref Mf, .ref Mr, .ref Mh, .int zhp, .int zcc, .ref Ma, .ref Mas, .ref Msn, .ref Mac, .ref Mat])), (Mt, .inl (g 0, 160, .inl fmt))] → va_S A s.heap H locs → lv_has ls 6 [(5, .int i_47), (4, .int i_48), (0, .ref Mm), (1, .int 1), (2, .ref Mrh), (3, .int (nI ix))] → W p l e (headSpec wsX7_items ({ frames := 3, cells := 0, slots := 0, locals := 64 })).room s m ([.ref Mm, .int 1, .ref Mrh, .int (nI ix)] : List Value).toArray below meth c H locs 0 0 Q (F0 m 20 ls []) := by
    clear hP hD hS hl
    intro Nloop_89
    induction Nloop_89 with
    | zero => intro i_47 i_48 F_49 z_50 z_51 hi_47 hF_49 hv_86 hv_87 hv_88 hm9; exact absurd hm9 (Nat.not_lt_zero _)
    | succ Nloop_89 loop_89_ih =>
      intro i_47 i_48 F_49 z_50 z_51 hi_47 hF_49 hv_86 hv_87 hv_88 hmloop_89 H locs ls hP hD hS hl
      refine lv_aload_n hx hb dX7_items_20 rfl (lv_at hl 2 rfl) ?_
      refine va_get (D := D) (ci := 7) (v := .int z_51) (C := RX7) (T := TX7) (N := 21) hx hb hts iX7 hown hK hP 1 rfl rfl 4 (by decide) f71 (fun _ h9 => h9) rfl dX7_items_21 ?_
      refine lv_iconst (v := (-1)) hx hb dX7_items_24 (by decide) ?_
      refine lv_icmp_ne (tgt := 98) hx hb dX7_items_25 (by decide) (fun cb_90 => ?_) (fun cb_90 => ?_)
      · skip
        have hPD9 : PD D A [(Mm, .inr (7, [.int zth, .ref Mt, .int (nI tp), .int (nI z_50), .int z_51, .ref Mrr, .ref Mrh, .ref Mrc, .int (nI rh), .int (nI rc), .ref Mn, .ref Mf, .ref Mr, .ref Mh, .int zhp, .int zcc, .ref Ma, .ref Mas, .ref Msn, .ref Mac, .ref Mat])), (Mt, .inl (g 0, 160, .inl fmt)), (Mrh, .inl (g 0, 9, .inl F_49))] H := ⟨hP.sub [1, 2, 0] rfl, hD.sub [1, 2, 0] (by decide) rfl⟩
        have hP9 := hPD9.1; have hD9 := hPD9.2
        subst hQ
        refine W.widen (k := 0) (n := 0) (Nat.le_of_ble_eq_true rfl) (Nat.le_of_ble_eq_true rfl) ?_
        exact W.vret hx hb hr (fun tS htS _ => ⟨⟨_, rfl, ⟨z_50, z_51, F_49, rfl, (hF_49), (show z_50 ≤ tp by omega), (show ma ≤ z_50 by omega)⟩, by rw [htS]; exact hP9, hD9⟩, hS.F htS⟩) hS.2.2 dX7_items_98
      · skip
        have hPq_91 := hP; have hDq_91 := hD; have hSq_91 := hS; have hlq_91 := hl; clear hP hD hS hl
        subst cb_90
        have hP := hPq_91; have hD := hDq_91; have hS := hSq_91; have hl := hlq_91; clear hPq_91 hDq_91 hSq_91 hlq_91
        refine lv_iload hx hb dX7_items_28 (lv_at hl 0 rfl) ?_
        refine lv_iconst (v := (-1)) hx hb dX7_items_30 (by decide) ?_
        refine lv_icmp_eq (tgt := 98) hx hb dX7_items_31 (by decide) (fun cb_92 => ?_) (fun cb_92 => ?_)
        · skip
          have hPq_93 := hP; have hDq_93 := hD; have hSq_93 := hS; have hlq_93 := hl; clear hP hD hS hl
          subst cb_92
          have hP := hPq_93; have hD := hDq_93; have hS := hSq_93; have hl := hlq_93; clear hPq_93 hDq_93 hSq_93 hlq_93
          have hPD9 : PD D A [(Mm, .inr (7, [.int zth, .ref Mt, .int (nI tp), .int (nI z_50), .int (-1), .ref Mrr, .ref Mrh, .ref Mrc, .int (nI rh), .int (nI rc), .ref Mn, .ref Mf, .ref Mr, .ref Mh, .int zhp, .int zcc, .ref Ma, .ref Mas, .ref Msn, .ref Mac, .ref Mat])), (Mt, .inl (g 0, 160, .inl fmt)), (Mrh, .inl (g 0, 9, .inl F_49))] H := ⟨hP.sub [1, 2, 0] rfl, hD.sub [1, 2, 0] (by decide) rfl⟩
          have hP9 := hPD9.1; have hD9 := hPD9.2
          subst hQ
          refine W.widen (k := 0) (n := 0) (Nat.le_of_ble_eq_true rfl) (Nat.le_of_ble_eq_true rfl) ?_
          exact W.vret hx hb hr (fun tS htS _ => ⟨⟨_, rfl, ⟨z_50, (-1), F_49, rfl, (hF_49), (show z_50 ≤ tp by omega), (show ma ≤ z_50 by omega)⟩, by rw [htS]; exact hP9, hD9⟩, hS.F htS⟩) hS.2.2 dX7_items_98
        · skip
          have hq_94 : z_50 < tp := hv_87 cb_92
          have hPq_97 := hP; have hDq_97 := hD; have hSq_97 := hS; have hlq_97 := hl; clear hP hD hS hl
          obtain ⟨j_95, hj_96, rfl⟩ := okc_j (hi_47) cb_92
          have hP := hPq_97; have hD := hDq_97; have hS := hSq_97; have hl := hlq_97; clear hPq_97 hDq_97 hSq_97 hlq_97
          refine lv_iload hx hb dX7_items_34 (lv_at hl 1 rfl) ?_
          refine lv_iload hx hb dX7_items_36 (lv_at hl 0 rfl) ?_
          refine ky_Si (As := [.int i_48, .int (nI j_95)]) (rest := []) ⟨hx, hb, hml, hown, hts⟩ ⟨hK, hN⟩ hZ hP hD hS hA [] [0, 1, 2] (wc := []) (wr := [(Mrh, .inl (g 0, 9, .inl F_49)), (Mm, .inr (7, [.int zth, .ref Mt, .int (nI tp), .int (nI z_50), .int (-1), .ref Mrr, .ref Mrh, .ref Mrc, .int (nI rh), .int (nI rc), .ref Mn, .ref Mf, .ref Mr, .ref Mh, .int zhp, .int zcc, .ref Ma, .ref Mas, .ref Msn, .ref Mac, .ref Mat])), (Mt, .inl (g 0, 160, .inl fmt))]) rfl rfl rfl rfl (by decide) (k_X7_has l D g H.size i_48 (nI j_95)) (va_cwS 2 hts gX7_items_X7_has rfl rfl rfl (by decide +kernel) ⟨(Nat.le_of_ble_eq_true rfl), (Nat.le_of_ble_eq_true rfl)⟩) rfl hl.1 rfl (Nat.le_of_ble_eq_true rfl) dX7_items_38 ⟨(Nat.le_of_ble_eq_true rfl), (Nat.le_of_ble_eq_true rfl)⟩ (fun r_98 u H locs hw hP2 hD2 hS2 => ?_)
          clear hP hD hS
          obtain rfl := hw
          have hPD : PD D A [(Mrh, .inl (g 0, 9, .inl F_49)), (Mm, .inr (7, [.int zth, .ref Mt, .int (nI tp), .int (nI z_50), .int (-1), .ref Mrr, .ref Mrh, .ref Mrc, .int (nI rh), .int (nI rc), .ref Mn, .ref Mf, .ref Mr, .ref Mh, .int zhp, .int zcc, .ref Ma, .ref Mas, .ref Msn, .ref Mac, .ref Mat])), (Mt, .inl (g 0, 160, .inl fmt))] H := ⟨hP2, hD2⟩
          have hS := hS2; clear hP2 hD2 hS2; have hP := hPD.1; have hD := hPD.2; clear hPD
          refine W.widen (k := 0) (n := 0) (Nat.le_of_ble_eq_true rfl) (Nat.le_of_ble_eq_true rfl) ?_
          refine lv_if_ne (tgt := 98) hx hb dX7_items_41 (by decide) (fun cb_99 => ?_) (fun cb_99 => ?_)
          · skip
            have hPD9 : PD D A [(Mm, .inr (7, [.int zth, .ref Mt, .int (nI tp), .int (nI z_50), .int (-1), .ref Mrr, .ref Mrh, .ref Mrc, .int (nI rh), .int (nI rc), .ref Mn, .ref Mf, .ref Mr, .ref Mh, .int zhp, .int zcc, .ref Ma, .ref Mas, .ref Msn, .ref Mac, .ref Mat])), (Mt, .inl (g 0, 160, .inl fmt)), (Mrh, .inl (g 0, 9, .inl F_49))] H := ⟨hP.sub [1, 2, 0] rfl, hD.sub [1, 2, 0] (by decide) rfl⟩
            have hP9 := hPD9.1; have hD9 := hPD9.2
            subst hQ
            refine W.widen (k := 0) (n := 0) (Nat.le_of_ble_eq_true rfl) (Nat.le_of_ble_eq_true rfl) ?_
            exact W.vret hx hb hr (fun tS htS _ => ⟨⟨_, rfl, ⟨z_50, (-1), F_49, rfl, (hF_49), (show z_50 ≤ tp by omega), (show ma ≤ z_50 by omega)⟩, by rw [htS]; exact hP9, hD9⟩, hS.F htS⟩) hS.2.2 dX7_items_98
          · skip
            have hPq_100 := hP; have hDq_100 := hD; have hSq_100 := hS; have hlq_100 := hl; clear hP hD hS hl
            subst cb_99
            have hP := hPq_100; have hD := hDq_100; have hS := hSq_100; have hl := hlq_100; clear hPq_100 hDq_100 hSq_100 hlq_100
            refine lv_iload hx hb dX7_items_44 (lv_at hl 1 rfl) ?_
            refine lv_iconst (v := 1) hx hb dX7_items_46 (by decide) ?_
            refine lv_iload hx hb dX7_items_47 (lv_at hl 0 rfl) ?_
            refine lv_ishl hx hb dX7_items_49 ?_
            refine lv_topi (fun y_101 _ => ?_)
            refine lv_ior hx hb dX7_items_50 ?_
            refine lv_topi (fun y_102 _ => ?_)
            refine lv_istore (lv' := [(4, .int y_102), (5, .int (nI j_95)), (0, .ref Mm), (1, .int 1), (2, .ref Mrh), (3, .int (nI ix))]) hx hb dX7_items_51 hl (by decide) rfl (fun ls hl => ?_)
            refine lv_aload_n hx hb dX7_items_53 rfl (lv_at hl 2 rfl) ?_
            refine lv_dup hx hb dX7_items_54 rfl ?_
            refine va_get (D := D) (ci := 7) (v := .int (nI z_50)) (C := RX7) (T := TX7) (N := 21) hx hb hts iX7 hown hK hP 1 rfl rfl 3 (by decide) f64 (fun _ h9 => h9) rfl dX7_items_55 ?_
            refine lv_iconst (v := 1) hx hb dX7_items_58 (by decide) ?_
            refine lv_iadd hx hb dX7_items_59 ?_
            refine lv_eqi (y := (nI (z_50 + 1))) (nI_add (z_50) (1)) ?_
            refine va_put (D := D) (ci := 7) (v := .int (nI (z_50 + 1))) (ty := .int) (C := RX7) (T := TX7) (N := 21) hx hb hts iX7 tyX7 tyX7_ok nmX7 hown hK hP hD hS 1 rfl rfl 3 (by decide) f64 (fun _ h9 => h9) rfl (by decide +kernel) (rfl) (rfl) (Nat.le_of_ble_eq_true rfl) dX7_items_60 (fun H locs hP2 hD2 hS2 => ?_)
            clear hP hD hS
            have hPD : PD D A [(Mrh, .inl (g 0, 9, .inl F_49)), (Mm, .inr (7, [.int zth, .ref Mt, .int (nI tp), .int (nI (z_50 + 1)), .int (-1), .ref Mrr, .ref Mrh, .ref Mrc, .int (nI rh), .int (nI rc), .ref Mn, .ref Mf, .ref Mr, .ref Mh, .int zhp, .int zcc, .ref Ma, .ref Mas, .ref Msn, .ref Mac, .ref Mat])), (Mt, .inl (g 0, 160, .inl fmt))] H := ⟨hP2, hD2⟩
            have hS := hS2; clear hP2 hD2 hS2; have hP := hPD.1; have hD := hPD.2; clear hPD
            refine lv_aload_n hx hb dX7_items_63 rfl (lv_at hl 4 rfl) ?_
            refine lv_iload_n hx hb dX7_items_64 rfl (lv_at hl 5 rfl) ?_
            refine lv_iload hx hb dX7_items_65 (lv_at hl 1 rfl) ?_
            refine lv_iadd hx hb dX7_items_67 ?_
            refine lv_eqi (y := (nI (ix + j_95))) (nI_add (ix) (j_95)) ?_
            refine lv_aload_n hx hb dX7_items_68 rfl (lv_at hl 2 rfl) ?_
            refine lv_iload_n hx hb dX7_items_69 rfl (lv_at hl 3 rfl) ?_
            refine lv_iload hx hb dX7_items_70 (lv_at hl 1 rfl) ?_
            refine ky_Si (As := [.int 1, .int (nI j_95)]) (rest := [.ref Mm, .int (nI (ix + j_95)), .ref Mrh]) ⟨hx, hb, hml, hown, hts⟩ ⟨hK, hN⟩ hZ hP hD hS hA [] [0, 1, 2] (wc := []) (wr := [(Mrh, .inl (g 0, 9, .inl F_49)), (Mm, .inr (7, [.int zth, .ref Mt, .int (nI tp), .int (nI (z_50 + 1)), .int (-1), .ref Mrr, .ref Mrh, .ref Mrc, .int (nI rh), .int (nI rc), .ref Mn, .ref Mf, .ref Mr, .ref Mh, .int zhp, .int zcc, .ref Ma, .ref Mas, .ref Msn, .ref Mac, .ref Mat])), (Mt, .inl (g 0, 160, .inl fmt))]) rfl rfl rfl rfl (by decide) (k_X7_lowest_1 l D g H.size (nI j_95)) (va_cwS 2 hts gX7_items_X7_lowest rfl rfl rfl (by decide +kernel) ⟨(Nat.le_of_ble_eq_true rfl), (Nat.le_of_ble_eq_true rfl)⟩) rfl hl.1 rfl (Nat.le_of_ble_eq_true rfl) dX7_items_72 ⟨(Nat.le_of_ble_eq_true rfl), (Nat.le_of_ble_eq_true rfl)⟩ (fun r_103 u H locs hw hP2 hD2 hS2 => ?_)
            clear hP hD hS
            obtain ⟨nx_104, rfl, rfl, hf_105⟩ := hw
            have hPD : PD D A [(Mrh, .inl (g 0, 9, .inl F_49)), (Mm, .inr (7, [.int zth, .ref Mt, .int (nI tp), .int (nI (z_50 + 1)), .int (-1), .ref Mrr, .ref Mrh, .ref Mrc, .int (nI rh), .int (nI rc), .ref Mn, .ref Mf, .ref Mr, .ref Mh, .int zhp, .int zcc, .ref Ma, .ref Mas, .ref Msn, .ref Mac, .ref Mat])), (Mt, .inl (g 0, 160, .inl fmt))] H := ⟨hP2, hD2⟩
            have hS := hS2; clear hP2 hD2 hS2; have hP := hPD.1; have hD := hPD.2; clear hPD
            refine W.widen (k := 0) (n := 0) (Nat.le_of_ble_eq_true rfl) (Nat.le_of_ble_eq_true rfl) ?_
            refine lv_iload_n hx hb dX7_items_75 rfl (lv_at hl 3 rfl) ?_
            refine lv_iload hx hb dX7_items_76 (lv_at hl 1 rfl) ?_
            refine ky_Si (As := [.int 1, .int (nI j_95)]) (rest := [.int (nI nx_104), .ref Mm, .int (nI (ix + j_95)), .ref Mrh]) ⟨hx, hb, hml, hown, hts⟩ ⟨hK, hN⟩ hZ hP hD hS hA [] [0, 1, 2] (wc := []) (wr := [(Mrh, .inl (g 0, 9, .inl F_49)), (Mm, .inr (7, [.int zth, .ref Mt, .int (nI tp), .int (nI (z_50 + 1)), .int (-1), .ref Mrr, .ref Mrh, .ref Mrc, .int (nI rh), .int (nI rc), .ref Mn, .ref Mf, .ref Mr, .ref Mh, .int zhp, .int zcc, .ref Ma, .ref Mas, .ref Msn, .ref Mac, .ref Mat])), (Mt, .inl (g 0, 160, .inl fmt))]) rfl rfl rfl rfl (by decide) (k_X7_highest_1 l D g H.size (nI j_95)) (va_cwS 2 hts gX7_items_X7_highest rfl rfl rfl (by decide +kernel) ⟨(Nat.le_of_ble_eq_true rfl), (Nat.le_of_ble_eq_true rfl)⟩) rfl hl.1 rfl (Nat.le_of_ble_eq_true rfl) dX7_items_78 ⟨(Nat.le_of_ble_eq_true rfl), (Nat.le_of_ble_eq_true rfl)⟩ (fun r_106 u H locs hw hP2 hD2 hS2 => ?_)
            clear hP hD hS
            obtain rfl := hw
            have hPD : PD D A [(Mrh, .inl (g 0, 9, .inl F_49)), (Mm, .inr (7, [.int zth, .ref Mt, .int (nI tp), .int (nI (z_50 + 1)), .int (-1), .ref Mrr, .ref Mrh, .ref Mrc, .int (nI rh), .int (nI rc), .ref Mn, .ref Mf, .ref Mr, .ref Mh, .int zhp, .int zcc, .ref Ma, .ref Mas, .ref Msn, .ref Mac, .ref Mat])), (Mt, .inl (g 0, 160, .inl fmt))] H := ⟨hP2, hD2⟩
            have hS := hS2; clear hP2 hD2 hS2; have hP := hPD.1; have hD := hPD.2; clear hPD
            refine W.widen (k := 0) (n := 0) (Nat.le_of_ble_eq_true rfl) (Nat.le_of_ble_eq_true rfl) ?_
            refine ky_Vi (As := [.int (nI nx_104), .int r_106]) (rest := [.int (nI (ix + j_95)), .ref Mrh]) ⟨hx, hb, hml, hown, hts⟩ ⟨hK, hN⟩ hZ hP hD hS hA [1, 2] [0] (wc := [(Mm, .inr (7, [.int zth, .ref Mt, .int (nI tp), .int (nI (z_50 + 1)), .int (-1), .ref Mrr, .ref Mrh, .ref Mrc, .int (nI rh), .int (nI rc), .ref Mn, .ref Mf, .ref Mr, .ref Mh, .int zhp, .int zcc, .ref Ma, .ref Mas, .ref Msn, .ref Mac, .ref Mat])), (Mt, .inl (g 0, 160, .inl fmt))]) (wr := [(Mrh, .inl (g 0, 9, .inl F_49))]) rfl rfl rfl rfl (by decide) (k_X7_number l D g H.size Mm nx_104 r_106 zth Mt tp (z_50 + 1) (-1) Mrr Mrh Mrc rh rc Mn Mf Mr Mh zhp zcc Ma Mas Msn Mac Mat fmt (show tp ≤ 160 by omega) (show (z_50 + 1) ≤ tp by omega) (show nx_104 ≤ 1 by omega)) (cwV 2 hts gX7_items_X7_number rfl rfl rfl (by decide +kernel) ⟨(Nat.le_of_ble_eq_true rfl), (Nat.le_of_ble_eq_true rfl)⟩) 1 7 rfl rfl rfl rfl hl.1 rfl (Nat.le_of_ble_eq_true rfl) dX7_items_81 ⟨(Nat.le_of_ble_eq_true rfl), (Nat.le_of_ble_eq_true rfl)⟩ (fun r_107 u H locs hw hP2 hD2 hS2 => ?_)
            clear hP hD hS
            obtain ⟨max_108, zwrx_109, nx_110, rfl, rfl, hf_111, hf_112, hf_113⟩ := hw
            have hPD : PD D A [(Mrh, .inl (g 0, 9, .inl F_49)), (Mm, .inr (7, [.int zth, .ref Mt, .int (nI tp), .int (nI max_108), .int zwrx_109, .ref Mrr, .ref Mrh, .ref Mrc, .int (nI rh), .int (nI rc), .ref Mn, .ref Mf, .ref Mr, .ref Mh, .int zhp, .int zcc, .ref Ma, .ref Mas, .ref Msn, .ref Mac, .ref Mat])), (Mt, .inl (g 0, 160, .inl fmt))] H := ⟨hP2, hD2⟩
            have hS := hS2; clear hP2 hD2 hS2; have hP := hPD.1; have hD := hPD.2; clear hPD
            refine W.widen (k := 0) (n := 0) (Nat.le_of_ble_eq_true rfl) (Nat.le_of_ble_eq_true rfl) ?_
            refine va_iast hx hb hK hP hD hS 0 0 rfl rfl (vp_in_nI (show ix + j_95 < 9 by omega) (by decide)) dX7_items_84 (fun H locs hP2 hD2 hS2 => ?_)
            clear hP hD hS
            have hPD : PD D A [(Mrh, .inl (g 0, 9, .inl (upd F_49 (nI (ix + j_95)).toNatClampNeg (nI nx_110)))), (Mm, .inr (7, [.int zth, .ref Mt, .int (nI tp), .int (nI max_108), .int zwrx_109, .ref Mrr, .ref Mrh, .ref Mrc, .int (nI rh), .int (nI rc), .ref Mn, .ref Mf, .ref Mr, .ref Mh, .int zhp, .int zcc, .ref Ma, .ref Mas, .ref Msn, .ref Mac, .ref Mat])), (Mt, .inl (g 0, 160, .inl fmt))] H := ⟨hP2, hD2⟩
            have hS := hS2; clear hP2 hD2 hS2; have hP := hPD.1; have hD := hPD.2; clear hPD
            rw [nI_clamp (show ix + j_95 < 2 ^ 31 by omega)] at hP hD
            have hPD : PD D A [(Mrh, .inl (g 0, 9, .inl (upd F_49 (ix + j_95) (nI nx_110)))), (Mm, .inr (7, [.int zth, .ref Mt, .int (nI tp), .int (nI max_108), .int zwrx_109, .ref Mrr, .ref Mrh, .ref Mrc, .int (nI rh), .int (nI rc), .ref Mn, .ref Mf, .ref Mr, .ref Mh, .int zhp, .int zcc, .ref Ma, .ref Mas, .ref Msn, .ref Mac, .ref Mat])), (Mt, .inl (g 0, 160, .inl fmt))] H := ⟨hP, hD⟩
            clear hP hD; have hP := hPD.1; have hD := hPD.2; clear hPD
            have hF_114 : n1 (upd F_49 (ix + j_95) (nI nx_110)) := n1_upd (hF_49) (n := nx_110) (show nx_110 ≤ 99 by omega)
            generalize upd F_49 (ix + j_95) (nI nx_110) = F_114 at hP hD hF_114
            refine lv_iload_n hx hb dX7_items_85 rfl (lv_at hl 3 rfl) ?_
            refine lv_aload_n hx hb dX7_items_86 rfl (lv_at hl 2 rfl) ?_
            refine ky_Vi (As := []) (rest := [.int 1]) ⟨hx, hb, hml, hown, hts⟩ ⟨hK, hN⟩ hZ hP hD hS hA [1, 2] [0] (wc := [(Mm, .inr (7, [.int zth, .ref Mt, .int (nI tp), .int (nI max_108), .int zwrx_109, .ref Mrr, .ref Mrh, .ref Mrc, .int (nI rh), .int (nI rc), .ref Mn, .ref Mf, .ref Mr, .ref Mh, .int zhp, .int zcc, .ref Ma, .ref Mas, .ref Msn, .ref Mac, .ref Mat])), (Mt, .inl (g 0, 160, .inl fmt))]) (wr := [(Mrh, .inl (g 0, 9, .inl F_114))]) rfl rfl rfl rfl (by decide) (k_X7_ahead l D g H.size Mm zth Mt tp max_108 zwrx_109 Mrr Mrh Mrc rh rc Mn Mf Mr Mh zhp zcc Ma Mas Msn Mac Mat fmt (show tp ≤ 160 by omega) (show max_108 ≤ tp by omega)) (cwV 0 hts gX7_items_X7_ahead rfl rfl rfl (by decide +kernel) ⟨(Nat.le_of_ble_eq_true rfl), (Nat.le_of_ble_eq_true rfl)⟩) 1 7 rfl rfl rfl rfl hl.1 rfl (Nat.le_of_ble_eq_true rfl) dX7_items_87 ⟨(Nat.le_of_ble_eq_true rfl), (Nat.le_of_ble_eq_true rfl)⟩ (fun r_115 u H locs hw hP2 hD2 hS2 => ?_)
            clear hP hD hS
            obtain ⟨max_116, rfl, rfl, hf_117, hf_118⟩ := hw
            have hPD : PD D A [(Mrh, .inl (g 0, 9, .inl F_114)), (Mm, .inr (7, [.int zth, .ref Mt, .int (nI tp), .int (nI max_116), .int zwrx_109, .ref Mrr, .ref Mrh, .ref Mrc, .int (nI rh), .int (nI rc), .ref Mn, .ref Mf, .ref Mr, .ref Mh, .int zhp, .int zcc, .ref Ma, .ref Mas, .ref Msn, .ref Mac, .ref Mat])), (Mt, .inl (g 0, 160, .inl fmt))] H := ⟨hP2, hD2⟩
            have hS := hS2; clear hP2 hD2 hS2; have hP := hPD.1; have hD := hPD.2; clear hPD
            refine W.widen (k := 0) (n := 0) (Nat.le_of_ble_eq_true rfl) (Nat.le_of_ble_eq_true rfl) ?_
            refine lv_topi (fun y_119 hey_119 => ?_)
            refine ky_Si (As := [.int 1, .int y_119]) (rest := []) ⟨hx, hb, hml, hown, hts⟩ ⟨hK, hN⟩ hZ hP hD hS hA [] [0, 1, 2] (wc := []) (wr := [(Mrh, .inl (g 0, 9, .inl F_114)), (Mm, .inr (7, [.int zth, .ref Mt, .int (nI tp), .int (nI max_116), .int zwrx_109, .ref Mrr, .ref Mrh, .ref Mrc, .int (nI rh), .int (nI rc), .ref Mn, .ref Mf, .ref Mr, .ref Mh, .int zhp, .int zcc, .ref Ma, .ref Mas, .ref Msn, .ref Mac, .ref Mat])), (Mt, .inl (g 0, 160, .inl fmt))]) rfl rfl rfl rfl (by decide) (k_X7_itemBy_1 l D g H.size y_119) (va_cwS 2 hts gX7_items_X7_itemBy rfl rfl rfl (by decide +kernel) ⟨(Nat.le_of_ble_eq_true rfl), (Nat.le_of_ble_eq_true rfl)⟩) rfl hl.1 rfl (Nat.le_of_ble_eq_true rfl) dX7_items_90 ⟨(Nat.le_of_ble_eq_true rfl), (Nat.le_of_ble_eq_true rfl)⟩ (fun r_120 u H locs hw hP2 hD2 hS2 => ?_)
            clear hP hD hS
            obtain ⟨zr_121, rfl, rfl, hf_122, hf_123⟩ := hw
            have hPD : PD D A [(Mrh, .inl (g 0, 9, .inl F_114)), (Mm, .inr (7, [.int zth, .ref Mt, .int (nI tp), .int (nI max_116), .int zwrx_109, .ref Mrr, .ref Mrh, .ref Mrc, .int (nI rh), .int (nI rc), .ref Mn, .ref Mf, .ref Mr, .ref Mh, .int zhp, .int zcc, .ref Ma, .ref Mas, .ref Msn, .ref Mac, .ref Mat])), (Mt, .inl (g 0, 160, .inl fmt))] H := ⟨hP2, hD2⟩
            have hS := hS2; clear hP2 hD2 hS2; have hP := hPD.1; have hD := hPD.2; clear hPD
            refine W.widen (k := 0) (n := 0) (Nat.le_of_ble_eq_true rfl) (Nat.le_of_ble_eq_true rfl) ?_
            refine lv_istore (lv' := [(5, .int r_120), (4, .int y_102), (0, .ref Mm), (1, .int 1), (2, .ref Mrh), (3, .int (nI ix))]) hx hb dX7_items_93 hl (by decide) rfl (fun ls hl => ?_)
            refine lv_goto (tgt := 20) hx hb dX7_items_95 (by decide) ?_
            exact loop_89_ih r_120 y_102 F_114 max_116 zwrx_109 (hf_122) (hF_114) (show max_116 ≤ tp by omega) (fun q9 => (show max_116 < tp by have := (fun q9 => here_lt hey_119 q9) (hf_123 q9); omega)) (show ma ≤ max_116 by omega) (show tp - max_116 < Nloop_89 by omega) _ _ _ hP hD hS hl
  exact loop_89 _ r_9 0 frhx_2 max_5 zwr (hf_11) (hf_3) (show max_5 ≤ tp by omega) (fun q9 => (show max_5 < tp by have := (fun q9 => here_lt hey_8 q9) (hf_12 q9); omega)) (show ma ≤ max_5 by omega) (Nat.lt_succ_self _) _ _ _ hP hD hS hl

set_option maxHeartbeats 4000000 in
set_option maxRecDepth 100000 in
theorem k_X7_laysUsual_2 (l : Launch) (D : va_G) (g : Nat → ClassId) (sz : Nat) (Mm : Nat) (Mrc : Nat) (ix : Nat) (zth : Int32) (Mt : Nat) (ztp : Int32) (zma : Int32) (zwr : Int32) (Mrr : Nat) (Mrh : Nat) (zrh : Int32) (zrc : Int32) (Mn : Nat) (Mf : Nat) (Mr : Nat) (Mh : Nat) (zhp : Int32) (zcc : Int32) (Ma : Nat) (Mas : Nat) (Msn : Nat) (Mac : Nat) (Mat : Nat) (frc : Nat → Int32) (h0 : ix ≤ 6) (h1 : n1 frc) : Met l yX7_laysUsual wsX7_laysUsual ({ frames := 1, cells := 0, slots := 0, locals := 21 }) (va_Pc [.ref Mm, .int 2, .ref Mrc, .int (nI ix)] (pre D g sz [(Mm, .inr (7, [.int zth, .ref Mt, .int ztp, .int zma, .int zwr, .ref Mrr, .ref Mrh, .ref Mrc, .int zrh, .int zrc, .ref Mn, .ref Mf, .ref Mr, .ref Mh, .int zhp, .int zcc, .ref Ma, .ref Mas, .ref Msn, .ref Mac, .ref Mat])), (Mrc, .inl (g 0, 9, .inl frc))])) (va_Qv (fun (u : va_W) => ∃ (frcx : Nat → Int32), u = [(Mm, .inr (7, [.int zth, .ref Mt, .int ztp, .int zma, .int zwr, .ref Mrr, .ref Mrh, .ref Mrc, .int zrh, .int zrc, .ref Mn, .ref Mf, .ref Mr, .ref Mh, .int zhp, .int zcc, .ref Ma, .ref Mas, .ref Msn, .ref Mac, .ref Mat])), (Mrc, .inl (g 0, 9, .inl frcx))] ∧ (n1 frcx)) (wd D (va_A [(Mm, .inr (7, [.int zth, .ref Mt, .int ztp, .int zma, .int zwr, .ref Mrr, .ref Mrh, .ref Mrc, .int zrh, .int zrc, .ref Mn, .ref Mf, .ref Mr, .ref Mh, .int zhp, .int zcc, .ref Ma, .ref Mas, .ref Msn, .ref Mac, .ref Mat])), (Mrc, .inl (g 0, 9, .inl frc))] sz)) (va_A [(Mm, .inr (7, [.int zth, .ref Mt, .int ztp, .int zma, .int zwr, .ref Mrr, .ref Mrh, .ref Mrc, .int zrh, .int zrc, .ref Mn, .ref Mf, .ref Mr, .ref Mh, .int zhp, .int zcc, .ref Ma, .ref Mas, .ref Msn, .ref Mac, .ref Mat])), (Mrc, .inl (g 0, 9, .inl frc))] sz)) 0 0 (va_A [(Mm, .inr (7, [.int zth, .ref Mt, .int ztp, .int zma, .int zwr, .ref Mrr, .ref Mrh, .ref Mrc, .int zrh, .int zrc, .ref Mn, .ref Mf, .ref Mr, .ref Mh, .int zhp, .int zcc, .ref Ma, .ref Mas, .ref Msn, .ref Mac, .ref Mat])), (Mrc, .inl (g 0, 9, .inl frc))] sz) := by
  refine Met.ofW (cc := cX7_laysUsual) (maxL := 5) (ret := none) (by decide) rfl ?_
  intro p e s m args below meth c s₁ B hml hv
  obtain ⟨rfl, hsz, hP, ⟨hK, hN⟩, hD0, hZ⟩ := hv
  have hx := B.exec
  have hb := B.bytes
  have hr := B.returns
  have hts := atoms_spec (ws := wsX7_laysUsual) B.pre
  have hown : s.vm.findClass RX7 = some m.cls := findClass_of_methodNamed B.named
  have hlocks := B.notSynchronized
  clear B
  subst hsz
  have hD := hD0.self (sz := s.heap.size)
  clear hD0
  generalize hAe : va_A [(Mm, .inr (7, [.int zth, .ref Mt, .int ztp, .int zma, .int zwr, .ref Mrr, .ref Mrh, .ref Mrc, .int zrh, .int zrc, .ref Mn, .ref Mf, .ref Mr, .ref Mh, .int zhp, .int zcc, .ref Ma, .ref Mas, .ref Msn, .ref Mac, .ref Mat])), (Mrc, .inl (g 0, 9, .inl frc))] s.heap.size = A at hD hZ ⊢
  have hA : ∀ q : Nat, s.heap.size ≤ q → A q := fun q h => by rw [← hAe]; exact Or.inr h
  have hS : va_S A s.heap s.heap [] := va_S.rf
  have hl := lv_entry ([.ref Mm, .int 2, .ref Mrc, .int (nI ix)]) (n := 5) (Nat.le_of_ble_eq_true rfl)
  rw [lg_entry_eq]
  generalize (lg_sl ([.ref Mm, .int 2, .ref Mrc, .int (nI ix)]) ++ List.replicate (5 - (lg_sl ([.ref Mm, .int 2, .ref Mrc, .int (nI ix)])).length) Slot.unset).toArray = ls at hl ⊢
  have hl : lv_has ls 5 [(0, .ref Mm), (1, .int 2), (2, .ref Mrc), (3, .int (nI ix))] := hl
  generalize hQ : MQ below _ _ s _ _ _ = Q
  generalize hH : s.heap = H at hP ⊢
  have hS : va_S A s.heap H [] := by rw [← hH]; exact hS
  clear hH
  refine lv_iconst (v := 0) hx hb dX7_laysUsual_0 (by decide) ?_
  refine lv_istore (lv' := [(4, .int 0), (0, .ref Mm), (1, .int 2), (2, .ref Mrc), (3, .int (nI ix))]) hx hb dX7_laysUsual_1 hl (by decide) rfl (fun ls hl => ?_)
  have loop_14 : ∀ (Nloop_14 : Nat) (i_5 : Nat) (F_6 : Nat → Int32) (hF_6 : n1 F_6) (hbi_5 : i_5 ≤ 3) (hmloop_14 : 3 - i_5 < Nloop_14) (H : Heap) (locs : List Loc) (ls : Array Slot), va_P D vwCl [(Mm, .inr (7, [.int zth, .ref Mt, .int ztp, .int zma, .int zwr, .ref Mrr, .ref Mrh, .ref Mrc, .int zrh, .int zrc, .ref Mn, .ref Mf, .ref Mr, .ref Mh, .int zhp, .int zcc, .ref Ma, .ref Mas, .ref Msn, .ref Mac, .ref Mat])), (Mrc, .inl (g 0, 9, .inl F_6))] H → va_D A [(Mm, .inr (7, [.int zth, .ref Mt, .int ztp, .int zma, .int zwr, .ref Mrr, .ref Mrh, .ref Mrc, .int zrh, .int zrc, .ref Mn, .ref Mf, .ref Mr, .ref Mh, .int zhp, .int zcc, .ref Ma, .ref Mas, .ref Msn, .ref Mac, .ref Mat])), (Mrc, .inl (g 0, 9, .inl F_6))] → va_S A s.heap H locs → lv_has ls 5 [(4, .int (nI i_5)), (1, .int 2), (2, .ref Mrc), (3, .int (nI ix))] → W p l e (headSpec wsX7_laysUsual ({ frames := 1, cells := 0, slots := 0, locals := 21 })).room s m ([.ref Mm, .int 2, .ref Mrc, .int (nI ix)] : List Value).toArray below meth c H locs 0 0 Q (F0 m 3 ls []) := by
    clear hP hD hS hl
    intro Nloop_14
    induction Nloop_14 with
    | zero => intro i_5 F_6 hF_6 hbi_5 hm9; exact absurd hm9 (Nat.not_lt_zero _)
    | succ Nloop_14 loop_14_ih =>
      intro i_5 F_6 hF_6 hbi_5 hmloop_14 H locs ls hP hD hS hl
      refine lv_iload hx hb dX7_laysUsual_3 (lv_at hl 0 rfl) ?_
      refine lv_iconst (v := 3) hx hb dX7_laysUsual_5 (by decide) ?_
      refine lv_icmp_ge (tgt := 27) hx hb dX7_laysUsual_6 (by decide) (fun cb_15 => ?_) (fun cb_15 => ?_)
      · skip
        have cn_16 : 3 ≤ i_5 := (nI_leI (show 3 < 2 ^ 31 by omega) (show i_5 < 2 ^ 31 by omega)).mp cb_15
        have hP9 := hP; have hD9 := hD
        subst hQ
        refine W.widen (k := 0) (n := 0) (Nat.le_of_ble_eq_true rfl) (Nat.le_of_ble_eq_true rfl) ?_
        exact W.vret hx hb hr (fun tS htS _ => ⟨⟨_, rfl, ⟨F_6, rfl, (hF_6)⟩, by rw [htS]; exact hP9, hD9⟩, hS.F htS⟩) hS.2.2 dX7_laysUsual_27
      · skip
        have cn_17 : i_5 < 3 := Nat.lt_of_not_le (fun q9 => cb_15 ((nI_leI (show 3 < 2 ^ 31 by omega) (show i_5 < 2 ^ 31 by omega)).mpr q9))
        refine lv_aload_n hx hb dX7_laysUsual_9 rfl (lv_at hl 2 rfl) ?_
        refine lv_iload_n hx hb dX7_laysUsual_10 rfl (lv_at hl 3 rfl) ?_
        refine lv_iload hx hb dX7_laysUsual_11 (lv_at hl 0 rfl) ?_
        refine lv_iadd hx hb dX7_laysUsual_13 ?_
        refine lv_eqi (y := (nI (ix + i_5))) (nI_add (ix) (i_5)) ?_
        refine lv_iload_n hx hb dX7_laysUsual_14 rfl (lv_at hl 1 rfl) ?_
        refine lv_iload hx hb dX7_laysUsual_15 (lv_at hl 0 rfl) ?_
        refine ky_Si (As := [.int 2, .int (nI i_5)]) (rest := [.int (nI (ix + i_5)), .ref Mrc]) ⟨hx, hb, hml, hown, hts⟩ ⟨hK, hN⟩ hZ hP hD hS hA [] [0, 1] (wc := []) (wr := [(Mm, .inr (7, [.int zth, .ref Mt, .int ztp, .int zma, .int zwr, .ref Mrr, .ref Mrh, .ref Mrc, .int zrh, .int zrc, .ref Mn, .ref Mf, .ref Mr, .ref Mh, .int zhp, .int zcc, .ref Ma, .ref Mas, .ref Msn, .ref Mac, .ref Mat])), (Mrc, .inl (g 0, 9, .inl F_6))]) rfl rfl rfl rfl (by decide) (k_X7_usual_2 l D g H.size (nI i_5)) (va_cwS 2 hts gX7_laysUsual_X7_usual rfl rfl rfl (by decide +kernel) ⟨(Nat.le_of_ble_eq_true rfl), (Nat.le_of_ble_eq_true rfl)⟩) rfl hl.1 rfl (Nat.le_of_ble_eq_true rfl) dX7_laysUsual_17 ⟨(Nat.le_of_ble_eq_true rfl), (Nat.le_of_ble_eq_true rfl)⟩ (fun r_18 u H locs hw hP2 hD2 hS2 => ?_)
        clear hP hD hS
        obtain ⟨nx_19, rfl, rfl, hf_20⟩ := hw
        have hPD : PD D A [(Mm, .inr (7, [.int zth, .ref Mt, .int ztp, .int zma, .int zwr, .ref Mrr, .ref Mrh, .ref Mrc, .int zrh, .int zrc, .ref Mn, .ref Mf, .ref Mr, .ref Mh, .int zhp, .int zcc, .ref Ma, .ref Mas, .ref Msn, .ref Mac, .ref Mat])), (Mrc, .inl (g 0, 9, .inl F_6))] H := ⟨hP2, hD2⟩
        have hS := hS2; clear hP2 hD2 hS2; have hP := hPD.1; have hD := hPD.2; clear hPD
        refine W.widen (k := 0) (n := 0) (Nat.le_of_ble_eq_true rfl) (Nat.le_of_ble_eq_true rfl) ?_
        refine va_iast hx hb hK hP hD hS 1 0 rfl rfl (vp_in_nI (show ix + i_5 < 9 by omega) (by decide)) dX7_laysUsual_20 (fun H locs hP2 hD2 hS2 => ?_)
        clear hP hD hS
        have hPD : PD D A [(Mm, .inr (7, [.int zth, .ref Mt, .int ztp, .int zma, .int zwr, .ref Mrr, .ref Mrh, .ref Mrc, .int zrh, .int zrc, .ref Mn, .ref Mf, .ref Mr, .ref Mh, .int zhp, .int zcc, .ref Ma, .ref Mas, .ref Msn, .ref Mac, .ref Mat])), (Mrc, .inl (g 0, 9, .inl (upd F_6 (nI (ix + i_5)).toNatClampNeg (nI nx_19))))] H := ⟨hP2, hD2⟩
        have hS := hS2; clear hP2 hD2 hS2; have hP := hPD.1; have hD := hPD.2; clear hPD
        rw [nI_clamp (show ix + i_5 < 2 ^ 31 by omega)] at hP hD
        have hPD : PD D A [(Mm, .inr (7, [.int zth, .ref Mt, .int ztp, .int zma, .int zwr, .ref Mrr, .ref Mrh, .ref Mrc, .int zrh, .int zrc, .ref Mn, .ref Mf, .ref Mr, .ref Mh, .int zhp, .int zcc, .ref Ma, .ref Mas, .ref Msn, .ref Mac, .ref Mat])), (Mrc, .inl (g 0, 9, .inl (upd F_6 (ix + i_5) (nI nx_19))))] H := ⟨hP, hD⟩
        clear hP hD; have hP := hPD.1; have hD := hPD.2; clear hPD
        have hF_21 : n1 (upd F_6 (ix + i_5) (nI nx_19)) := n1_upd (hF_6) (n := nx_19) (show nx_19 ≤ 99 by omega)
        generalize upd F_6 (ix + i_5) (nI nx_19) = F_21 at hP hD hF_21
        refine lv_iinc (v := (nI (i_5 + 1))) (lv' := [(4, .int (nI (i_5 + 1))), (1, .int 2), (2, .ref Mrc), (3, .int (nI ix))]) hx hb dX7_laysUsual_21 hl (k := 0) rfl (nI_1 (i_5)) (by decide) rfl (fun ls hl => ?_)
        refine lv_goto (tgt := 3) hx hb dX7_laysUsual_24 (by decide) ?_
        exact loop_14_ih (i_5 + 1) F_21 (hF_21) (show (i_5 + 1) ≤ 3 by omega) (show 3 - (i_5 + 1) < Nloop_14 by omega) _ _ _ hP hD hS hl
  exact loop_14 _ 0 frc (h1) (show 0 ≤ 3 by omega) (Nat.lt_succ_self _) _ _ _ hP hD hS (lv_sub hl [0, 2, 3, 4] rfl)

set_option maxHeartbeats 4000000 in
set_option maxRecDepth 100000 in
theorem k_X7_items_2 (l : Launch) (D : va_G) (g : Nat → ClassId) (sz : Nat) (Mm : Nat) (Mrc : Nat) (ix : Nat) (zth : Int32) (Mt : Nat) (tp : Nat) (ma : Nat) (zwr : Int32) (Mrr : Nat) (Mrh : Nat) (rh : Nat) (rc : Nat) (Mn : Nat) (Mf : Nat) (Mr : Nat) (Mh : Nat) (zhp : Int32) (zcc : Int32) (Ma : Nat) (Mas : Nat) (Msn : Nat) (Mac : Nat) (Mat : Nat) (fmt : Nat → Int32) (frc : Nat → Int32) (h0 : tp ≤ 160) (h1 : ma ≤ tp) (h2 : ix ≤ 6) (h3 : n1 frc) : Met l yX7_items wsX7_items ({ frames := 3, cells := 0, slots := 0, locals := 64 }) (va_Pc [.ref Mm, .int 2, .ref Mrc, .int (nI ix)] (pre D g sz [(Mm, .inr (7, [.int zth, .ref Mt, .int (nI tp), .int (nI ma), .int zwr, .ref Mrr, .ref Mrh, .ref Mrc, .int (nI rh), .int (nI rc), .ref Mn, .ref Mf, .ref Mr, .ref Mh, .int zhp, .int zcc, .ref Ma, .ref Mas, .ref Msn, .ref Mac, .ref Mat])), (Mt, .inl (g 0, 160, .inl fmt)), (Mrc, .inl (g 0, 9, .inl frc))])) (va_Qv (fun (u : va_W) => ∃ (max : Nat) (zwrx : Int32) (frcx : Nat → Int32), u = [(Mm, .inr (7, [.int zth, .ref Mt, .int (nI tp), .int (nI max), .int zwrx, .ref Mrr, .ref Mrh, .ref Mrc, .int (nI rh), .int (nI rc), .ref Mn, .ref Mf, .ref Mr, .ref Mh, .int zhp, .int zcc, .ref Ma, .ref Mas, .ref Msn, .ref Mac, .ref Mat])), (Mt, .inl (g 0, 160, .inl fmt)), (Mrc, .inl (g 0, 9, .inl frcx))] ∧ (n1 frcx) ∧ (max ≤ tp) ∧ (ma ≤ max)) (wd D (va_A [(Mm, .inr (7, [.int zth, .ref Mt, .int (nI tp), .int (nI ma), .int zwr, .ref Mrr, .ref Mrh, .ref Mrc, .int (nI rh), .int (nI rc), .ref Mn, .ref Mf, .ref Mr, .ref Mh, .int zhp, .int zcc, .ref Ma, .ref Mas, .ref Msn, .ref Mac, .ref Mat])), (Mt, .inl (g 0, 160, .inl fmt)), (Mrc, .inl (g 0, 9, .inl frc))] sz)) (va_A [(Mm, .inr (7, [.int zth, .ref Mt, .int (nI tp), .int (nI ma), .int zwr, .ref Mrr, .ref Mrh, .ref Mrc, .int (nI rh), .int (nI rc), .ref Mn, .ref Mf, .ref Mr, .ref Mh, .int zhp, .int zcc, .ref Ma, .ref Mas, .ref Msn, .ref Mac, .ref Mat])), (Mt, .inl (g 0, 160, .inl fmt)), (Mrc, .inl (g 0, 9, .inl frc))] sz)) 0 0 (va_A [(Mm, .inr (7, [.int zth, .ref Mt, .int (nI tp), .int (nI ma), .int zwr, .ref Mrr, .ref Mrh, .ref Mrc, .int (nI rh), .int (nI rc), .ref Mn, .ref Mf, .ref Mr, .ref Mh, .int zhp, .int zcc, .ref Ma, .ref Mas, .ref Msn, .ref Mac, .ref Mat])), (Mt, .inl (g 0, 160, .inl fmt)), (Mrc, .inl (g 0, 9, .inl frc))] sz) := by
  refine Met.ofW (cc := cX7_items) (maxL := 6) (ret := none) (by decide) rfl ?_
  intro p e s m args below meth c s₁ B hml hv
  obtain ⟨rfl, hsz, hP, ⟨hK, hN⟩, hD0, hZ⟩ := hv
  have hx := B.exec
  have hb := B.bytes
  have hr := B.returns
  have hts := atoms_spec (ws := wsX7_items) B.pre
  have hown : s.vm.findClass RX7 = some m.cls := findClass_of_methodNamed B.named
  have hlocks := B.notSynchronized
  clear B
  subst hsz
  have hD := hD0.self (sz := s.heap.size)
  clear hD0
  generalize hAe : va_A [(Mm, .inr (7, [.int zth, .ref Mt, .int (nI tp), .int (nI ma), .int zwr, .ref Mrr, .ref Mrh, .ref Mrc, .int (nI rh), .int (nI rc), .ref Mn, .ref Mf, .ref Mr, .ref Mh, .int zhp, .int zcc, .ref Ma, .ref Mas, .ref Msn, .ref Mac, .ref Mat])), (Mt, .inl (g 0, 160, .inl fmt)), (Mrc, .inl (g 0, 9, .inl frc))] s.heap.size = A at hD hZ ⊢
  have hA : ∀ q : Nat, s.heap.size ≤ q → A q := fun q h => by rw [← hAe]; exact Or.inr h
  have hS : va_S A s.heap s.heap [] := va_S.rf
  have f64 := hts (.fieldLink RX7 64 "HopCreditsModel" "at" "I") (List.mem_of_getElem? (i := 2) rfl)
  have f71 := hts (.fieldLink RX7 71 "HopCreditsModel" "wrong" "I") (List.mem_of_getElem? (i := 1) rfl)
  have iX7 : ∀ w ∈ u_ws RX7 TX7 21, w ∈ wsX7_items := fun w h => List.mem_cons_of_mem _ (List.mem_append_right _ (h))
  have hl := lv_entry ([.ref Mm, .int 2, .ref Mrc, .int (nI ix)]) (n := 6) (Nat.le_of_ble_eq_true rfl)
  rw [lg_entry_eq]
  generalize (lg_sl ([.ref Mm, .int 2, .ref Mrc, .int (nI ix)]) ++ List.replicate (6 - (lg_sl ([.ref Mm, .int 2, .ref Mrc, .int (nI ix)])).length) Slot.unset).toArray = ls at hl ⊢
  have hl : lv_has ls 6 [(0, .ref Mm), (1, .int 2), (2, .ref Mrc), (3, .int (nI ix))] := hl
  generalize hQ : MQ below _ _ s _ _ _ = Q
  generalize hH : s.heap = H at hP ⊢
  have hS : va_S A s.heap H [] := by rw [← hH]; exact hS
  clear hH
  refine lv_aload_n hx hb dX7_items_0 rfl (lv_at hl 0 rfl) ?_
  refine lv_iload_n hx hb dX7_items_1 rfl (lv_at hl 1 rfl) ?_
  refine lv_aload_n hx hb dX7_items_2 rfl (lv_at hl 2 rfl) ?_
  refine lv_iload_n hx hb dX7_items_3 rfl (lv_at hl 3 rfl) ?_
  refine ky_Vv (As := [.int 2, .ref Mrc, .int (nI ix)]) (rest := []) ⟨hx, hb, hml, hown, hts⟩ ⟨hK, hN⟩ hZ hP hD hS hA [0, 2] [1] (wc := [(Mm, .inr (7, [.int zth, .ref Mt, .int (nI tp), .int (nI ma), .int zwr, .ref Mrr, .ref Mrh, .ref Mrc, .int (nI rh), .int (nI rc), .ref Mn, .ref Mf, .ref Mr, .ref Mh, .int zhp, .int zcc, .ref Ma, .ref Mas, .ref Msn, .ref Mac, .ref Mat])), (Mrc, .inl (g 0, 9, .inl frc))]) (wr := [(Mt, .inl (g 0, 160, .inl fmt))]) rfl rfl rfl rfl (by decide) (k_X7_laysUsual_2 l D g H.size Mm Mrc ix zth Mt (nI tp) (nI ma) zwr Mrr Mrh (nI rh) (nI rc) Mn Mf Mr Mh zhp zcc Ma Mas Msn Mac Mat frc (show ix ≤ 6 by omega) (h3)) (cwV 3 hts gX7_items_X7_laysUsual rfl rfl rfl (by decide +kernel) ⟨(Nat.le_of_ble_eq_true rfl), (Nat.le_of_ble_eq_true rfl)⟩) 0 7 rfl rfl rfl rfl hl.1 rfl (Nat.le_of_ble_eq_true rfl) dX7_items_4 ⟨(Nat.le_of_ble_eq_true rfl), (Nat.le_of_ble_eq_true rfl)⟩ (fun u H locs hw hP2 hD2 hS2 => ?_)
  clear hP hD hS
  obtain ⟨frcx_2, rfl, hf_3⟩ := hw
  have hPD : PD D A [(Mt, .inl (g 0, 160, .inl fmt)), (Mm, .inr (7, [.int zth, .ref Mt, .int (nI tp), .int (nI ma), .int zwr, .ref Mrr, .ref Mrh, .ref Mrc, .int (nI rh), .int (nI rc), .ref Mn, .ref Mf, .ref Mr, .ref Mh, .int zhp, .int zcc, .ref Ma, .ref Mas, .ref Msn, .ref Mac, .ref Mat])), (Mrc, .inl (g 0, 9, .inl frcx_2))] H := ⟨hP2, hD2⟩
  have hS := hS2; clear hP2 hD2 hS2; have hP := hPD.1; have hD := hPD.2; clear hPD
  refine W.widen (k := 0) (n := 0) (Nat.le_of_ble_eq_true rfl) (Nat.le_of_ble_eq_true rfl) ?_
  refine lv_iconst (v := 0) hx hb dX7_items_7 (by decide) ?_
  refine lv_istore (lv' := [(4, .int 0), (0, .ref Mm), (1, .int 2), (2, .ref Mrc), (3, .int (nI ix))]) hx hb dX7_items_8 hl (by decide) rfl (fun ls hl => ?_)
  refine lv_iload_n hx hb dX7_items_10 rfl (lv_at hl 2 rfl) ?_
  refine lv_aload_n hx hb dX7_items_11 rfl (lv_at hl 1 rfl) ?_
  refine ky_Vi (As := []) (rest := [.int 2]) ⟨hx, hb, hml, hown, hts⟩ ⟨hK, hN⟩ hZ hP hD hS hA [1, 0] [2] (wc := [(Mm, .inr (7, [.int zth, .ref Mt, .int (nI tp), .int (nI ma), .int zwr, .ref Mrr, .ref Mrh, .ref Mrc, .int (nI rh), .int (nI rc), .ref Mn, .ref Mf, .ref Mr, .ref Mh, .int zhp, .int zcc, .ref Ma, .ref Mas, .ref Msn, .ref Mac, .ref Mat])), (Mt, .inl (g 0, 160, .inl fmt))]) (wr := [(Mrc, .inl (g 0, 9, .inl frcx_2))]) rfl rfl rfl rfl (by decide) (k_X7_ahead l D g H.size Mm zth Mt tp ma zwr Mrr Mrh Mrc rh rc Mn Mf Mr Mh zhp zcc Ma Mas Msn Mac Mat fmt (show tp ≤ 160 by omega) (show ma ≤ tp by omega)) (cwV 0 hts gX7_items_X7_ahead rfl rfl rfl (by decide +kernel) ⟨(Nat.le_of_ble_eq_true rfl), (Nat.le_of_ble_eq_true rfl)⟩) 1 7 rfl rfl rfl rfl hl.1 rfl (Nat.le_of_ble_eq_true rfl) dX7_items_12 ⟨(Nat.le_of_ble_eq_true rfl), (Nat.le_of_ble_eq_true rfl)⟩ (fun r_4 u H locs hw hP2 hD2 hS2 => ?_)
  clear hP hD hS
  obtain ⟨max_5, rfl, rfl, hf_6, hf_7⟩ := hw
  have hPD : PD D A [(Mrc, .inl (g 0, 9, .inl frcx_2)), (Mm, .inr (7, [.int zth, .ref Mt, .int (nI tp), .int (nI max_5), .int zwr, .ref Mrr, .ref Mrh, .ref Mrc, .int (nI rh), .int (nI rc), .ref Mn, .ref Mf, .ref Mr, .ref Mh, .int zhp, .int zcc, .ref Ma, .ref Mas, .ref Msn, .ref Mac, .ref Mat])), (Mt, .inl (g 0, 160, .inl fmt))] H := ⟨hP2, hD2⟩
  have hS := hS2; clear hP2 hD2 hS2; have hP := hPD.1; have hD := hPD.2; clear hPD
  refine W.widen (k := 0) (n := 0) (Nat.le_of_ble_eq_true rfl) (Nat.le_of_ble_eq_true rfl) ?_
  refine lv_topi (fun y_8 hey_8 => ?_)
  refine ky_Si (As := [.int 2, .int y_8]) (rest := []) ⟨hx, hb, hml, hown, hts⟩ ⟨hK, hN⟩ hZ hP hD hS hA [] [0, 1, 2] (wc := []) (wr := [(Mrc, .inl (g 0, 9, .inl frcx_2)), (Mm, .inr (7, [.int zth, .ref Mt, .int (nI tp), .int (nI max_5), .int zwr, .ref Mrr, .ref Mrh, .ref Mrc, .int (nI rh), .int (nI rc), .ref Mn, .ref Mf, .ref Mr, .ref Mh, .int zhp, .int zcc, .ref Ma, .ref Mas, .ref Msn, .ref Mac, .ref Mat])), (Mt, .inl (g 0, 160, .inl fmt))]) rfl rfl rfl rfl (by decide) (k_X7_itemBy_2 l D g H.size y_8) (va_cwS 2 hts gX7_items_X7_itemBy rfl rfl rfl (by decide +kernel) ⟨(Nat.le_of_ble_eq_true rfl), (Nat.le_of_ble_eq_true rfl)⟩) rfl hl.1 rfl (Nat.le_of_ble_eq_true rfl) dX7_items_15 ⟨(Nat.le_of_ble_eq_true rfl), (Nat.le_of_ble_eq_true rfl)⟩ (fun r_9 u H locs hw hP2 hD2 hS2 => ?_)
  clear hP hD hS
  obtain ⟨zr_10, rfl, rfl, hf_11, hf_12⟩ := hw
  have hPD : PD D A [(Mrc, .inl (g 0, 9, .inl frcx_2)), (Mm, .inr (7, [.int zth, .ref Mt, .int (nI tp), .int (nI max_5), .int zwr, .ref Mrr, .ref Mrh, .ref Mrc, .int (nI rh), .int (nI rc), .ref Mn, .ref Mf, .ref Mr, .ref Mh, .int zhp, .int zcc, .ref Ma, .ref Mas, .ref Msn, .ref Mac, .ref Mat])), (Mt, .inl (g 0, 160, .inl fmt))] H := ⟨hP2, hD2⟩
  have hS := hS2; clear hP2 hD2 hS2; have hP := hPD.1; have hD := hPD.2; clear hPD
  refine W.widen (k := 0) (n := 0) (Nat.le_of_ble_eq_true rfl) (Nat.le_of_ble_eq_true rfl) ?_
  refine lv_istore (lv' := [(5, .int r_9), (4, .int 0), (0, .ref Mm), (1, .int 2), (2, .ref Mrc), (3, .int (nI ix))]) hx hb dX7_items_18 hl (by decide) rfl (fun ls hl => ?_)
  have loop_89 : ∀ (Nloop_89 : Nat) (i_47 : Int32) (i_48 : Int32) (F_49 : Nat → Int32) (z_50 : Nat) (z_51 : Int32) (hi_47 : okc i_47) (hF_49 : n1 F_49) (hv_86 : z_50 ≤ tp) (hv_87 : ¬ i_47 = -1 → z_50 < tp) (hv_88 : ma ≤ z_50) (hmloop_89 : tp - z_50 < Nloop_89) (H : Heap) (locs : List Loc) (ls : Array Slot), va_P D vwCl [(Mrc, .inl (g 0, 9, .inl F_49)), (Mm, .inr (7, [.int zth, .ref Mt, .int (nI tp), .int (nI z_50), .int z_51, .ref Mrr, .ref Mrh, .ref Mrc, .int (nI rh), .int (nI rc), .ref Mn, .ref Mf, .ref Mr, .ref Mh, .int zhp, .int zcc, .ref Ma, .ref Mas, .ref Msn, .ref Mac, .ref Mat])), (Mt, .inl (g 0, 160, .inl fmt))] H → va_D A [(Mrc, .inl (g 0, 9, .inl F_49)), (Mm, .inr (7, [.int zth, .ref Mt, .int (nI tp), .int (nI z_50), .int z_51, .ref Mrr, .ref Mrh, .ref Mrc, .int (nI rh), .int (nI rc), .ref Mn, .ref Mf, .ref Mr, .ref Mh, .int zhp, .int zcc, .ref Ma, .ref Mas, .ref Msn, .ref Mac, .ref Mat])), (Mt, .inl (g 0, 160, .inl fmt))] → va_S A s.heap H locs → lv_has ls 6 [(5, .int i_47), (4, .int i_48), (0, .ref Mm), (1, .int 2), (2, .ref Mrc), (3, .int (nI ix))] → W p l e (headSpec wsX7_items ({ frames := 3, cells := 0, slots := 0, locals := 64 })).room s m ([.ref Mm, .int 2, .ref Mrc, .int (nI ix)] : List Value).toArray below meth c H locs 0 0 Q (F0 m 20 ls []) := by
    clear hP hD hS hl
    intro Nloop_89
    induction Nloop_89 with
    | zero => intro i_47 i_48 F_49 z_50 z_51 hi_47 hF_49 hv_86 hv_87 hv_88 hm9; exact absurd hm9 (Nat.not_lt_zero _)
    | succ Nloop_89 loop_89_ih =>
      intro i_47 i_48 F_49 z_50 z_51 hi_47 hF_49 hv_86 hv_87 hv_88 hmloop_89 H locs ls hP hD hS hl
      refine lv_aload_n hx hb dX7_items_20 rfl (lv_at hl 2 rfl) ?_
      refine va_get (D := D) (ci := 7) (v := .int z_51) (C := RX7) (T := TX7) (N := 21) hx hb hts iX7 hown hK hP 1 rfl rfl 4 (by decide) f71 (fun _ h9 => h9) rfl dX7_items_21 ?_
      refine lv_iconst (v := (-1)) hx hb dX7_items_24 (by decide) ?_
      refine lv_icmp_ne (tgt := 98) hx hb dX7_items_25 (by decide) (fun cb_90 => ?_) (fun cb_90 => ?_)
      · skip
        have hPD9 : PD D A [(Mm, .inr (7, [.int zth, .ref Mt, .int (nI tp), .int (nI z_50), .int z_51, .ref Mrr, .ref Mrh, .ref Mrc, .int (nI rh), .int (nI rc), .ref Mn, .ref Mf, .ref Mr, .ref Mh, .int zhp, .int zcc, .ref Ma, .ref Mas, .ref Msn, .ref Mac, .ref Mat])), (Mt, .inl (g 0, 160, .inl fmt)), (Mrc, .inl (g 0, 9, .inl F_49))] H := ⟨hP.sub [1, 2, 0] rfl, hD.sub [1, 2, 0] (by decide) rfl⟩
        have hP9 := hPD9.1; have hD9 := hPD9.2
        subst hQ
        refine W.widen (k := 0) (n := 0) (Nat.le_of_ble_eq_true rfl) (Nat.le_of_ble_eq_true rfl) ?_
        exact W.vret hx hb hr (fun tS htS _ => ⟨⟨_, rfl, ⟨z_50, z_51, F_49, rfl, (hF_49), (show z_50 ≤ tp by omega), (show ma ≤ z_50 by omega)⟩, by rw [htS]; exact hP9, hD9⟩, hS.F htS⟩) hS.2.2 dX7_items_98
      · skip
        have hPq_91 := hP; have hDq_91 := hD; have hSq_91 := hS; have hlq_91 := hl; clear hP hD hS hl
        subst cb_90
        have hP := hPq_91; have hD := hDq_91; have hS := hSq_91; have hl := hlq_91; clear hPq_91 hDq_91 hSq_91 hlq_91
        refine lv_iload hx hb dX7_items_28 (lv_at hl 0 rfl) ?_
        refine lv_iconst (v := (-1)) hx hb dX7_items_30 (by decide) ?_
        refine lv_icmp_eq (tgt := 98) hx hb dX7_items_31 (by decide) (fun cb_92 => ?_) (fun cb_92 => ?_)
        · skip
          have hPq_93 := hP; have hDq_93 := hD; have hSq_93 := hS; have hlq_93 := hl; clear hP hD hS hl
          subst cb_92
          have hP := hPq_93; have hD := hDq_93; have hS := hSq_93; have hl := hlq_93; clear hPq_93 hDq_93 hSq_93 hlq_93
          have hPD9 : PD D A [(Mm, .inr (7, [.int zth, .ref Mt, .int (nI tp), .int (nI z_50), .int (-1), .ref Mrr, .ref Mrh, .ref Mrc, .int (nI rh), .int (nI rc), .ref Mn, .ref Mf, .ref Mr, .ref Mh, .int zhp, .int zcc, .ref Ma, .ref Mas, .ref Msn, .ref Mac, .ref Mat])), (Mt, .inl (g 0, 160, .inl fmt)), (Mrc, .inl (g 0, 9, .inl F_49))] H := ⟨hP.sub [1, 2, 0] rfl, hD.sub [1, 2, 0] (by decide) rfl⟩
          have hP9 := hPD9.1; have hD9 := hPD9.2
          subst hQ
          refine W.widen (k := 0) (n := 0) (Nat.le_of_ble_eq_true rfl) (Nat.le_of_ble_eq_true rfl) ?_
          exact W.vret hx hb hr (fun tS htS _ => ⟨⟨_, rfl, ⟨z_50, (-1), F_49, rfl, (hF_49), (show z_50 ≤ tp by omega), (show ma ≤ z_50 by omega)⟩, by rw [htS]; exact hP9, hD9⟩, hS.F htS⟩) hS.2.2 dX7_items_98
        · skip
          have hq_94 : z_50 < tp := hv_87 cb_92
          have hPq_97 := hP; have hDq_97 := hD; have hSq_97 := hS; have hlq_97 := hl; clear hP hD hS hl
          obtain ⟨j_95, hj_96, rfl⟩ := okc_j (hi_47) cb_92
          have hP := hPq_97; have hD := hDq_97; have hS := hSq_97; have hl := hlq_97; clear hPq_97 hDq_97 hSq_97 hlq_97
          refine lv_iload hx hb dX7_items_34 (lv_at hl 1 rfl) ?_
          refine lv_iload hx hb dX7_items_36 (lv_at hl 0 rfl) ?_
          refine ky_Si (As := [.int i_48, .int (nI j_95)]) (rest := []) ⟨hx, hb, hml, hown, hts⟩ ⟨hK, hN⟩ hZ hP hD hS hA [] [0, 1, 2] (wc := []) (wr := [(Mrc, .inl (g 0, 9, .inl F_49)), (Mm, .inr (7, [.int zth, .ref Mt, .int (nI tp), .int (nI z_50), .int (-1), .ref Mrr, .ref Mrh, .ref Mrc, .int (nI rh), .int (nI rc), .ref Mn, .ref Mf, .ref Mr, .ref Mh, .int zhp, .int zcc, .ref Ma, .ref Mas, .ref Msn, .ref Mac, .ref Mat])), (Mt, .inl (g 0, 160, .inl fmt))]) rfl rfl rfl rfl (by decide) (k_X7_has l D g H.size i_48 (nI j_95)) (va_cwS 2 hts gX7_items_X7_has rfl rfl rfl (by decide +kernel) ⟨(Nat.le_of_ble_eq_true rfl), (Nat.le_of_ble_eq_true rfl)⟩) rfl hl.1 rfl (Nat.le_of_ble_eq_true rfl) dX7_items_38 ⟨(Nat.le_of_ble_eq_true rfl), (Nat.le_of_ble_eq_true rfl)⟩ (fun r_98 u H locs hw hP2 hD2 hS2 => ?_)
          clear hP hD hS
          obtain rfl := hw
          have hPD : PD D A [(Mrc, .inl (g 0, 9, .inl F_49)), (Mm, .inr (7, [.int zth, .ref Mt, .int (nI tp), .int (nI z_50), .int (-1), .ref Mrr, .ref Mrh, .ref Mrc, .int (nI rh), .int (nI rc), .ref Mn, .ref Mf, .ref Mr, .ref Mh, .int zhp, .int zcc, .ref Ma, .ref Mas, .ref Msn, .ref Mac, .ref Mat])), (Mt, .inl (g 0, 160, .inl fmt))] H := ⟨hP2, hD2⟩
          have hS := hS2; clear hP2 hD2 hS2; have hP := hPD.1; have hD := hPD.2; clear hPD
          refine W.widen (k := 0) (n := 0) (Nat.le_of_ble_eq_true rfl) (Nat.le_of_ble_eq_true rfl) ?_
          refine lv_if_ne (tgt := 98) hx hb dX7_items_41 (by decide) (fun cb_99 => ?_) (fun cb_99 => ?_)
          · skip
            have hPD9 : PD D A [(Mm, .inr (7, [.int zth, .ref Mt, .int (nI tp), .int (nI z_50), .int (-1), .ref Mrr, .ref Mrh, .ref Mrc, .int (nI rh), .int (nI rc), .ref Mn, .ref Mf, .ref Mr, .ref Mh, .int zhp, .int zcc, .ref Ma, .ref Mas, .ref Msn, .ref Mac, .ref Mat])), (Mt, .inl (g 0, 160, .inl fmt)), (Mrc, .inl (g 0, 9, .inl F_49))] H := ⟨hP.sub [1, 2, 0] rfl, hD.sub [1, 2, 0] (by decide) rfl⟩
            have hP9 := hPD9.1; have hD9 := hPD9.2
            subst hQ
            refine W.widen (k := 0) (n := 0) (Nat.le_of_ble_eq_true rfl) (Nat.le_of_ble_eq_true rfl) ?_
            exact W.vret hx hb hr (fun tS htS _ => ⟨⟨_, rfl, ⟨z_50, (-1), F_49, rfl, (hF_49), (show z_50 ≤ tp by omega), (show ma ≤ z_50 by omega)⟩, by rw [htS]; exact hP9, hD9⟩, hS.F htS⟩) hS.2.2 dX7_items_98
          · skip
            have hPq_100 := hP; have hDq_100 := hD; have hSq_100 := hS; have hlq_100 := hl; clear hP hD hS hl
            subst cb_99
            have hP := hPq_100; have hD := hDq_100; have hS := hSq_100; have hl := hlq_100; clear hPq_100 hDq_100 hSq_100 hlq_100
            refine lv_iload hx hb dX7_items_44 (lv_at hl 1 rfl) ?_
            refine lv_iconst (v := 1) hx hb dX7_items_46 (by decide) ?_
            refine lv_iload hx hb dX7_items_47 (lv_at hl 0 rfl) ?_
            refine lv_ishl hx hb dX7_items_49 ?_
            refine lv_topi (fun y_101 _ => ?_)
            refine lv_ior hx hb dX7_items_50 ?_
            refine lv_topi (fun y_102 _ => ?_)
            refine lv_istore (lv' := [(4, .int y_102), (5, .int (nI j_95)), (0, .ref Mm), (1, .int 2), (2, .ref Mrc), (3, .int (nI ix))]) hx hb dX7_items_51 hl (by decide) rfl (fun ls hl => ?_)
            refine lv_aload_n hx hb dX7_items_53 rfl (lv_at hl 2 rfl) ?_
            refine lv_dup hx hb dX7_items_54 rfl ?_
            refine va_get (D := D) (ci := 7) (v := .int (nI z_50)) (C := RX7) (T := TX7) (N := 21) hx hb hts iX7 hown hK hP 1 rfl rfl 3 (by decide) f64 (fun _ h9 => h9) rfl dX7_items_55 ?_
            refine lv_iconst (v := 1) hx hb dX7_items_58 (by decide) ?_
            refine lv_iadd hx hb dX7_items_59 ?_
            refine lv_eqi (y := (nI (z_50 + 1))) (nI_add (z_50) (1)) ?_
            refine va_put (D := D) (ci := 7) (v := .int (nI (z_50 + 1))) (ty := .int) (C := RX7) (T := TX7) (N := 21) hx hb hts iX7 tyX7 tyX7_ok nmX7 hown hK hP hD hS 1 rfl rfl 3 (by decide) f64 (fun _ h9 => h9) rfl (by decide +kernel) (rfl) (rfl) (Nat.le_of_ble_eq_true rfl) dX7_items_60 (fun H locs hP2 hD2 hS2 => ?_)
            clear hP hD hS
            have hPD : PD D A [(Mrc, .inl (g 0, 9, .inl F_49)), (Mm, .inr (7, [.int zth, .ref Mt, .int (nI tp), .int (nI (z_50 + 1)), .int (-1), .ref Mrr, .ref Mrh, .ref Mrc, .int (nI rh), .int (nI rc), .ref Mn, .ref Mf, .ref Mr, .ref Mh, .int zhp, .int zcc, .ref Ma, .ref Mas, .ref Msn, .ref Mac, .ref Mat])), (Mt, .inl (g 0, 160, .inl fmt))] H := ⟨hP2, hD2⟩
            have hS := hS2; clear hP2 hD2 hS2; have hP := hPD.1; have hD := hPD.2; clear hPD
            refine lv_aload_n hx hb dX7_items_63 rfl (lv_at hl 4 rfl) ?_
            refine lv_iload_n hx hb dX7_items_64 rfl (lv_at hl 5 rfl) ?_
            refine lv_iload hx hb dX7_items_65 (lv_at hl 1 rfl) ?_
            refine lv_iadd hx hb dX7_items_67 ?_
            refine lv_eqi (y := (nI (ix + j_95))) (nI_add (ix) (j_95)) ?_
            refine lv_aload_n hx hb dX7_items_68 rfl (lv_at hl 2 rfl) ?_
            refine lv_iload_n hx hb dX7_items_69 rfl (lv_at hl 3 rfl) ?_
            refine lv_iload hx hb dX7_items_70 (lv_at hl 1 rfl) ?_
            refine ky_Si (As := [.int 2, .int (nI j_95)]) (rest := [.ref Mm, .int (nI (ix + j_95)), .ref Mrc]) ⟨hx, hb, hml, hown, hts⟩ ⟨hK, hN⟩ hZ hP hD hS hA [] [0, 1, 2] (wc := []) (wr := [(Mrc, .inl (g 0, 9, .inl F_49)), (Mm, .inr (7, [.int zth, .ref Mt, .int (nI tp), .int (nI (z_50 + 1)), .int (-1), .ref Mrr, .ref Mrh, .ref Mrc, .int (nI rh), .int (nI rc), .ref Mn, .ref Mf, .ref Mr, .ref Mh, .int zhp, .int zcc, .ref Ma, .ref Mas, .ref Msn, .ref Mac, .ref Mat])), (Mt, .inl (g 0, 160, .inl fmt))]) rfl rfl rfl rfl (by decide) (k_X7_lowest_2 l D g H.size (nI j_95)) (va_cwS 2 hts gX7_items_X7_lowest rfl rfl rfl (by decide +kernel) ⟨(Nat.le_of_ble_eq_true rfl), (Nat.le_of_ble_eq_true rfl)⟩) rfl hl.1 rfl (Nat.le_of_ble_eq_true rfl) dX7_items_72 ⟨(Nat.le_of_ble_eq_true rfl), (Nat.le_of_ble_eq_true rfl)⟩ (fun r_103 u H locs hw hP2 hD2 hS2 => ?_)
            clear hP hD hS
            obtain ⟨nx_104, rfl, rfl, hf_105⟩ := hw
            have hPD : PD D A [(Mrc, .inl (g 0, 9, .inl F_49)), (Mm, .inr (7, [.int zth, .ref Mt, .int (nI tp), .int (nI (z_50 + 1)), .int (-1), .ref Mrr, .ref Mrh, .ref Mrc, .int (nI rh), .int (nI rc), .ref Mn, .ref Mf, .ref Mr, .ref Mh, .int zhp, .int zcc, .ref Ma, .ref Mas, .ref Msn, .ref Mac, .ref Mat])), (Mt, .inl (g 0, 160, .inl fmt))] H := ⟨hP2, hD2⟩
            have hS := hS2; clear hP2 hD2 hS2; have hP := hPD.1; have hD := hPD.2; clear hPD
            refine W.widen (k := 0) (n := 0) (Nat.le_of_ble_eq_true rfl) (Nat.le_of_ble_eq_true rfl) ?_
            refine lv_iload_n hx hb dX7_items_75 rfl (lv_at hl 3 rfl) ?_
            refine lv_iload hx hb dX7_items_76 (lv_at hl 1 rfl) ?_
            refine ky_Si (As := [.int 2, .int (nI j_95)]) (rest := [.int (nI nx_104), .ref Mm, .int (nI (ix + j_95)), .ref Mrc]) ⟨hx, hb, hml, hown, hts⟩ ⟨hK, hN⟩ hZ hP hD hS hA [] [0, 1, 2] (wc := []) (wr := [(Mrc, .inl (g 0, 9, .inl F_49)), (Mm, .inr (7, [.int zth, .ref Mt, .int (nI tp), .int (nI (z_50 + 1)), .int (-1), .ref Mrr, .ref Mrh, .ref Mrc, .int (nI rh), .int (nI rc), .ref Mn, .ref Mf, .ref Mr, .ref Mh, .int zhp, .int zcc, .ref Ma, .ref Mas, .ref Msn, .ref Mac, .ref Mat])), (Mt, .inl (g 0, 160, .inl fmt))]) rfl rfl rfl rfl (by decide) (k_X7_highest_2 l D g H.size (nI j_95)) (va_cwS 2 hts gX7_items_X7_highest rfl rfl rfl (by decide +kernel) ⟨(Nat.le_of_ble_eq_true rfl), (Nat.le_of_ble_eq_true rfl)⟩) rfl hl.1 rfl (Nat.le_of_ble_eq_true rfl) dX7_items_78 ⟨(Nat.le_of_ble_eq_true rfl), (Nat.le_of_ble_eq_true rfl)⟩ (fun r_106 u H locs hw hP2 hD2 hS2 => ?_)
            clear hP hD hS
            obtain rfl := hw
            have hPD : PD D A [(Mrc, .inl (g 0, 9, .inl F_49)), (Mm, .inr (7, [.int zth, .ref Mt, .int (nI tp), .int (nI (z_50 + 1)), .int (-1), .ref Mrr, .ref Mrh, .ref Mrc, .int (nI rh), .int (nI rc), .ref Mn, .ref Mf, .ref Mr, .ref Mh, .int zhp, .int zcc, .ref Ma, .ref Mas, .ref Msn, .ref Mac, .ref Mat])), (Mt, .inl (g 0, 160, .inl fmt))] H := ⟨hP2, hD2⟩
            have hS := hS2; clear hP2 hD2 hS2; have hP := hPD.1; have hD := hPD.2; clear hPD
            refine W.widen (k := 0) (n := 0) (Nat.le_of_ble_eq_true rfl) (Nat.le_of_ble_eq_true rfl) ?_
            refine ky_Vi (As := [.int (nI nx_104), .int r_106]) (rest := [.int (nI (ix + j_95)), .ref Mrc]) ⟨hx, hb, hml, hown, hts⟩ ⟨hK, hN⟩ hZ hP hD hS hA [1, 2] [0] (wc := [(Mm, .inr (7, [.int zth, .ref Mt, .int (nI tp), .int (nI (z_50 + 1)), .int (-1), .ref Mrr, .ref Mrh, .ref Mrc, .int (nI rh), .int (nI rc), .ref Mn, .ref Mf, .ref Mr, .ref Mh, .int zhp, .int zcc, .ref Ma, .ref Mas, .ref Msn, .ref Mac, .ref Mat])), (Mt, .inl (g 0, 160, .inl fmt))]) (wr := [(Mrc, .inl (g 0, 9, .inl F_49))]) rfl rfl rfl rfl (by decide) (k_X7_number l D g H.size Mm nx_104 r_106 zth Mt tp (z_50 + 1) (-1) Mrr Mrh Mrc rh rc Mn Mf Mr Mh zhp zcc Ma Mas Msn Mac Mat fmt (show tp ≤ 160 by omega) (show (z_50 + 1) ≤ tp by omega) (show nx_104 ≤ 1 by omega)) (cwV 2 hts gX7_items_X7_number rfl rfl rfl (by decide +kernel) ⟨(Nat.le_of_ble_eq_true rfl), (Nat.le_of_ble_eq_true rfl)⟩) 1 7 rfl rfl rfl rfl hl.1 rfl (Nat.le_of_ble_eq_true rfl) dX7_items_81 ⟨(Nat.le_of_ble_eq_true rfl), (Nat.le_of_ble_eq_true rfl)⟩ (fun r_107 u H locs hw hP2 hD2 hS2 => ?_)
            clear hP hD hS
            obtain ⟨max_108, zwrx_109, nx_110, rfl, rfl, hf_111, hf_112, hf_113⟩ := hw
            have hPD : PD D A [(Mrc, .inl (g 0, 9, .inl F_49)), (Mm, .inr (7, [.int zth, .ref Mt, .int (nI tp), .int (nI max_108), .int zwrx_109, .ref Mrr, .ref Mrh, .ref Mrc, .int (nI rh), .int (nI rc), .ref Mn, .ref Mf, .ref Mr, .ref Mh, .int zhp, .int zcc, .ref Ma, .ref Mas, .ref Msn, .ref Mac, .ref Mat])), (Mt, .inl (g 0, 160, .inl fmt))] H := ⟨hP2, hD2⟩
            have hS := hS2; clear hP2 hD2 hS2; have hP := hPD.1; have hD := hPD.2; clear hPD
            refine W.widen (k := 0) (n := 0) (Nat.le_of_ble_eq_true rfl) (Nat.le_of_ble_eq_true rfl) ?_
            refine va_iast hx hb hK hP hD hS 0 0 rfl rfl (vp_in_nI (show ix + j_95 < 9 by omega) (by decide)) dX7_items_84 (fun H locs hP2 hD2 hS2 => ?_)
            clear hP hD hS
            have hPD : PD D A [(Mrc, .inl (g 0, 9, .inl (upd F_49 (nI (ix + j_95)).toNatClampNeg (nI nx_110)))), (Mm, .inr (7, [.int zth, .ref Mt, .int (nI tp), .int (nI max_108), .int zwrx_109, .ref Mrr, .ref Mrh, .ref Mrc, .int (nI rh), .int (nI rc), .ref Mn, .ref Mf, .ref Mr, .ref Mh, .int zhp, .int zcc, .ref Ma, .ref Mas, .ref Msn, .ref Mac, .ref Mat])), (Mt, .inl (g 0, 160, .inl fmt))] H := ⟨hP2, hD2⟩
            have hS := hS2; clear hP2 hD2 hS2; have hP := hPD.1; have hD := hPD.2; clear hPD
            rw [nI_clamp (show ix + j_95 < 2 ^ 31 by omega)] at hP hD
            have hPD : PD D A [(Mrc, .inl (g 0, 9, .inl (upd F_49 (ix + j_95) (nI nx_110)))), (Mm, .inr (7, [.int zth, .ref Mt, .int (nI tp), .int (nI max_108), .int zwrx_109, .ref Mrr, .ref Mrh, .ref Mrc, .int (nI rh), .int (nI rc), .ref Mn, .ref Mf, .ref Mr, .ref Mh, .int zhp, .int zcc, .ref Ma, .ref Mas, .ref Msn, .ref Mac, .ref Mat])), (Mt, .inl (g 0, 160, .inl fmt))] H := ⟨hP, hD⟩
            clear hP hD; have hP := hPD.1; have hD := hPD.2; clear hPD
            have hF_114 : n1 (upd F_49 (ix + j_95) (nI nx_110)) := n1_upd (hF_49) (n := nx_110) (show nx_110 ≤ 99 by omega)
            generalize upd F_49 (ix + j_95) (nI nx_110) = F_114 at hP hD hF_114
            refine lv_iload_n hx hb dX7_items_85 rfl (lv_at hl 3 rfl) ?_
            refine lv_aload_n hx hb dX7_items_86 rfl (lv_at hl 2 rfl) ?_
            refine ky_Vi (As := []) (rest := [.int 2]) ⟨hx, hb, hml, hown, hts⟩ ⟨hK, hN⟩ hZ hP hD hS hA [1, 2] [0] (wc := [(Mm, .inr (7, [.int zth, .ref Mt, .int (nI tp), .int (nI max_108), .int zwrx_109, .ref Mrr, .ref Mrh, .ref Mrc, .int (nI rh), .int (nI rc), .ref Mn, .ref Mf, .ref Mr, .ref Mh, .int zhp, .int zcc, .ref Ma, .ref Mas, .ref Msn, .ref Mac, .ref Mat])), (Mt, .inl (g 0, 160, .inl fmt))]) (wr := [(Mrc, .inl (g 0, 9, .inl F_114))]) rfl rfl rfl rfl (by decide) (k_X7_ahead l D g H.size Mm zth Mt tp max_108 zwrx_109 Mrr Mrh Mrc rh rc Mn Mf Mr Mh zhp zcc Ma Mas Msn Mac Mat fmt (show tp ≤ 160 by omega) (show max_108 ≤ tp by omega)) (cwV 0 hts gX7_items_X7_ahead rfl rfl rfl (by decide +kernel) ⟨(Nat.le_of_ble_eq_true rfl), (Nat.le_of_ble_eq_true rfl)⟩) 1 7 rfl rfl rfl rfl hl.1 rfl (Nat.le_of_ble_eq_true rfl) dX7_items_87 ⟨(Nat.le_of_ble_eq_true rfl), (Nat.le_of_ble_eq_true rfl)⟩ (fun r_115 u H locs hw hP2 hD2 hS2 => ?_)
            clear hP hD hS
            obtain ⟨max_116, rfl, rfl, hf_117, hf_118⟩ := hw
            have hPD : PD D A [(Mrc, .inl (g 0, 9, .inl F_114)), (Mm, .inr (7, [.int zth, .ref Mt, .int (nI tp), .int (nI max_116), .int zwrx_109, .ref Mrr, .ref Mrh, .ref Mrc, .int (nI rh), .int (nI rc), .ref Mn, .ref Mf, .ref Mr, .ref Mh, .int zhp, .int zcc, .ref Ma, .ref Mas, .ref Msn, .ref Mac, .ref Mat])), (Mt, .inl (g 0, 160, .inl fmt))] H := ⟨hP2, hD2⟩
            have hS := hS2; clear hP2 hD2 hS2; have hP := hPD.1; have hD := hPD.2; clear hPD
            refine W.widen (k := 0) (n := 0) (Nat.le_of_ble_eq_true rfl) (Nat.le_of_ble_eq_true rfl) ?_
            refine lv_topi (fun y_119 hey_119 => ?_)
            refine ky_Si (As := [.int 2, .int y_119]) (rest := []) ⟨hx, hb, hml, hown, hts⟩ ⟨hK, hN⟩ hZ hP hD hS hA [] [0, 1, 2] (wc := []) (wr := [(Mrc, .inl (g 0, 9, .inl F_114)), (Mm, .inr (7, [.int zth, .ref Mt, .int (nI tp), .int (nI max_116), .int zwrx_109, .ref Mrr, .ref Mrh, .ref Mrc, .int (nI rh), .int (nI rc), .ref Mn, .ref Mf, .ref Mr, .ref Mh, .int zhp, .int zcc, .ref Ma, .ref Mas, .ref Msn, .ref Mac, .ref Mat])), (Mt, .inl (g 0, 160, .inl fmt))]) rfl rfl rfl rfl (by decide) (k_X7_itemBy_2 l D g H.size y_119) (va_cwS 2 hts gX7_items_X7_itemBy rfl rfl rfl (by decide +kernel) ⟨(Nat.le_of_ble_eq_true rfl), (Nat.le_of_ble_eq_true rfl)⟩) rfl hl.1 rfl (Nat.le_of_ble_eq_true rfl) dX7_items_90 ⟨(Nat.le_of_ble_eq_true rfl), (Nat.le_of_ble_eq_true rfl)⟩ (fun r_120 u H locs hw hP2 hD2 hS2 => ?_)
            clear hP hD hS
            obtain ⟨zr_121, rfl, rfl, hf_122, hf_123⟩ := hw
            have hPD : PD D A [(Mrc, .inl (g 0, 9, .inl F_114)), (Mm, .inr (7, [.int zth, .ref Mt, .int (nI tp), .int (nI max_116), .int zwrx_109, .ref Mrr, .ref Mrh, .ref Mrc, .int (nI rh), .int (nI rc), .ref Mn, .ref Mf, .ref Mr, .ref Mh, .int zhp, .int zcc, .ref Ma, .ref Mas, .ref Msn, .ref Mac, .ref Mat])), (Mt, .inl (g 0, 160, .inl fmt))] H := ⟨hP2, hD2⟩
            have hS := hS2; clear hP2 hD2 hS2; have hP := hPD.1; have hD := hPD.2; clear hPD
            refine W.widen (k := 0) (n := 0) (Nat.le_of_ble_eq_true rfl) (Nat.le_of_ble_eq_true rfl) ?_
            refine lv_istore (lv' := [(5, .int r_120), (4, .int y_102), (0, .ref Mm), (1, .int 2), (2, .ref Mrc), (3, .int (nI ix))]) hx hb dX7_items_93 hl (by decide) rfl (fun ls hl => ?_)
            refine lv_goto (tgt := 20) hx hb dX7_items_95 (by decide) ?_
            exact loop_89_ih r_120 y_102 F_114 max_116 zwrx_109 (hf_122) (hF_114) (show max_116 ≤ tp by omega) (fun q9 => (show max_116 < tp by have := (fun q9 => here_lt hey_119 q9) (hf_123 q9); omega)) (show ma ≤ max_116 by omega) (show tp - max_116 < Nloop_89 by omega) _ _ _ hP hD hS hl
  exact loop_89 _ r_9 0 frcx_2 max_5 zwr (hf_11) (hf_3) (show max_5 ≤ tp by omega) (fun q9 => (show max_5 < tp by have := (fun q9 => here_lt hey_8 q9) (hf_12 q9); omega)) (show ma ≤ max_5 by omega) (Nat.lt_succ_self _) _ _ _ hP hD hS hl

set_option maxHeartbeats 4000000 in
set_option maxRecDepth 100000 in
theorem k_X7_clause (l : Launch) (D : va_G) (g : Nat → ClassId) (sz : Nat) (Mm : Nat) (zf : Int32) (zth : Int32) (Mt : Nat) (tp : Nat) (ma : Nat) (zwr : Int32) (Mrr : Nat) (Mrh : Nat) (Mrc : Nat) (rh : Nat) (rc : Nat) (Mn : Nat) (Mf : Nat) (Mr : Nat) (Mh : Nat) (zhp : Int32) (zcc : Int32) (Ma : Nat) (Mas : Nat) (Msn : Nat) (Mac : Nat) (Mat : Nat) (fmt : Nat → Int32) (frr : Nat → Int32) (frh : Nat → Int32) (frc : Nat → Int32) (h0 : tp ≤ 160) (h1 : ma ≤ tp) (h2 : rh ≤ 3) (h3 : rc ≤ 3) (h4 : n1 frr) (h5 : n1 frh) (h6 : n1 frc) : Met l yX7_clause wsX7_clause ({ frames := 4, cells := 0, slots := 0, locals := 89 }) (va_Pc [.ref Mm, .int zf] (pre D g sz [(Mm, .inr (7, [.int zth, .ref Mt, .int (nI tp), .int (nI ma), .int zwr, .ref Mrr, .ref Mrh, .ref Mrc, .int (nI rh), .int (nI rc), .ref Mn, .ref Mf, .ref Mr, .ref Mh, .int zhp, .int zcc, .ref Ma, .ref Mas, .ref Msn, .ref Mac, .ref Mat])), (Mt, .inl (g 0, 160, .inl fmt)), (Mrr, .inl (g 0, 3, .inl frr)), (Mrh, .inl (g 0, 9, .inl frh)), (Mrc, .inl (g 0, 9, .inl frc))])) (va_Qv (fun (u : va_W) => ∃ (max : Nat) (zwrx : Int32) (rhx : Nat) (rcx : Nat) (frrx : Nat → Int32) (frhx : Nat → Int32) (frcx : Nat → Int32), u = [(Mm, .inr (7, [.int zth, .ref Mt, .int (nI tp), .int (nI max), .int zwrx, .ref Mrr, .ref Mrh, .ref Mrc, .int (nI rhx), .int (nI rcx), .ref Mn, .ref Mf, .ref Mr, .ref Mh, .int zhp, .int zcc, .ref Ma, .ref Mas, .ref Msn, .ref Mac, .ref Mat])), (Mt, .inl (g 0, 160, .inl fmt)), (Mrr, .inl (g 0, 3, .inl frrx)), (Mrh, .inl (g 0, 9, .inl frhx)), (Mrc, .inl (g 0, 9, .inl frcx))] ∧ ((n1 frrx) ∧ (n1 frhx) ∧ (n1 frcx) ∧ (max ≤ tp) ∧ (ma ≤ max) ∧ (rhx ≤ 3) ∧ (rcx ≤ 3))) (wd D (va_A [(Mm, .inr (7, [.int zth, .ref Mt, .int (nI tp), .int (nI ma), .int zwr, .ref Mrr, .ref Mrh, .ref Mrc, .int (nI rh), .int (nI rc), .ref Mn, .ref Mf, .ref Mr, .ref Mh, .int zhp, .int zcc, .ref Ma, .ref Mas, .ref Msn, .ref Mac, .ref Mat])), (Mt, .inl (g 0, 160, .inl fmt)), (Mrr, .inl (g 0, 3, .inl frr)), (Mrh, .inl (g 0, 9, .inl frh)), (Mrc, .inl (g 0, 9, .inl frc))] sz)) (va_A [(Mm, .inr (7, [.int zth, .ref Mt, .int (nI tp), .int (nI ma), .int zwr, .ref Mrr, .ref Mrh, .ref Mrc, .int (nI rh), .int (nI rc), .ref Mn, .ref Mf, .ref Mr, .ref Mh, .int zhp, .int zcc, .ref Ma, .ref Mas, .ref Msn, .ref Mac, .ref Mat])), (Mt, .inl (g 0, 160, .inl fmt)), (Mrr, .inl (g 0, 3, .inl frr)), (Mrh, .inl (g 0, 9, .inl frh)), (Mrc, .inl (g 0, 9, .inl frc))] sz)) 0 0 (va_A [(Mm, .inr (7, [.int zth, .ref Mt, .int (nI tp), .int (nI ma), .int zwr, .ref Mrr, .ref Mrh, .ref Mrc, .int (nI rh), .int (nI rc), .ref Mn, .ref Mf, .ref Mr, .ref Mh, .int zhp, .int zcc, .ref Ma, .ref Mas, .ref Msn, .ref Mac, .ref Mat])), (Mt, .inl (g 0, 160, .inl fmt)), (Mrr, .inl (g 0, 3, .inl frr)), (Mrh, .inl (g 0, 9, .inl frh)), (Mrc, .inl (g 0, 9, .inl frc))] sz) := by
  refine Met.ofW (cc := cX7_clause) (maxL := 3) (ret := none) (by decide) rfl ?_
  intro p e s m args below meth c s₁ B hml hv
  obtain ⟨rfl, hsz, hP, ⟨hK, hN⟩, hD0, hZ⟩ := hv
  have hx := B.exec
  have hb := B.bytes
  have hr := B.returns
  have hts := atoms_spec (ws := wsX7_clause) B.pre
  have hown : s.vm.findClass RX7 = some m.cls := findClass_of_methodNamed B.named
  have hlocks := B.notSynchronized
  clear B
  subst hsz
  have hD := hD0.self (sz := s.heap.size)
  clear hD0
  generalize hAe : va_A [(Mm, .inr (7, [.int zth, .ref Mt, .int (nI tp), .int (nI ma), .int zwr, .ref Mrr, .ref Mrh, .ref Mrc, .int (nI rh), .int (nI rc), .ref Mn, .ref Mf, .ref Mr, .ref Mh, .int zhp, .int zcc, .ref Ma, .ref Mas, .ref Msn, .ref Mac, .ref Mat])), (Mt, .inl (g 0, 160, .inl fmt)), (Mrr, .inl (g 0, 3, .inl frr)), (Mrh, .inl (g 0, 9, .inl frh)), (Mrc, .inl (g 0, 9, .inl frc))] s.heap.size = A at hD hZ ⊢
  have hA : ∀ q : Nat, s.heap.size ≤ q → A q := fun q h => by rw [← hAe]; exact Or.inr h
  have hS : va_S A s.heap s.heap [] := va_S.rf
  have f111 := hts (.fieldLink RX7 111 "HopCreditsModel" "readHops" "I") (List.mem_of_getElem? (i := 3) rfl)
  have f114 := hts (.fieldLink RX7 114 "HopCreditsModel" "readCircuits" "I") (List.mem_of_getElem? (i := 5) rfl)
  have f13 := hts (.fieldLink RX7 13 "HopCreditsModel" "readRule" "[I") (List.mem_of_getElem? (i := 2) rfl)
  have f16 := hts (.fieldLink RX7 16 "HopCreditsModel" "readHop" "[I") (List.mem_of_getElem? (i := 4) rfl)
  have f19 := hts (.fieldLink RX7 19 "HopCreditsModel" "readCircuit" "[I") (List.mem_of_getElem? (i := 6) rfl)
  have f64 := hts (.fieldLink RX7 64 "HopCreditsModel" "at" "I") (List.mem_of_getElem? (i := 1) rfl)
  have iX7 : ∀ w ∈ u_ws RX7 TX7 21, w ∈ wsX7_clause := fun w h => List.mem_cons_of_mem _ (List.mem_append_right _ (h))
  have hl := lv_entry ([.ref Mm, .int zf]) (n := 3) (Nat.le_of_ble_eq_true rfl)
  rw [lg_entry_eq]
  generalize (lg_sl ([.ref Mm, .int zf]) ++ List.replicate (3 - (lg_sl ([.ref Mm, .int zf])).length) Slot.unset).toArray = ls at hl ⊢
  have hl : lv_has ls 3 [(0, .ref Mm), (1, .int zf)] := hl
  generalize hQ : MQ below _ _ s _ _ _ = Q
  generalize hH : s.heap = H at hP ⊢
  have hS : va_S A s.heap H [] := by rw [← hH]; exact hS
  clear hH
  refine lv_aload_n hx hb dX7_clause_0 rfl (lv_at hl 0 rfl) ?_
  refine ky_Vi (As := []) (rest := []) ⟨hx, hb, hml, hown, hts⟩ ⟨hK, hN⟩ hZ hP hD hS hA [0, 1] [2, 3, 4] (wc := [(Mm, .inr (7, [.int zth, .ref Mt, .int (nI tp), .int (nI ma), .int zwr, .ref Mrr, .ref Mrh, .ref Mrc, .int (nI rh), .int (nI rc), .ref Mn, .ref Mf, .ref Mr, .ref Mh, .int zhp, .int zcc, .ref Ma, .ref Mas, .ref Msn, .ref Mac, .ref Mat])), (Mt, .inl (g 0, 160, .inl fmt))]) (wr := [(Mrr, .inl (g 0, 3, .inl frr)), (Mrh, .inl (g 0, 9, .inl frh)), (Mrc, .inl (g 0, 9, .inl frc))]) rfl rfl rfl rfl (by decide) (k_X7_ahead l D g H.size Mm zth Mt tp ma zwr Mrr Mrh Mrc rh rc Mn Mf Mr Mh zhp zcc Ma Mas Msn Mac Mat fmt (show tp ≤ 160 by omega) (show ma ≤ tp by omega)) (cwV 0 hts gX7_clause_X7_ahead rfl rfl rfl (by decide +kernel) ⟨(Nat.le_of_ble_eq_true rfl), (Nat.le_of_ble_eq_true rfl)⟩) 0 7 rfl rfl rfl rfl hl.1 rfl (Nat.le_of_ble_eq_true rfl) dX7_clause_1 ⟨(Nat.le_of_ble_eq_true rfl), (Nat.le_of_ble_eq_true rfl)⟩ (fun r_1 u H locs hw hP2 hD2 hS2 => ?_)
  clear hP hD hS
  obtain ⟨max_2, rfl, rfl, hf_3, hf_4⟩ := hw
  have hPD : PD D A [(Mrr, .inl (g 0, 3, .inl frr)), (Mrh, .inl (g 0, 9, .inl frh)), (Mrc, .inl (g 0, 9, .inl frc)), (Mm, .inr (7, [.int zth, .ref Mt, .int (nI tp), .int (nI max_2), .int zwr, .ref Mrr, .ref Mrh, .ref Mrc, .int (nI rh), .int (nI rc), .ref Mn, .ref Mf, .ref Mr, .ref Mh, .int zhp, .int zcc, .ref Ma, .ref Mas, .ref Msn, .ref Mac, .ref Mat])), (Mt, .inl (g 0, 160, .inl fmt))] H := ⟨hP2, hD2⟩
  have hS := hS2; clear hP2 hD2 hS2; have hP := hPD.1; have hD := hPD.2; clear hPD
  refine W.widen (k := 0) (n := 0) (Nat.le_of_ble_eq_true rfl) (Nat.le_of_ble_eq_true rfl) ?_
  refine lv_topi (fun y_5 hey_5 => ?_)
  refine lv_istore_n (lv' := [(2, .int y_5), (0, .ref Mm), (1, .int zf)]) hx hb dX7_clause_4 rfl hl (by decide) rfl (fun ls hl => ?_)
  refine lv_iload_n hx hb dX7_clause_5 rfl (lv_at hl 0 rfl) ?_
  refine lv_bipush (v := 110) hx hb dX7_clause_6 (by decide) ?_
  refine lv_icmp_ne (tgt := 38) hx hb dX7_clause_8 (by decide) (fun cb_6 => ?_) (fun cb_6 => ?_)
  · skip
    refine lv_iload_n hx hb dX7_clause_38 rfl (lv_at hl 0 rfl) ?_
    refine lv_bipush (v := 104) hx hb dX7_clause_39 (by decide) ?_
    refine lv_icmp_ne (tgt := 90) hx hb dX7_clause_41 (by decide) (fun cb_7 => ?_) (fun cb_7 => ?_)
    · skip
      refine lv_iload_n hx hb dX7_clause_90 rfl (lv_at hl 0 rfl) ?_
      refine lv_bipush (v := 99) hx hb dX7_clause_91 (by decide) ?_
      refine lv_icmp_ne (tgt := 142) hx hb dX7_clause_93 (by decide) (fun cb_8 => ?_) (fun cb_8 => ?_)
      · skip
        refine lv_aload_n hx hb dX7_clause_142 rfl (lv_at hl 1 rfl) ?_
        refine ky_Vv (As := []) (rest := []) ⟨hx, hb, hml, hown, hts⟩ ⟨hK, hN⟩ hZ hP hD hS hA [3] [0, 1, 2, 4] (wc := [(Mm, .inr (7, [.int zth, .ref Mt, .int (nI tp), .int (nI max_2), .int zwr, .ref Mrr, .ref Mrh, .ref Mrc, .int (nI rh), .int (nI rc), .ref Mn, .ref Mf, .ref Mr, .ref Mh, .int zhp, .int zcc, .ref Ma, .ref Mas, .ref Msn, .ref Mac, .ref Mat]))]) (wr := [(Mrr, .inl (g 0, 3, .inl frr)), (Mrh, .inl (g 0, 9, .inl frh)), (Mrc, .inl (g 0, 9, .inl frc)), (Mt, .inl (g 0, 160, .inl fmt))]) rfl rfl rfl rfl (by decide) (k_X7_bad l D g H.size Mm zth Mt tp max_2 zwr Mrr Mrh Mrc rh rc Mn Mf Mr Mh zhp zcc Ma Mas Msn Mac Mat) (cwV 0 hts gX7_clause_X7_bad rfl rfl rfl (by decide +kernel) ⟨(Nat.le_of_ble_eq_true rfl), (Nat.le_of_ble_eq_true rfl)⟩) 3 7 rfl rfl rfl rfl hl.1 rfl (Nat.le_of_ble_eq_true rfl) dX7_clause_143 ⟨(Nat.le_of_ble_eq_true rfl), (Nat.le_of_ble_eq_true rfl)⟩ (fun u H locs hw hP2 hD2 hS2 => ?_)
        clear hP hD hS
        obtain ⟨zwrx_10, rfl⟩ := hw
        have hPD : PD D A [(Mrr, .inl (g 0, 3, .inl frr)), (Mrh, .inl (g 0, 9, .inl frh)), (Mrc, .inl (g 0, 9, .inl frc)), (Mt, .inl (g 0, 160, .inl fmt)), (Mm, .inr (7, [.int zth, .ref Mt, .int (nI tp), .int (nI max_2), .int zwrx_10, .ref Mrr, .ref Mrh, .ref Mrc, .int (nI rh), .int (nI rc), .ref Mn, .ref Mf, .ref Mr, .ref Mh, .int zhp, .int zcc, .ref Ma, .ref Mas, .ref Msn, .ref Mac, .ref Mat]))] H := ⟨hP2, hD2⟩
        have hS := hS2; clear hP2 hD2 hS2; have hP := hPD.1; have hD := hPD.2; clear hPD
        refine W.widen (k := 0) (n := 0) (Nat.le_of_ble_eq_true rfl) (Nat.le_of_ble_eq_true rfl) ?_
        have hPD9 : PD D A [(Mm, .inr (7, [.int zth, .ref Mt, .int (nI tp), .int (nI max_2), .int zwrx_10, .ref Mrr, .ref Mrh, .ref Mrc, .int (nI rh), .int (nI rc), .ref Mn, .ref Mf, .ref Mr, .ref Mh, .int zhp, .int zcc, .ref Ma, .ref Mas, .ref Msn, .ref Mac, .ref Mat])), (Mt, .inl (g 0, 160, .inl fmt)), (Mrr, .inl (g 0, 3, .inl frr)), (Mrh, .inl (g 0, 9, .inl frh)), (Mrc, .inl (g 0, 9, .inl frc))] H := ⟨hP.sub [4, 3, 0, 1, 2] rfl, hD.sub [4, 3, 0, 1, 2] (by decide) rfl⟩
        have hP9 := hPD9.1; have hD9 := hPD9.2
        subst hQ
        refine W.widen (k := 0) (n := 0) (Nat.le_of_ble_eq_true rfl) (Nat.le_of_ble_eq_true rfl) ?_
        exact W.vret hx hb hr (fun tS htS _ => ⟨⟨_, rfl, ⟨max_2, zwrx_10, rh, rc, frr, frh, frc, rfl, ⟨(h4), (h5), (h6), (show max_2 ≤ tp by omega), (show ma ≤ max_2 by omega), (show rh ≤ 3 by omega), (show rc ≤ 3 by omega)⟩⟩, by rw [htS]; exact hP9, hD9⟩, hS.F htS⟩) hS.2.2 dX7_clause_146
      · skip
        have hq_11 : max_2 < tp := (fun q9 => here_lt hey_5 q9) (by rw [cb_8]; decide)
        have hPq_12 := hP; have hDq_12 := hD; have hSq_12 := hS; have hlq_12 := hl; clear hP hD hS hl
        subst cb_8
        have hP := hPq_12; have hD := hDq_12; have hS := hSq_12; have hl := hlq_12; clear hPq_12 hDq_12 hSq_12 hlq_12
        refine lv_aload_n hx hb dX7_clause_96 rfl (lv_at hl 1 rfl) ?_
        refine va_get (D := D) (ci := 7) (v := .int (nI rc)) (C := RX7) (T := TX7) (N := 21) hx hb hts iX7 hown hK hP 3 rfl rfl 9 (by decide) f114 (fun _ h9 => h9) rfl dX7_clause_97 ?_
        refine lv_iconst (v := 3) hx hb dX7_clause_100 (by decide) ?_
        refine lv_icmp_ge (tgt := 142) hx hb dX7_clause_101 (by decide) (fun cb_13 => ?_) (fun cb_13 => ?_)
        · skip
          have cn_14 : 3 ≤ rc := (nI_leI (show 3 < 2 ^ 31 by omega) (show rc < 2 ^ 31 by omega)).mp cb_13
          refine lv_aload_n hx hb dX7_clause_142 rfl (lv_at hl 1 rfl) ?_
          refine ky_Vv (As := []) (rest := []) ⟨hx, hb, hml, hown, hts⟩ ⟨hK, hN⟩ hZ hP hD hS hA [3] [0, 1, 2, 4] (wc := [(Mm, .inr (7, [.int zth, .ref Mt, .int (nI tp), .int (nI max_2), .int zwr, .ref Mrr, .ref Mrh, .ref Mrc, .int (nI rh), .int (nI rc), .ref Mn, .ref Mf, .ref Mr, .ref Mh, .int zhp, .int zcc, .ref Ma, .ref Mas, .ref Msn, .ref Mac, .ref Mat]))]) (wr := [(Mrr, .inl (g 0, 3, .inl frr)), (Mrh, .inl (g 0, 9, .inl frh)), (Mrc, .inl (g 0, 9, .inl frc)), (Mt, .inl (g 0, 160, .inl fmt))]) rfl rfl rfl rfl (by decide) (k_X7_bad l D g H.size Mm zth Mt tp max_2 zwr Mrr Mrh Mrc rh rc Mn Mf Mr Mh zhp zcc Ma Mas Msn Mac Mat) (cwV 0 hts gX7_clause_X7_bad rfl rfl rfl (by decide +kernel) ⟨(Nat.le_of_ble_eq_true rfl), (Nat.le_of_ble_eq_true rfl)⟩) 3 7 rfl rfl rfl rfl hl.1 rfl (Nat.le_of_ble_eq_true rfl) dX7_clause_143 ⟨(Nat.le_of_ble_eq_true rfl), (Nat.le_of_ble_eq_true rfl)⟩ (fun u H locs hw hP2 hD2 hS2 => ?_)
          clear hP hD hS
          obtain ⟨zwrx_16, rfl⟩ := hw
          have hPD : PD D A [(Mrr, .inl (g 0, 3, .inl frr)), (Mrh, .inl (g 0, 9, .inl frh)), (Mrc, .inl (g 0, 9, .inl frc)), (Mt, .inl (g 0, 160, .inl fmt)), (Mm, .inr (7, [.int zth, .ref Mt, .int (nI tp), .int (nI max_2), .int zwrx_16, .ref Mrr, .ref Mrh, .ref Mrc, .int (nI rh), .int (nI rc), .ref Mn, .ref Mf, .ref Mr, .ref Mh, .int zhp, .int zcc, .ref Ma, .ref Mas, .ref Msn, .ref Mac, .ref Mat]))] H := ⟨hP2, hD2⟩
          have hS := hS2; clear hP2 hD2 hS2; have hP := hPD.1; have hD := hPD.2; clear hPD
          refine W.widen (k := 0) (n := 0) (Nat.le_of_ble_eq_true rfl) (Nat.le_of_ble_eq_true rfl) ?_
          have hPD9 : PD D A [(Mm, .inr (7, [.int zth, .ref Mt, .int (nI tp), .int (nI max_2), .int zwrx_16, .ref Mrr, .ref Mrh, .ref Mrc, .int (nI rh), .int (nI rc), .ref Mn, .ref Mf, .ref Mr, .ref Mh, .int zhp, .int zcc, .ref Ma, .ref Mas, .ref Msn, .ref Mac, .ref Mat])), (Mt, .inl (g 0, 160, .inl fmt)), (Mrr, .inl (g 0, 3, .inl frr)), (Mrh, .inl (g 0, 9, .inl frh)), (Mrc, .inl (g 0, 9, .inl frc))] H := ⟨hP.sub [4, 3, 0, 1, 2] rfl, hD.sub [4, 3, 0, 1, 2] (by decide) rfl⟩
          have hP9 := hPD9.1; have hD9 := hPD9.2
          subst hQ
          refine W.widen (k := 0) (n := 0) (Nat.le_of_ble_eq_true rfl) (Nat.le_of_ble_eq_true rfl) ?_
          exact W.vret hx hb hr (fun tS htS _ => ⟨⟨_, rfl, ⟨max_2, zwrx_16, rh, rc, frr, frh, frc, rfl, ⟨(h4), (h5), (h6), (show max_2 ≤ tp by omega), (show ma ≤ max_2 by omega), (show rh ≤ 3 by omega), (show rc ≤ 3 by omega)⟩⟩, by rw [htS]; exact hP9, hD9⟩, hS.F htS⟩) hS.2.2 dX7_clause_146
        · skip
          have cn_17 : rc < 3 := Nat.lt_of_not_le (fun q9 => cb_13 ((nI_leI (show 3 < 2 ^ 31 by omega) (show rc < 2 ^ 31 by omega)).mpr q9))
          refine lv_aload_n hx hb dX7_clause_104 rfl (lv_at hl 1 rfl) ?_
          refine lv_dup hx hb dX7_clause_105 rfl ?_
          refine va_get (D := D) (ci := 7) (v := .int (nI max_2)) (C := RX7) (T := TX7) (N := 21) hx hb hts iX7 hown hK hP 3 rfl rfl 3 (by decide) f64 (fun _ h9 => h9) rfl dX7_clause_106 ?_
          refine lv_iconst (v := 1) hx hb dX7_clause_109 (by decide) ?_
          refine lv_iadd hx hb dX7_clause_110 ?_
          refine lv_eqi (y := (nI (max_2 + 1))) (nI_add (max_2) (1)) ?_
          refine va_put (D := D) (ci := 7) (v := .int (nI (max_2 + 1))) (ty := .int) (C := RX7) (T := TX7) (N := 21) hx hb hts iX7 tyX7 tyX7_ok nmX7 hown hK hP hD hS 3 rfl rfl 3 (by decide) f64 (fun _ h9 => h9) rfl (by decide +kernel) (rfl) (rfl) (Nat.le_of_ble_eq_true rfl) dX7_clause_111 (fun H locs hP2 hD2 hS2 => ?_)
          clear hP hD hS
          have hPD : PD D A [(Mrr, .inl (g 0, 3, .inl frr)), (Mrh, .inl (g 0, 9, .inl frh)), (Mrc, .inl (g 0, 9, .inl frc)), (Mm, .inr (7, [.int zth, .ref Mt, .int (nI tp), .int (nI (max_2 + 1)), .int zwr, .ref Mrr, .ref Mrh, .ref Mrc, .int (nI rh), .int (nI rc), .ref Mn, .ref Mf, .ref Mr, .ref Mh, .int zhp, .int zcc, .ref Ma, .ref Mas, .ref Msn, .ref Mac, .ref Mat])), (Mt, .inl (g 0, 160, .inl fmt))] H := ⟨hP2, hD2⟩
          have hS := hS2; clear hP2 hD2 hS2; have hP := hPD.1; have hD := hPD.2; clear hPD
          refine lv_aload_n hx hb dX7_clause_114 rfl (lv_at hl 1 rfl) ?_
          refine lv_iconst (v := 2) hx hb dX7_clause_115 (by decide) ?_
          refine lv_aload_n hx hb dX7_clause_116 rfl (lv_at hl 1 rfl) ?_
          refine va_get (D := D) (ci := 7) (v := .ref Mrc) (C := RX7) (T := TX7) (N := 21) hx hb hts iX7 hown hK hP 3 rfl rfl 7 (by decide) f19 (fun _ h9 => h9) rfl dX7_clause_117 ?_
          refine lv_iconst (v := 3) hx hb dX7_clause_120 (by decide) ?_
          refine lv_aload_n hx hb dX7_clause_121 rfl (lv_at hl 1 rfl) ?_
          refine va_get (D := D) (ci := 7) (v := .int (nI rc)) (C := RX7) (T := TX7) (N := 21) hx hb hts iX7 hown hK hP 3 rfl rfl 9 (by decide) f114 (fun _ h9 => h9) rfl dX7_clause_122 ?_
          refine lv_imul hx hb dX7_clause_125 ?_
          refine lv_eqi (y := (nI (3 * rc))) (pk_mul (3) (rc)) ?_
          refine ky_Vv (As := [.int 2, .ref Mrc, .int (nI (3 * rc))]) (rest := []) ⟨hx, hb, hml, hown, hts⟩ ⟨hK, hN⟩ hZ hP hD hS hA [3, 4, 2] [0, 1] (wc := [(Mm, .inr (7, [.int zth, .ref Mt, .int (nI tp), .int (nI (max_2 + 1)), .int zwr, .ref Mrr, .ref Mrh, .ref Mrc, .int (nI rh), .int (nI rc), .ref Mn, .ref Mf, .ref Mr, .ref Mh, .int zhp, .int zcc, .ref Ma, .ref Mas, .ref Msn, .ref Mac, .ref Mat])), (Mt, .inl (g 0, 160, .inl fmt)), (Mrc, .inl (g 0, 9, .inl frc))]) (wr := [(Mrr, .inl (g 0, 3, .inl frr)), (Mrh, .inl (g 0, 9, .inl frh))]) rfl rfl rfl rfl (by decide) (k_X7_items_2 l D g H.size Mm Mrc (3 * rc) zth Mt tp (max_2 + 1) zwr Mrr Mrh rh rc Mn Mf Mr Mh zhp zcc Ma Mas Msn Mac Mat fmt frc (show tp ≤ 160 by omega) (show (max_2 + 1) ≤ tp by omega) (show (3 * rc) ≤ 6 by omega) (h6)) (cwV 3 hts gX7_clause_X7_items rfl rfl rfl (by decide +kernel) ⟨(Nat.le_of_ble_eq_true rfl), (Nat.le_of_ble_eq_true rfl)⟩) 3 7 rfl rfl rfl rfl hl.1 rfl (Nat.le_of_ble_eq_true rfl) dX7_clause_126 ⟨(Nat.le_of_ble_eq_true rfl), (Nat.le_of_ble_eq_true rfl)⟩ (fun u H locs hw hP2 hD2 hS2 => ?_)
          clear hP hD hS
          obtain ⟨max_19, zwrx_20, frcx_21, rfl, hf_22, hf_23, hf_24⟩ := hw
          have hPD : PD D A [(Mrr, .inl (g 0, 3, .inl frr)), (Mrh, .inl (g 0, 9, .inl frh)), (Mm, .inr (7, [.int zth, .ref Mt, .int (nI tp), .int (nI max_19), .int zwrx_20, .ref Mrr, .ref Mrh, .ref Mrc, .int (nI rh), .int (nI rc), .ref Mn, .ref Mf, .ref Mr, .ref Mh, .int zhp, .int zcc, .ref Ma, .ref Mas, .ref Msn, .ref Mac, .ref Mat])), (Mt, .inl (g 0, 160, .inl fmt)), (Mrc, .inl (g 0, 9, .inl frcx_21))] H := ⟨hP2, hD2⟩
          have hS := hS2; clear hP2 hD2 hS2; have hP := hPD.1; have hD := hPD.2; clear hPD
          refine W.widen (k := 0) (n := 0) (Nat.le_of_ble_eq_true rfl) (Nat.le_of_ble_eq_true rfl) ?_
          refine lv_aload_n hx hb dX7_clause_129 rfl (lv_at hl 1 rfl) ?_
          refine lv_dup hx hb dX7_clause_130 rfl ?_
          refine va_get (D := D) (ci := 7) (v := .int (nI rc)) (C := RX7) (T := TX7) (N := 21) hx hb hts iX7 hown hK hP 2 rfl rfl 9 (by decide) f114 (fun _ h9 => h9) rfl dX7_clause_131 ?_
          refine lv_iconst (v := 1) hx hb dX7_clause_134 (by decide) ?_
          refine lv_iadd hx hb dX7_clause_135 ?_
          refine lv_eqi (y := (nI (rc + 1))) (nI_add (rc) (1)) ?_
          refine va_put (D := D) (ci := 7) (v := .int (nI (rc + 1))) (ty := .int) (C := RX7) (T := TX7) (N := 21) hx hb hts iX7 tyX7 tyX7_ok nmX7 hown hK hP hD hS 2 rfl rfl 9 (by decide) f114 (fun _ h9 => h9) rfl (by decide +kernel) (rfl) (rfl) (Nat.le_of_ble_eq_true rfl) dX7_clause_136 (fun H locs hP2 hD2 hS2 => ?_)
          clear hP hD hS
          have hPD : PD D A [(Mrr, .inl (g 0, 3, .inl frr)), (Mrh, .inl (g 0, 9, .inl frh)), (Mm, .inr (7, [.int zth, .ref Mt, .int (nI tp), .int (nI max_19), .int zwrx_20, .ref Mrr, .ref Mrh, .ref Mrc, .int (nI rh), .int (nI (rc + 1)), .ref Mn, .ref Mf, .ref Mr, .ref Mh, .int zhp, .int zcc, .ref Ma, .ref Mas, .ref Msn, .ref Mac, .ref Mat])), (Mt, .inl (g 0, 160, .inl fmt)), (Mrc, .inl (g 0, 9, .inl frcx_21))] H := ⟨hP2, hD2⟩
          have hS := hS2; clear hP2 hD2 hS2; have hP := hPD.1; have hD := hPD.2; clear hPD
          refine lv_goto (tgt := 146) hx hb dX7_clause_139 (by decide) ?_
          have hPD9 : PD D A [(Mm, .inr (7, [.int zth, .ref Mt, .int (nI tp), .int (nI max_19), .int zwrx_20, .ref Mrr, .ref Mrh, .ref Mrc, .int (nI rh), .int (nI (rc + 1)), .ref Mn, .ref Mf, .ref Mr, .ref Mh, .int zhp, .int zcc, .ref Ma, .ref Mas, .ref Msn, .ref Mac, .ref Mat])), (Mt, .inl (g 0, 160, .inl fmt)), (Mrr, .inl (g 0, 3, .inl frr)), (Mrh, .inl (g 0, 9, .inl frh)), (Mrc, .inl (g 0, 9, .inl frcx_21))] H := ⟨hP.sub [2, 3, 0, 1, 4] rfl, hD.sub [2, 3, 0, 1, 4] (by decide) rfl⟩
          have hP9 := hPD9.1; have hD9 := hPD9.2
          subst hQ
          refine W.widen (k := 0) (n := 0) (Nat.le_of_ble_eq_true rfl) (Nat.le_of_ble_eq_true rfl) ?_
          exact W.vret hx hb hr (fun tS htS _ => ⟨⟨_, rfl, ⟨max_19, zwrx_20, rh, (rc + 1), frr, frh, frcx_21, rfl, ⟨(h4), (h5), (hf_22), (show max_19 ≤ tp by omega), (show ma ≤ max_19 by omega), (show rh ≤ 3 by omega), (show (rc + 1) ≤ 3 by omega)⟩⟩, by rw [htS]; exact hP9, hD9⟩, hS.F htS⟩) hS.2.2 dX7_clause_146
    · skip
      have hq_25 : max_2 < tp := (fun q9 => here_lt hey_5 q9) (by rw [cb_7]; decide)
      have hPq_26 := hP; have hDq_26 := hD; have hSq_26 := hS; have hlq_26 := hl; clear hP hD hS hl
      subst cb_7
      have hP := hPq_26; have hD := hDq_26; have hS := hSq_26; have hl := hlq_26; clear hPq_26 hDq_26 hSq_26 hlq_26
      refine lv_aload_n hx hb dX7_clause_44 rfl (lv_at hl 1 rfl) ?_
      refine va_get (D := D) (ci := 7) (v := .int (nI rh)) (C := RX7) (T := TX7) (N := 21) hx hb hts iX7 hown hK hP 3 rfl rfl 8 (by decide) f111 (fun _ h9 => h9) rfl dX7_clause_45 ?_
      refine lv_iconst (v := 3) hx hb dX7_clause_48 (by decide) ?_
      refine lv_icmp_ge (tgt := 90) hx hb dX7_clause_49 (by decide) (fun cb_27 => ?_) (fun cb_27 => ?_)
      · skip
        have cn_28 : 3 ≤ rh := (nI_leI (show 3 < 2 ^ 31 by omega) (show rh < 2 ^ 31 by omega)).mp cb_27
        refine lv_iload_n hx hb dX7_clause_90 rfl (lv_at hl 0 rfl) ?_
        refine lv_bipush (v := 99) hx hb dX7_clause_91 (by decide) ?_
        refine lv_icmp_ne (tgt := 142) hx hb dX7_clause_93 (by decide) (fun _ => ?_) (fun cb => absurd cb (by decide))
        refine lv_aload_n hx hb dX7_clause_142 rfl (lv_at hl 1 rfl) ?_
        refine ky_Vv (As := []) (rest := []) ⟨hx, hb, hml, hown, hts⟩ ⟨hK, hN⟩ hZ hP hD hS hA [3] [0, 1, 2, 4] (wc := [(Mm, .inr (7, [.int zth, .ref Mt, .int (nI tp), .int (nI max_2), .int zwr, .ref Mrr, .ref Mrh, .ref Mrc, .int (nI rh), .int (nI rc), .ref Mn, .ref Mf, .ref Mr, .ref Mh, .int zhp, .int zcc, .ref Ma, .ref Mas, .ref Msn, .ref Mac, .ref Mat]))]) (wr := [(Mrr, .inl (g 0, 3, .inl frr)), (Mrh, .inl (g 0, 9, .inl frh)), (Mrc, .inl (g 0, 9, .inl frc)), (Mt, .inl (g 0, 160, .inl fmt))]) rfl rfl rfl rfl (by decide) (k_X7_bad l D g H.size Mm zth Mt tp max_2 zwr Mrr Mrh Mrc rh rc Mn Mf Mr Mh zhp zcc Ma Mas Msn Mac Mat) (cwV 0 hts gX7_clause_X7_bad rfl rfl rfl (by decide +kernel) ⟨(Nat.le_of_ble_eq_true rfl), (Nat.le_of_ble_eq_true rfl)⟩) 3 7 rfl rfl rfl rfl hl.1 rfl (Nat.le_of_ble_eq_true rfl) dX7_clause_143 ⟨(Nat.le_of_ble_eq_true rfl), (Nat.le_of_ble_eq_true rfl)⟩ (fun u H locs hw hP2 hD2 hS2 => ?_)
        clear hP hD hS
        obtain ⟨zwrx_30, rfl⟩ := hw
        have hPD : PD D A [(Mrr, .inl (g 0, 3, .inl frr)), (Mrh, .inl (g 0, 9, .inl frh)), (Mrc, .inl (g 0, 9, .inl frc)), (Mt, .inl (g 0, 160, .inl fmt)), (Mm, .inr (7, [.int zth, .ref Mt, .int (nI tp), .int (nI max_2), .int zwrx_30, .ref Mrr, .ref Mrh, .ref Mrc, .int (nI rh), .int (nI rc), .ref Mn, .ref Mf, .ref Mr, .ref Mh, .int zhp, .int zcc, .ref Ma, .ref Mas, .ref Msn, .ref Mac, .ref Mat]))] H := ⟨hP2, hD2⟩
        have hS := hS2; clear hP2 hD2 hS2; have hP := hPD.1; have hD := hPD.2; clear hPD
        refine W.widen (k := 0) (n := 0) (Nat.le_of_ble_eq_true rfl) (Nat.le_of_ble_eq_true rfl) ?_
        have hPD9 : PD D A [(Mm, .inr (7, [.int zth, .ref Mt, .int (nI tp), .int (nI max_2), .int zwrx_30, .ref Mrr, .ref Mrh, .ref Mrc, .int (nI rh), .int (nI rc), .ref Mn, .ref Mf, .ref Mr, .ref Mh, .int zhp, .int zcc, .ref Ma, .ref Mas, .ref Msn, .ref Mac, .ref Mat])), (Mt, .inl (g 0, 160, .inl fmt)), (Mrr, .inl (g 0, 3, .inl frr)), (Mrh, .inl (g 0, 9, .inl frh)), (Mrc, .inl (g 0, 9, .inl frc))] H := ⟨hP.sub [4, 3, 0, 1, 2] rfl, hD.sub [4, 3, 0, 1, 2] (by decide) rfl⟩
        have hP9 := hPD9.1; have hD9 := hPD9.2
        subst hQ
        refine W.widen (k := 0) (n := 0) (Nat.le_of_ble_eq_true rfl) (Nat.le_of_ble_eq_true rfl) ?_
        exact W.vret hx hb hr (fun tS htS _ => ⟨⟨_, rfl, ⟨max_2, zwrx_30, rh, rc, frr, frh, frc, rfl, ⟨(h4), (h5), (h6), (show max_2 ≤ tp by omega), (show ma ≤ max_2 by omega), (show rh ≤ 3 by omega), (show rc ≤ 3 by omega)⟩⟩, by rw [htS]; exact hP9, hD9⟩, hS.F htS⟩) hS.2.2 dX7_clause_146
      · skip
        have cn_31 : rh < 3 := Nat.lt_of_not_le (fun q9 => cb_27 ((nI_leI (show 3 < 2 ^ 31 by omega) (show rh < 2 ^ 31 by omega)).mpr q9))
        refine lv_aload_n hx hb dX7_clause_52 rfl (lv_at hl 1 rfl) ?_
        refine lv_dup hx hb dX7_clause_53 rfl ?_
        refine va_get (D := D) (ci := 7) (v := .int (nI max_2)) (C := RX7) (T := TX7) (N := 21) hx hb hts iX7 hown hK hP 3 rfl rfl 3 (by decide) f64 (fun _ h9 => h9) rfl dX7_clause_54 ?_
        refine lv_iconst (v := 1) hx hb dX7_clause_57 (by decide) ?_
        refine lv_iadd hx hb dX7_clause_58 ?_
        refine lv_eqi (y := (nI (max_2 + 1))) (nI_add (max_2) (1)) ?_
        refine va_put (D := D) (ci := 7) (v := .int (nI (max_2 + 1))) (ty := .int) (C := RX7) (T := TX7) (N := 21) hx hb hts iX7 tyX7 tyX7_ok nmX7 hown hK hP hD hS 3 rfl rfl 3 (by decide) f64 (fun _ h9 => h9) rfl (by decide +kernel) (rfl) (rfl) (Nat.le_of_ble_eq_true rfl) dX7_clause_59 (fun H locs hP2 hD2 hS2 => ?_)
        clear hP hD hS
        have hPD : PD D A [(Mrr, .inl (g 0, 3, .inl frr)), (Mrh, .inl (g 0, 9, .inl frh)), (Mrc, .inl (g 0, 9, .inl frc)), (Mm, .inr (7, [.int zth, .ref Mt, .int (nI tp), .int (nI (max_2 + 1)), .int zwr, .ref Mrr, .ref Mrh, .ref Mrc, .int (nI rh), .int (nI rc), .ref Mn, .ref Mf, .ref Mr, .ref Mh, .int zhp, .int zcc, .ref Ma, .ref Mas, .ref Msn, .ref Mac, .ref Mat])), (Mt, .inl (g 0, 160, .inl fmt))] H := ⟨hP2, hD2⟩
        have hS := hS2; clear hP2 hD2 hS2; have hP := hPD.1; have hD := hPD.2; clear hPD
        refine lv_aload_n hx hb dX7_clause_62 rfl (lv_at hl 1 rfl) ?_
        refine lv_iconst (v := 1) hx hb dX7_clause_63 (by decide) ?_
        refine lv_aload_n hx hb dX7_clause_64 rfl (lv_at hl 1 rfl) ?_
        refine va_get (D := D) (ci := 7) (v := .ref Mrh) (C := RX7) (T := TX7) (N := 21) hx hb hts iX7 hown hK hP 3 rfl rfl 6 (by decide) f16 (fun _ h9 => h9) rfl dX7_clause_65 ?_
        refine lv_iconst (v := 3) hx hb dX7_clause_68 (by decide) ?_
        refine lv_aload_n hx hb dX7_clause_69 rfl (lv_at hl 1 rfl) ?_
        refine va_get (D := D) (ci := 7) (v := .int (nI rh)) (C := RX7) (T := TX7) (N := 21) hx hb hts iX7 hown hK hP 3 rfl rfl 8 (by decide) f111 (fun _ h9 => h9) rfl dX7_clause_70 ?_
        refine lv_imul hx hb dX7_clause_73 ?_
        refine lv_eqi (y := (nI (3 * rh))) (pk_mul (3) (rh)) ?_
        refine ky_Vv (As := [.int 1, .ref Mrh, .int (nI (3 * rh))]) (rest := []) ⟨hx, hb, hml, hown, hts⟩ ⟨hK, hN⟩ hZ hP hD hS hA [3, 4, 1] [0, 2] (wc := [(Mm, .inr (7, [.int zth, .ref Mt, .int (nI tp), .int (nI (max_2 + 1)), .int zwr, .ref Mrr, .ref Mrh, .ref Mrc, .int (nI rh), .int (nI rc), .ref Mn, .ref Mf, .ref Mr, .ref Mh, .int zhp, .int zcc, .ref Ma, .ref Mas, .ref Msn, .ref Mac, .ref Mat])), (Mt, .inl (g 0, 160, .inl fmt)), (Mrh, .inl (g 0, 9, .inl frh))]) (wr := [(Mrr, .inl (g 0, 3, .inl frr)), (Mrc, .inl (g 0, 9, .inl frc))]) rfl rfl rfl rfl (by decide) (k_X7_items_1 l D g H.size Mm Mrh (3 * rh) zth Mt tp (max_2 + 1) zwr Mrr Mrc rh rc Mn Mf Mr Mh zhp zcc Ma Mas Msn Mac Mat fmt frh (show tp ≤ 160 by omega) (show (max_2 + 1) ≤ tp by omega) (show (3 * rh) ≤ 6 by omega) (h5)) (cwV 3 hts gX7_clause_X7_items rfl rfl rfl (by decide +kernel) ⟨(Nat.le_of_ble_eq_true rfl), (Nat.le_of_ble_eq_true rfl)⟩) 3 7 rfl rfl rfl rfl hl.1 rfl (Nat.le_of_ble_eq_true rfl) dX7_clause_74 ⟨(Nat.le_of_ble_eq_true rfl), (Nat.le_of_ble_eq_true rfl)⟩ (fun u H locs hw hP2 hD2 hS2 => ?_)
        clear hP hD hS
        obtain ⟨max_33, zwrx_34, frhx_35, rfl, hf_36, hf_37, hf_38⟩ := hw
        have hPD : PD D A [(Mrr, .inl (g 0, 3, .inl frr)), (Mrc, .inl (g 0, 9, .inl frc)), (Mm, .inr (7, [.int zth, .ref Mt, .int (nI tp), .int (nI max_33), .int zwrx_34, .ref Mrr, .ref Mrh, .ref Mrc, .int (nI rh), .int (nI rc), .ref Mn, .ref Mf, .ref Mr, .ref Mh, .int zhp, .int zcc, .ref Ma, .ref Mas, .ref Msn, .ref Mac, .ref Mat])), (Mt, .inl (g 0, 160, .inl fmt)), (Mrh, .inl (g 0, 9, .inl frhx_35))] H := ⟨hP2, hD2⟩
        have hS := hS2; clear hP2 hD2 hS2; have hP := hPD.1; have hD := hPD.2; clear hPD
        refine W.widen (k := 0) (n := 0) (Nat.le_of_ble_eq_true rfl) (Nat.le_of_ble_eq_true rfl) ?_
        refine lv_aload_n hx hb dX7_clause_77 rfl (lv_at hl 1 rfl) ?_
        refine lv_dup hx hb dX7_clause_78 rfl ?_
        refine va_get (D := D) (ci := 7) (v := .int (nI rh)) (C := RX7) (T := TX7) (N := 21) hx hb hts iX7 hown hK hP 2 rfl rfl 8 (by decide) f111 (fun _ h9 => h9) rfl dX7_clause_79 ?_
        refine lv_iconst (v := 1) hx hb dX7_clause_82 (by decide) ?_
        refine lv_iadd hx hb dX7_clause_83 ?_
        refine lv_eqi (y := (nI (rh + 1))) (nI_add (rh) (1)) ?_
        refine va_put (D := D) (ci := 7) (v := .int (nI (rh + 1))) (ty := .int) (C := RX7) (T := TX7) (N := 21) hx hb hts iX7 tyX7 tyX7_ok nmX7 hown hK hP hD hS 2 rfl rfl 8 (by decide) f111 (fun _ h9 => h9) rfl (by decide +kernel) (rfl) (rfl) (Nat.le_of_ble_eq_true rfl) dX7_clause_84 (fun H locs hP2 hD2 hS2 => ?_)
        clear hP hD hS
        have hPD : PD D A [(Mrr, .inl (g 0, 3, .inl frr)), (Mrc, .inl (g 0, 9, .inl frc)), (Mm, .inr (7, [.int zth, .ref Mt, .int (nI tp), .int (nI max_33), .int zwrx_34, .ref Mrr, .ref Mrh, .ref Mrc, .int (nI (rh + 1)), .int (nI rc), .ref Mn, .ref Mf, .ref Mr, .ref Mh, .int zhp, .int zcc, .ref Ma, .ref Mas, .ref Msn, .ref Mac, .ref Mat])), (Mt, .inl (g 0, 160, .inl fmt)), (Mrh, .inl (g 0, 9, .inl frhx_35))] H := ⟨hP2, hD2⟩
        have hS := hS2; clear hP2 hD2 hS2; have hP := hPD.1; have hD := hPD.2; clear hPD
        refine lv_goto (tgt := 146) hx hb dX7_clause_87 (by decide) ?_
        have hPD9 : PD D A [(Mm, .inr (7, [.int zth, .ref Mt, .int (nI tp), .int (nI max_33), .int zwrx_34, .ref Mrr, .ref Mrh, .ref Mrc, .int (nI (rh + 1)), .int (nI rc), .ref Mn, .ref Mf, .ref Mr, .ref Mh, .int zhp, .int zcc, .ref Ma, .ref Mas, .ref Msn, .ref Mac, .ref Mat])), (Mt, .inl (g 0, 160, .inl fmt)), (Mrr, .inl (g 0, 3, .inl frr)), (Mrh, .inl (g 0, 9, .inl frhx_35)), (Mrc, .inl (g 0, 9, .inl frc))] H := ⟨hP.sub [2, 3, 0, 4, 1] rfl, hD.sub [2, 3, 0, 4, 1] (by decide) rfl⟩
        have hP9 := hPD9.1; have hD9 := hPD9.2
        subst hQ
        refine W.widen (k := 0) (n := 0) (Nat.le_of_ble_eq_true rfl) (Nat.le_of_ble_eq_true rfl) ?_
        exact W.vret hx hb hr (fun tS htS _ => ⟨⟨_, rfl, ⟨max_33, zwrx_34, (rh + 1), rc, frr, frhx_35, frc, rfl, ⟨(h4), (hf_36), (h6), (show max_33 ≤ tp by omega), (show ma ≤ max_33 by omega), (show (rh + 1) ≤ 3 by omega), (show rc ≤ 3 by omega)⟩⟩, by rw [htS]; exact hP9, hD9⟩, hS.F htS⟩) hS.2.2 dX7_clause_146
  · skip
    have hq_39 : max_2 < tp := (fun q9 => here_lt hey_5 q9) (by rw [cb_6]; decide)
    have hPq_40 := hP; have hDq_40 := hD; have hSq_40 := hS; have hlq_40 := hl; clear hP hD hS hl
    subst cb_6
    have hP := hPq_40; have hD := hDq_40; have hS := hSq_40; have hl := hlq_40; clear hPq_40 hDq_40 hSq_40 hlq_40
    refine lv_iload_n hx hb dX7_clause_11 rfl (lv_at hl 2 rfl) ?_
    refine lv_if_eq (tgt := 38) hx hb dX7_clause_12 (by decide) (fun cb_41 => ?_) (fun cb_41 => ?_)
    · skip
      have hPq_42 := hP; have hDq_42 := hD; have hSq_42 := hS; have hlq_42 := hl; clear hP hD hS hl
      subst cb_41
      have hP := hPq_42; have hD := hDq_42; have hS := hSq_42; have hl := hlq_42; clear hPq_42 hDq_42 hSq_42 hlq_42
      refine lv_iload_n hx hb dX7_clause_38 rfl (lv_at hl 0 rfl) ?_
      refine lv_bipush (v := 104) hx hb dX7_clause_39 (by decide) ?_
      refine lv_icmp_ne (tgt := 90) hx hb dX7_clause_41 (by decide) (fun _ => ?_) (fun cb => absurd cb (by decide))
      refine lv_iload_n hx hb dX7_clause_90 rfl (lv_at hl 0 rfl) ?_
      refine lv_bipush (v := 99) hx hb dX7_clause_91 (by decide) ?_
      refine lv_icmp_ne (tgt := 142) hx hb dX7_clause_93 (by decide) (fun _ => ?_) (fun cb => absurd cb (by decide))
      refine lv_aload_n hx hb dX7_clause_142 rfl (lv_at hl 1 rfl) ?_
      refine ky_Vv (As := []) (rest := []) ⟨hx, hb, hml, hown, hts⟩ ⟨hK, hN⟩ hZ hP hD hS hA [3] [0, 1, 2, 4] (wc := [(Mm, .inr (7, [.int zth, .ref Mt, .int (nI tp), .int (nI max_2), .int zwr, .ref Mrr, .ref Mrh, .ref Mrc, .int (nI rh), .int (nI rc), .ref Mn, .ref Mf, .ref Mr, .ref Mh, .int zhp, .int zcc, .ref Ma, .ref Mas, .ref Msn, .ref Mac, .ref Mat]))]) (wr := [(Mrr, .inl (g 0, 3, .inl frr)), (Mrh, .inl (g 0, 9, .inl frh)), (Mrc, .inl (g 0, 9, .inl frc)), (Mt, .inl (g 0, 160, .inl fmt))]) rfl rfl rfl rfl (by decide) (k_X7_bad l D g H.size Mm zth Mt tp max_2 zwr Mrr Mrh Mrc rh rc Mn Mf Mr Mh zhp zcc Ma Mas Msn Mac Mat) (cwV 0 hts gX7_clause_X7_bad rfl rfl rfl (by decide +kernel) ⟨(Nat.le_of_ble_eq_true rfl), (Nat.le_of_ble_eq_true rfl)⟩) 3 7 rfl rfl rfl rfl hl.1 rfl (Nat.le_of_ble_eq_true rfl) dX7_clause_143 ⟨(Nat.le_of_ble_eq_true rfl), (Nat.le_of_ble_eq_true rfl)⟩ (fun u H locs hw hP2 hD2 hS2 => ?_)
      clear hP hD hS
      obtain ⟨zwrx_44, rfl⟩ := hw
      have hPD : PD D A [(Mrr, .inl (g 0, 3, .inl frr)), (Mrh, .inl (g 0, 9, .inl frh)), (Mrc, .inl (g 0, 9, .inl frc)), (Mt, .inl (g 0, 160, .inl fmt)), (Mm, .inr (7, [.int zth, .ref Mt, .int (nI tp), .int (nI max_2), .int zwrx_44, .ref Mrr, .ref Mrh, .ref Mrc, .int (nI rh), .int (nI rc), .ref Mn, .ref Mf, .ref Mr, .ref Mh, .int zhp, .int zcc, .ref Ma, .ref Mas, .ref Msn, .ref Mac, .ref Mat]))] H := ⟨hP2, hD2⟩
      have hS := hS2; clear hP2 hD2 hS2; have hP := hPD.1; have hD := hPD.2; clear hPD
      refine W.widen (k := 0) (n := 0) (Nat.le_of_ble_eq_true rfl) (Nat.le_of_ble_eq_true rfl) ?_
      have hPD9 : PD D A [(Mm, .inr (7, [.int zth, .ref Mt, .int (nI tp), .int (nI max_2), .int zwrx_44, .ref Mrr, .ref Mrh, .ref Mrc, .int (nI rh), .int (nI rc), .ref Mn, .ref Mf, .ref Mr, .ref Mh, .int zhp, .int zcc, .ref Ma, .ref Mas, .ref Msn, .ref Mac, .ref Mat])), (Mt, .inl (g 0, 160, .inl fmt)), (Mrr, .inl (g 0, 3, .inl frr)), (Mrh, .inl (g 0, 9, .inl frh)), (Mrc, .inl (g 0, 9, .inl frc))] H := ⟨hP.sub [4, 3, 0, 1, 2] rfl, hD.sub [4, 3, 0, 1, 2] (by decide) rfl⟩
      have hP9 := hPD9.1; have hD9 := hPD9.2
      subst hQ
      refine W.widen (k := 0) (n := 0) (Nat.le_of_ble_eq_true rfl) (Nat.le_of_ble_eq_true rfl) ?_
      exact W.vret hx hb hr (fun tS htS _ => ⟨⟨_, rfl, ⟨max_2, zwrx_44, rh, rc, frr, frh, frc, rfl, ⟨(h4), (h5), (h6), (show max_2 ≤ tp by omega), (show ma ≤ max_2 by omega), (show rh ≤ 3 by omega), (show rc ≤ 3 by omega)⟩⟩, by rw [htS]; exact hP9, hD9⟩, hS.F htS⟩) hS.2.2 dX7_clause_146
    · skip
      refine lv_aload_n hx hb dX7_clause_15 rfl (lv_at hl 1 rfl) ?_
      refine lv_dup hx hb dX7_clause_16 rfl ?_
      refine va_get (D := D) (ci := 7) (v := .int (nI max_2)) (C := RX7) (T := TX7) (N := 21) hx hb hts iX7 hown hK hP 3 rfl rfl 3 (by decide) f64 (fun _ h9 => h9) rfl dX7_clause_17 ?_
      refine lv_iconst (v := 1) hx hb dX7_clause_20 (by decide) ?_
      refine lv_iadd hx hb dX7_clause_21 ?_
      refine lv_eqi (y := (nI (max_2 + 1))) (nI_add (max_2) (1)) ?_
      refine va_put (D := D) (ci := 7) (v := .int (nI (max_2 + 1))) (ty := .int) (C := RX7) (T := TX7) (N := 21) hx hb hts iX7 tyX7 tyX7_ok nmX7 hown hK hP hD hS 3 rfl rfl 3 (by decide) f64 (fun _ h9 => h9) rfl (by decide +kernel) (rfl) (rfl) (Nat.le_of_ble_eq_true rfl) dX7_clause_22 (fun H locs hP2 hD2 hS2 => ?_)
      clear hP hD hS
      have hPD : PD D A [(Mrr, .inl (g 0, 3, .inl frr)), (Mrh, .inl (g 0, 9, .inl frh)), (Mrc, .inl (g 0, 9, .inl frc)), (Mm, .inr (7, [.int zth, .ref Mt, .int (nI tp), .int (nI (max_2 + 1)), .int zwr, .ref Mrr, .ref Mrh, .ref Mrc, .int (nI rh), .int (nI rc), .ref Mn, .ref Mf, .ref Mr, .ref Mh, .int zhp, .int zcc, .ref Ma, .ref Mas, .ref Msn, .ref Mac, .ref Mat])), (Mt, .inl (g 0, 160, .inl fmt))] H := ⟨hP2, hD2⟩
      have hS := hS2; clear hP2 hD2 hS2; have hP := hPD.1; have hD := hPD.2; clear hPD
      refine lv_aload_n hx hb dX7_clause_25 rfl (lv_at hl 1 rfl) ?_
      refine lv_iconst (v := 0) hx hb dX7_clause_26 (by decide) ?_
      refine lv_aload_n hx hb dX7_clause_27 rfl (lv_at hl 1 rfl) ?_
      refine va_get (D := D) (ci := 7) (v := .ref Mrr) (C := RX7) (T := TX7) (N := 21) hx hb hts iX7 hown hK hP 3 rfl rfl 5 (by decide) f13 (fun _ h9 => h9) rfl dX7_clause_28 ?_
      refine lv_iconst (v := 0) hx hb dX7_clause_31 (by decide) ?_
      refine ky_Vv (As := [.int 0, .ref Mrr, .int 0]) (rest := []) ⟨hx, hb, hml, hown, hts⟩ ⟨hK, hN⟩ hZ hP hD hS hA [3, 4, 0] [1, 2] (wc := [(Mm, .inr (7, [.int zth, .ref Mt, .int (nI tp), .int (nI (max_2 + 1)), .int zwr, .ref Mrr, .ref Mrh, .ref Mrc, .int (nI rh), .int (nI rc), .ref Mn, .ref Mf, .ref Mr, .ref Mh, .int zhp, .int zcc, .ref Ma, .ref Mas, .ref Msn, .ref Mac, .ref Mat])), (Mt, .inl (g 0, 160, .inl fmt)), (Mrr, .inl (g 0, 3, .inl frr))]) (wr := [(Mrh, .inl (g 0, 9, .inl frh)), (Mrc, .inl (g 0, 9, .inl frc))]) rfl rfl rfl rfl (by decide) (k_X7_items_0 l D g H.size Mm Mrr zth Mt tp (max_2 + 1) zwr Mrh Mrc rh rc Mn Mf Mr Mh zhp zcc Ma Mas Msn Mac Mat fmt frr (show tp ≤ 160 by omega) (show (max_2 + 1) ≤ tp by omega) (h4)) (cwV 3 hts gX7_clause_X7_items rfl rfl rfl (by decide +kernel) ⟨(Nat.le_of_ble_eq_true rfl), (Nat.le_of_ble_eq_true rfl)⟩) 3 7 rfl rfl rfl rfl hl.1 rfl (Nat.le_of_ble_eq_true rfl) dX7_clause_32 ⟨(Nat.le_of_ble_eq_true rfl), (Nat.le_of_ble_eq_true rfl)⟩ (fun u H locs hw hP2 hD2 hS2 => ?_)
      clear hP hD hS
      obtain ⟨max_46, zwrx_47, frrx_48, rfl, hf_49, hf_50, hf_51⟩ := hw
      have hPD : PD D A [(Mrh, .inl (g 0, 9, .inl frh)), (Mrc, .inl (g 0, 9, .inl frc)), (Mm, .inr (7, [.int zth, .ref Mt, .int (nI tp), .int (nI max_46), .int zwrx_47, .ref Mrr, .ref Mrh, .ref Mrc, .int (nI rh), .int (nI rc), .ref Mn, .ref Mf, .ref Mr, .ref Mh, .int zhp, .int zcc, .ref Ma, .ref Mas, .ref Msn, .ref Mac, .ref Mat])), (Mt, .inl (g 0, 160, .inl fmt)), (Mrr, .inl (g 0, 3, .inl frrx_48))] H := ⟨hP2, hD2⟩
      have hS := hS2; clear hP2 hD2 hS2; have hP := hPD.1; have hD := hPD.2; clear hPD
      refine W.widen (k := 0) (n := 0) (Nat.le_of_ble_eq_true rfl) (Nat.le_of_ble_eq_true rfl) ?_
      refine lv_goto (tgt := 146) hx hb dX7_clause_35 (by decide) ?_
      have hPD9 : PD D A [(Mm, .inr (7, [.int zth, .ref Mt, .int (nI tp), .int (nI max_46), .int zwrx_47, .ref Mrr, .ref Mrh, .ref Mrc, .int (nI rh), .int (nI rc), .ref Mn, .ref Mf, .ref Mr, .ref Mh, .int zhp, .int zcc, .ref Ma, .ref Mas, .ref Msn, .ref Mac, .ref Mat])), (Mt, .inl (g 0, 160, .inl fmt)), (Mrr, .inl (g 0, 3, .inl frrx_48)), (Mrh, .inl (g 0, 9, .inl frh)), (Mrc, .inl (g 0, 9, .inl frc))] H := ⟨hP.sub [2, 3, 4, 0, 1] rfl, hD.sub [2, 3, 4, 0, 1] (by decide) rfl⟩
      have hP9 := hPD9.1; have hD9 := hPD9.2
      subst hQ
      refine W.widen (k := 0) (n := 0) (Nat.le_of_ble_eq_true rfl) (Nat.le_of_ble_eq_true rfl) ?_
      exact W.vret hx hb hr (fun tS htS _ => ⟨⟨_, rfl, ⟨max_46, zwrx_47, rh, rc, frrx_48, frh, frc, rfl, ⟨(hf_49), (h5), (h6), (show max_46 ≤ tp by omega), (show ma ≤ max_46 by omega), (show rh ≤ 3 by omega), (show rc ≤ 3 by omega)⟩⟩, by rw [htS]; exact hP9, hD9⟩, hS.F htS⟩) hS.2.2 dX7_clause_146

set_option maxHeartbeats 4000000 in
set_option maxRecDepth 100000 in
theorem k_X7_readNet (l : Launch) (D : va_G) (g : Nat → ClassId) (sz : Nat) (Mm : Nat) (zth : Int32) (Mt : Nat) (tp : Nat) (zma : Int32) (zwr : Int32) (Mrr : Nat) (Mrh : Nat) (Mrc : Nat) (zrh : Int32) (zrc : Int32) (Mn : Nat) (Mf : Nat) (Mr : Nat) (Mh : Nat) (zhp : Int32) (zcc : Int32) (Ma : Nat) (Mas : Nat) (Msn : Nat) (Mac : Nat) (Mat : Nat) (fmt : Nat → Int32) (frr : Nat → Int32) (frh : Nat → Int32) (frc : Nat → Int32) (h0 : tp ≤ 160) (h1 : n1 frr) (h2 : n1 frh) (h3 : n1 frc) : Met l yX7_readNet wsX7_readNet ({ frames := 5, cells := 0, slots := 0, locals := 111 }) (va_Pc [.ref Mm] (pre D g sz [(Mm, .inr (7, [.int zth, .ref Mt, .int (nI tp), .int zma, .int zwr, .ref Mrr, .ref Mrh, .ref Mrc, .int zrh, .int zrc, .ref Mn, .ref Mf, .ref Mr, .ref Mh, .int zhp, .int zcc, .ref Ma, .ref Mas, .ref Msn, .ref Mac, .ref Mat])), (Mt, .inl (g 0, 160, .inl fmt)), (Mrr, .inl (g 0, 3, .inl frr)), (Mrh, .inl (g 0, 9, .inl frh)), (Mrc, .inl (g 0, 9, .inl frc))])) (va_Qi (fun (r : Int32) (u : va_W) => ∃ (zmax : Int32) (zwrx : Int32) (rhx : Nat) (rcx : Nat) (frrx : Nat → Int32) (frhx : Nat → Int32) (frcx : Nat → Int32), u = [(Mm, .inr (7, [.int zth, .ref Mt, .int (nI tp), .int zmax, .int zwrx, .ref Mrr, .ref Mrh, .ref Mrc, .int (nI rhx), .int (nI rcx), .ref Mn, .ref Mf, .ref Mr, .ref Mh, .int zhp, .int zcc, .ref Ma, .ref Mas, .ref Msn, .ref Mac, .ref Mat])), (Mt, .inl (g 0, 160, .inl fmt)), (Mrr, .inl (g 0, 3, .inl frrx)), (Mrh, .inl (g 0, 9, .inl frhx)), (Mrc, .inl (g 0, 9, .inl frcx))] ∧ ((n1 frrx) ∧ (n1 frhx) ∧ (n1 frcx) ∧ (rhx ≤ 3) ∧ (rcx ≤ 3))) (wd D (va_A [(Mm, .inr (7, [.int zth, .ref Mt, .int (nI tp), .int zma, .int zwr, .ref Mrr, .ref Mrh, .ref Mrc, .int zrh, .int zrc, .ref Mn, .ref Mf, .ref Mr, .ref Mh, .int zhp, .int zcc, .ref Ma, .ref Mas, .ref Msn, .ref Mac, .ref Mat])), (Mt, .inl (g 0, 160, .inl fmt)), (Mrr, .inl (g 0, 3, .inl frr)), (Mrh, .inl (g 0, 9, .inl frh)), (Mrc, .inl (g 0, 9, .inl frc))] sz)) (va_A [(Mm, .inr (7, [.int zth, .ref Mt, .int (nI tp), .int zma, .int zwr, .ref Mrr, .ref Mrh, .ref Mrc, .int zrh, .int zrc, .ref Mn, .ref Mf, .ref Mr, .ref Mh, .int zhp, .int zcc, .ref Ma, .ref Mas, .ref Msn, .ref Mac, .ref Mat])), (Mt, .inl (g 0, 160, .inl fmt)), (Mrr, .inl (g 0, 3, .inl frr)), (Mrh, .inl (g 0, 9, .inl frh)), (Mrc, .inl (g 0, 9, .inl frc))] sz)) 0 0 (va_A [(Mm, .inr (7, [.int zth, .ref Mt, .int (nI tp), .int zma, .int zwr, .ref Mrr, .ref Mrh, .ref Mrc, .int zrh, .int zrc, .ref Mn, .ref Mf, .ref Mr, .ref Mh, .int zhp, .int zcc, .ref Ma, .ref Mas, .ref Msn, .ref Mac, .ref Mat])), (Mt, .inl (g 0, 160, .inl fmt)), (Mrr, .inl (g 0, 3, .inl frr)), (Mrh, .inl (g 0, 9, .inl frh)), (Mrc, .inl (g 0, 9, .inl frc))] sz) := by
  refine Met.ofW (cc := cX7_readNet) (maxL := 3) (ret := (some .int)) (by decide) rfl ?_
  intro p e s m args below meth c s₁ B hml hv
  obtain ⟨rfl, hsz, hP, ⟨hK, hN⟩, hD0, hZ⟩ := hv
  have hx := B.exec
  have hb := B.bytes
  have hr := B.returns
  have hts := atoms_spec (ws := wsX7_readNet) B.pre
  have hown : s.vm.findClass RX7 = some m.cls := findClass_of_methodNamed B.named
  have hlocks := B.notSynchronized
  clear B
  subst hsz
  have hD := hD0.self (sz := s.heap.size)
  clear hD0
  generalize hAe : va_A [(Mm, .inr (7, [.int zth, .ref Mt, .int (nI tp), .int zma, .int zwr, .ref Mrr, .ref Mrh, .ref Mrc, .int zrh, .int zrc, .ref Mn, .ref Mf, .ref Mr, .ref Mh, .int zhp, .int zcc, .ref Ma, .ref Mas, .ref Msn, .ref Mac, .ref Mat])), (Mt, .inl (g 0, 160, .inl fmt)), (Mrr, .inl (g 0, 3, .inl frr)), (Mrh, .inl (g 0, 9, .inl frh)), (Mrc, .inl (g 0, 9, .inl frc))] s.heap.size = A at hD hZ ⊢
  have hA : ∀ q : Nat, s.heap.size ≤ q → A q := fun q h => by rw [← hAe]; exact Or.inr h
  have hS : va_S A s.heap s.heap [] := va_S.rf
  have f111 := hts (.fieldLink RX7 111 "HopCreditsModel" "readHops" "I") (List.mem_of_getElem? (i := 3) rfl)
  have f114 := hts (.fieldLink RX7 114 "HopCreditsModel" "readCircuits" "I") (List.mem_of_getElem? (i := 4) rfl)
  have f13 := hts (.fieldLink RX7 13 "HopCreditsModel" "readRule" "[I") (List.mem_of_getElem? (i := 5) rfl)
  have f64 := hts (.fieldLink RX7 64 "HopCreditsModel" "at" "I") (List.mem_of_getElem? (i := 1) rfl)
  have f71 := hts (.fieldLink RX7 71 "HopCreditsModel" "wrong" "I") (List.mem_of_getElem? (i := 2) rfl)
  have iX7 : ∀ w ∈ u_ws RX7 TX7 21, w ∈ wsX7_readNet := fun w h => List.mem_cons_of_mem _ (List.mem_append_right _ (h))
  have hl := lv_entry ([.ref Mm]) (n := 3) (Nat.le_of_ble_eq_true rfl)
  rw [lg_entry_eq]
  generalize (lg_sl ([.ref Mm]) ++ List.replicate (3 - (lg_sl ([.ref Mm])).length) Slot.unset).toArray = ls at hl ⊢
  have hl : lv_has ls 3 [(0, .ref Mm)] := hl
  generalize hQ : MQ below _ _ s _ _ _ = Q
  generalize hH : s.heap = H at hP ⊢
  have hS : va_S A s.heap H [] := by rw [← hH]; exact hS
  clear hH
  refine lv_aload_n hx hb dX7_readNet_0 rfl (lv_at hl 0 rfl) ?_
  refine lv_iconst (v := 0) hx hb dX7_readNet_1 (by decide) ?_
  refine va_put (D := D) (ci := 7) (v := .int 0) (ty := .int) (C := RX7) (T := TX7) (N := 21) hx hb hts iX7 tyX7 tyX7_ok nmX7 hown hK hP hD hS 0 rfl rfl 3 (by decide) f64 (fun _ h9 => h9) rfl (by decide +kernel) (rfl) (rfl) (Nat.le_of_ble_eq_true rfl) dX7_readNet_2 (fun H locs hP2 hD2 hS2 => ?_)
  clear hP hD hS
  have hPD : PD D A [(Mm, .inr (7, [.int zth, .ref Mt, .int (nI tp), .int 0, .int zwr, .ref Mrr, .ref Mrh, .ref Mrc, .int zrh, .int zrc, .ref Mn, .ref Mf, .ref Mr, .ref Mh, .int zhp, .int zcc, .ref Ma, .ref Mas, .ref Msn, .ref Mac, .ref Mat])), (Mt, .inl (g 0, 160, .inl fmt)), (Mrr, .inl (g 0, 3, .inl frr)), (Mrh, .inl (g 0, 9, .inl frh)), (Mrc, .inl (g 0, 9, .inl frc))] H := ⟨hP2, hD2⟩
  have hS := hS2; clear hP2 hD2 hS2; have hP := hPD.1; have hD := hPD.2; clear hPD
  refine lv_aload_n hx hb dX7_readNet_5 rfl (lv_at hl 0 rfl) ?_
  refine lv_iconst (v := (-1)) hx hb dX7_readNet_6 (by decide) ?_
  refine va_put (D := D) (ci := 7) (v := .int (-1)) (ty := .int) (C := RX7) (T := TX7) (N := 21) hx hb hts iX7 tyX7 tyX7_ok nmX7 hown hK hP hD hS 0 rfl rfl 4 (by decide) f71 (fun _ h9 => h9) rfl (by decide +kernel) (rfl) (rfl) (Nat.le_of_ble_eq_true rfl) dX7_readNet_7 (fun H locs hP2 hD2 hS2 => ?_)
  clear hP hD hS
  have hPD : PD D A [(Mm, .inr (7, [.int zth, .ref Mt, .int (nI tp), .int 0, .int (-1), .ref Mrr, .ref Mrh, .ref Mrc, .int zrh, .int zrc, .ref Mn, .ref Mf, .ref Mr, .ref Mh, .int zhp, .int zcc, .ref Ma, .ref Mas, .ref Msn, .ref Mac, .ref Mat])), (Mt, .inl (g 0, 160, .inl fmt)), (Mrr, .inl (g 0, 3, .inl frr)), (Mrh, .inl (g 0, 9, .inl frh)), (Mrc, .inl (g 0, 9, .inl frc))] H := ⟨hP2, hD2⟩
  have hS := hS2; clear hP2 hD2 hS2; have hP := hPD.1; have hD := hPD.2; clear hPD
  refine lv_aload_n hx hb dX7_readNet_10 rfl (lv_at hl 0 rfl) ?_
  refine lv_iconst (v := 0) hx hb dX7_readNet_11 (by decide) ?_
  refine va_put (D := D) (ci := 7) (v := .int 0) (ty := .int) (C := RX7) (T := TX7) (N := 21) hx hb hts iX7 tyX7 tyX7_ok nmX7 hown hK hP hD hS 0 rfl rfl 8 (by decide) f111 (fun _ h9 => h9) rfl (by decide +kernel) (rfl) (rfl) (Nat.le_of_ble_eq_true rfl) dX7_readNet_12 (fun H locs hP2 hD2 hS2 => ?_)
  clear hP hD hS
  have hPD : PD D A [(Mm, .inr (7, [.int zth, .ref Mt, .int (nI tp), .int 0, .int (-1), .ref Mrr, .ref Mrh, .ref Mrc, .int 0, .int zrc, .ref Mn, .ref Mf, .ref Mr, .ref Mh, .int zhp, .int zcc, .ref Ma, .ref Mas, .ref Msn, .ref Mac, .ref Mat])), (Mt, .inl (g 0, 160, .inl fmt)), (Mrr, .inl (g 0, 3, .inl frr)), (Mrh, .inl (g 0, 9, .inl frh)), (Mrc, .inl (g 0, 9, .inl frc))] H := ⟨hP2, hD2⟩
  have hS := hS2; clear hP2 hD2 hS2; have hP := hPD.1; have hD := hPD.2; clear hPD
  refine lv_aload_n hx hb dX7_readNet_15 rfl (lv_at hl 0 rfl) ?_
  refine lv_iconst (v := 0) hx hb dX7_readNet_16 (by decide) ?_
  refine va_put (D := D) (ci := 7) (v := .int 0) (ty := .int) (C := RX7) (T := TX7) (N := 21) hx hb hts iX7 tyX7 tyX7_ok nmX7 hown hK hP hD hS 0 rfl rfl 9 (by decide) f114 (fun _ h9 => h9) rfl (by decide +kernel) (rfl) (rfl) (Nat.le_of_ble_eq_true rfl) dX7_readNet_17 (fun H locs hP2 hD2 hS2 => ?_)
  clear hP hD hS
  have hPD : PD D A [(Mm, .inr (7, [.int zth, .ref Mt, .int (nI tp), .int 0, .int (-1), .ref Mrr, .ref Mrh, .ref Mrc, .int 0, .int 0, .ref Mn, .ref Mf, .ref Mr, .ref Mh, .int zhp, .int zcc, .ref Ma, .ref Mas, .ref Msn, .ref Mac, .ref Mat])), (Mt, .inl (g 0, 160, .inl fmt)), (Mrr, .inl (g 0, 3, .inl frr)), (Mrh, .inl (g 0, 9, .inl frh)), (Mrc, .inl (g 0, 9, .inl frc))] H := ⟨hP2, hD2⟩
  have hS := hS2; clear hP2 hD2 hS2; have hP := hPD.1; have hD := hPD.2; clear hPD
  refine lv_aload_n hx hb dX7_readNet_20 rfl (lv_at hl 0 rfl) ?_
  refine lv_iconst (v := 0) hx hb dX7_readNet_21 (by decide) ?_
  refine lv_aload_n hx hb dX7_readNet_22 rfl (lv_at hl 0 rfl) ?_
  refine va_get (D := D) (ci := 7) (v := .ref Mrr) (C := RX7) (T := TX7) (N := 21) hx hb hts iX7 hown hK hP 0 rfl rfl 5 (by decide) f13 (fun _ h9 => h9) rfl dX7_readNet_23 ?_
  refine lv_iconst (v := 0) hx hb dX7_readNet_26 (by decide) ?_
  refine ky_Vv (As := [.int 0, .ref Mrr, .int 0]) (rest := []) ⟨hx, hb, hml, hown, hts⟩ ⟨hK, hN⟩ hZ hP hD hS hA [0, 2] [1, 3, 4] (wc := [(Mm, .inr (7, [.int zth, .ref Mt, .int (nI tp), .int 0, .int (-1), .ref Mrr, .ref Mrh, .ref Mrc, .int 0, .int 0, .ref Mn, .ref Mf, .ref Mr, .ref Mh, .int zhp, .int zcc, .ref Ma, .ref Mas, .ref Msn, .ref Mac, .ref Mat])), (Mrr, .inl (g 0, 3, .inl frr))]) (wr := [(Mt, .inl (g 0, 160, .inl fmt)), (Mrh, .inl (g 0, 9, .inl frh)), (Mrc, .inl (g 0, 9, .inl frc))]) rfl rfl rfl rfl (by decide) (k_X7_laysUsual_0 l D g H.size Mm Mrr zth Mt (nI tp) 0 (-1) Mrh Mrc 0 0 Mn Mf Mr Mh zhp zcc Ma Mas Msn Mac Mat frr (h1)) (cwV 3 hts gX7_readNet_X7_laysUsual rfl rfl rfl (by decide +kernel) ⟨(Nat.le_of_ble_eq_true rfl), (Nat.le_of_ble_eq_true rfl)⟩) 0 7 rfl rfl rfl rfl hl.1 rfl (Nat.le_of_ble_eq_true rfl) dX7_readNet_27 ⟨(Nat.le_of_ble_eq_true rfl), (Nat.le_of_ble_eq_true rfl)⟩ (fun u H locs hw hP2 hD2 hS2 => ?_)
  clear hP hD hS
  obtain ⟨frrx_2, rfl, hf_3⟩ := hw
  have hPD : PD D A [(Mt, .inl (g 0, 160, .inl fmt)), (Mrh, .inl (g 0, 9, .inl frh)), (Mrc, .inl (g 0, 9, .inl frc)), (Mm, .inr (7, [.int zth, .ref Mt, .int (nI tp), .int 0, .int (-1), .ref Mrr, .ref Mrh, .ref Mrc, .int 0, .int 0, .ref Mn, .ref Mf, .ref Mr, .ref Mh, .int zhp, .int zcc, .ref Ma, .ref Mas, .ref Msn, .ref Mac, .ref Mat])), (Mrr, .inl (g 0, 3, .inl frrx_2))] H := ⟨hP2, hD2⟩
  have hS := hS2; clear hP2 hD2 hS2; have hP := hPD.1; have hD := hPD.2; clear hPD
  refine W.widen (k := 0) (n := 0) (Nat.le_of_ble_eq_true rfl) (Nat.le_of_ble_eq_true rfl) ?_
  refine lv_iconst (v := 1) hx hb dX7_readNet_30 (by decide) ?_
  refine lv_istore_n (lv' := [(1, .int 1), (0, .ref Mm)]) hx hb dX7_readNet_31 rfl hl (by decide) rfl (fun ls hl => ?_)
  refine lv_iconst (v := 1) hx hb dX7_readNet_32 (by decide) ?_
  refine lv_istore_n (lv' := [(2, .int 1), (1, .int 1), (0, .ref Mm)]) hx hb dX7_readNet_33 rfl hl (by decide) rfl (fun ls hl => ?_)
  have loop_66 : ∀ (Nloop_66 : Nat) (i_27 : Nat) (i_28 : Int32) (z_29 : Nat) (z_30 : Int32) (z_31 : Nat) (z_32 : Nat) (F_33 : Nat → Int32) (F_34 : Nat → Int32) (F_35 : Nat → Int32) (hi_28 : zb i_28) (hF_33 : n1 F_33) (hF_34 : n1 F_34) (hF_35 : n1 F_35) (hv_62 : z_29 ≤ tp) (hv_63 : z_31 ≤ 3) (hv_64 : z_32 ≤ 3) (hv_65 : i_27 ≤ 1) (hmloop_66 : 2 * (tp - z_29) + i_27 < Nloop_66) (H : Heap) (locs : List Loc) (ls : Array Slot), va_P D vwCl [(Mt, .inl (g 0, 160, .inl fmt)), (Mrh, .inl (g 0, 9, .inl F_34)), (Mrc, .inl (g 0, 9, .inl F_35)), (Mm, .inr (7, [.int zth, .ref Mt, .int (nI tp), .int (nI z_29), .int z_30, .ref Mrr, .ref Mrh, .ref Mrc, .int (nI z_31), .int (nI z_32), .ref Mn, .ref Mf, .ref Mr, .ref Mh, .int zhp, .int zcc, .ref Ma, .ref Mas, .ref Msn, .ref Mac, .ref Mat])), (Mrr, .inl (g 0, 3, .inl F_33))] H → va_D A [(Mt, .inl (g 0, 160, .inl fmt)), (Mrh, .inl (g 0, 9, .inl F_34)), (Mrc, .inl (g 0, 9, .inl F_35)), (Mm, .inr (7, [.int zth, .ref Mt, .int (nI tp), .int (nI z_29), .int z_30, .ref Mrr, .ref Mrh, .ref Mrc, .int (nI z_31), .int (nI z_32), .ref Mn, .ref Mf, .ref Mr, .ref Mh, .int zhp, .int zcc, .ref Ma, .ref Mas, .ref Msn, .ref Mac, .ref Mat])), (Mrr, .inl (g 0, 3, .inl F_33))] → va_S A s.heap H locs → lv_has ls 3 [(2, .int (nI i_27)), (1, .int i_28), (0, .ref Mm)] → W p l e (headSpec wsX7_readNet ({ frames := 5, cells := 0, slots := 0, locals := 111 })).room s m ([.ref Mm] : List Value).toArray below meth c H locs 0 0 Q (F0 m 34 ls []) := by
    clear hP hD hS hl
    intro Nloop_66
    induction Nloop_66 with
    | zero => intro i_27 i_28 z_29 z_30 z_31 z_32 F_33 F_34 F_35 hi_28 hF_33 hF_34 hF_35 hv_62 hv_63 hv_64 hv_65 hm9; exact absurd hm9 (Nat.not_lt_zero _)
    | succ Nloop_66 loop_66_ih =>
      intro i_27 i_28 z_29 z_30 z_31 z_32 F_33 F_34 F_35 hi_28 hF_33 hF_34 hF_35 hv_62 hv_63 hv_64 hv_65 hmloop_66 H locs ls hP hD hS hl
      refine lv_iload_n hx hb dX7_readNet_34 rfl (lv_at hl 0 rfl) ?_
      refine lv_if_eq (tgt := 89) hx hb dX7_readNet_35 (by decide) (fun cb_67 => ?_) (fun cb_67 => ?_)
      · skip
        have cn_68 : i_27 = 0 := (nI_eq (show i_27 < 2 ^ 31 by omega) (show 0 < 2 ^ 31 by omega)).mp cb_67
        refine lv_aload_n hx hb dX7_readNet_89 rfl (lv_at hl 2 rfl) ?_
        refine va_get (D := D) (ci := 7) (v := .int z_30) (C := RX7) (T := TX7) (N := 21) hx hb hts iX7 hown hK hP 3 rfl rfl 4 (by decide) f71 (fun _ h9 => h9) rfl dX7_readNet_90 ?_
        refine lv_iconst (v := (-1)) hx hb dX7_readNet_93 (by decide) ?_
        refine lv_icmp_ne (tgt := 109) hx hb dX7_readNet_94 (by decide) (fun cb_69 => ?_) (fun cb_69 => ?_)
        · skip
          refine lv_aload_n hx hb dX7_readNet_109 rfl (lv_at hl 2 rfl) ?_
          refine va_get (D := D) (ci := 7) (v := .int z_30) (C := RX7) (T := TX7) (N := 21) hx hb hts iX7 hown hK hP 3 rfl rfl 4 (by decide) f71 (fun _ h9 => h9) rfl dX7_readNet_110 ?_
          have hPD9 : PD D A [(Mm, .inr (7, [.int zth, .ref Mt, .int (nI tp), .int (nI z_29), .int z_30, .ref Mrr, .ref Mrh, .ref Mrc, .int (nI z_31), .int (nI z_32), .ref Mn, .ref Mf, .ref Mr, .ref Mh, .int zhp, .int zcc, .ref Ma, .ref Mas, .ref Msn, .ref Mac, .ref Mat])), (Mt, .inl (g 0, 160, .inl fmt)), (Mrr, .inl (g 0, 3, .inl F_33)), (Mrh, .inl (g 0, 9, .inl F_34)), (Mrc, .inl (g 0, 9, .inl F_35))] H := ⟨hP.sub [3, 0, 4, 1, 2] rfl, hD.sub [3, 0, 4, 1, 2] (by decide) rfl⟩
          have hP9 := hPD9.1; have hD9 := hPD9.2
          subst hQ
          refine W.widen (k := 0) (n := 0) (Nat.le_of_ble_eq_true rfl) (Nat.le_of_ble_eq_true rfl) ?_
          exact W.iret (v := z_30) hx hb hr (fun tS htS _ => ⟨⟨_, _, rfl, ⟨(nI z_29), z_30, z_31, z_32, F_33, F_34, F_35, rfl, ⟨(hF_33), (hF_34), (hF_35), (show z_31 ≤ 3 by omega), (show z_32 ≤ 3 by omega)⟩⟩, by rw [htS]; exact hP9, hD9⟩, hS.F htS⟩) hS.2.2 dX7_readNet_113
        · skip
          have hPq_70 := hP; have hDq_70 := hD; have hSq_70 := hS; have hlq_70 := hl; clear hP hD hS hl
          subst cb_69
          have hP := hPq_70; have hD := hDq_70; have hS := hSq_70; have hl := hlq_70; clear hPq_70 hDq_70 hSq_70 hlq_70
          refine lv_aload_n hx hb dX7_readNet_97 rfl (lv_at hl 2 rfl) ?_
          refine ky_Vi (As := []) (rest := []) ⟨hx, hb, hml, hown, hts⟩ ⟨hK, hN⟩ hZ hP hD hS hA [3, 0] [1, 2, 4] (wc := [(Mm, .inr (7, [.int zth, .ref Mt, .int (nI tp), .int (nI z_29), .int (-1), .ref Mrr, .ref Mrh, .ref Mrc, .int (nI z_31), .int (nI z_32), .ref Mn, .ref Mf, .ref Mr, .ref Mh, .int zhp, .int zcc, .ref Ma, .ref Mas, .ref Msn, .ref Mac, .ref Mat])), (Mt, .inl (g 0, 160, .inl fmt))]) (wr := [(Mrh, .inl (g 0, 9, .inl F_34)), (Mrc, .inl (g 0, 9, .inl F_35)), (Mrr, .inl (g 0, 3, .inl F_33))]) rfl rfl rfl rfl (by decide) (k_X7_ahead l D g H.size Mm zth Mt tp z_29 (-1) Mrr Mrh Mrc z_31 z_32 Mn Mf Mr Mh zhp zcc Ma Mas Msn Mac Mat fmt (show tp ≤ 160 by omega) (show z_29 ≤ tp by omega)) (cwV 0 hts gX7_readNet_X7_ahead rfl rfl rfl (by decide +kernel) ⟨(Nat.le_of_ble_eq_true rfl), (Nat.le_of_ble_eq_true rfl)⟩) 3 7 rfl rfl rfl rfl hl.1 rfl (Nat.le_of_ble_eq_true rfl) dX7_readNet_98 ⟨(Nat.le_of_ble_eq_true rfl), (Nat.le_of_ble_eq_true rfl)⟩ (fun r_71 u H locs hw hP2 hD2 hS2 => ?_)
          clear hP hD hS
          obtain ⟨max_72, rfl, rfl, hf_73, hf_74⟩ := hw
          have hPD : PD D A [(Mrh, .inl (g 0, 9, .inl F_34)), (Mrc, .inl (g 0, 9, .inl F_35)), (Mrr, .inl (g 0, 3, .inl F_33)), (Mm, .inr (7, [.int zth, .ref Mt, .int (nI tp), .int (nI max_72), .int (-1), .ref Mrr, .ref Mrh, .ref Mrc, .int (nI z_31), .int (nI z_32), .ref Mn, .ref Mf, .ref Mr, .ref Mh, .int zhp, .int zcc, .ref Ma, .ref Mas, .ref Msn, .ref Mac, .ref Mat])), (Mt, .inl (g 0, 160, .inl fmt))] H := ⟨hP2, hD2⟩
          have hS := hS2; clear hP2 hD2 hS2; have hP := hPD.1; have hD := hPD.2; clear hPD
          refine W.widen (k := 0) (n := 0) (Nat.le_of_ble_eq_true rfl) (Nat.le_of_ble_eq_true rfl) ?_
          refine lv_topi (fun y_75 hey_75 => ?_)
          refine lv_iconst (v := (-1)) hx hb dX7_readNet_101 (by decide) ?_
          refine lv_icmp_eq (tgt := 109) hx hb dX7_readNet_102 (by decide) (fun cb_76 => ?_) (fun cb_76 => ?_)
          · skip
            have hPq_77 := hP; have hDq_77 := hD; have hSq_77 := hS; have hlq_77 := hl; clear hP hD hS hl
            subst cb_76
            have hP := hPq_77; have hD := hDq_77; have hS := hSq_77; have hl := hlq_77; clear hPq_77 hDq_77 hSq_77 hlq_77
            refine lv_aload_n hx hb dX7_readNet_109 rfl (lv_at hl 2 rfl) ?_
            refine va_get (D := D) (ci := 7) (v := .int (-1)) (C := RX7) (T := TX7) (N := 21) hx hb hts iX7 hown hK hP 3 rfl rfl 4 (by decide) f71 (fun _ h9 => h9) rfl dX7_readNet_110 ?_
            have hPD9 : PD D A [(Mm, .inr (7, [.int zth, .ref Mt, .int (nI tp), .int (nI max_72), .int (-1), .ref Mrr, .ref Mrh, .ref Mrc, .int (nI z_31), .int (nI z_32), .ref Mn, .ref Mf, .ref Mr, .ref Mh, .int zhp, .int zcc, .ref Ma, .ref Mas, .ref Msn, .ref Mac, .ref Mat])), (Mt, .inl (g 0, 160, .inl fmt)), (Mrr, .inl (g 0, 3, .inl F_33)), (Mrh, .inl (g 0, 9, .inl F_34)), (Mrc, .inl (g 0, 9, .inl F_35))] H := ⟨hP.sub [3, 4, 2, 0, 1] rfl, hD.sub [3, 4, 2, 0, 1] (by decide) rfl⟩
            have hP9 := hPD9.1; have hD9 := hPD9.2
            subst hQ
            refine W.widen (k := 0) (n := 0) (Nat.le_of_ble_eq_true rfl) (Nat.le_of_ble_eq_true rfl) ?_
            exact W.iret (v := (-1)) hx hb hr (fun tS htS _ => ⟨⟨_, _, rfl, ⟨(nI max_72), (-1), z_31, z_32, F_33, F_34, F_35, rfl, ⟨(hF_33), (hF_34), (hF_35), (show z_31 ≤ 3 by omega), (show z_32 ≤ 3 by omega)⟩⟩, by rw [htS]; exact hP9, hD9⟩, hS.F htS⟩) hS.2.2 dX7_readNet_113
          · skip
            have hq_78 : max_72 < tp := (fun q9 => here_lt hey_75 q9) cb_76
            refine lv_aload_n hx hb dX7_readNet_105 rfl (lv_at hl 2 rfl) ?_
            refine ky_Vv (As := []) (rest := []) ⟨hx, hb, hml, hown, hts⟩ ⟨hK, hN⟩ hZ hP hD hS hA [3] [0, 1, 2, 4] (wc := [(Mm, .inr (7, [.int zth, .ref Mt, .int (nI tp), .int (nI max_72), .int (-1), .ref Mrr, .ref Mrh, .ref Mrc, .int (nI z_31), .int (nI z_32), .ref Mn, .ref Mf, .ref Mr, .ref Mh, .int zhp, .int zcc, .ref Ma, .ref Mas, .ref Msn, .ref Mac, .ref Mat]))]) (wr := [(Mrh, .inl (g 0, 9, .inl F_34)), (Mrc, .inl (g 0, 9, .inl F_35)), (Mrr, .inl (g 0, 3, .inl F_33)), (Mt, .inl (g 0, 160, .inl fmt))]) rfl rfl rfl rfl (by decide) (k_X7_bad l D g H.size Mm zth Mt tp max_72 (-1) Mrr Mrh Mrc z_31 z_32 Mn Mf Mr Mh zhp zcc Ma Mas Msn Mac Mat) (cwV 0 hts gX7_readNet_X7_bad rfl rfl rfl (by decide +kernel) ⟨(Nat.le_of_ble_eq_true rfl), (Nat.le_of_ble_eq_true rfl)⟩) 3 7 rfl rfl rfl rfl hl.1 rfl (Nat.le_of_ble_eq_true rfl) dX7_readNet_106 ⟨(Nat.le_of_ble_eq_true rfl), (Nat.le_of_ble_eq_true rfl)⟩ (fun u H locs hw hP2 hD2 hS2 => ?_)
            clear hP hD hS
            obtain ⟨zwrx_80, rfl⟩ := hw
            have hPD : PD D A [(Mrh, .inl (g 0, 9, .inl F_34)), (Mrc, .inl (g 0, 9, .inl F_35)), (Mrr, .inl (g 0, 3, .inl F_33)), (Mt, .inl (g 0, 160, .inl fmt)), (Mm, .inr (7, [.int zth, .ref Mt, .int (nI tp), .int (nI max_72), .int zwrx_80, .ref Mrr, .ref Mrh, .ref Mrc, .int (nI z_31), .int (nI z_32), .ref Mn, .ref Mf, .ref Mr, .ref Mh, .int zhp, .int zcc, .ref Ma, .ref Mas, .ref Msn, .ref Mac, .ref Mat]))] H := ⟨hP2, hD2⟩
            have hS := hS2; clear hP2 hD2 hS2; have hP := hPD.1; have hD := hPD.2; clear hPD
            refine W.widen (k := 0) (n := 0) (Nat.le_of_ble_eq_true rfl) (Nat.le_of_ble_eq_true rfl) ?_
            refine lv_aload_n hx hb dX7_readNet_109 rfl (lv_at hl 2 rfl) ?_
            refine va_get (D := D) (ci := 7) (v := .int zwrx_80) (C := RX7) (T := TX7) (N := 21) hx hb hts iX7 hown hK hP 4 rfl rfl 4 (by decide) f71 (fun _ h9 => h9) rfl dX7_readNet_110 ?_
            have hPD9 : PD D A [(Mm, .inr (7, [.int zth, .ref Mt, .int (nI tp), .int (nI max_72), .int zwrx_80, .ref Mrr, .ref Mrh, .ref Mrc, .int (nI z_31), .int (nI z_32), .ref Mn, .ref Mf, .ref Mr, .ref Mh, .int zhp, .int zcc, .ref Ma, .ref Mas, .ref Msn, .ref Mac, .ref Mat])), (Mt, .inl (g 0, 160, .inl fmt)), (Mrr, .inl (g 0, 3, .inl F_33)), (Mrh, .inl (g 0, 9, .inl F_34)), (Mrc, .inl (g 0, 9, .inl F_35))] H := ⟨hP.sub [4, 3, 2, 0, 1] rfl, hD.sub [4, 3, 2, 0, 1] (by decide) rfl⟩
            have hP9 := hPD9.1; have hD9 := hPD9.2
            subst hQ
            refine W.widen (k := 0) (n := 0) (Nat.le_of_ble_eq_true rfl) (Nat.le_of_ble_eq_true rfl) ?_
            exact W.iret (v := zwrx_80) hx hb hr (fun tS htS _ => ⟨⟨_, _, rfl, ⟨(nI max_72), zwrx_80, z_31, z_32, F_33, F_34, F_35, rfl, ⟨(hF_33), (hF_34), (hF_35), (show z_31 ≤ 3 by omega), (show z_32 ≤ 3 by omega)⟩⟩, by rw [htS]; exact hP9, hD9⟩, hS.F htS⟩) hS.2.2 dX7_readNet_113
      · skip
        have cn_81 : ¬ i_27 = 0 := fun q9 => cb_67 (congrArg nI q9)
        refine lv_aload_n hx hb dX7_readNet_38 rfl (lv_at hl 2 rfl) ?_
        refine lv_iload_n hx hb dX7_readNet_39 rfl (lv_at hl 1 rfl) ?_
        refine ky_Vv (As := [.int i_28]) (rest := []) ⟨hx, hb, hml, hown, hts⟩ ⟨hK, hN⟩ hZ hP hD hS hA [3, 0, 4, 1, 2] [] (wc := [(Mm, .inr (7, [.int zth, .ref Mt, .int (nI tp), .int (nI z_29), .int z_30, .ref Mrr, .ref Mrh, .ref Mrc, .int (nI z_31), .int (nI z_32), .ref Mn, .ref Mf, .ref Mr, .ref Mh, .int zhp, .int zcc, .ref Ma, .ref Mas, .ref Msn, .ref Mac, .ref Mat])), (Mt, .inl (g 0, 160, .inl fmt)), (Mrr, .inl (g 0, 3, .inl F_33)), (Mrh, .inl (g 0, 9, .inl F_34)), (Mrc, .inl (g 0, 9, .inl F_35))]) (wr := []) rfl rfl rfl rfl (by decide) (k_X7_clause l D g H.size Mm i_28 zth Mt tp z_29 z_30 Mrr Mrh Mrc z_31 z_32 Mn Mf Mr Mh zhp zcc Ma Mas Msn Mac Mat fmt F_33 F_34 F_35 (show tp ≤ 160 by omega) (show z_29 ≤ tp by omega) (show z_31 ≤ 3 by omega) (show z_32 ≤ 3 by omega) (hF_33) (hF_34) (hF_35)) (cwV 1 hts gX7_readNet_X7_clause rfl rfl rfl (by decide +kernel) ⟨(Nat.le_of_ble_eq_true rfl), (Nat.le_of_ble_eq_true rfl)⟩) 3 7 rfl rfl rfl rfl hl.1 rfl (Nat.le_of_ble_eq_true rfl) dX7_readNet_40 ⟨(Nat.le_of_ble_eq_true rfl), (Nat.le_of_ble_eq_true rfl)⟩ (fun u H locs hw hP2 hD2 hS2 => ?_)
        clear hP hD hS
        obtain ⟨max_83, zwrx_84, rhx_85, rcx_86, frrx_87, frhx_88, frcx_89, rfl, hf_90⟩ := hw
        have hg_91 := hf_90.2.2.2.1
        have hg_92 := hf_90.2.2.2.2.1
        have hg_93 := hf_90.2.2.2.2.2.1
        have hg_94 := hf_90.2.2.2.2.2.2
        have hPD : PD D A [(Mm, .inr (7, [.int zth, .ref Mt, .int (nI tp), .int (nI max_83), .int zwrx_84, .ref Mrr, .ref Mrh, .ref Mrc, .int (nI rhx_85), .int (nI rcx_86), .ref Mn, .ref Mf, .ref Mr, .ref Mh, .int zhp, .int zcc, .ref Ma, .ref Mas, .ref Msn, .ref Mac, .ref Mat])), (Mt, .inl (g 0, 160, .inl fmt)), (Mrr, .inl (g 0, 3, .inl frrx_87)), (Mrh, .inl (g 0, 9, .inl frhx_88)), (Mrc, .inl (g 0, 9, .inl frcx_89))] H := ⟨hP2, hD2⟩
        have hS := hS2; clear hP2 hD2 hS2; have hP := hPD.1; have hD := hPD.2; clear hPD
        refine W.widen (k := 0) (n := 0) (Nat.le_of_ble_eq_true rfl) (Nat.le_of_ble_eq_true rfl) ?_
        refine lv_iconst (v := 0) hx hb dX7_readNet_43 (by decide) ?_
        refine lv_istore_n (lv' := [(1, .int 0), (2, .int (nI i_27)), (0, .ref Mm)]) hx hb dX7_readNet_44 rfl hl (by decide) rfl (fun ls hl => ?_)
        refine lv_aload_n hx hb dX7_readNet_45 rfl (lv_at hl 2 rfl) ?_
        refine va_get (D := D) (ci := 7) (v := .int zwrx_84) (C := RX7) (T := TX7) (N := 21) hx hb hts iX7 hown hK hP 0 rfl rfl 4 (by decide) f71 (fun _ h9 => h9) rfl dX7_readNet_46 ?_
        refine lv_iconst (v := (-1)) hx hb dX7_readNet_49 (by decide) ?_
        refine lv_icmp_ne (tgt := 66) hx hb dX7_readNet_50 (by decide) (fun cb_95 => ?_) (fun cb_95 => ?_)
        · skip
          refine lv_iconst (v := 0) hx hb dX7_readNet_66 (by decide) ?_
          refine lv_istore_n (lv' := [(2, .int 0), (1, .int 0), (0, .ref Mm)]) hx hb dX7_readNet_67 rfl hl (by decide) rfl (fun ls hl => ?_)
          refine lv_aload_n hx hb dX7_readNet_68 rfl (lv_at hl 2 rfl) ?_
          refine lv_dup hx hb dX7_readNet_69 rfl ?_
          refine va_get (D := D) (ci := 7) (v := .int (nI max_83)) (C := RX7) (T := TX7) (N := 21) hx hb hts iX7 hown hK hP 0 rfl rfl 3 (by decide) f64 (fun _ h9 => h9) rfl dX7_readNet_70 ?_
          refine lv_iload_n hx hb dX7_readNet_73 rfl (lv_at hl 0 rfl) ?_
          refine lv_if_eq (tgt := 81) hx hb dX7_readNet_74 (by decide) (fun _ => ?_) (fun cb => absurd (by decide) cb)
          refine lv_iconst (v := 0) hx hb dX7_readNet_81 (by decide) ?_
          refine lv_iadd hx hb dX7_readNet_82 ?_
          refine lv_eqi (y := (nI (max_83 + 0))) (nI_add (max_83) (0)) ?_
          refine va_put (D := D) (ci := 7) (v := .int (nI (max_83 + 0))) (ty := .int) (C := RX7) (T := TX7) (N := 21) hx hb hts iX7 tyX7 tyX7_ok nmX7 hown hK hP hD hS 0 rfl rfl 3 (by decide) f64 (fun _ h9 => h9) rfl (by decide +kernel) (rfl) (rfl) (Nat.le_of_ble_eq_true rfl) dX7_readNet_83 (fun H locs hP2 hD2 hS2 => ?_)
          clear hP hD hS
          have hPD : PD D A [(Mm, .inr (7, [.int zth, .ref Mt, .int (nI tp), .int (nI (max_83 + 0)), .int zwrx_84, .ref Mrr, .ref Mrh, .ref Mrc, .int (nI rhx_85), .int (nI rcx_86), .ref Mn, .ref Mf, .ref Mr, .ref Mh, .int zhp, .int zcc, .ref Ma, .ref Mas, .ref Msn, .ref Mac, .ref Mat])), (Mt, .inl (g 0, 160, .inl fmt)), (Mrr, .inl (g 0, 3, .inl frrx_87)), (Mrh, .inl (g 0, 9, .inl frhx_88)), (Mrc, .inl (g 0, 9, .inl frcx_89))] H := ⟨hP2, hD2⟩
          have hS := hS2; clear hP2 hD2 hS2; have hP := hPD.1; have hD := hPD.2; clear hPD
          refine lv_goto (tgt := 34) hx hb dX7_readNet_86 (by decide) ?_
          exact loop_66_ih 0 0 (max_83 + 0) zwrx_84 rhx_85 rcx_86 frrx_87 frhx_88 frcx_89 (zb_0) (hf_90.1) (hf_90.2.1) (hf_90.2.2.1) (show (max_83 + 0) ≤ tp by omega) (show rhx_85 ≤ 3 by omega) (show rcx_86 ≤ 3 by omega) (show 0 ≤ 1 by omega) (show 2 * (tp - (max_83 + 0)) + 0 < Nloop_66 by omega) _ _ _ (hP.sub [1, 3, 4, 0, 2] rfl) (hD.sub [1, 3, 4, 0, 2] (by decide) rfl) hS hl
        · skip
          have hPq_96 := hP; have hDq_96 := hD; have hSq_96 := hS; have hlq_96 := hl; clear hP hD hS hl
          subst cb_95
          have hP := hPq_96; have hD := hDq_96; have hS := hSq_96; have hl := hlq_96; clear hPq_96 hDq_96 hSq_96 hlq_96
          refine lv_aload_n hx hb dX7_readNet_53 rfl (lv_at hl 2 rfl) ?_
          refine ky_Vi (As := []) (rest := []) ⟨hx, hb, hml, hown, hts⟩ ⟨hK, hN⟩ hZ hP hD hS hA [0, 1] [2, 3, 4] (wc := [(Mm, .inr (7, [.int zth, .ref Mt, .int (nI tp), .int (nI max_83), .int (-1), .ref Mrr, .ref Mrh, .ref Mrc, .int (nI rhx_85), .int (nI rcx_86), .ref Mn, .ref Mf, .ref Mr, .ref Mh, .int zhp, .int zcc, .ref Ma, .ref Mas, .ref Msn, .ref Mac, .ref Mat])), (Mt, .inl (g 0, 160, .inl fmt))]) (wr := [(Mrr, .inl (g 0, 3, .inl frrx_87)), (Mrh, .inl (g 0, 9, .inl frhx_88)), (Mrc, .inl (g 0, 9, .inl frcx_89))]) rfl rfl rfl rfl (by decide) (k_X7_ahead l D g H.size Mm zth Mt tp max_83 (-1) Mrr Mrh Mrc rhx_85 rcx_86 Mn Mf Mr Mh zhp zcc Ma Mas Msn Mac Mat fmt (show tp ≤ 160 by omega) (show max_83 ≤ tp by omega)) (cwV 0 hts gX7_readNet_X7_ahead rfl rfl rfl (by decide +kernel) ⟨(Nat.le_of_ble_eq_true rfl), (Nat.le_of_ble_eq_true rfl)⟩) 0 7 rfl rfl rfl rfl hl.1 rfl (Nat.le_of_ble_eq_true rfl) dX7_readNet_54 ⟨(Nat.le_of_ble_eq_true rfl), (Nat.le_of_ble_eq_true rfl)⟩ (fun r_97 u H locs hw hP2 hD2 hS2 => ?_)
          clear hP hD hS
          obtain ⟨max_98, rfl, rfl, hf_99, hf_100⟩ := hw
          have hPD : PD D A [(Mrr, .inl (g 0, 3, .inl frrx_87)), (Mrh, .inl (g 0, 9, .inl frhx_88)), (Mrc, .inl (g 0, 9, .inl frcx_89)), (Mm, .inr (7, [.int zth, .ref Mt, .int (nI tp), .int (nI max_98), .int (-1), .ref Mrr, .ref Mrh, .ref Mrc, .int (nI rhx_85), .int (nI rcx_86), .ref Mn, .ref Mf, .ref Mr, .ref Mh, .int zhp, .int zcc, .ref Ma, .ref Mas, .ref Msn, .ref Mac, .ref Mat])), (Mt, .inl (g 0, 160, .inl fmt))] H := ⟨hP2, hD2⟩
          have hS := hS2; clear hP2 hD2 hS2; have hP := hPD.1; have hD := hPD.2; clear hPD
          refine W.widen (k := 0) (n := 0) (Nat.le_of_ble_eq_true rfl) (Nat.le_of_ble_eq_true rfl) ?_
          refine lv_topi (fun y_101 hey_101 => ?_)
          refine lv_bipush (v := 59) hx hb dX7_readNet_57 (by decide) ?_
          refine lv_icmp_ne (tgt := 66) hx hb dX7_readNet_59 (by decide) (fun cb_102 => ?_) (fun cb_102 => ?_)
          · skip
            refine lv_iconst (v := 0) hx hb dX7_readNet_66 (by decide) ?_
            refine lv_istore_n (lv' := [(2, .int 0), (1, .int 0), (0, .ref Mm)]) hx hb dX7_readNet_67 rfl hl (by decide) rfl (fun ls hl => ?_)
            refine lv_aload_n hx hb dX7_readNet_68 rfl (lv_at hl 2 rfl) ?_
            refine lv_dup hx hb dX7_readNet_69 rfl ?_
            refine va_get (D := D) (ci := 7) (v := .int (nI max_98)) (C := RX7) (T := TX7) (N := 21) hx hb hts iX7 hown hK hP 3 rfl rfl 3 (by decide) f64 (fun _ h9 => h9) rfl dX7_readNet_70 ?_
            refine lv_iload_n hx hb dX7_readNet_73 rfl (lv_at hl 0 rfl) ?_
            refine lv_if_eq (tgt := 81) hx hb dX7_readNet_74 (by decide) (fun _ => ?_) (fun cb => absurd (by decide) cb)
            refine lv_iconst (v := 0) hx hb dX7_readNet_81 (by decide) ?_
            refine lv_iadd hx hb dX7_readNet_82 ?_
            refine lv_eqi (y := (nI (max_98 + 0))) (nI_add (max_98) (0)) ?_
            refine va_put (D := D) (ci := 7) (v := .int (nI (max_98 + 0))) (ty := .int) (C := RX7) (T := TX7) (N := 21) hx hb hts iX7 tyX7 tyX7_ok nmX7 hown hK hP hD hS 3 rfl rfl 3 (by decide) f64 (fun _ h9 => h9) rfl (by decide +kernel) (rfl) (rfl) (Nat.le_of_ble_eq_true rfl) dX7_readNet_83 (fun H locs hP2 hD2 hS2 => ?_)
            clear hP hD hS
            have hPD : PD D A [(Mrr, .inl (g 0, 3, .inl frrx_87)), (Mrh, .inl (g 0, 9, .inl frhx_88)), (Mrc, .inl (g 0, 9, .inl frcx_89)), (Mm, .inr (7, [.int zth, .ref Mt, .int (nI tp), .int (nI (max_98 + 0)), .int (-1), .ref Mrr, .ref Mrh, .ref Mrc, .int (nI rhx_85), .int (nI rcx_86), .ref Mn, .ref Mf, .ref Mr, .ref Mh, .int zhp, .int zcc, .ref Ma, .ref Mas, .ref Msn, .ref Mac, .ref Mat])), (Mt, .inl (g 0, 160, .inl fmt))] H := ⟨hP2, hD2⟩
            have hS := hS2; clear hP2 hD2 hS2; have hP := hPD.1; have hD := hPD.2; clear hPD
            refine lv_goto (tgt := 34) hx hb dX7_readNet_86 (by decide) ?_
            exact loop_66_ih 0 0 (max_98 + 0) (-1) rhx_85 rcx_86 frrx_87 frhx_88 frcx_89 (zb_0) (hf_90.1) (hf_90.2.1) (hf_90.2.2.1) (show (max_98 + 0) ≤ tp by omega) (show rhx_85 ≤ 3 by omega) (show rcx_86 ≤ 3 by omega) (show 0 ≤ 1 by omega) (show 2 * (tp - (max_98 + 0)) + 0 < Nloop_66 by omega) _ _ _ (hP.sub [4, 1, 2, 3, 0] rfl) (hD.sub [4, 1, 2, 3, 0] (by decide) rfl) hS hl
          · skip
            have hq_103 : max_98 < tp := (fun q9 => here_lt hey_101 q9) (by rw [cb_102]; decide)
            have hPq_104 := hP; have hDq_104 := hD; have hSq_104 := hS; have hlq_104 := hl; clear hP hD hS hl
            subst cb_102
            have hP := hPq_104; have hD := hDq_104; have hS := hSq_104; have hl := hlq_104; clear hPq_104 hDq_104 hSq_104 hlq_104
            refine lv_iconst (v := 1) hx hb dX7_readNet_62 (by decide) ?_
            refine lv_goto (tgt := 67) hx hb dX7_readNet_63 (by decide) ?_
            refine lv_istore_n (lv' := [(2, .int 1), (1, .int 0), (0, .ref Mm)]) hx hb dX7_readNet_67 rfl hl (by decide) rfl (fun ls hl => ?_)
            refine lv_aload_n hx hb dX7_readNet_68 rfl (lv_at hl 2 rfl) ?_
            refine lv_dup hx hb dX7_readNet_69 rfl ?_
            refine va_get (D := D) (ci := 7) (v := .int (nI max_98)) (C := RX7) (T := TX7) (N := 21) hx hb hts iX7 hown hK hP 3 rfl rfl 3 (by decide) f64 (fun _ h9 => h9) rfl dX7_readNet_70 ?_
            refine lv_iload_n hx hb dX7_readNet_73 rfl (lv_at hl 0 rfl) ?_
            refine lv_if_eq (tgt := 81) hx hb dX7_readNet_74 (by decide) (fun cb => absurd cb (by decide)) (fun _ => ?_)
            refine lv_iconst (v := 1) hx hb dX7_readNet_77 (by decide) ?_
            refine lv_goto (tgt := 82) hx hb dX7_readNet_78 (by decide) ?_
            refine lv_iadd hx hb dX7_readNet_82 ?_
            refine lv_eqi (y := (nI (max_98 + 1))) (nI_add (max_98) (1)) ?_
            refine va_put (D := D) (ci := 7) (v := .int (nI (max_98 + 1))) (ty := .int) (C := RX7) (T := TX7) (N := 21) hx hb hts iX7 tyX7 tyX7_ok nmX7 hown hK hP hD hS 3 rfl rfl 3 (by decide) f64 (fun _ h9 => h9) rfl (by decide +kernel) (rfl) (rfl) (Nat.le_of_ble_eq_true rfl) dX7_readNet_83 (fun H locs hP2 hD2 hS2 => ?_)
            clear hP hD hS
            have hPD : PD D A [(Mrr, .inl (g 0, 3, .inl frrx_87)), (Mrh, .inl (g 0, 9, .inl frhx_88)), (Mrc, .inl (g 0, 9, .inl frcx_89)), (Mm, .inr (7, [.int zth, .ref Mt, .int (nI tp), .int (nI (max_98 + 1)), .int (-1), .ref Mrr, .ref Mrh, .ref Mrc, .int (nI rhx_85), .int (nI rcx_86), .ref Mn, .ref Mf, .ref Mr, .ref Mh, .int zhp, .int zcc, .ref Ma, .ref Mas, .ref Msn, .ref Mac, .ref Mat])), (Mt, .inl (g 0, 160, .inl fmt))] H := ⟨hP2, hD2⟩
            have hS := hS2; clear hP2 hD2 hS2; have hP := hPD.1; have hD := hPD.2; clear hPD
            refine lv_goto (tgt := 34) hx hb dX7_readNet_86 (by decide) ?_
            exact loop_66_ih 1 0 (max_98 + 1) (-1) rhx_85 rcx_86 frrx_87 frhx_88 frcx_89 (zb_0) (hf_90.1) (hf_90.2.1) (hf_90.2.2.1) (show (max_98 + 1) ≤ tp by omega) (show rhx_85 ≤ 3 by omega) (show rcx_86 ≤ 3 by omega) (show 1 ≤ 1 by omega) (show 2 * (tp - (max_98 + 1)) + 1 < Nloop_66 by omega) _ _ _ (hP.sub [4, 1, 2, 3, 0] rfl) (hD.sub [4, 1, 2, 3, 0] (by decide) rfl) hS hl
  exact loop_66 _ 1 1 0 (-1) 0 0 frrx_2 frh frc (zb_1) (hf_3) (h2) (h3) (show 0 ≤ tp by omega) (show 0 ≤ 3 by omega) (show 0 ≤ 3 by omega) (show 1 ≤ 1 by omega) (Nat.lt_succ_self _) _ _ _ hP hD hS hl

set_option maxHeartbeats 4000000 in
set_option maxRecDepth 100000 in
theorem k_X7_fault (l : Launch) (D : va_G) (g : Nat → ClassId) (sz : Nat) (Mm : Nat) (zth : Int32) (Mt : Nat) (tp : Nat) (zma : Int32) (zwr : Int32) (Mrr : Nat) (Mrh : Nat) (Mrc : Nat) (zrh : Int32) (zrc : Int32) (Mn : Nat) (Mf : Nat) (Mr : Nat) (Mh : Nat) (zhp : Int32) (zcc : Int32) (Ma : Nat) (Mas : Nat) (Msn : Nat) (Mac : Nat) (Mat : Nat) (fmt : Nat → Int32) (frr : Nat → Int32) (frh : Nat → Int32) (frc : Nat → Int32) (h0 : tp ≤ 160) (h1 : n1 frr) (h2 : n1 frh) (h3 : n1 frc) : Met l yX7_fault wsX7_fault ({ frames := 6, cells := 0, slots := 0, locals := 133 }) (va_Pc [.ref Mm] (pre D g sz [(Mm, .inr (7, [.int zth, .ref Mt, .int (nI tp), .int zma, .int zwr, .ref Mrr, .ref Mrh, .ref Mrc, .int zrh, .int zrc, .ref Mn, .ref Mf, .ref Mr, .ref Mh, .int zhp, .int zcc, .ref Ma, .ref Mas, .ref Msn, .ref Mac, .ref Mat])), (Mt, .inl (g 0, 160, .inl fmt)), (Mrr, .inl (g 0, 3, .inl frr)), (Mrh, .inl (g 0, 9, .inl frh)), (Mrc, .inl (g 0, 9, .inl frc))])) (va_Qi (fun (r : Int32) (u : va_W) => ∃ (zthx : Int32) (zmax : Int32) (zwrx : Int32) (zrhx : Int32) (zrcx : Int32) (frrx : Nat → Int32) (frhx : Nat → Int32) (frcx : Nat → Int32), u = [(Mm, .inr (7, [.int zthx, .ref Mt, .int (nI tp), .int zmax, .int zwrx, .ref Mrr, .ref Mrh, .ref Mrc, .int zrhx, .int zrcx, .ref Mn, .ref Mf, .ref Mr, .ref Mh, .int zhp, .int zcc, .ref Ma, .ref Mas, .ref Msn, .ref Mac, .ref Mat])), (Mt, .inl (g 0, 160, .inl fmt)), (Mrr, .inl (g 0, 3, .inl frrx)), (Mrh, .inl (g 0, 9, .inl frhx)), (Mrc, .inl (g 0, 9, .inl frcx))] ∧ (n1 frrx) ∧ (n1 frhx) ∧ (n1 frcx)) (wd D (va_A [(Mm, .inr (7, [.int zth, .ref Mt, .int (nI tp), .int zma, .int zwr, .ref Mrr, .ref Mrh, .ref Mrc, .int zrh, .int zrc, .ref Mn, .ref Mf, .ref Mr, .ref Mh, .int zhp, .int zcc, .ref Ma, .ref Mas, .ref Msn, .ref Mac, .ref Mat])), (Mt, .inl (g 0, 160, .inl fmt)), (Mrr, .inl (g 0, 3, .inl frr)), (Mrh, .inl (g 0, 9, .inl frh)), (Mrc, .inl (g 0, 9, .inl frc))] sz)) (va_A [(Mm, .inr (7, [.int zth, .ref Mt, .int (nI tp), .int zma, .int zwr, .ref Mrr, .ref Mrh, .ref Mrc, .int zrh, .int zrc, .ref Mn, .ref Mf, .ref Mr, .ref Mh, .int zhp, .int zcc, .ref Ma, .ref Mas, .ref Msn, .ref Mac, .ref Mat])), (Mt, .inl (g 0, 160, .inl fmt)), (Mrr, .inl (g 0, 3, .inl frr)), (Mrh, .inl (g 0, 9, .inl frh)), (Mrc, .inl (g 0, 9, .inl frc))] sz)) 0 0 (va_A [(Mm, .inr (7, [.int zth, .ref Mt, .int (nI tp), .int zma, .int zwr, .ref Mrr, .ref Mrh, .ref Mrc, .int zrh, .int zrc, .ref Mn, .ref Mf, .ref Mr, .ref Mh, .int zhp, .int zcc, .ref Ma, .ref Mas, .ref Msn, .ref Mac, .ref Mat])), (Mt, .inl (g 0, 160, .inl fmt)), (Mrr, .inl (g 0, 3, .inl frr)), (Mrh, .inl (g 0, 9, .inl frh)), (Mrc, .inl (g 0, 9, .inl frc))] sz) := by
  refine Met.ofW (cc := cX7_fault) (maxL := 1) (ret := (some .int)) (by decide) rfl ?_
  intro p e s m args below meth c s₁ B hml hv
  obtain ⟨rfl, hsz, hP, ⟨hK, hN⟩, hD0, hZ⟩ := hv
  have hx := B.exec
  have hb := B.bytes
  have hr := B.returns
  have hts := atoms_spec (ws := wsX7_fault) B.pre
  have hown : s.vm.findClass RX7 = some m.cls := findClass_of_methodNamed B.named
  have hlocks := B.notSynchronized
  clear B
  subst hsz
  have hD := hD0.self (sz := s.heap.size)
  clear hD0
  generalize hAe : va_A [(Mm, .inr (7, [.int zth, .ref Mt, .int (nI tp), .int zma, .int zwr, .ref Mrr, .ref Mrh, .ref Mrc, .int zrh, .int zrc, .ref Mn, .ref Mf, .ref Mr, .ref Mh, .int zhp, .int zcc, .ref Ma, .ref Mas, .ref Msn, .ref Mac, .ref Mat])), (Mt, .inl (g 0, 160, .inl fmt)), (Mrr, .inl (g 0, 3, .inl frr)), (Mrh, .inl (g 0, 9, .inl frh)), (Mrc, .inl (g 0, 9, .inl frc))] s.heap.size = A at hD hZ ⊢
  have hA : ∀ q : Nat, s.heap.size ≤ q → A q := fun q h => by rw [← hAe]; exact Or.inr h
  have hS : va_S A s.heap s.heap [] := va_S.rf
  have f49 := hts (.fieldLink RX7 49 "HopCreditsModel" "thrown" "I") (List.mem_of_getElem? (i := 1) rfl)
  have iX7 : ∀ w ∈ u_ws RX7 TX7 21, w ∈ wsX7_fault := fun w h => List.mem_cons_of_mem _ (List.mem_append_right _ (h))
  have hl := lv_entry ([.ref Mm]) (n := 1) (Nat.le_of_ble_eq_true rfl)
  rw [lg_entry_eq]
  generalize (lg_sl ([.ref Mm]) ++ List.replicate (1 - (lg_sl ([.ref Mm])).length) Slot.unset).toArray = ls at hl ⊢
  have hl : lv_has ls 1 [(0, .ref Mm)] := hl
  generalize hQ : MQ below _ _ s _ _ _ = Q
  generalize hH : s.heap = H at hP ⊢
  have hS : va_S A s.heap H [] := by rw [← hH]; exact hS
  clear hH
  refine lv_aload_n hx hb dX7_fault_0 rfl (lv_at hl 0 rfl) ?_
  refine lv_iconst (v := 0) hx hb dX7_fault_1 (by decide) ?_
  refine va_put (D := D) (ci := 7) (v := .int 0) (ty := .int) (C := RX7) (T := TX7) (N := 21) hx hb hts iX7 tyX7 tyX7_ok nmX7 hown hK hP hD hS 0 rfl rfl 0 (by decide) f49 (fun _ h9 => h9) rfl (by decide +kernel) (rfl) (rfl) (Nat.le_of_ble_eq_true rfl) dX7_fault_2 (fun H locs hP2 hD2 hS2 => ?_)
  clear hP hD hS
  have hPD : PD D A [(Mm, .inr (7, [.int 0, .ref Mt, .int (nI tp), .int zma, .int zwr, .ref Mrr, .ref Mrh, .ref Mrc, .int zrh, .int zrc, .ref Mn, .ref Mf, .ref Mr, .ref Mh, .int zhp, .int zcc, .ref Ma, .ref Mas, .ref Msn, .ref Mac, .ref Mat])), (Mt, .inl (g 0, 160, .inl fmt)), (Mrr, .inl (g 0, 3, .inl frr)), (Mrh, .inl (g 0, 9, .inl frh)), (Mrc, .inl (g 0, 9, .inl frc))] H := ⟨hP2, hD2⟩
  have hS := hS2; clear hP2 hD2 hS2; have hP := hPD.1; have hD := hPD.2; clear hPD
  refine lv_aload_n hx hb dX7_fault_5 rfl (lv_at hl 0 rfl) ?_
  refine ky_Vi (As := []) (rest := []) ⟨hx, hb, hml, hown, hts⟩ ⟨hK, hN⟩ hZ hP hD hS hA [0, 1, 2, 3, 4] [] (wc := [(Mm, .inr (7, [.int 0, .ref Mt, .int (nI tp), .int zma, .int zwr, .ref Mrr, .ref Mrh, .ref Mrc, .int zrh, .int zrc, .ref Mn, .ref Mf, .ref Mr, .ref Mh, .int zhp, .int zcc, .ref Ma, .ref Mas, .ref Msn, .ref Mac, .ref Mat])), (Mt, .inl (g 0, 160, .inl fmt)), (Mrr, .inl (g 0, 3, .inl frr)), (Mrh, .inl (g 0, 9, .inl frh)), (Mrc, .inl (g 0, 9, .inl frc))]) (wr := []) rfl rfl rfl rfl (by decide) (k_X7_readNet l D g H.size Mm 0 Mt tp zma zwr Mrr Mrh Mrc zrh zrc Mn Mf Mr Mh zhp zcc Ma Mas Msn Mac Mat fmt frr frh frc (show tp ≤ 160 by omega) (h1) (h2) (h3)) (cwV 0 hts gX7_fault_X7_readNet rfl rfl rfl (by decide +kernel) ⟨(Nat.le_of_ble_eq_true rfl), (Nat.le_of_ble_eq_true rfl)⟩) 0 7 rfl rfl rfl rfl hl.1 rfl (Nat.le_of_ble_eq_true rfl) dX7_fault_6 ⟨(Nat.le_of_ble_eq_true rfl), (Nat.le_of_ble_eq_true rfl)⟩ (fun r_1 u H locs hw hP2 hD2 hS2 => ?_)
  clear hP hD hS
  obtain ⟨zmax_2, zwrx_3, rhx_4, rcx_5, frrx_6, frhx_7, frcx_8, rfl, hf_9⟩ := hw
  have hg_10 := hf_9.2.2.2.1
  have hg_11 := hf_9.2.2.2.2
  have hPD : PD D A [(Mm, .inr (7, [.int 0, .ref Mt, .int (nI tp), .int zmax_2, .int zwrx_3, .ref Mrr, .ref Mrh, .ref Mrc, .int (nI rhx_4), .int (nI rcx_5), .ref Mn, .ref Mf, .ref Mr, .ref Mh, .int zhp, .int zcc, .ref Ma, .ref Mas, .ref Msn, .ref Mac, .ref Mat])), (Mt, .inl (g 0, 160, .inl fmt)), (Mrr, .inl (g 0, 3, .inl frrx_6)), (Mrh, .inl (g 0, 9, .inl frhx_7)), (Mrc, .inl (g 0, 9, .inl frcx_8))] H := ⟨hP2, hD2⟩
  have hS := hS2; clear hP2 hD2 hS2; have hP := hPD.1; have hD := hPD.2; clear hPD
  refine W.widen (k := 0) (n := 0) (Nat.le_of_ble_eq_true rfl) (Nat.le_of_ble_eq_true rfl) ?_
  have hP9 := hP; have hD9 := hD
  subst hQ
  refine W.widen (k := 0) (n := 0) (Nat.le_of_ble_eq_true rfl) (Nat.le_of_ble_eq_true rfl) ?_
  exact W.iret (v := r_1) hx hb hr (fun tS htS _ => ⟨⟨_, _, rfl, ⟨0, zmax_2, zwrx_3, (nI rhx_4), (nI rcx_5), frrx_6, frhx_7, frcx_8, rfl, (hf_9.1), (hf_9.2.1), (hf_9.2.2.1)⟩, by rw [htS]; exact hP9, hD9⟩, hS.F htS⟩) hS.2.2 dX7_fault_9

set_option maxHeartbeats 4000000 in
set_option maxRecDepth 100000 in
theorem k_X7_laysHop (l : Launch) (D : va_G) (g : Nat → ClassId) (sz : Nat) {gs : Nat → Int32} (Mm : Nat) (hix : Nat) (zth : Int32) (Mt : Nat) (tp : Nat) (zma : Int32) (zwr : Int32) (Mrr : Nat) (Mrh : Nat) (Mrc : Nat) (zrh : Int32) (zrc : Int32) (Mn : Nat) (Mf : Nat) (Mr : Nat) (Mh : Nat) (hp : Nat) (cc : Nat) (Ma : Nat) (Mas : Nat) (Msn : Nat) (Mac : Nat) (Mat : Nat) (fno : Nat → Int32) (fmh : Nat → Int32) (fmr : Nat → Int32) (frh : Nat → Int32) (tb : Nat) (ub : Nat) (h0 : tb < 2 ^ 29) (h1 : ub < 2 ^ 29) (h2 : mOK gs tb ub fno) (h3 : 1 ≤ hp) (h4 : hp ≤ 3) (h5 : 1 ≤ cc) (h6 : cc ≤ 3) (h7 : hix < 3) (h8 : n3 fmh) (h9 : n1 frh) (h10 : n1 fmr) : Met l yX7_laysHop wsX7_laysHop ({ frames := 2, cells := 0, slots := 0, locals := 45 }) (va_Pc [.ref Mm, .int (nI hix)] (pre D g sz [(Mm, .inr (7, [.int zth, .ref Mt, .int (nI tp), .int zma, .int zwr, .ref Mrr, .ref Mrh, .ref Mrc, .int zrh, .int zrc, .ref Mn, .ref Mf, .ref Mr, .ref Mh, .int (nI hp), .int (nI cc), .ref Ma, .ref Mas, .ref Msn, .ref Mac, .ref Mat])), (Mn, .inl (g 0, 1767, .inl fno)), (Mh, .inl (g 0, 9, .inl fmh)), (Mr, .inl (g 0, 3, .inl fmr)), (Mrh, .inl (g 0, 9, .inl frh))])) (va_Qv (fun (u : va_W) => ∃ (fnox : Nat → Int32) (fmhx : Nat → Int32), u = [(Mm, .inr (7, [.int zth, .ref Mt, .int (nI tp), .int zma, .int zwr, .ref Mrr, .ref Mrh, .ref Mrc, .int zrh, .int zrc, .ref Mn, .ref Mf, .ref Mr, .ref Mh, .int (nI hp), .int (nI cc), .ref Ma, .ref Mas, .ref Msn, .ref Mac, .ref Mat])), (Mn, .inl (g 0, 1767, .inl fnox)), (Mh, .inl (g 0, 9, .inl fmhx)), (Mr, .inl (g 0, 3, .inl fmr)), (Mrh, .inl (g 0, 9, .inl frh))] ∧ (mOK gs tb ub fnox) ∧ (n3 fmhx)) (wd D (va_A [(Mm, .inr (7, [.int zth, .ref Mt, .int (nI tp), .int zma, .int zwr, .ref Mrr, .ref Mrh, .ref Mrc, .int zrh, .int zrc, .ref Mn, .ref Mf, .ref Mr, .ref Mh, .int (nI hp), .int (nI cc), .ref Ma, .ref Mas, .ref Msn, .ref Mac, .ref Mat])), (Mn, .inl (g 0, 1767, .inl fno)), (Mh, .inl (g 0, 9, .inl fmh)), (Mr, .inl (g 0, 3, .inl fmr)), (Mrh, .inl (g 0, 9, .inl frh))] sz)) (va_A [(Mm, .inr (7, [.int zth, .ref Mt, .int (nI tp), .int zma, .int zwr, .ref Mrr, .ref Mrh, .ref Mrc, .int zrh, .int zrc, .ref Mn, .ref Mf, .ref Mr, .ref Mh, .int (nI hp), .int (nI cc), .ref Ma, .ref Mas, .ref Msn, .ref Mac, .ref Mat])), (Mn, .inl (g 0, 1767, .inl fno)), (Mh, .inl (g 0, 9, .inl fmh)), (Mr, .inl (g 0, 3, .inl fmr)), (Mrh, .inl (g 0, 9, .inl frh))] sz)) 0 0 (va_A [(Mm, .inr (7, [.int zth, .ref Mt, .int (nI tp), .int zma, .int zwr, .ref Mrr, .ref Mrh, .ref Mrc, .int zrh, .int zrc, .ref Mn, .ref Mf, .ref Mr, .ref Mh, .int (nI hp), .int (nI cc), .ref Ma, .ref Mas, .ref Msn, .ref Mac, .ref Mat])), (Mn, .inl (g 0, 1767, .inl fno)), (Mh, .inl (g 0, 9, .inl fmh)), (Mr, .inl (g 0, 3, .inl fmr)), (Mrh, .inl (g 0, 9, .inl frh))] sz) := by
  refine Met.ofW (cc := cX7_laysHop) (maxL := 3) (ret := none) (by decide) rfl ?_
  intro p e s m args below meth c s₁ B hml hv
  obtain ⟨rfl, hsz, hP, ⟨hK, hN⟩, hD0, hZ⟩ := hv
  have hx := B.exec
  have hb := B.bytes
  have hr := B.returns
  have hts := atoms_spec (ws := wsX7_laysHop) B.pre
  have hown : s.vm.findClass RX7 = some m.cls := findClass_of_methodNamed B.named
  have hlocks := B.notSynchronized
  clear B
  subst hsz
  have hD := hD0.self (sz := s.heap.size)
  clear hD0
  generalize hAe : va_A [(Mm, .inr (7, [.int zth, .ref Mt, .int (nI tp), .int zma, .int zwr, .ref Mrr, .ref Mrh, .ref Mrc, .int zrh, .int zrc, .ref Mn, .ref Mf, .ref Mr, .ref Mh, .int (nI hp), .int (nI cc), .ref Ma, .ref Mas, .ref Msn, .ref Mac, .ref Mat])), (Mn, .inl (g 0, 1767, .inl fno)), (Mh, .inl (g 0, 9, .inl fmh)), (Mr, .inl (g 0, 3, .inl fmr)), (Mrh, .inl (g 0, 9, .inl frh))] s.heap.size = A at hD hZ ⊢
  have hA : ∀ q : Nat, s.heap.size ≤ q → A q := fun q h => by rw [← hAe]; exact Or.inr h
  have hS : va_S A s.heap s.heap [] := va_S.rf
  have f127 := hts (.fieldLink RX7 127 "HopCreditsModel" "circuits" "I") (List.mem_of_getElem? (i := 4) rfl)
  have f16 := hts (.fieldLink RX7 16 "HopCreditsModel" "readHop" "[I") (List.mem_of_getElem? (i := 2) rfl)
  have f22 := hts (.fieldLink RX7 22 "HopCreditsModel" "now" "[I") (List.mem_of_getElem? (i := 9) rfl)
  have f28 := hts (.fieldLink RX7 28 "HopCreditsModel" "rule" "[I") (List.mem_of_getElem? (i := 3) rfl)
  have f31 := hts (.fieldLink RX7 31 "HopCreditsModel" "hop" "[I") (List.mem_of_getElem? (i := 1) rfl)
  have mcmax := hts (.code Lib.Math.max.name Lib.Math.max.code 2 (some .int)) (List.mem_of_getElem? (i := 8) rfl)
  have mi := hts (.initialized "java/lang/Math") (List.mem_of_getElem? (i := 7) rfl)
  have mmmax := hts (.methodLink RX7 154 Lib.Math.max.name) (List.mem_of_getElem? (i := 5) rfl)
  have mtmax := hts (.static Lib.Math.max.name) (List.mem_of_getElem? (i := 6) rfl)
  have iX7 : ∀ w ∈ u_ws RX7 TX7 21, w ∈ wsX7_laysHop := fun w h => List.mem_cons_of_mem _ (List.mem_append_right _ (h))
  have hl := lv_entry ([.ref Mm, .int (nI hix)]) (n := 3) (Nat.le_of_ble_eq_true rfl)
  rw [lg_entry_eq]
  generalize (lg_sl ([.ref Mm, .int (nI hix)]) ++ List.replicate (3 - (lg_sl ([.ref Mm, .int (nI hix)])).length) Slot.unset).toArray = ls at hl ⊢
  have hl : lv_has ls 3 [(0, .ref Mm), (1, .int (nI hix))] := hl
  generalize hQ : MQ below _ _ s _ _ _ = Q
  generalize hH : s.heap = H at hP ⊢
  have hS : va_S A s.heap H [] := by rw [← hH]; exact hS
  clear hH
  refine lv_iconst (v := 0) hx hb dX7_laysHop_0 (by decide) ?_
  refine lv_istore_n (lv' := [(2, .int 0), (0, .ref Mm), (1, .int (nI hix))]) hx hb dX7_laysHop_1 rfl hl (by decide) rfl (fun ls hl => ?_)
  have loop_10 : ∀ (Nloop_10 : Nat) (i_3 : Nat) (F_4 : Nat → Int32) (hF_4 : n3 F_4) (hbi_3 : i_3 ≤ 3) (hmloop_10 : 3 - i_3 < Nloop_10) (H : Heap) (locs : List Loc) (ls : Array Slot), va_P D vwCl [(Mm, .inr (7, [.int zth, .ref Mt, .int (nI tp), .int zma, .int zwr, .ref Mrr, .ref Mrh, .ref Mrc, .int zrh, .int zrc, .ref Mn, .ref Mf, .ref Mr, .ref Mh, .int (nI hp), .int (nI cc), .ref Ma, .ref Mas, .ref Msn, .ref Mac, .ref Mat])), (Mn, .inl (g 0, 1767, .inl fno)), (Mh, .inl (g 0, 9, .inl F_4)), (Mr, .inl (g 0, 3, .inl fmr)), (Mrh, .inl (g 0, 9, .inl frh))] H → va_D A [(Mm, .inr (7, [.int zth, .ref Mt, .int (nI tp), .int zma, .int zwr, .ref Mrr, .ref Mrh, .ref Mrc, .int zrh, .int zrc, .ref Mn, .ref Mf, .ref Mr, .ref Mh, .int (nI hp), .int (nI cc), .ref Ma, .ref Mas, .ref Msn, .ref Mac, .ref Mat])), (Mn, .inl (g 0, 1767, .inl fno)), (Mh, .inl (g 0, 9, .inl F_4)), (Mr, .inl (g 0, 3, .inl fmr)), (Mrh, .inl (g 0, 9, .inl frh))] → va_S A s.heap H locs → lv_has ls 3 [(2, .int (nI i_3)), (0, .ref Mm), (1, .int (nI hix))] → W p l e (headSpec wsX7_laysHop ({ frames := 2, cells := 0, slots := 0, locals := 45 })).room s m ([.ref Mm, .int (nI hix)] : List Value).toArray below meth c H locs 0 0 Q (F0 m 2 ls []) := by
    clear hP hD hS hl
    intro Nloop_10
    induction Nloop_10 with
    | zero => intro i_3 F_4 hF_4 hbi_3 hm9; exact absurd hm9 (Nat.not_lt_zero _)
    | succ Nloop_10 loop_10_ih =>
      intro i_3 F_4 hF_4 hbi_3 hmloop_10 H locs ls hP hD hS hl
      refine lv_iload_n hx hb dX7_laysHop_2 rfl (lv_at hl 0 rfl) ?_
      refine lv_iconst (v := 3) hx hb dX7_laysHop_3 (by decide) ?_
      refine lv_icmp_ge (tgt := 33) hx hb dX7_laysHop_4 (by decide) (fun cb_11 => ?_) (fun cb_11 => ?_)
      · skip
        have cn_12 : 3 ≤ i_3 := (nI_leI (show 3 < 2 ^ 31 by omega) (show i_3 < 2 ^ 31 by omega)).mp cb_11
        refine lv_aload_n hx hb dX7_laysHop_33 rfl (lv_at hl 1 rfl) ?_
        refine va_get (D := D) (ci := 7) (v := .ref Mh) (C := RX7) (T := TX7) (N := 21) hx hb hts iX7 hown hK hP 0 rfl rfl 13 (by decide) f31 (fun _ h9 => h9) rfl dX7_laysHop_34 ?_
        refine lv_iconst (v := 3) hx hb dX7_laysHop_37 (by decide) ?_
        refine lv_iload_n hx hb dX7_laysHop_38 rfl (lv_at hl 2 rfl) ?_
        refine lv_imul hx hb dX7_laysHop_39 ?_
        refine lv_eqi (y := (nI (3 * hix))) (pk_mul (3) (hix)) ?_
        refine lv_iconst (v := 1) hx hb dX7_laysHop_40 (by decide) ?_
        refine lv_iadd hx hb dX7_laysHop_41 ?_
        refine lv_eqi (y := (nI (3 * hix + 1))) (nI_add (3 * hix) (1)) ?_
        have hPq_13 := hP; have hDq_13 := hD; have hSq_13 := hS; have hlq_13 := hl; clear hP hD hS hl
        rcases (show cc = 1 ∨ cc = 2 ∨ cc = 3 by omega) with rfl | rfl | rfl
        · skip
          have hP := hPq_13; have hD := hDq_13; have hS := hSq_13; have hl := hlq_13; clear hPq_13 hDq_13 hSq_13 hlq_13
          refine lv_aload_n hx hb dX7_laysHop_42 rfl (lv_at hl 1 rfl) ?_
          refine lv_iload_n hx hb dX7_laysHop_43 rfl (lv_at hl 2 rfl) ?_
          refine ky_Vi (As := [.int (nI hix)]) (rest := [.int (nI (3 * hix + 1)), .ref Mh]) ⟨hx, hb, hml, hown, hts⟩ ⟨hK, hN⟩ hZ hP hD hS hA [0, 2] [1, 3, 4] (wc := [(Mm, .inr (7, [.int zth, .ref Mt, .int (nI tp), .int zma, .int zwr, .ref Mrr, .ref Mrh, .ref Mrc, .int zrh, .int zrc, .ref Mn, .ref Mf, .ref Mr, .ref Mh, .int (nI hp), .int (nI 1), .ref Ma, .ref Mas, .ref Msn, .ref Mac, .ref Mat])), (Mh, .inl (g 0, 9, .inl F_4))]) (wr := [(Mn, .inl (g 0, 1767, .inl fno)), (Mr, .inl (g 0, 3, .inl fmr)), (Mrh, .inl (g 0, 9, .inl frh))]) rfl rfl rfl rfl (by decide) (k_X7_pool l D g H.size Mm hix zth Mt tp zma zwr Mrr Mrh Mrc zrh zrc Mn Mf Mr Mh hp 1 Ma Mas Msn Mac Mat F_4 (show hix < 3 by omega) (hF_4)) (cwV 1 hts gX7_laysHop_X7_pool rfl rfl rfl (by decide +kernel) ⟨(Nat.le_of_ble_eq_true rfl), (Nat.le_of_ble_eq_true rfl)⟩) 0 7 rfl rfl rfl rfl hl.1 rfl (Nat.le_of_ble_eq_true rfl) dX7_laysHop_44 ⟨(Nat.le_of_ble_eq_true rfl), (Nat.le_of_ble_eq_true rfl)⟩ (fun r_14 u H locs hw hP2 hD2 hS2 => ?_)
          clear hP hD hS
          obtain ⟨dx_15, rfl, rfl, hf_16⟩ := hw
          have hPD : PD D A [(Mn, .inl (g 0, 1767, .inl fno)), (Mr, .inl (g 0, 3, .inl fmr)), (Mrh, .inl (g 0, 9, .inl frh)), (Mm, .inr (7, [.int zth, .ref Mt, .int (nI tp), .int zma, .int zwr, .ref Mrr, .ref Mrh, .ref Mrc, .int zrh, .int zrc, .ref Mn, .ref Mf, .ref Mr, .ref Mh, .int (nI hp), .int (nI 1), .ref Ma, .ref Mas, .ref Msn, .ref Mac, .ref Mat])), (Mh, .inl (g 0, 9, .inl F_4))] H := ⟨hP2, hD2⟩
          have hS := hS2; clear hP2 hD2 hS2; have hP := hPD.1; have hD := hPD.2; clear hPD
          refine W.widen (k := 0) (n := 0) (Nat.le_of_ble_eq_true rfl) (Nat.le_of_ble_eq_true rfl) ?_
          refine lv_aload_n hx hb dX7_laysHop_47 rfl (lv_at hl 1 rfl) ?_
          refine va_get (D := D) (ci := 7) (v := .ref Mr) (C := RX7) (T := TX7) (N := 21) hx hb hts iX7 hown hK hP 3 rfl rfl 12 (by decide) f28 (fun _ h9 => h9) rfl dX7_laysHop_48 ?_
          refine lv_iconst (v := 0) hx hb dX7_laysHop_51 (by decide) ?_
          refine va_iald hx hb hK hP 1 0 rfl rfl (by unfold vp_in; decide) dX7_laysHop_52 ?_
          refine lv_eqi (y := (fmr 0)) (rfl) ?_
          obtain ⟨n_17, hn_17, q9⟩ := h10 (0)
          refine lv_eqi (y := nI n_17) q9 ?_
          refine lv_aload_n hx hb dX7_laysHop_53 rfl (lv_at hl 1 rfl) ?_
          refine va_get (D := D) (ci := 7) (v := .int (nI 1)) (C := RX7) (T := TX7) (N := 21) hx hb hts iX7 hown hK hP 3 rfl rfl 15 (by decide) f127 (fun _ h9 => h9) rfl dX7_laysHop_54 ?_
          refine lv_imul hx hb dX7_laysHop_57 ?_
          refine lv_eqi (y := (nI (n_17 * 1))) (pk_mul (n_17) (1)) ?_
          refine va_mmax hx hb (hml.trans hl.1.symm) hown mmmax mtmax mi mcmax (Nat.le_of_ble_eq_true rfl) (Nat.le_of_ble_eq_true rfl) (Nat.le_of_ble_eq_true rfl) (Nat.le_of_ble_eq_true rfl) dX7_laysHop_58 ?_
          obtain ⟨m_18, hm_18, q9⟩ := max_nat (a := dx_15) (b := n_17 * 1) (N := 300) (by omega) (by omega)
          refine lv_eqi (y := nI m_18) q9 ?_
          refine va_iast hx hb hK hP hD hS 4 0 rfl rfl (vp_in_nI (show 3 * hix + 1 < 9 by omega) (by decide)) dX7_laysHop_61 (fun H locs hP2 hD2 hS2 => ?_)
          clear hP hD hS
          have hPD : PD D A [(Mn, .inl (g 0, 1767, .inl fno)), (Mr, .inl (g 0, 3, .inl fmr)), (Mrh, .inl (g 0, 9, .inl frh)), (Mm, .inr (7, [.int zth, .ref Mt, .int (nI tp), .int zma, .int zwr, .ref Mrr, .ref Mrh, .ref Mrc, .int zrh, .int zrc, .ref Mn, .ref Mf, .ref Mr, .ref Mh, .int (nI hp), .int (nI 1), .ref Ma, .ref Mas, .ref Msn, .ref Mac, .ref Mat])), (Mh, .inl (g 0, 9, .inl (upd F_4 (nI (3 * hix + 1)).toNatClampNeg (nI m_18))))] H := ⟨hP2, hD2⟩
          have hS := hS2; clear hP2 hD2 hS2; have hP := hPD.1; have hD := hPD.2; clear hPD
          rw [nI_clamp (show 3 * hix + 1 < 2 ^ 31 by omega)] at hP hD
          have hPD : PD D A [(Mn, .inl (g 0, 1767, .inl fno)), (Mr, .inl (g 0, 3, .inl fmr)), (Mrh, .inl (g 0, 9, .inl frh)), (Mm, .inr (7, [.int zth, .ref Mt, .int (nI tp), .int zma, .int zwr, .ref Mrr, .ref Mrh, .ref Mrc, .int zrh, .int zrc, .ref Mn, .ref Mf, .ref Mr, .ref Mh, .int (nI hp), .int (nI 1), .ref Ma, .ref Mas, .ref Msn, .ref Mac, .ref Mat])), (Mh, .inl (g 0, 9, .inl (upd F_4 (3 * hix + 1) (nI m_18))))] H := ⟨hP, hD⟩
          clear hP hD; have hP := hPD.1; have hD := hPD.2; clear hPD
          have hF_19 : n3 (upd F_4 (3 * hix + 1) (nI m_18)) := n3_upd (hF_4) (n := m_18) (show m_18 ≤ 300 by omega)
          generalize upd F_4 (3 * hix + 1) (nI m_18) = F_19 at hP hD hF_19
          refine lv_aload_n hx hb dX7_laysHop_62 rfl (lv_at hl 1 rfl) ?_
          refine va_get (D := D) (ci := 7) (v := .ref Mn) (C := RX7) (T := TX7) (N := 21) hx hb hts iX7 hown hK hP 3 rfl rfl 10 (by decide) f22 (fun _ h9 => h9) rfl dX7_laysHop_63 ?_
          refine lv_bipush (v := 66) hx hb dX7_laysHop_66 (by decide) ?_
          refine lv_iload_n hx hb dX7_laysHop_68 rfl (lv_at hl 2 rfl) ?_
          refine lv_iadd hx hb dX7_laysHop_69 ?_
          refine lv_eqi (y := (nI (66 + hix))) (nI_add (66) (hix)) ?_
          refine lv_iconst (v := (-1)) hx hb dX7_laysHop_70 (by decide) ?_
          refine va_iast hx hb hK hP hD hS 0 0 rfl rfl (vp_in_nI (show 66 + hix < 1767 by omega) (by decide)) dX7_laysHop_71 (fun H locs hP2 hD2 hS2 => ?_)
          clear hP hD hS
          have hPD : PD D A [(Mn, .inl (g 0, 1767, .inl (upd fno (nI (66 + hix)).toNatClampNeg (-1)))), (Mr, .inl (g 0, 3, .inl fmr)), (Mrh, .inl (g 0, 9, .inl frh)), (Mm, .inr (7, [.int zth, .ref Mt, .int (nI tp), .int zma, .int zwr, .ref Mrr, .ref Mrh, .ref Mrc, .int zrh, .int zrc, .ref Mn, .ref Mf, .ref Mr, .ref Mh, .int (nI hp), .int (nI 1), .ref Ma, .ref Mas, .ref Msn, .ref Mac, .ref Mat])), (Mh, .inl (g 0, 9, .inl F_19))] H := ⟨hP2, hD2⟩
          have hS := hS2; clear hP2 hD2 hS2; have hP := hPD.1; have hD := hPD.2; clear hPD
          rw [nI_clamp (show 66 + hix < 2 ^ 31 by omega)] at hP hD
          have hPD : PD D A [(Mn, .inl (g 0, 1767, .inl (upd fno (66 + hix) (-1)))), (Mr, .inl (g 0, 3, .inl fmr)), (Mrh, .inl (g 0, 9, .inl frh)), (Mm, .inr (7, [.int zth, .ref Mt, .int (nI tp), .int zma, .int zwr, .ref Mrr, .ref Mrh, .ref Mrc, .int zrh, .int zrc, .ref Mn, .ref Mf, .ref Mr, .ref Mh, .int (nI hp), .int (nI 1), .ref Ma, .ref Mas, .ref Msn, .ref Mac, .ref Mat])), (Mh, .inl (g 0, 9, .inl F_19))] H := ⟨hP, hD⟩
          clear hP hD; have hP := hPD.1; have hD := hPD.2; clear hPD
          have hF_20 : mOK gs tb ub (upd fno (66 + hix) (-1)) := mOK_okc h2 (okc_m) (show 66 + hix < 189 by omega)
          generalize upd fno (66 + hix) (-1) = F_20 at hP hD hF_20
          refine lv_iconst (v := 0) hx hb dX7_laysHop_72 (by decide) ?_
          refine lv_istore_n (lv' := [(2, .int 0), (0, .ref Mm), (1, .int (nI hix))]) hx hb dX7_laysHop_73 rfl hl (by decide) rfl (fun ls hl => ?_)
          have loop_32 : ∀ (Nloop_32 : Nat) (i_24 : Nat) (F_25 : Nat → Int32) (hF_25 : mOK gs tb ub F_25) (hbi_24 : i_24 ≤ 8) (hmloop_32 : 8 - i_24 < Nloop_32) (H : Heap) (locs : List Loc) (ls : Array Slot), va_P D vwCl [(Mn, .inl (g 0, 1767, .inl F_25)), (Mr, .inl (g 0, 3, .inl fmr)), (Mrh, .inl (g 0, 9, .inl frh)), (Mm, .inr (7, [.int zth, .ref Mt, .int (nI tp), .int zma, .int zwr, .ref Mrr, .ref Mrh, .ref Mrc, .int zrh, .int zrc, .ref Mn, .ref Mf, .ref Mr, .ref Mh, .int (nI hp), .int (nI 1), .ref Ma, .ref Mas, .ref Msn, .ref Mac, .ref Mat])), (Mh, .inl (g 0, 9, .inl F_19))] H → va_D A [(Mn, .inl (g 0, 1767, .inl F_25)), (Mr, .inl (g 0, 3, .inl fmr)), (Mrh, .inl (g 0, 9, .inl frh)), (Mm, .inr (7, [.int zth, .ref Mt, .int (nI tp), .int zma, .int zwr, .ref Mrr, .ref Mrh, .ref Mrc, .int zrh, .int zrc, .ref Mn, .ref Mf, .ref Mr, .ref Mh, .int (nI hp), .int (nI 1), .ref Ma, .ref Mas, .ref Msn, .ref Mac, .ref Mat])), (Mh, .inl (g 0, 9, .inl F_19))] → va_S A s.heap H locs → lv_has ls 3 [(2, .int (nI i_24)), (0, .ref Mm), (1, .int (nI hix))] → W p l e (headSpec wsX7_laysHop ({ frames := 2, cells := 0, slots := 0, locals := 45 })).room s m ([.ref Mm, .int (nI hix)] : List Value).toArray below meth c H locs 0 0 Q (F0 m 74 ls []) := by
            clear hP hD hS hl
            intro Nloop_32
            induction Nloop_32 with
            | zero => intro i_24 F_25 hF_25 hbi_24 hm9; exact absurd hm9 (Nat.not_lt_zero _)
            | succ Nloop_32 loop_32_ih =>
              intro i_24 F_25 hF_25 hbi_24 hmloop_32 H locs ls hP hD hS hl
              refine lv_iload_n hx hb dX7_laysHop_74 rfl (lv_at hl 0 rfl) ?_
              refine lv_bipush (v := 8) hx hb dX7_laysHop_75 (by decide) ?_
              refine lv_icmp_ge (tgt := 92) hx hb dX7_laysHop_77 (by decide) (fun cb_33 => ?_) (fun cb_33 => ?_)
              · skip
                have cn_34 : 8 ≤ i_24 := (nI_leI (show 8 < 2 ^ 31 by omega) (show i_24 < 2 ^ 31 by omega)).mp cb_33
                refine lv_iconst (v := 0) hx hb dX7_laysHop_92 (by decide) ?_
                refine lv_istore_n (lv' := [(2, .int 0), (0, .ref Mm), (1, .int (nI hix))]) hx hb dX7_laysHop_93 rfl hl (by decide) rfl (fun ls hl => ?_)
                have loop_50 : ∀ (Nloop_50 : Nat) (i_40 : Nat) (F_41 : Nat → Int32) (hF_41 : mOK gs tb ub F_41) (hbi_40 : i_40 ≤ 1) (hmloop_50 : 1 - i_40 < Nloop_50) (H : Heap) (locs : List Loc) (ls : Array Slot), va_P D vwCl [(Mn, .inl (g 0, 1767, .inl F_41)), (Mr, .inl (g 0, 3, .inl fmr)), (Mrh, .inl (g 0, 9, .inl frh)), (Mm, .inr (7, [.int zth, .ref Mt, .int (nI tp), .int zma, .int zwr, .ref Mrr, .ref Mrh, .ref Mrc, .int zrh, .int zrc, .ref Mn, .ref Mf, .ref Mr, .ref Mh, .int (nI hp), .int (nI 1), .ref Ma, .ref Mas, .ref Msn, .ref Mac, .ref Mat])), (Mh, .inl (g 0, 9, .inl F_19))] H → va_D A [(Mn, .inl (g 0, 1767, .inl F_41)), (Mr, .inl (g 0, 3, .inl fmr)), (Mrh, .inl (g 0, 9, .inl frh)), (Mm, .inr (7, [.int zth, .ref Mt, .int (nI tp), .int zma, .int zwr, .ref Mrr, .ref Mrh, .ref Mrc, .int zrh, .int zrc, .ref Mn, .ref Mf, .ref Mr, .ref Mh, .int (nI hp), .int (nI 1), .ref Ma, .ref Mas, .ref Msn, .ref Mac, .ref Mat])), (Mh, .inl (g 0, 9, .inl F_19))] → va_S A s.heap H locs → lv_has ls 3 [(2, .int (nI i_40)), (0, .ref Mm), (1, .int (nI hix))] → W p l e (headSpec wsX7_laysHop ({ frames := 2, cells := 0, slots := 0, locals := 45 })).room s m ([.ref Mm, .int (nI hix)] : List Value).toArray below meth c H locs 0 0 Q (F0 m 94 ls []) := by
                  clear hP hD hS hl
                  intro Nloop_50
                  induction Nloop_50 with
                  | zero => intro i_40 F_41 hF_41 hbi_40 hm9; exact absurd hm9 (Nat.not_lt_zero _)
                  | succ Nloop_50 loop_50_ih =>
                    intro i_40 F_41 hF_41 hbi_40 hmloop_50 H locs ls hP hD hS hl
                    refine lv_iload_n hx hb dX7_laysHop_94 rfl (lv_at hl 0 rfl) ?_
                    refine lv_aload_n hx hb dX7_laysHop_95 rfl (lv_at hl 1 rfl) ?_
                    refine va_get (D := D) (ci := 7) (v := .int (nI 1)) (C := RX7) (T := TX7) (N := 21) hx hb hts iX7 hown hK hP 3 rfl rfl 15 (by decide) f127 (fun _ h9 => h9) rfl dX7_laysHop_96 ?_
                    refine lv_icmp_ge (tgt := 130) hx hb dX7_laysHop_99 (by decide) (fun cb_51 => ?_) (fun cb_51 => ?_)
                    · skip
                      have cn_52 : 1 ≤ i_40 := (nI_leI (show 1 < 2 ^ 31 by omega) (show i_40 < 2 ^ 31 by omega)).mp cb_51
                      have hPD9 : PD D A [(Mm, .inr (7, [.int zth, .ref Mt, .int (nI tp), .int zma, .int zwr, .ref Mrr, .ref Mrh, .ref Mrc, .int zrh, .int zrc, .ref Mn, .ref Mf, .ref Mr, .ref Mh, .int (nI hp), .int (nI 1), .ref Ma, .ref Mas, .ref Msn, .ref Mac, .ref Mat])), (Mn, .inl (g 0, 1767, .inl F_41)), (Mh, .inl (g 0, 9, .inl F_19)), (Mr, .inl (g 0, 3, .inl fmr)), (Mrh, .inl (g 0, 9, .inl frh))] H := ⟨hP.sub [3, 0, 4, 1, 2] rfl, hD.sub [3, 0, 4, 1, 2] (by decide) rfl⟩
                      have hP9 := hPD9.1; have hD9 := hPD9.2
                      subst hQ
                      refine W.widen (k := 0) (n := 0) (Nat.le_of_ble_eq_true rfl) (Nat.le_of_ble_eq_true rfl) ?_
                      exact W.vret hx hb hr (fun tS htS _ => ⟨⟨_, rfl, ⟨F_41, F_19, rfl, (hF_41), (hF_19)⟩, by rw [htS]; exact hP9, hD9⟩, hS.F htS⟩) hS.2.2 dX7_laysHop_130
                    · skip
                      have cn_53 : i_40 < 1 := Nat.lt_of_not_le (fun q9 => cb_51 ((nI_leI (show 1 < 2 ^ 31 by omega) (show i_40 < 2 ^ 31 by omega)).mpr q9))
                      refine lv_aload_n hx hb dX7_laysHop_102 rfl (lv_at hl 1 rfl) ?_
                      refine va_get (D := D) (ci := 7) (v := .ref Mn) (C := RX7) (T := TX7) (N := 21) hx hb hts iX7 hown hK hP 3 rfl rfl 10 (by decide) f22 (fun _ h9 => h9) rfl dX7_laysHop_103 ?_
                      refine lv_iload_n hx hb dX7_laysHop_106 rfl (lv_at hl 2 rfl) ?_
                      refine lv_iload_n hx hb dX7_laysHop_107 rfl (lv_at hl 0 rfl) ?_
                      refine ky_Si (As := [.int (nI hix), .int (nI i_40)]) (rest := [.ref Mn]) ⟨hx, hb, hml, hown, hts⟩ ⟨hK, hN⟩ hZ hP hD hS hA [] [0, 1, 2, 3, 4] (wc := []) (wr := [(Mn, .inl (g 0, 1767, .inl F_41)), (Mr, .inl (g 0, 3, .inl fmr)), (Mrh, .inl (g 0, 9, .inl frh)), (Mm, .inr (7, [.int zth, .ref Mt, .int (nI tp), .int zma, .int zwr, .ref Mrr, .ref Mrh, .ref Mrc, .int zrh, .int zrc, .ref Mn, .ref Mf, .ref Mr, .ref Mh, .int (nI hp), .int (nI 1), .ref Ma, .ref Mas, .ref Msn, .ref Mac, .ref Mat])), (Mh, .inl (g 0, 9, .inl F_19))]) rfl rfl rfl rfl (by decide) (k_X7_lane l D g H.size hix i_40 (show hix < 3 by omega) (show i_40 < 3 by omega)) (va_cwS 2 hts gX7_laysHop_X7_lane rfl rfl rfl (by decide +kernel) ⟨(Nat.le_of_ble_eq_true rfl), (Nat.le_of_ble_eq_true rfl)⟩) rfl hl.1 rfl (Nat.le_of_ble_eq_true rfl) dX7_laysHop_108 ⟨(Nat.le_of_ble_eq_true rfl), (Nat.le_of_ble_eq_true rfl)⟩ (fun r_54 u H locs hw hP2 hD2 hS2 => ?_)
                      clear hP hD hS
                      obtain ⟨rfl, rfl⟩ := hw
                      have hPD : PD D A [(Mn, .inl (g 0, 1767, .inl F_41)), (Mr, .inl (g 0, 3, .inl fmr)), (Mrh, .inl (g 0, 9, .inl frh)), (Mm, .inr (7, [.int zth, .ref Mt, .int (nI tp), .int zma, .int zwr, .ref Mrr, .ref Mrh, .ref Mrc, .int zrh, .int zrc, .ref Mn, .ref Mf, .ref Mr, .ref Mh, .int (nI hp), .int (nI 1), .ref Ma, .ref Mas, .ref Msn, .ref Mac, .ref Mat])), (Mh, .inl (g 0, 9, .inl F_19))] H := ⟨hP2, hD2⟩
                      have hS := hS2; clear hP2 hD2 hS2; have hP := hPD.1; have hD := hPD.2; clear hPD
                      refine W.widen (k := 0) (n := 0) (Nat.le_of_ble_eq_true rfl) (Nat.le_of_ble_eq_true rfl) ?_
                      refine lv_iconst (v := 3) hx hb dX7_laysHop_111 (by decide) ?_
                      refine lv_iadd hx hb dX7_laysHop_112 ?_
                      refine lv_eqi (y := (nI (7 * (3 * hix + i_40) + 3))) (nI_add (7 * (3 * hix + i_40)) (3)) ?_
                      refine lv_aload_n hx hb dX7_laysHop_113 rfl (lv_at hl 1 rfl) ?_
                      refine lv_iload_n hx hb dX7_laysHop_114 rfl (lv_at hl 2 rfl) ?_
                      refine ky_Vi (As := [.int (nI hix)]) (rest := [.int (nI (7 * (3 * hix + i_40) + 3)), .ref Mn]) ⟨hx, hb, hml, hown, hts⟩ ⟨hK, hN⟩ hZ hP hD hS hA [3, 4] [0, 1, 2] (wc := [(Mm, .inr (7, [.int zth, .ref Mt, .int (nI tp), .int zma, .int zwr, .ref Mrr, .ref Mrh, .ref Mrc, .int zrh, .int zrc, .ref Mn, .ref Mf, .ref Mr, .ref Mh, .int (nI hp), .int (nI 1), .ref Ma, .ref Mas, .ref Msn, .ref Mac, .ref Mat])), (Mh, .inl (g 0, 9, .inl F_19))]) (wr := [(Mn, .inl (g 0, 1767, .inl F_41)), (Mr, .inl (g 0, 3, .inl fmr)), (Mrh, .inl (g 0, 9, .inl frh))]) rfl rfl rfl rfl (by decide) (k_X7_pool l D g H.size Mm hix zth Mt tp zma zwr Mrr Mrh Mrc zrh zrc Mn Mf Mr Mh hp 1 Ma Mas Msn Mac Mat F_19 (show hix < 3 by omega) (hF_19)) (cwV 1 hts gX7_laysHop_X7_pool rfl rfl rfl (by decide +kernel) ⟨(Nat.le_of_ble_eq_true rfl), (Nat.le_of_ble_eq_true rfl)⟩) 3 7 rfl rfl rfl rfl hl.1 rfl (Nat.le_of_ble_eq_true rfl) dX7_laysHop_115 ⟨(Nat.le_of_ble_eq_true rfl), (Nat.le_of_ble_eq_true rfl)⟩ (fun r_55 u H locs hw hP2 hD2 hS2 => ?_)
                      clear hP hD hS
                      obtain ⟨dx_56, rfl, rfl, hf_57⟩ := hw
                      have hPD : PD D A [(Mn, .inl (g 0, 1767, .inl F_41)), (Mr, .inl (g 0, 3, .inl fmr)), (Mrh, .inl (g 0, 9, .inl frh)), (Mm, .inr (7, [.int zth, .ref Mt, .int (nI tp), .int zma, .int zwr, .ref Mrr, .ref Mrh, .ref Mrc, .int zrh, .int zrc, .ref Mn, .ref Mf, .ref Mr, .ref Mh, .int (nI hp), .int (nI 1), .ref Ma, .ref Mas, .ref Msn, .ref Mac, .ref Mat])), (Mh, .inl (g 0, 9, .inl F_19))] H := ⟨hP2, hD2⟩
                      have hS := hS2; clear hP2 hD2 hS2; have hP := hPD.1; have hD := hPD.2; clear hPD
                      refine W.widen (k := 0) (n := 0) (Nat.le_of_ble_eq_true rfl) (Nat.le_of_ble_eq_true rfl) ?_
                      refine lv_aload_n hx hb dX7_laysHop_118 rfl (lv_at hl 1 rfl) ?_
                      refine va_get (D := D) (ci := 7) (v := .int (nI 1)) (C := RX7) (T := TX7) (N := 21) hx hb hts iX7 hown hK hP 3 rfl rfl 15 (by decide) f127 (fun _ h9 => h9) rfl dX7_laysHop_119 ?_
                      refine lv_idiv hx hb dX7_laysHop_122 (nI_ne0 (show 0 < 1 by omega) (show 1 < 2 ^ 31 by omega)) ?_
                      refine lv_eqi (y := (nI ((dx_56) / 1))) (pk_div (show dx_56 < 2 ^ 31 by omega) (show 0 < 1 by omega) (show 1 < 2 ^ 31 by omega)) ?_
                      refine va_iast hx hb hK hP hD hS 0 0 rfl rfl (vp_in_nI (show 7 * (3 * hix + i_40) + 3 < 1767 by omega) (by decide)) dX7_laysHop_123 (fun H locs hP2 hD2 hS2 => ?_)
                      clear hP hD hS
                      have hPD : PD D A [(Mn, .inl (g 0, 1767, .inl (upd F_41 (nI (7 * (3 * hix + i_40) + 3)).toNatClampNeg (nI ((dx_56) / 1))))), (Mr, .inl (g 0, 3, .inl fmr)), (Mrh, .inl (g 0, 9, .inl frh)), (Mm, .inr (7, [.int zth, .ref Mt, .int (nI tp), .int zma, .int zwr, .ref Mrr, .ref Mrh, .ref Mrc, .int zrh, .int zrc, .ref Mn, .ref Mf, .ref Mr, .ref Mh, .int (nI hp), .int (nI 1), .ref Ma, .ref Mas, .ref Msn, .ref Mac, .ref Mat])), (Mh, .inl (g 0, 9, .inl F_19))] H := ⟨hP2, hD2⟩
                      have hS := hS2; clear hP2 hD2 hS2; have hP := hPD.1; have hD := hPD.2; clear hPD
                      rw [nI_clamp (show 7 * (3 * hix + i_40) + 3 < 2 ^ 31 by omega)] at hP hD
                      have hPD : PD D A [(Mn, .inl (g 0, 1767, .inl (upd F_41 (7 * (3 * hix + i_40) + 3) (nI ((dx_56) / 1))))), (Mr, .inl (g 0, 3, .inl fmr)), (Mrh, .inl (g 0, 9, .inl frh)), (Mm, .inr (7, [.int zth, .ref Mt, .int (nI tp), .int zma, .int zwr, .ref Mrr, .ref Mrh, .ref Mrc, .int zrh, .int zrc, .ref Mn, .ref Mf, .ref Mr, .ref Mh, .int (nI hp), .int (nI 1), .ref Ma, .ref Mas, .ref Msn, .ref Mac, .ref Mat])), (Mh, .inl (g 0, 9, .inl F_19))] H := ⟨hP, hD⟩
                      clear hP hD; have hP := hPD.1; have hD := hPD.2; clear hPD
                      have hF_58 : mOK gs tb ub (upd F_41 (7 * (3 * hix + i_40) + 3) (nI ((dx_56) / 1))) := mOK_free hF_41 (show mfree (7 * (3 * hix + i_40) + 3) by unfold mfree; omega)
                      generalize upd F_41 (7 * (3 * hix + i_40) + 3) (nI ((dx_56) / 1)) = F_58 at hP hD hF_58
                      refine lv_iinc (v := (nI (i_40 + 1))) (lv' := [(2, .int (nI (i_40 + 1))), (0, .ref Mm), (1, .int (nI hix))]) hx hb dX7_laysHop_124 hl (k := 0) rfl (nI_1 (i_40)) (by decide) rfl (fun ls hl => ?_)
                      refine lv_goto (tgt := 94) hx hb dX7_laysHop_127 (by decide) ?_
                      exact loop_50_ih (i_40 + 1) F_58 (hF_58) (show (i_40 + 1) ≤ 1 by omega) (show 1 - (i_40 + 1) < Nloop_50 by omega) _ _ _ hP hD hS hl
                exact loop_50 _ 0 F_25 (hF_25) (show 0 ≤ 1 by omega) (Nat.lt_succ_self _) _ _ _ hP hD hS hl
              · skip
                have cn_59 : i_24 < 8 := Nat.lt_of_not_le (fun q9 => cb_33 ((nI_leI (show 8 < 2 ^ 31 by omega) (show i_24 < 2 ^ 31 by omega)).mpr q9))
                refine lv_aload_n hx hb dX7_laysHop_80 rfl (lv_at hl 1 rfl) ?_
                refine lv_iload_n hx hb dX7_laysHop_81 rfl (lv_at hl 2 rfl) ?_
                refine lv_iload_n hx hb dX7_laysHop_82 rfl (lv_at hl 0 rfl) ?_
                refine ky_Vv (As := [.int (nI hix), .int (nI i_24)]) (rest := []) ⟨hx, hb, hml, hown, hts⟩ ⟨hK, hN⟩ hZ hP hD hS hA [3, 0] [1, 2, 4] (wc := [(Mm, .inr (7, [.int zth, .ref Mt, .int (nI tp), .int zma, .int zwr, .ref Mrr, .ref Mrh, .ref Mrc, .int zrh, .int zrc, .ref Mn, .ref Mf, .ref Mr, .ref Mh, .int (nI hp), .int (nI 1), .ref Ma, .ref Mas, .ref Msn, .ref Mac, .ref Mat])), (Mn, .inl (g 0, 1767, .inl F_25))]) (wr := [(Mr, .inl (g 0, 3, .inl fmr)), (Mrh, .inl (g 0, 9, .inl frh)), (Mh, .inl (g 0, 9, .inl F_19))]) rfl rfl rfl rfl (by decide) (k_X7_clearsWay l D g H.size Mm hix i_24 zth Mt tp zma zwr Mrr Mrh Mrc zrh zrc Mn Mf Mr Mh hp 1 Ma Mas Msn Mac Mat F_25 tb ub (show tb < 2 ^ 29 by omega) (show ub < 2 ^ 29 by omega) (hF_25) (show hix < 3 by omega) (show i_24 < 2 ^ 30 by omega)) (cwV 2 hts gX7_laysHop_X7_clearsWay rfl rfl rfl (by decide +kernel) ⟨(Nat.le_of_ble_eq_true rfl), (Nat.le_of_ble_eq_true rfl)⟩) 3 7 rfl rfl rfl rfl hl.1 rfl (Nat.le_of_ble_eq_true rfl) dX7_laysHop_83 ⟨(Nat.le_of_ble_eq_true rfl), (Nat.le_of_ble_eq_true rfl)⟩ (fun u H locs hw hP2 hD2 hS2 => ?_)
                clear hP hD hS
                obtain ⟨fnox_61, rfl, hf_62⟩ := hw
                have hPD : PD D A [(Mr, .inl (g 0, 3, .inl fmr)), (Mrh, .inl (g 0, 9, .inl frh)), (Mh, .inl (g 0, 9, .inl F_19)), (Mm, .inr (7, [.int zth, .ref Mt, .int (nI tp), .int zma, .int zwr, .ref Mrr, .ref Mrh, .ref Mrc, .int zrh, .int zrc, .ref Mn, .ref Mf, .ref Mr, .ref Mh, .int (nI hp), .int (nI 1), .ref Ma, .ref Mas, .ref Msn, .ref Mac, .ref Mat])), (Mn, .inl (g 0, 1767, .inl fnox_61))] H := ⟨hP2, hD2⟩
                have hS := hS2; clear hP2 hD2 hS2; have hP := hPD.1; have hD := hPD.2; clear hPD
                refine W.widen (k := 0) (n := 0) (Nat.le_of_ble_eq_true rfl) (Nat.le_of_ble_eq_true rfl) ?_
                refine lv_iinc (v := (nI (i_24 + 1))) (lv' := [(2, .int (nI (i_24 + 1))), (0, .ref Mm), (1, .int (nI hix))]) hx hb dX7_laysHop_86 hl (k := 0) rfl (nI_1 (i_24)) (by decide) rfl (fun ls hl => ?_)
                refine lv_goto (tgt := 74) hx hb dX7_laysHop_89 (by decide) ?_
                exact loop_32_ih (i_24 + 1) fnox_61 (hf_62) (show (i_24 + 1) ≤ 8 by omega) (show 8 - (i_24 + 1) < Nloop_32 by omega) _ _ _ (hP.sub [4, 0, 1, 3, 2] rfl) (hD.sub [4, 0, 1, 3, 2] (by decide) rfl) hS hl
          exact loop_32 _ 0 F_20 (hF_20) (show 0 ≤ 8 by omega) (Nat.lt_succ_self _) _ _ _ hP hD hS hl
        · skip
          have hP := hPq_13; have hD := hDq_13; have hS := hSq_13; have hl := hlq_13; clear hPq_13 hDq_13 hSq_13 hlq_13
          refine lv_aload_n hx hb dX7_laysHop_42 rfl (lv_at hl 1 rfl) ?_
          refine lv_iload_n hx hb dX7_laysHop_43 rfl (lv_at hl 2 rfl) ?_
          refine ky_Vi (As := [.int (nI hix)]) (rest := [.int (nI (3 * hix + 1)), .ref Mh]) ⟨hx, hb, hml, hown, hts⟩ ⟨hK, hN⟩ hZ hP hD hS hA [0, 2] [1, 3, 4] (wc := [(Mm, .inr (7, [.int zth, .ref Mt, .int (nI tp), .int zma, .int zwr, .ref Mrr, .ref Mrh, .ref Mrc, .int zrh, .int zrc, .ref Mn, .ref Mf, .ref Mr, .ref Mh, .int (nI hp), .int (nI 2), .ref Ma, .ref Mas, .ref Msn, .ref Mac, .ref Mat])), (Mh, .inl (g 0, 9, .inl F_4))]) (wr := [(Mn, .inl (g 0, 1767, .inl fno)), (Mr, .inl (g 0, 3, .inl fmr)), (Mrh, .inl (g 0, 9, .inl frh))]) rfl rfl rfl rfl (by decide) (k_X7_pool l D g H.size Mm hix zth Mt tp zma zwr Mrr Mrh Mrc zrh zrc Mn Mf Mr Mh hp 2 Ma Mas Msn Mac Mat F_4 (show hix < 3 by omega) (hF_4)) (cwV 1 hts gX7_laysHop_X7_pool rfl rfl rfl (by decide +kernel) ⟨(Nat.le_of_ble_eq_true rfl), (Nat.le_of_ble_eq_true rfl)⟩) 0 7 rfl rfl rfl rfl hl.1 rfl (Nat.le_of_ble_eq_true rfl) dX7_laysHop_44 ⟨(Nat.le_of_ble_eq_true rfl), (Nat.le_of_ble_eq_true rfl)⟩ (fun r_63 u H locs hw hP2 hD2 hS2 => ?_)
          clear hP hD hS
          obtain ⟨dx_64, rfl, rfl, hf_65⟩ := hw
          have hPD : PD D A [(Mn, .inl (g 0, 1767, .inl fno)), (Mr, .inl (g 0, 3, .inl fmr)), (Mrh, .inl (g 0, 9, .inl frh)), (Mm, .inr (7, [.int zth, .ref Mt, .int (nI tp), .int zma, .int zwr, .ref Mrr, .ref Mrh, .ref Mrc, .int zrh, .int zrc, .ref Mn, .ref Mf, .ref Mr, .ref Mh, .int (nI hp), .int (nI 2), .ref Ma, .ref Mas, .ref Msn, .ref Mac, .ref Mat])), (Mh, .inl (g 0, 9, .inl F_4))] H := ⟨hP2, hD2⟩
          have hS := hS2; clear hP2 hD2 hS2; have hP := hPD.1; have hD := hPD.2; clear hPD
          refine W.widen (k := 0) (n := 0) (Nat.le_of_ble_eq_true rfl) (Nat.le_of_ble_eq_true rfl) ?_
          refine lv_aload_n hx hb dX7_laysHop_47 rfl (lv_at hl 1 rfl) ?_
          refine va_get (D := D) (ci := 7) (v := .ref Mr) (C := RX7) (T := TX7) (N := 21) hx hb hts iX7 hown hK hP 3 rfl rfl 12 (by decide) f28 (fun _ h9 => h9) rfl dX7_laysHop_48 ?_
          refine lv_iconst (v := 0) hx hb dX7_laysHop_51 (by decide) ?_
          refine va_iald hx hb hK hP 1 0 rfl rfl (by unfold vp_in; decide) dX7_laysHop_52 ?_
          refine lv_eqi (y := (fmr 0)) (rfl) ?_
          obtain ⟨n_66, hn_66, q9⟩ := h10 (0)
          refine lv_eqi (y := nI n_66) q9 ?_
          refine lv_aload_n hx hb dX7_laysHop_53 rfl (lv_at hl 1 rfl) ?_
          refine va_get (D := D) (ci := 7) (v := .int (nI 2)) (C := RX7) (T := TX7) (N := 21) hx hb hts iX7 hown hK hP 3 rfl rfl 15 (by decide) f127 (fun _ h9 => h9) rfl dX7_laysHop_54 ?_
          refine lv_imul hx hb dX7_laysHop_57 ?_
          refine lv_eqi (y := (nI (n_66 * 2))) (pk_mul (n_66) (2)) ?_
          refine va_mmax hx hb (hml.trans hl.1.symm) hown mmmax mtmax mi mcmax (Nat.le_of_ble_eq_true rfl) (Nat.le_of_ble_eq_true rfl) (Nat.le_of_ble_eq_true rfl) (Nat.le_of_ble_eq_true rfl) dX7_laysHop_58 ?_
          obtain ⟨m_67, hm_67, q9⟩ := max_nat (a := dx_64) (b := n_66 * 2) (N := 300) (by omega) (by omega)
          refine lv_eqi (y := nI m_67) q9 ?_
          refine va_iast hx hb hK hP hD hS 4 0 rfl rfl (vp_in_nI (show 3 * hix + 1 < 9 by omega) (by decide)) dX7_laysHop_61 (fun H locs hP2 hD2 hS2 => ?_)
          clear hP hD hS
          have hPD : PD D A [(Mn, .inl (g 0, 1767, .inl fno)), (Mr, .inl (g 0, 3, .inl fmr)), (Mrh, .inl (g 0, 9, .inl frh)), (Mm, .inr (7, [.int zth, .ref Mt, .int (nI tp), .int zma, .int zwr, .ref Mrr, .ref Mrh, .ref Mrc, .int zrh, .int zrc, .ref Mn, .ref Mf, .ref Mr, .ref Mh, .int (nI hp), .int (nI 2), .ref Ma, .ref Mas, .ref Msn, .ref Mac, .ref Mat])), (Mh, .inl (g 0, 9, .inl (upd F_4 (nI (3 * hix + 1)).toNatClampNeg (nI m_67))))] H := ⟨hP2, hD2⟩
          have hS := hS2; clear hP2 hD2 hS2; have hP := hPD.1; have hD := hPD.2; clear hPD
          rw [nI_clamp (show 3 * hix + 1 < 2 ^ 31 by omega)] at hP hD
          have hPD : PD D A [(Mn, .inl (g 0, 1767, .inl fno)), (Mr, .inl (g 0, 3, .inl fmr)), (Mrh, .inl (g 0, 9, .inl frh)), (Mm, .inr (7, [.int zth, .ref Mt, .int (nI tp), .int zma, .int zwr, .ref Mrr, .ref Mrh, .ref Mrc, .int zrh, .int zrc, .ref Mn, .ref Mf, .ref Mr, .ref Mh, .int (nI hp), .int (nI 2), .ref Ma, .ref Mas, .ref Msn, .ref Mac, .ref Mat])), (Mh, .inl (g 0, 9, .inl (upd F_4 (3 * hix + 1) (nI m_67))))] H := ⟨hP, hD⟩
          clear hP hD; have hP := hPD.1; have hD := hPD.2; clear hPD
          have hF_68 : n3 (upd F_4 (3 * hix + 1) (nI m_67)) := n3_upd (hF_4) (n := m_67) (show m_67 ≤ 300 by omega)
          generalize upd F_4 (3 * hix + 1) (nI m_67) = F_68 at hP hD hF_68
          refine lv_aload_n hx hb dX7_laysHop_62 rfl (lv_at hl 1 rfl) ?_
          refine va_get (D := D) (ci := 7) (v := .ref Mn) (C := RX7) (T := TX7) (N := 21) hx hb hts iX7 hown hK hP 3 rfl rfl 10 (by decide) f22 (fun _ h9 => h9) rfl dX7_laysHop_63 ?_
          refine lv_bipush (v := 66) hx hb dX7_laysHop_66 (by decide) ?_
          refine lv_iload_n hx hb dX7_laysHop_68 rfl (lv_at hl 2 rfl) ?_
          refine lv_iadd hx hb dX7_laysHop_69 ?_
          refine lv_eqi (y := (nI (66 + hix))) (nI_add (66) (hix)) ?_
          refine lv_iconst (v := (-1)) hx hb dX7_laysHop_70 (by decide) ?_
          refine va_iast hx hb hK hP hD hS 0 0 rfl rfl (vp_in_nI (show 66 + hix < 1767 by omega) (by decide)) dX7_laysHop_71 (fun H locs hP2 hD2 hS2 => ?_)
          clear hP hD hS
          have hPD : PD D A [(Mn, .inl (g 0, 1767, .inl (upd fno (nI (66 + hix)).toNatClampNeg (-1)))), (Mr, .inl (g 0, 3, .inl fmr)), (Mrh, .inl (g 0, 9, .inl frh)), (Mm, .inr (7, [.int zth, .ref Mt, .int (nI tp), .int zma, .int zwr, .ref Mrr, .ref Mrh, .ref Mrc, .int zrh, .int zrc, .ref Mn, .ref Mf, .ref Mr, .ref Mh, .int (nI hp), .int (nI 2), .ref Ma, .ref Mas, .ref Msn, .ref Mac, .ref Mat])), (Mh, .inl (g 0, 9, .inl F_68))] H := ⟨hP2, hD2⟩
          have hS := hS2; clear hP2 hD2 hS2; have hP := hPD.1; have hD := hPD.2; clear hPD
          rw [nI_clamp (show 66 + hix < 2 ^ 31 by omega)] at hP hD
          have hPD : PD D A [(Mn, .inl (g 0, 1767, .inl (upd fno (66 + hix) (-1)))), (Mr, .inl (g 0, 3, .inl fmr)), (Mrh, .inl (g 0, 9, .inl frh)), (Mm, .inr (7, [.int zth, .ref Mt, .int (nI tp), .int zma, .int zwr, .ref Mrr, .ref Mrh, .ref Mrc, .int zrh, .int zrc, .ref Mn, .ref Mf, .ref Mr, .ref Mh, .int (nI hp), .int (nI 2), .ref Ma, .ref Mas, .ref Msn, .ref Mac, .ref Mat])), (Mh, .inl (g 0, 9, .inl F_68))] H := ⟨hP, hD⟩
          clear hP hD; have hP := hPD.1; have hD := hPD.2; clear hPD
          have hF_69 : mOK gs tb ub (upd fno (66 + hix) (-1)) := mOK_okc h2 (okc_m) (show 66 + hix < 189 by omega)
          generalize upd fno (66 + hix) (-1) = F_69 at hP hD hF_69
          refine lv_iconst (v := 0) hx hb dX7_laysHop_72 (by decide) ?_
          refine lv_istore_n (lv' := [(2, .int 0), (0, .ref Mm), (1, .int (nI hix))]) hx hb dX7_laysHop_73 rfl hl (by decide) rfl (fun ls hl => ?_)
          have loop_81 : ∀ (Nloop_81 : Nat) (i_73 : Nat) (F_74 : Nat → Int32) (hF_74 : mOK gs tb ub F_74) (hbi_73 : i_73 ≤ 8) (hmloop_81 : 8 - i_73 < Nloop_81) (H : Heap) (locs : List Loc) (ls : Array Slot), va_P D vwCl [(Mn, .inl (g 0, 1767, .inl F_74)), (Mr, .inl (g 0, 3, .inl fmr)), (Mrh, .inl (g 0, 9, .inl frh)), (Mm, .inr (7, [.int zth, .ref Mt, .int (nI tp), .int zma, .int zwr, .ref Mrr, .ref Mrh, .ref Mrc, .int zrh, .int zrc, .ref Mn, .ref Mf, .ref Mr, .ref Mh, .int (nI hp), .int (nI 2), .ref Ma, .ref Mas, .ref Msn, .ref Mac, .ref Mat])), (Mh, .inl (g 0, 9, .inl F_68))] H → va_D A [(Mn, .inl (g 0, 1767, .inl F_74)), (Mr, .inl (g 0, 3, .inl fmr)), (Mrh, .inl (g 0, 9, .inl frh)), (Mm, .inr (7, [.int zth, .ref Mt, .int (nI tp), .int zma, .int zwr, .ref Mrr, .ref Mrh, .ref Mrc, .int zrh, .int zrc, .ref Mn, .ref Mf, .ref Mr, .ref Mh, .int (nI hp), .int (nI 2), .ref Ma, .ref Mas, .ref Msn, .ref Mac, .ref Mat])), (Mh, .inl (g 0, 9, .inl F_68))] → va_S A s.heap H locs → lv_has ls 3 [(2, .int (nI i_73)), (0, .ref Mm), (1, .int (nI hix))] → W p l e (headSpec wsX7_laysHop ({ frames := 2, cells := 0, slots := 0, locals := 45 })).room s m ([.ref Mm, .int (nI hix)] : List Value).toArray below meth c H locs 0 0 Q (F0 m 74 ls []) := by
            clear hP hD hS hl
            intro Nloop_81
            induction Nloop_81 with
            | zero => intro i_73 F_74 hF_74 hbi_73 hm9; exact absurd hm9 (Nat.not_lt_zero _)
            | succ Nloop_81 loop_81_ih =>
              intro i_73 F_74 hF_74 hbi_73 hmloop_81 H locs ls hP hD hS hl
              refine lv_iload_n hx hb dX7_laysHop_74 rfl (lv_at hl 0 rfl) ?_
              refine lv_bipush (v := 8) hx hb dX7_laysHop_75 (by decide) ?_
              refine lv_icmp_ge (tgt := 92) hx hb dX7_laysHop_77 (by decide) (fun cb_82 => ?_) (fun cb_82 => ?_)
              · skip
                have cn_83 : 8 ≤ i_73 := (nI_leI (show 8 < 2 ^ 31 by omega) (show i_73 < 2 ^ 31 by omega)).mp cb_82
                refine lv_iconst (v := 0) hx hb dX7_laysHop_92 (by decide) ?_
                refine lv_istore_n (lv' := [(2, .int 0), (0, .ref Mm), (1, .int (nI hix))]) hx hb dX7_laysHop_93 rfl hl (by decide) rfl (fun ls hl => ?_)
                have loop_99 : ∀ (Nloop_99 : Nat) (i_89 : Nat) (F_90 : Nat → Int32) (hF_90 : mOK gs tb ub F_90) (hbi_89 : i_89 ≤ 2) (hmloop_99 : 2 - i_89 < Nloop_99) (H : Heap) (locs : List Loc) (ls : Array Slot), va_P D vwCl [(Mn, .inl (g 0, 1767, .inl F_90)), (Mr, .inl (g 0, 3, .inl fmr)), (Mrh, .inl (g 0, 9, .inl frh)), (Mm, .inr (7, [.int zth, .ref Mt, .int (nI tp), .int zma, .int zwr, .ref Mrr, .ref Mrh, .ref Mrc, .int zrh, .int zrc, .ref Mn, .ref Mf, .ref Mr, .ref Mh, .int (nI hp), .int (nI 2), .ref Ma, .ref Mas, .ref Msn, .ref Mac, .ref Mat])), (Mh, .inl (g 0, 9, .inl F_68))] H → va_D A [(Mn, .inl (g 0, 1767, .inl F_90)), (Mr, .inl (g 0, 3, .inl fmr)), (Mrh, .inl (g 0, 9, .inl frh)), (Mm, .inr (7, [.int zth, .ref Mt, .int (nI tp), .int zma, .int zwr, .ref Mrr, .ref Mrh, .ref Mrc, .int zrh, .int zrc, .ref Mn, .ref Mf, .ref Mr, .ref Mh, .int (nI hp), .int (nI 2), .ref Ma, .ref Mas, .ref Msn, .ref Mac, .ref Mat])), (Mh, .inl (g 0, 9, .inl F_68))] → va_S A s.heap H locs → lv_has ls 3 [(2, .int (nI i_89)), (0, .ref Mm), (1, .int (nI hix))] → W p l e (headSpec wsX7_laysHop ({ frames := 2, cells := 0, slots := 0, locals := 45 })).room s m ([.ref Mm, .int (nI hix)] : List Value).toArray below meth c H locs 0 0 Q (F0 m 94 ls []) := by
                  clear hP hD hS hl
                  intro Nloop_99
                  induction Nloop_99 with
                  | zero => intro i_89 F_90 hF_90 hbi_89 hm9; exact absurd hm9 (Nat.not_lt_zero _)
                  | succ Nloop_99 loop_99_ih =>
                    intro i_89 F_90 hF_90 hbi_89 hmloop_99 H locs ls hP hD hS hl
                    refine lv_iload_n hx hb dX7_laysHop_94 rfl (lv_at hl 0 rfl) ?_
                    refine lv_aload_n hx hb dX7_laysHop_95 rfl (lv_at hl 1 rfl) ?_
                    refine va_get (D := D) (ci := 7) (v := .int (nI 2)) (C := RX7) (T := TX7) (N := 21) hx hb hts iX7 hown hK hP 3 rfl rfl 15 (by decide) f127 (fun _ h9 => h9) rfl dX7_laysHop_96 ?_
                    refine lv_icmp_ge (tgt := 130) hx hb dX7_laysHop_99 (by decide) (fun cb_100 => ?_) (fun cb_100 => ?_)
                    · skip
                      have cn_101 : 2 ≤ i_89 := (nI_leI (show 2 < 2 ^ 31 by omega) (show i_89 < 2 ^ 31 by omega)).mp cb_100
                      have hPD9 : PD D A [(Mm, .inr (7, [.int zth, .ref Mt, .int (nI tp), .int zma, .int zwr, .ref Mrr, .ref Mrh, .ref Mrc, .int zrh, .int zrc, .ref Mn, .ref Mf, .ref Mr, .ref Mh, .int (nI hp), .int (nI 2), .ref Ma, .ref Mas, .ref Msn, .ref Mac, .ref Mat])), (Mn, .inl (g 0, 1767, .inl F_90)), (Mh, .inl (g 0, 9, .inl F_68)), (Mr, .inl (g 0, 3, .inl fmr)), (Mrh, .inl (g 0, 9, .inl frh))] H := ⟨hP.sub [3, 0, 4, 1, 2] rfl, hD.sub [3, 0, 4, 1, 2] (by decide) rfl⟩
                      have hP9 := hPD9.1; have hD9 := hPD9.2
                      subst hQ
                      refine W.widen (k := 0) (n := 0) (Nat.le_of_ble_eq_true rfl) (Nat.le_of_ble_eq_true rfl) ?_
                      exact W.vret hx hb hr (fun tS htS _ => ⟨⟨_, rfl, ⟨F_90, F_68, rfl, (hF_90), (hF_68)⟩, by rw [htS]; exact hP9, hD9⟩, hS.F htS⟩) hS.2.2 dX7_laysHop_130
                    · skip
                      have cn_102 : i_89 < 2 := Nat.lt_of_not_le (fun q9 => cb_100 ((nI_leI (show 2 < 2 ^ 31 by omega) (show i_89 < 2 ^ 31 by omega)).mpr q9))
                      refine lv_aload_n hx hb dX7_laysHop_102 rfl (lv_at hl 1 rfl) ?_
                      refine va_get (D := D) (ci := 7) (v := .ref Mn) (C := RX7) (T := TX7) (N := 21) hx hb hts iX7 hown hK hP 3 rfl rfl 10 (by decide) f22 (fun _ h9 => h9) rfl dX7_laysHop_103 ?_
                      refine lv_iload_n hx hb dX7_laysHop_106 rfl (lv_at hl 2 rfl) ?_
                      refine lv_iload_n hx hb dX7_laysHop_107 rfl (lv_at hl 0 rfl) ?_
                      refine ky_Si (As := [.int (nI hix), .int (nI i_89)]) (rest := [.ref Mn]) ⟨hx, hb, hml, hown, hts⟩ ⟨hK, hN⟩ hZ hP hD hS hA [] [0, 1, 2, 3, 4] (wc := []) (wr := [(Mn, .inl (g 0, 1767, .inl F_90)), (Mr, .inl (g 0, 3, .inl fmr)), (Mrh, .inl (g 0, 9, .inl frh)), (Mm, .inr (7, [.int zth, .ref Mt, .int (nI tp), .int zma, .int zwr, .ref Mrr, .ref Mrh, .ref Mrc, .int zrh, .int zrc, .ref Mn, .ref Mf, .ref Mr, .ref Mh, .int (nI hp), .int (nI 2), .ref Ma, .ref Mas, .ref Msn, .ref Mac, .ref Mat])), (Mh, .inl (g 0, 9, .inl F_68))]) rfl rfl rfl rfl (by decide) (k_X7_lane l D g H.size hix i_89 (show hix < 3 by omega) (show i_89 < 3 by omega)) (va_cwS 2 hts gX7_laysHop_X7_lane rfl rfl rfl (by decide +kernel) ⟨(Nat.le_of_ble_eq_true rfl), (Nat.le_of_ble_eq_true rfl)⟩) rfl hl.1 rfl (Nat.le_of_ble_eq_true rfl) dX7_laysHop_108 ⟨(Nat.le_of_ble_eq_true rfl), (Nat.le_of_ble_eq_true rfl)⟩ (fun r_103 u H locs hw hP2 hD2 hS2 => ?_)
                      clear hP hD hS
                      obtain ⟨rfl, rfl⟩ := hw
                      have hPD : PD D A [(Mn, .inl (g 0, 1767, .inl F_90)), (Mr, .inl (g 0, 3, .inl fmr)), (Mrh, .inl (g 0, 9, .inl frh)), (Mm, .inr (7, [.int zth, .ref Mt, .int (nI tp), .int zma, .int zwr, .ref Mrr, .ref Mrh, .ref Mrc, .int zrh, .int zrc, .ref Mn, .ref Mf, .ref Mr, .ref Mh, .int (nI hp), .int (nI 2), .ref Ma, .ref Mas, .ref Msn, .ref Mac, .ref Mat])), (Mh, .inl (g 0, 9, .inl F_68))] H := ⟨hP2, hD2⟩
                      have hS := hS2; clear hP2 hD2 hS2; have hP := hPD.1; have hD := hPD.2; clear hPD
                      refine W.widen (k := 0) (n := 0) (Nat.le_of_ble_eq_true rfl) (Nat.le_of_ble_eq_true rfl) ?_
                      refine lv_iconst (v := 3) hx hb dX7_laysHop_111 (by decide) ?_
                      refine lv_iadd hx hb dX7_laysHop_112 ?_
                      refine lv_eqi (y := (nI (7 * (3 * hix + i_89) + 3))) (nI_add (7 * (3 * hix + i_89)) (3)) ?_
                      refine lv_aload_n hx hb dX7_laysHop_113 rfl (lv_at hl 1 rfl) ?_
                      refine lv_iload_n hx hb dX7_laysHop_114 rfl (lv_at hl 2 rfl) ?_
                      refine ky_Vi (As := [.int (nI hix)]) (rest := [.int (nI (7 * (3 * hix + i_89) + 3)), .ref Mn]) ⟨hx, hb, hml, hown, hts⟩ ⟨hK, hN⟩ hZ hP hD hS hA [3, 4] [0, 1, 2] (wc := [(Mm, .inr (7, [.int zth, .ref Mt, .int (nI tp), .int zma, .int zwr, .ref Mrr, .ref Mrh, .ref Mrc, .int zrh, .int zrc, .ref Mn, .ref Mf, .ref Mr, .ref Mh, .int (nI hp), .int (nI 2), .ref Ma, .ref Mas, .ref Msn, .ref Mac, .ref Mat])), (Mh, .inl (g 0, 9, .inl F_68))]) (wr := [(Mn, .inl (g 0, 1767, .inl F_90)), (Mr, .inl (g 0, 3, .inl fmr)), (Mrh, .inl (g 0, 9, .inl frh))]) rfl rfl rfl rfl (by decide) (k_X7_pool l D g H.size Mm hix zth Mt tp zma zwr Mrr Mrh Mrc zrh zrc Mn Mf Mr Mh hp 2 Ma Mas Msn Mac Mat F_68 (show hix < 3 by omega) (hF_68)) (cwV 1 hts gX7_laysHop_X7_pool rfl rfl rfl (by decide +kernel) ⟨(Nat.le_of_ble_eq_true rfl), (Nat.le_of_ble_eq_true rfl)⟩) 3 7 rfl rfl rfl rfl hl.1 rfl (Nat.le_of_ble_eq_true rfl) dX7_laysHop_115 ⟨(Nat.le_of_ble_eq_true rfl), (Nat.le_of_ble_eq_true rfl)⟩ (fun r_104 u H locs hw hP2 hD2 hS2 => ?_)
                      clear hP hD hS
                      obtain ⟨dx_105, rfl, rfl, hf_106⟩ := hw
                      have hPD : PD D A [(Mn, .inl (g 0, 1767, .inl F_90)), (Mr, .inl (g 0, 3, .inl fmr)), (Mrh, .inl (g 0, 9, .inl frh)), (Mm, .inr (7, [.int zth, .ref Mt, .int (nI tp), .int zma, .int zwr, .ref Mrr, .ref Mrh, .ref Mrc, .int zrh, .int zrc, .ref Mn, .ref Mf, .ref Mr, .ref Mh, .int (nI hp), .int (nI 2), .ref Ma, .ref Mas, .ref Msn, .ref Mac, .ref Mat])), (Mh, .inl (g 0, 9, .inl F_68))] H := ⟨hP2, hD2⟩
                      have hS := hS2; clear hP2 hD2 hS2; have hP := hPD.1; have hD := hPD.2; clear hPD
                      refine W.widen (k := 0) (n := 0) (Nat.le_of_ble_eq_true rfl) (Nat.le_of_ble_eq_true rfl) ?_
                      refine lv_aload_n hx hb dX7_laysHop_118 rfl (lv_at hl 1 rfl) ?_
                      refine va_get (D := D) (ci := 7) (v := .int (nI 2)) (C := RX7) (T := TX7) (N := 21) hx hb hts iX7 hown hK hP 3 rfl rfl 15 (by decide) f127 (fun _ h9 => h9) rfl dX7_laysHop_119 ?_
                      refine lv_idiv hx hb dX7_laysHop_122 (nI_ne0 (show 0 < 2 by omega) (show 2 < 2 ^ 31 by omega)) ?_
                      refine lv_eqi (y := (nI ((dx_105) / 2))) (pk_div (show dx_105 < 2 ^ 31 by omega) (show 0 < 2 by omega) (show 2 < 2 ^ 31 by omega)) ?_
                      refine va_iast hx hb hK hP hD hS 0 0 rfl rfl (vp_in_nI (show 7 * (3 * hix + i_89) + 3 < 1767 by omega) (by decide)) dX7_laysHop_123 (fun H locs hP2 hD2 hS2 => ?_)
                      clear hP hD hS
                      have hPD : PD D A [(Mn, .inl (g 0, 1767, .inl (upd F_90 (nI (7 * (3 * hix + i_89) + 3)).toNatClampNeg (nI ((dx_105) / 2))))), (Mr, .inl (g 0, 3, .inl fmr)), (Mrh, .inl (g 0, 9, .inl frh)), (Mm, .inr (7, [.int zth, .ref Mt, .int (nI tp), .int zma, .int zwr, .ref Mrr, .ref Mrh, .ref Mrc, .int zrh, .int zrc, .ref Mn, .ref Mf, .ref Mr, .ref Mh, .int (nI hp), .int (nI 2), .ref Ma, .ref Mas, .ref Msn, .ref Mac, .ref Mat])), (Mh, .inl (g 0, 9, .inl F_68))] H := ⟨hP2, hD2⟩
                      have hS := hS2; clear hP2 hD2 hS2; have hP := hPD.1; have hD := hPD.2; clear hPD
                      rw [nI_clamp (show 7 * (3 * hix + i_89) + 3 < 2 ^ 31 by omega)] at hP hD
                      have hPD : PD D A [(Mn, .inl (g 0, 1767, .inl (upd F_90 (7 * (3 * hix + i_89) + 3) (nI ((dx_105) / 2))))), (Mr, .inl (g 0, 3, .inl fmr)), (Mrh, .inl (g 0, 9, .inl frh)), (Mm, .inr (7, [.int zth, .ref Mt, .int (nI tp), .int zma, .int zwr, .ref Mrr, .ref Mrh, .ref Mrc, .int zrh, .int zrc, .ref Mn, .ref Mf, .ref Mr, .ref Mh, .int (nI hp), .int (nI 2), .ref Ma, .ref Mas, .ref Msn, .ref Mac, .ref Mat])), (Mh, .inl (g 0, 9, .inl F_68))] H := ⟨hP, hD⟩
                      clear hP hD; have hP := hPD.1; have hD := hPD.2; clear hPD
                      have hF_107 : mOK gs tb ub (upd F_90 (7 * (3 * hix + i_89) + 3) (nI ((dx_105) / 2))) := mOK_free hF_90 (show mfree (7 * (3 * hix + i_89) + 3) by unfold mfree; omega)
                      generalize upd F_90 (7 * (3 * hix + i_89) + 3) (nI ((dx_105) / 2)) = F_107 at hP hD hF_107
                      refine lv_iinc (v := (nI (i_89 + 1))) (lv' := [(2, .int (nI (i_89 + 1))), (0, .ref Mm), (1, .int (nI hix))]) hx hb dX7_laysHop_124 hl (k := 0) rfl (nI_1 (i_89)) (by decide) rfl (fun ls hl => ?_)
                      refine lv_goto (tgt := 94) hx hb dX7_laysHop_127 (by decide) ?_
                      exact loop_99_ih (i_89 + 1) F_107 (hF_107) (show (i_89 + 1) ≤ 2 by omega) (show 2 - (i_89 + 1) < Nloop_99 by omega) _ _ _ hP hD hS hl
                exact loop_99 _ 0 F_74 (hF_74) (show 0 ≤ 2 by omega) (Nat.lt_succ_self _) _ _ _ hP hD hS hl
              · skip
                have cn_108 : i_73 < 8 := Nat.lt_of_not_le (fun q9 => cb_82 ((nI_leI (show 8 < 2 ^ 31 by omega) (show i_73 < 2 ^ 31 by omega)).mpr q9))
                refine lv_aload_n hx hb dX7_laysHop_80 rfl (lv_at hl 1 rfl) ?_
                refine lv_iload_n hx hb dX7_laysHop_81 rfl (lv_at hl 2 rfl) ?_
                refine lv_iload_n hx hb dX7_laysHop_82 rfl (lv_at hl 0 rfl) ?_
                refine ky_Vv (As := [.int (nI hix), .int (nI i_73)]) (rest := []) ⟨hx, hb, hml, hown, hts⟩ ⟨hK, hN⟩ hZ hP hD hS hA [3, 0] [1, 2, 4] (wc := [(Mm, .inr (7, [.int zth, .ref Mt, .int (nI tp), .int zma, .int zwr, .ref Mrr, .ref Mrh, .ref Mrc, .int zrh, .int zrc, .ref Mn, .ref Mf, .ref Mr, .ref Mh, .int (nI hp), .int (nI 2), .ref Ma, .ref Mas, .ref Msn, .ref Mac, .ref Mat])), (Mn, .inl (g 0, 1767, .inl F_74))]) (wr := [(Mr, .inl (g 0, 3, .inl fmr)), (Mrh, .inl (g 0, 9, .inl frh)), (Mh, .inl (g 0, 9, .inl F_68))]) rfl rfl rfl rfl (by decide) (k_X7_clearsWay l D g H.size Mm hix i_73 zth Mt tp zma zwr Mrr Mrh Mrc zrh zrc Mn Mf Mr Mh hp 2 Ma Mas Msn Mac Mat F_74 tb ub (show tb < 2 ^ 29 by omega) (show ub < 2 ^ 29 by omega) (hF_74) (show hix < 3 by omega) (show i_73 < 2 ^ 30 by omega)) (cwV 2 hts gX7_laysHop_X7_clearsWay rfl rfl rfl (by decide +kernel) ⟨(Nat.le_of_ble_eq_true rfl), (Nat.le_of_ble_eq_true rfl)⟩) 3 7 rfl rfl rfl rfl hl.1 rfl (Nat.le_of_ble_eq_true rfl) dX7_laysHop_83 ⟨(Nat.le_of_ble_eq_true rfl), (Nat.le_of_ble_eq_true rfl)⟩ (fun u H locs hw hP2 hD2 hS2 => ?_)
                clear hP hD hS
                obtain ⟨fnox_110, rfl, hf_111⟩ := hw
                have hPD : PD D A [(Mr, .inl (g 0, 3, .inl fmr)), (Mrh, .inl (g 0, 9, .inl frh)), (Mh, .inl (g 0, 9, .inl F_68)), (Mm, .inr (7, [.int zth, .ref Mt, .int (nI tp), .int zma, .int zwr, .ref Mrr, .ref Mrh, .ref Mrc, .int zrh, .int zrc, .ref Mn, .ref Mf, .ref Mr, .ref Mh, .int (nI hp), .int (nI 2), .ref Ma, .ref Mas, .ref Msn, .ref Mac, .ref Mat])), (Mn, .inl (g 0, 1767, .inl fnox_110))] H := ⟨hP2, hD2⟩
                have hS := hS2; clear hP2 hD2 hS2; have hP := hPD.1; have hD := hPD.2; clear hPD
                refine W.widen (k := 0) (n := 0) (Nat.le_of_ble_eq_true rfl) (Nat.le_of_ble_eq_true rfl) ?_
                refine lv_iinc (v := (nI (i_73 + 1))) (lv' := [(2, .int (nI (i_73 + 1))), (0, .ref Mm), (1, .int (nI hix))]) hx hb dX7_laysHop_86 hl (k := 0) rfl (nI_1 (i_73)) (by decide) rfl (fun ls hl => ?_)
                refine lv_goto (tgt := 74) hx hb dX7_laysHop_89 (by decide) ?_
                exact loop_81_ih (i_73 + 1) fnox_110 (hf_111) (show (i_73 + 1) ≤ 8 by omega) (show 8 - (i_73 + 1) < Nloop_81 by omega) _ _ _ (hP.sub [4, 0, 1, 3, 2] rfl) (hD.sub [4, 0, 1, 3, 2] (by decide) rfl) hS hl
          exact loop_81 _ 0 F_69 (hF_69) (show 0 ≤ 8 by omega) (Nat.lt_succ_self _) _ _ _ hP hD hS hl
        · skip
          have hP := hPq_13; have hD := hDq_13; have hS := hSq_13; have hl := hlq_13; clear hPq_13 hDq_13 hSq_13 hlq_13
          refine lv_aload_n hx hb dX7_laysHop_42 rfl (lv_at hl 1 rfl) ?_
          refine lv_iload_n hx hb dX7_laysHop_43 rfl (lv_at hl 2 rfl) ?_
          refine ky_Vi (As := [.int (nI hix)]) (rest := [.int (nI (3 * hix + 1)), .ref Mh]) ⟨hx, hb, hml, hown, hts⟩ ⟨hK, hN⟩ hZ hP hD hS hA [0, 2] [1, 3, 4] (wc := [(Mm, .inr (7, [.int zth, .ref Mt, .int (nI tp), .int zma, .int zwr, .ref Mrr, .ref Mrh, .ref Mrc, .int zrh, .int zrc, .ref Mn, .ref Mf, .ref Mr, .ref Mh, .int (nI hp), .int (nI 3), .ref Ma, .ref Mas, .ref Msn, .ref Mac, .ref Mat])), (Mh, .inl (g 0, 9, .inl F_4))]) (wr := [(Mn, .inl (g 0, 1767, .inl fno)), (Mr, .inl (g 0, 3, .inl fmr)), (Mrh, .inl (g 0, 9, .inl frh))]) rfl rfl rfl rfl (by decide) (k_X7_pool l D g H.size Mm hix zth Mt tp zma zwr Mrr Mrh Mrc zrh zrc Mn Mf Mr Mh hp 3 Ma Mas Msn Mac Mat F_4 (show hix < 3 by omega) (hF_4)) (cwV 1 hts gX7_laysHop_X7_pool rfl rfl rfl (by decide +kernel) ⟨(Nat.le_of_ble_eq_true rfl), (Nat.le_of_ble_eq_true rfl)⟩) 0 7 rfl rfl rfl rfl hl.1 rfl (Nat.le_of_ble_eq_true rfl) dX7_laysHop_44 ⟨(Nat.le_of_ble_eq_true rfl), (Nat.le_of_ble_eq_true rfl)⟩ (fun r_112 u H locs hw hP2 hD2 hS2 => ?_)
          clear hP hD hS
          obtain ⟨dx_113, rfl, rfl, hf_114⟩ := hw
          have hPD : PD D A [(Mn, .inl (g 0, 1767, .inl fno)), (Mr, .inl (g 0, 3, .inl fmr)), (Mrh, .inl (g 0, 9, .inl frh)), (Mm, .inr (7, [.int zth, .ref Mt, .int (nI tp), .int zma, .int zwr, .ref Mrr, .ref Mrh, .ref Mrc, .int zrh, .int zrc, .ref Mn, .ref Mf, .ref Mr, .ref Mh, .int (nI hp), .int (nI 3), .ref Ma, .ref Mas, .ref Msn, .ref Mac, .ref Mat])), (Mh, .inl (g 0, 9, .inl F_4))] H := ⟨hP2, hD2⟩
          have hS := hS2; clear hP2 hD2 hS2; have hP := hPD.1; have hD := hPD.2; clear hPD
          refine W.widen (k := 0) (n := 0) (Nat.le_of_ble_eq_true rfl) (Nat.le_of_ble_eq_true rfl) ?_
          refine lv_aload_n hx hb dX7_laysHop_47 rfl (lv_at hl 1 rfl) ?_
          refine va_get (D := D) (ci := 7) (v := .ref Mr) (C := RX7) (T := TX7) (N := 21) hx hb hts iX7 hown hK hP 3 rfl rfl 12 (by decide) f28 (fun _ h9 => h9) rfl dX7_laysHop_48 ?_
          refine lv_iconst (v := 0) hx hb dX7_laysHop_51 (by decide) ?_
          refine va_iald hx hb hK hP 1 0 rfl rfl (by unfold vp_in; decide) dX7_laysHop_52 ?_
          refine lv_eqi (y := (fmr 0)) (rfl) ?_
          obtain ⟨n_115, hn_115, q9⟩ := h10 (0)
          refine lv_eqi (y := nI n_115) q9 ?_
          refine lv_aload_n hx hb dX7_laysHop_53 rfl (lv_at hl 1 rfl) ?_
          refine va_get (D := D) (ci := 7) (v := .int (nI 3)) (C := RX7) (T := TX7) (N := 21) hx hb hts iX7 hown hK hP 3 rfl rfl 15 (by decide) f127 (fun _ h9 => h9) rfl dX7_laysHop_54 ?_
          refine lv_imul hx hb dX7_laysHop_57 ?_
          refine lv_eqi (y := (nI (n_115 * 3))) (pk_mul (n_115) (3)) ?_
          refine va_mmax hx hb (hml.trans hl.1.symm) hown mmmax mtmax mi mcmax (Nat.le_of_ble_eq_true rfl) (Nat.le_of_ble_eq_true rfl) (Nat.le_of_ble_eq_true rfl) (Nat.le_of_ble_eq_true rfl) dX7_laysHop_58 ?_
          obtain ⟨m_116, hm_116, q9⟩ := max_nat (a := dx_113) (b := n_115 * 3) (N := 300) (by omega) (by omega)
          refine lv_eqi (y := nI m_116) q9 ?_
          refine va_iast hx hb hK hP hD hS 4 0 rfl rfl (vp_in_nI (show 3 * hix + 1 < 9 by omega) (by decide)) dX7_laysHop_61 (fun H locs hP2 hD2 hS2 => ?_)
          clear hP hD hS
          have hPD : PD D A [(Mn, .inl (g 0, 1767, .inl fno)), (Mr, .inl (g 0, 3, .inl fmr)), (Mrh, .inl (g 0, 9, .inl frh)), (Mm, .inr (7, [.int zth, .ref Mt, .int (nI tp), .int zma, .int zwr, .ref Mrr, .ref Mrh, .ref Mrc, .int zrh, .int zrc, .ref Mn, .ref Mf, .ref Mr, .ref Mh, .int (nI hp), .int (nI 3), .ref Ma, .ref Mas, .ref Msn, .ref Mac, .ref Mat])), (Mh, .inl (g 0, 9, .inl (upd F_4 (nI (3 * hix + 1)).toNatClampNeg (nI m_116))))] H := ⟨hP2, hD2⟩
          have hS := hS2; clear hP2 hD2 hS2; have hP := hPD.1; have hD := hPD.2; clear hPD
          rw [nI_clamp (show 3 * hix + 1 < 2 ^ 31 by omega)] at hP hD
          have hPD : PD D A [(Mn, .inl (g 0, 1767, .inl fno)), (Mr, .inl (g 0, 3, .inl fmr)), (Mrh, .inl (g 0, 9, .inl frh)), (Mm, .inr (7, [.int zth, .ref Mt, .int (nI tp), .int zma, .int zwr, .ref Mrr, .ref Mrh, .ref Mrc, .int zrh, .int zrc, .ref Mn, .ref Mf, .ref Mr, .ref Mh, .int (nI hp), .int (nI 3), .ref Ma, .ref Mas, .ref Msn, .ref Mac, .ref Mat])), (Mh, .inl (g 0, 9, .inl (upd F_4 (3 * hix + 1) (nI m_116))))] H := ⟨hP, hD⟩
          clear hP hD; have hP := hPD.1; have hD := hPD.2; clear hPD
          have hF_117 : n3 (upd F_4 (3 * hix + 1) (nI m_116)) := n3_upd (hF_4) (n := m_116) (show m_116 ≤ 300 by omega)
          generalize upd F_4 (3 * hix + 1) (nI m_116) = F_117 at hP hD hF_117
          refine lv_aload_n hx hb dX7_laysHop_62 rfl (lv_at hl 1 rfl) ?_
          refine va_get (D := D) (ci := 7) (v := .ref Mn) (C := RX7) (T := TX7) (N := 21) hx hb hts iX7 hown hK hP 3 rfl rfl 10 (by decide) f22 (fun _ h9 => h9) rfl dX7_laysHop_63 ?_
          refine lv_bipush (v := 66) hx hb dX7_laysHop_66 (by decide) ?_
          refine lv_iload_n hx hb dX7_laysHop_68 rfl (lv_at hl 2 rfl) ?_
          refine lv_iadd hx hb dX7_laysHop_69 ?_
          refine lv_eqi (y := (nI (66 + hix))) (nI_add (66) (hix)) ?_
          refine lv_iconst (v := (-1)) hx hb dX7_laysHop_70 (by decide) ?_
          refine va_iast hx hb hK hP hD hS 0 0 rfl rfl (vp_in_nI (show 66 + hix < 1767 by omega) (by decide)) dX7_laysHop_71 (fun H locs hP2 hD2 hS2 => ?_)
          clear hP hD hS
          have hPD : PD D A [(Mn, .inl (g 0, 1767, .inl (upd fno (nI (66 + hix)).toNatClampNeg (-1)))), (Mr, .inl (g 0, 3, .inl fmr)), (Mrh, .inl (g 0, 9, .inl frh)), (Mm, .inr (7, [.int zth, .ref Mt, .int (nI tp), .int zma, .int zwr, .ref Mrr, .ref Mrh, .ref Mrc, .int zrh, .int zrc, .ref Mn, .ref Mf, .ref Mr, .ref Mh, .int (nI hp), .int (nI 3), .ref Ma, .ref Mas, .ref Msn, .ref Mac, .ref Mat])), (Mh, .inl (g 0, 9, .inl F_117))] H := ⟨hP2, hD2⟩
          have hS := hS2; clear hP2 hD2 hS2; have hP := hPD.1; have hD := hPD.2; clear hPD
          rw [nI_clamp (show 66 + hix < 2 ^ 31 by omega)] at hP hD
          have hPD : PD D A [(Mn, .inl (g 0, 1767, .inl (upd fno (66 + hix) (-1)))), (Mr, .inl (g 0, 3, .inl fmr)), (Mrh, .inl (g 0, 9, .inl frh)), (Mm, .inr (7, [.int zth, .ref Mt, .int (nI tp), .int zma, .int zwr, .ref Mrr, .ref Mrh, .ref Mrc, .int zrh, .int zrc, .ref Mn, .ref Mf, .ref Mr, .ref Mh, .int (nI hp), .int (nI 3), .ref Ma, .ref Mas, .ref Msn, .ref Mac, .ref Mat])), (Mh, .inl (g 0, 9, .inl F_117))] H := ⟨hP, hD⟩
          clear hP hD; have hP := hPD.1; have hD := hPD.2; clear hPD
          have hF_118 : mOK gs tb ub (upd fno (66 + hix) (-1)) := mOK_okc h2 (okc_m) (show 66 + hix < 189 by omega)
          generalize upd fno (66 + hix) (-1) = F_118 at hP hD hF_118
          refine lv_iconst (v := 0) hx hb dX7_laysHop_72 (by decide) ?_
          refine lv_istore_n (lv' := [(2, .int 0), (0, .ref Mm), (1, .int (nI hix))]) hx hb dX7_laysHop_73 rfl hl (by decide) rfl (fun ls hl => ?_)
          have loop_130 : ∀ (Nloop_130 : Nat) (i_122 : Nat) (F_123 : Nat → Int32) (hF_123 : mOK gs tb ub F_123) (hbi_122 : i_122 ≤ 8) (hmloop_130 : 8 - i_122 < Nloop_130) (H : Heap) (locs : List Loc) (ls : Array Slot), va_P D vwCl [(Mn, .inl (g 0, 1767, .inl F_123)), (Mr, .inl (g 0, 3, .inl fmr)), (Mrh, .inl (g 0, 9, .inl frh)), (Mm, .inr (7, [.int zth, .ref Mt, .int (nI tp), .int zma, .int zwr, .ref Mrr, .ref Mrh, .ref Mrc, .int zrh, .int zrc, .ref Mn, .ref Mf, .ref Mr, .ref Mh, .int (nI hp), .int (nI 3), .ref Ma, .ref Mas, .ref Msn, .ref Mac, .ref Mat])), (Mh, .inl (g 0, 9, .inl F_117))] H → va_D A [(Mn, .inl (g 0, 1767, .inl F_123)), (Mr, .inl (g 0, 3, .inl fmr)), (Mrh, .inl (g 0, 9, .inl frh)), (Mm, .inr (7, [.int zth, .ref Mt, .int (nI tp), .int zma, .int zwr, .ref Mrr, .ref Mrh, .ref Mrc, .int zrh, .int zrc, .ref Mn, .ref Mf, .ref Mr, .ref Mh, .int (nI hp), .int (nI 3), .ref Ma, .ref Mas, .ref Msn, .ref Mac, .ref Mat])), (Mh, .inl (g 0, 9, .inl F_117))] → va_S A s.heap H locs → lv_has ls 3 [(2, .int (nI i_122)), (0, .ref Mm), (1, .int (nI hix))] → W p l e (headSpec wsX7_laysHop ({ frames := 2, cells := 0, slots := 0, locals := 45 })).room s m ([.ref Mm, .int (nI hix)] : List Value).toArray below meth c H locs 0 0 Q (F0 m 74 ls []) := by
            clear hP hD hS hl
            intro Nloop_130
            induction Nloop_130 with
            | zero => intro i_122 F_123 hF_123 hbi_122 hm9; exact absurd hm9 (Nat.not_lt_zero _)
            | succ Nloop_130 loop_130_ih =>
              intro i_122 F_123 hF_123 hbi_122 hmloop_130 H locs ls hP hD hS hl
              refine lv_iload_n hx hb dX7_laysHop_74 rfl (lv_at hl 0 rfl) ?_
              refine lv_bipush (v := 8) hx hb dX7_laysHop_75 (by decide) ?_
              refine lv_icmp_ge (tgt := 92) hx hb dX7_laysHop_77 (by decide) (fun cb_131 => ?_) (fun cb_131 => ?_)
              · skip
                have cn_132 : 8 ≤ i_122 := (nI_leI (show 8 < 2 ^ 31 by omega) (show i_122 < 2 ^ 31 by omega)).mp cb_131
                refine lv_iconst (v := 0) hx hb dX7_laysHop_92 (by decide) ?_
                refine lv_istore_n (lv' := [(2, .int 0), (0, .ref Mm), (1, .int (nI hix))]) hx hb dX7_laysHop_93 rfl hl (by decide) rfl (fun ls hl => ?_)
                have loop_148 : ∀ (Nloop_148 : Nat) (i_138 : Nat) (F_139 : Nat → Int32) (hF_139 : mOK gs tb ub F_139) (hbi_138 : i_138 ≤ 3) (hmloop_148 : 3 - i_138 < Nloop_148) (H : Heap) (locs : List Loc) (ls : Array Slot), va_P D vwCl [(Mn, .inl (g 0, 1767, .inl F_139)), (Mr, .inl (g 0, 3, .inl fmr)), (Mrh, .inl (g 0, 9, .inl frh)), (Mm, .inr (7, [.int zth, .ref Mt, .int (nI tp), .int zma, .int zwr, .ref Mrr, .ref Mrh, .ref Mrc, .int zrh, .int zrc, .ref Mn, .ref Mf, .ref Mr, .ref Mh, .int (nI hp), .int (nI 3), .ref Ma, .ref Mas, .ref Msn, .ref Mac, .ref Mat])), (Mh, .inl (g 0, 9, .inl F_117))] H → va_D A [(Mn, .inl (g 0, 1767, .inl F_139)), (Mr, .inl (g 0, 3, .inl fmr)), (Mrh, .inl (g 0, 9, .inl frh)), (Mm, .inr (7, [.int zth, .ref Mt, .int (nI tp), .int zma, .int zwr, .ref Mrr, .ref Mrh, .ref Mrc, .int zrh, .int zrc, .ref Mn, .ref Mf, .ref Mr, .ref Mh, .int (nI hp), .int (nI 3), .ref Ma, .ref Mas, .ref Msn, .ref Mac, .ref Mat])), (Mh, .inl (g 0, 9, .inl F_117))] → va_S A s.heap H locs → lv_has ls 3 [(2, .int (nI i_138)), (0, .ref Mm), (1, .int (nI hix))] → W p l e (headSpec wsX7_laysHop ({ frames := 2, cells := 0, slots := 0, locals := 45 })).room s m ([.ref Mm, .int (nI hix)] : List Value).toArray below meth c H locs 0 0 Q (F0 m 94 ls []) := by
                  clear hP hD hS hl
                  intro Nloop_148
                  induction Nloop_148 with
                  | zero => intro i_138 F_139 hF_139 hbi_138 hm9; exact absurd hm9 (Nat.not_lt_zero _)
                  | succ Nloop_148 loop_148_ih =>
                    intro i_138 F_139 hF_139 hbi_138 hmloop_148 H locs ls hP hD hS hl
                    refine lv_iload_n hx hb dX7_laysHop_94 rfl (lv_at hl 0 rfl) ?_
                    refine lv_aload_n hx hb dX7_laysHop_95 rfl (lv_at hl 1 rfl) ?_
                    refine va_get (D := D) (ci := 7) (v := .int (nI 3)) (C := RX7) (T := TX7) (N := 21) hx hb hts iX7 hown hK hP 3 rfl rfl 15 (by decide) f127 (fun _ h9 => h9) rfl dX7_laysHop_96 ?_
                    refine lv_icmp_ge (tgt := 130) hx hb dX7_laysHop_99 (by decide) (fun cb_149 => ?_) (fun cb_149 => ?_)
                    · skip
                      have cn_150 : 3 ≤ i_138 := (nI_leI (show 3 < 2 ^ 31 by omega) (show i_138 < 2 ^ 31 by omega)).mp cb_149
                      have hPD9 : PD D A [(Mm, .inr (7, [.int zth, .ref Mt, .int (nI tp), .int zma, .int zwr, .ref Mrr, .ref Mrh, .ref Mrc, .int zrh, .int zrc, .ref Mn, .ref Mf, .ref Mr, .ref Mh, .int (nI hp), .int (nI 3), .ref Ma, .ref Mas, .ref Msn, .ref Mac, .ref Mat])), (Mn, .inl (g 0, 1767, .inl F_139)), (Mh, .inl (g 0, 9, .inl F_117)), (Mr, .inl (g 0, 3, .inl fmr)), (Mrh, .inl (g 0, 9, .inl frh))] H := ⟨hP.sub [3, 0, 4, 1, 2] rfl, hD.sub [3, 0, 4, 1, 2] (by decide) rfl⟩
                      have hP9 := hPD9.1; have hD9 := hPD9.2
                      subst hQ
                      refine W.widen (k := 0) (n := 0) (Nat.le_of_ble_eq_true rfl) (Nat.le_of_ble_eq_true rfl) ?_
                      exact W.vret hx hb hr (fun tS htS _ => ⟨⟨_, rfl, ⟨F_139, F_117, rfl, (hF_139), (hF_117)⟩, by rw [htS]; exact hP9, hD9⟩, hS.F htS⟩) hS.2.2 dX7_laysHop_130
                    · skip
                      have cn_151 : i_138 < 3 := Nat.lt_of_not_le (fun q9 => cb_149 ((nI_leI (show 3 < 2 ^ 31 by omega) (show i_138 < 2 ^ 31 by omega)).mpr q9))
                      refine lv_aload_n hx hb dX7_laysHop_102 rfl (lv_at hl 1 rfl) ?_
                      refine va_get (D := D) (ci := 7) (v := .ref Mn) (C := RX7) (T := TX7) (N := 21) hx hb hts iX7 hown hK hP 3 rfl rfl 10 (by decide) f22 (fun _ h9 => h9) rfl dX7_laysHop_103 ?_
                      refine lv_iload_n hx hb dX7_laysHop_106 rfl (lv_at hl 2 rfl) ?_
                      refine lv_iload_n hx hb dX7_laysHop_107 rfl (lv_at hl 0 rfl) ?_
                      refine ky_Si (As := [.int (nI hix), .int (nI i_138)]) (rest := [.ref Mn]) ⟨hx, hb, hml, hown, hts⟩ ⟨hK, hN⟩ hZ hP hD hS hA [] [0, 1, 2, 3, 4] (wc := []) (wr := [(Mn, .inl (g 0, 1767, .inl F_139)), (Mr, .inl (g 0, 3, .inl fmr)), (Mrh, .inl (g 0, 9, .inl frh)), (Mm, .inr (7, [.int zth, .ref Mt, .int (nI tp), .int zma, .int zwr, .ref Mrr, .ref Mrh, .ref Mrc, .int zrh, .int zrc, .ref Mn, .ref Mf, .ref Mr, .ref Mh, .int (nI hp), .int (nI 3), .ref Ma, .ref Mas, .ref Msn, .ref Mac, .ref Mat])), (Mh, .inl (g 0, 9, .inl F_117))]) rfl rfl rfl rfl (by decide) (k_X7_lane l D g H.size hix i_138 (show hix < 3 by omega) (show i_138 < 3 by omega)) (va_cwS 2 hts gX7_laysHop_X7_lane rfl rfl rfl (by decide +kernel) ⟨(Nat.le_of_ble_eq_true rfl), (Nat.le_of_ble_eq_true rfl)⟩) rfl hl.1 rfl (Nat.le_of_ble_eq_true rfl) dX7_laysHop_108 ⟨(Nat.le_of_ble_eq_true rfl), (Nat.le_of_ble_eq_true rfl)⟩ (fun r_152 u H locs hw hP2 hD2 hS2 => ?_)
                      clear hP hD hS
                      obtain ⟨rfl, rfl⟩ := hw
                      have hPD : PD D A [(Mn, .inl (g 0, 1767, .inl F_139)), (Mr, .inl (g 0, 3, .inl fmr)), (Mrh, .inl (g 0, 9, .inl frh)), (Mm, .inr (7, [.int zth, .ref Mt, .int (nI tp), .int zma, .int zwr, .ref Mrr, .ref Mrh, .ref Mrc, .int zrh, .int zrc, .ref Mn, .ref Mf, .ref Mr, .ref Mh, .int (nI hp), .int (nI 3), .ref Ma, .ref Mas, .ref Msn, .ref Mac, .ref Mat])), (Mh, .inl (g 0, 9, .inl F_117))] H := ⟨hP2, hD2⟩
                      have hS := hS2; clear hP2 hD2 hS2; have hP := hPD.1; have hD := hPD.2; clear hPD
                      refine W.widen (k := 0) (n := 0) (Nat.le_of_ble_eq_true rfl) (Nat.le_of_ble_eq_true rfl) ?_
                      refine lv_iconst (v := 3) hx hb dX7_laysHop_111 (by decide) ?_
                      refine lv_iadd hx hb dX7_laysHop_112 ?_
                      refine lv_eqi (y := (nI (7 * (3 * hix + i_138) + 3))) (nI_add (7 * (3 * hix + i_138)) (3)) ?_
                      refine lv_aload_n hx hb dX7_laysHop_113 rfl (lv_at hl 1 rfl) ?_
                      refine lv_iload_n hx hb dX7_laysHop_114 rfl (lv_at hl 2 rfl) ?_
                      refine ky_Vi (As := [.int (nI hix)]) (rest := [.int (nI (7 * (3 * hix + i_138) + 3)), .ref Mn]) ⟨hx, hb, hml, hown, hts⟩ ⟨hK, hN⟩ hZ hP hD hS hA [3, 4] [0, 1, 2] (wc := [(Mm, .inr (7, [.int zth, .ref Mt, .int (nI tp), .int zma, .int zwr, .ref Mrr, .ref Mrh, .ref Mrc, .int zrh, .int zrc, .ref Mn, .ref Mf, .ref Mr, .ref Mh, .int (nI hp), .int (nI 3), .ref Ma, .ref Mas, .ref Msn, .ref Mac, .ref Mat])), (Mh, .inl (g 0, 9, .inl F_117))]) (wr := [(Mn, .inl (g 0, 1767, .inl F_139)), (Mr, .inl (g 0, 3, .inl fmr)), (Mrh, .inl (g 0, 9, .inl frh))]) rfl rfl rfl rfl (by decide) (k_X7_pool l D g H.size Mm hix zth Mt tp zma zwr Mrr Mrh Mrc zrh zrc Mn Mf Mr Mh hp 3 Ma Mas Msn Mac Mat F_117 (show hix < 3 by omega) (hF_117)) (cwV 1 hts gX7_laysHop_X7_pool rfl rfl rfl (by decide +kernel) ⟨(Nat.le_of_ble_eq_true rfl), (Nat.le_of_ble_eq_true rfl)⟩) 3 7 rfl rfl rfl rfl hl.1 rfl (Nat.le_of_ble_eq_true rfl) dX7_laysHop_115 ⟨(Nat.le_of_ble_eq_true rfl), (Nat.le_of_ble_eq_true rfl)⟩ (fun r_153 u H locs hw hP2 hD2 hS2 => ?_)
                      clear hP hD hS
                      obtain ⟨dx_154, rfl, rfl, hf_155⟩ := hw
                      have hPD : PD D A [(Mn, .inl (g 0, 1767, .inl F_139)), (Mr, .inl (g 0, 3, .inl fmr)), (Mrh, .inl (g 0, 9, .inl frh)), (Mm, .inr (7, [.int zth, .ref Mt, .int (nI tp), .int zma, .int zwr, .ref Mrr, .ref Mrh, .ref Mrc, .int zrh, .int zrc, .ref Mn, .ref Mf, .ref Mr, .ref Mh, .int (nI hp), .int (nI 3), .ref Ma, .ref Mas, .ref Msn, .ref Mac, .ref Mat])), (Mh, .inl (g 0, 9, .inl F_117))] H := ⟨hP2, hD2⟩
                      have hS := hS2; clear hP2 hD2 hS2; have hP := hPD.1; have hD := hPD.2; clear hPD
                      refine W.widen (k := 0) (n := 0) (Nat.le_of_ble_eq_true rfl) (Nat.le_of_ble_eq_true rfl) ?_
                      refine lv_aload_n hx hb dX7_laysHop_118 rfl (lv_at hl 1 rfl) ?_
                      refine va_get (D := D) (ci := 7) (v := .int (nI 3)) (C := RX7) (T := TX7) (N := 21) hx hb hts iX7 hown hK hP 3 rfl rfl 15 (by decide) f127 (fun _ h9 => h9) rfl dX7_laysHop_119 ?_
                      refine lv_idiv hx hb dX7_laysHop_122 (nI_ne0 (show 0 < 3 by omega) (show 3 < 2 ^ 31 by omega)) ?_
                      refine lv_eqi (y := (nI ((dx_154) / 3))) (pk_div (show dx_154 < 2 ^ 31 by omega) (show 0 < 3 by omega) (show 3 < 2 ^ 31 by omega)) ?_
                      refine va_iast hx hb hK hP hD hS 0 0 rfl rfl (vp_in_nI (show 7 * (3 * hix + i_138) + 3 < 1767 by omega) (by decide)) dX7_laysHop_123 (fun H locs hP2 hD2 hS2 => ?_)
                      clear hP hD hS
                      have hPD : PD D A [(Mn, .inl (g 0, 1767, .inl (upd F_139 (nI (7 * (3 * hix + i_138) + 3)).toNatClampNeg (nI ((dx_154) / 3))))), (Mr, .inl (g 0, 3, .inl fmr)), (Mrh, .inl (g 0, 9, .inl frh)), (Mm, .inr (7, [.int zth, .ref Mt, .int (nI tp), .int zma, .int zwr, .ref Mrr, .ref Mrh, .ref Mrc, .int zrh, .int zrc, .ref Mn, .ref Mf, .ref Mr, .ref Mh, .int (nI hp), .int (nI 3), .ref Ma, .ref Mas, .ref Msn, .ref Mac, .ref Mat])), (Mh, .inl (g 0, 9, .inl F_117))] H := ⟨hP2, hD2⟩
                      have hS := hS2; clear hP2 hD2 hS2; have hP := hPD.1; have hD := hPD.2; clear hPD
                      rw [nI_clamp (show 7 * (3 * hix + i_138) + 3 < 2 ^ 31 by omega)] at hP hD
                      have hPD : PD D A [(Mn, .inl (g 0, 1767, .inl (upd F_139 (7 * (3 * hix + i_138) + 3) (nI ((dx_154) / 3))))), (Mr, .inl (g 0, 3, .inl fmr)), (Mrh, .inl (g 0, 9, .inl frh)), (Mm, .inr (7, [.int zth, .ref Mt, .int (nI tp), .int zma, .int zwr, .ref Mrr, .ref Mrh, .ref Mrc, .int zrh, .int zrc, .ref Mn, .ref Mf, .ref Mr, .ref Mh, .int (nI hp), .int (nI 3), .ref Ma, .ref Mas, .ref Msn, .ref Mac, .ref Mat])), (Mh, .inl (g 0, 9, .inl F_117))] H := ⟨hP, hD⟩
                      clear hP hD; have hP := hPD.1; have hD := hPD.2; clear hPD
                      have hF_156 : mOK gs tb ub (upd F_139 (7 * (3 * hix + i_138) + 3) (nI ((dx_154) / 3))) := mOK_free hF_139 (show mfree (7 * (3 * hix + i_138) + 3) by unfold mfree; omega)
                      generalize upd F_139 (7 * (3 * hix + i_138) + 3) (nI ((dx_154) / 3)) = F_156 at hP hD hF_156
                      refine lv_iinc (v := (nI (i_138 + 1))) (lv' := [(2, .int (nI (i_138 + 1))), (0, .ref Mm), (1, .int (nI hix))]) hx hb dX7_laysHop_124 hl (k := 0) rfl (nI_1 (i_138)) (by decide) rfl (fun ls hl => ?_)
                      refine lv_goto (tgt := 94) hx hb dX7_laysHop_127 (by decide) ?_
                      exact loop_148_ih (i_138 + 1) F_156 (hF_156) (show (i_138 + 1) ≤ 3 by omega) (show 3 - (i_138 + 1) < Nloop_148 by omega) _ _ _ hP hD hS hl
                exact loop_148 _ 0 F_123 (hF_123) (show 0 ≤ 3 by omega) (Nat.lt_succ_self _) _ _ _ hP hD hS hl
              · skip
                have cn_157 : i_122 < 8 := Nat.lt_of_not_le (fun q9 => cb_131 ((nI_leI (show 8 < 2 ^ 31 by omega) (show i_122 < 2 ^ 31 by omega)).mpr q9))
                refine lv_aload_n hx hb dX7_laysHop_80 rfl (lv_at hl 1 rfl) ?_
                refine lv_iload_n hx hb dX7_laysHop_81 rfl (lv_at hl 2 rfl) ?_
                refine lv_iload_n hx hb dX7_laysHop_82 rfl (lv_at hl 0 rfl) ?_
                refine ky_Vv (As := [.int (nI hix), .int (nI i_122)]) (rest := []) ⟨hx, hb, hml, hown, hts⟩ ⟨hK, hN⟩ hZ hP hD hS hA [3, 0] [1, 2, 4] (wc := [(Mm, .inr (7, [.int zth, .ref Mt, .int (nI tp), .int zma, .int zwr, .ref Mrr, .ref Mrh, .ref Mrc, .int zrh, .int zrc, .ref Mn, .ref Mf, .ref Mr, .ref Mh, .int (nI hp), .int (nI 3), .ref Ma, .ref Mas, .ref Msn, .ref Mac, .ref Mat])), (Mn, .inl (g 0, 1767, .inl F_123))]) (wr := [(Mr, .inl (g 0, 3, .inl fmr)), (Mrh, .inl (g 0, 9, .inl frh)), (Mh, .inl (g 0, 9, .inl F_117))]) rfl rfl rfl rfl (by decide) (k_X7_clearsWay l D g H.size Mm hix i_122 zth Mt tp zma zwr Mrr Mrh Mrc zrh zrc Mn Mf Mr Mh hp 3 Ma Mas Msn Mac Mat F_123 tb ub (show tb < 2 ^ 29 by omega) (show ub < 2 ^ 29 by omega) (hF_123) (show hix < 3 by omega) (show i_122 < 2 ^ 30 by omega)) (cwV 2 hts gX7_laysHop_X7_clearsWay rfl rfl rfl (by decide +kernel) ⟨(Nat.le_of_ble_eq_true rfl), (Nat.le_of_ble_eq_true rfl)⟩) 3 7 rfl rfl rfl rfl hl.1 rfl (Nat.le_of_ble_eq_true rfl) dX7_laysHop_83 ⟨(Nat.le_of_ble_eq_true rfl), (Nat.le_of_ble_eq_true rfl)⟩ (fun u H locs hw hP2 hD2 hS2 => ?_)
                clear hP hD hS
                obtain ⟨fnox_159, rfl, hf_160⟩ := hw
                have hPD : PD D A [(Mr, .inl (g 0, 3, .inl fmr)), (Mrh, .inl (g 0, 9, .inl frh)), (Mh, .inl (g 0, 9, .inl F_117)), (Mm, .inr (7, [.int zth, .ref Mt, .int (nI tp), .int zma, .int zwr, .ref Mrr, .ref Mrh, .ref Mrc, .int zrh, .int zrc, .ref Mn, .ref Mf, .ref Mr, .ref Mh, .int (nI hp), .int (nI 3), .ref Ma, .ref Mas, .ref Msn, .ref Mac, .ref Mat])), (Mn, .inl (g 0, 1767, .inl fnox_159))] H := ⟨hP2, hD2⟩
                have hS := hS2; clear hP2 hD2 hS2; have hP := hPD.1; have hD := hPD.2; clear hPD
                refine W.widen (k := 0) (n := 0) (Nat.le_of_ble_eq_true rfl) (Nat.le_of_ble_eq_true rfl) ?_
                refine lv_iinc (v := (nI (i_122 + 1))) (lv' := [(2, .int (nI (i_122 + 1))), (0, .ref Mm), (1, .int (nI hix))]) hx hb dX7_laysHop_86 hl (k := 0) rfl (nI_1 (i_122)) (by decide) rfl (fun ls hl => ?_)
                refine lv_goto (tgt := 74) hx hb dX7_laysHop_89 (by decide) ?_
                exact loop_130_ih (i_122 + 1) fnox_159 (hf_160) (show (i_122 + 1) ≤ 8 by omega) (show 8 - (i_122 + 1) < Nloop_130 by omega) _ _ _ (hP.sub [4, 0, 1, 3, 2] rfl) (hD.sub [4, 0, 1, 3, 2] (by decide) rfl) hS hl
          exact loop_130 _ 0 F_118 (hF_118) (show 0 ≤ 8 by omega) (Nat.lt_succ_self _) _ _ _ hP hD hS hl
      · skip
        have cn_161 : i_3 < 3 := Nat.lt_of_not_le (fun q9 => cb_11 ((nI_leI (show 3 < 2 ^ 31 by omega) (show i_3 < 2 ^ 31 by omega)).mpr q9))
        refine lv_aload_n hx hb dX7_laysHop_7 rfl (lv_at hl 1 rfl) ?_
        refine va_get (D := D) (ci := 7) (v := .ref Mh) (C := RX7) (T := TX7) (N := 21) hx hb hts iX7 hown hK hP 0 rfl rfl 13 (by decide) f31 (fun _ h9 => h9) rfl dX7_laysHop_8 ?_
        refine lv_iconst (v := 3) hx hb dX7_laysHop_11 (by decide) ?_
        refine lv_iload_n hx hb dX7_laysHop_12 rfl (lv_at hl 2 rfl) ?_
        refine lv_imul hx hb dX7_laysHop_13 ?_
        refine lv_eqi (y := (nI (3 * hix))) (pk_mul (3) (hix)) ?_
        refine lv_iload_n hx hb dX7_laysHop_14 rfl (lv_at hl 0 rfl) ?_
        refine lv_iadd hx hb dX7_laysHop_15 ?_
        refine lv_eqi (y := (nI (3 * hix + i_3))) (nI_add (3 * hix) (i_3)) ?_
        refine lv_aload_n hx hb dX7_laysHop_16 rfl (lv_at hl 1 rfl) ?_
        refine va_get (D := D) (ci := 7) (v := .ref Mrh) (C := RX7) (T := TX7) (N := 21) hx hb hts iX7 hown hK hP 0 rfl rfl 6 (by decide) f16 (fun _ h9 => h9) rfl dX7_laysHop_17 ?_
        refine lv_iconst (v := 3) hx hb dX7_laysHop_20 (by decide) ?_
        refine lv_iload_n hx hb dX7_laysHop_21 rfl (lv_at hl 2 rfl) ?_
        refine lv_imul hx hb dX7_laysHop_22 ?_
        refine lv_eqi (y := (nI (3 * hix))) (pk_mul (3) (hix)) ?_
        refine lv_iload_n hx hb dX7_laysHop_23 rfl (lv_at hl 0 rfl) ?_
        refine lv_iadd hx hb dX7_laysHop_24 ?_
        refine lv_eqi (y := (nI (3 * hix + i_3))) (nI_add (3 * hix) (i_3)) ?_
        refine va_iald hx hb hK hP 4 0 rfl rfl (vp_in_nI (show 3 * hix + i_3 < 9 by omega) (by decide)) dX7_laysHop_25 ?_
        refine lv_eqi (y := (frh (3 * hix + i_3))) (congrArg frh (nI_clamp (show 3 * hix + i_3 < 2 ^ 31 by omega))) ?_
        obtain ⟨n_162, hn_162, q9⟩ := h9 (3 * hix + i_3)
        refine lv_eqi (y := nI n_162) q9 ?_
        refine va_iast hx hb hK hP hD hS 2 0 rfl rfl (vp_in_nI (show 3 * hix + i_3 < 9 by omega) (by decide)) dX7_laysHop_26 (fun H locs hP2 hD2 hS2 => ?_)
        clear hP hD hS
        have hPD : PD D A [(Mm, .inr (7, [.int zth, .ref Mt, .int (nI tp), .int zma, .int zwr, .ref Mrr, .ref Mrh, .ref Mrc, .int zrh, .int zrc, .ref Mn, .ref Mf, .ref Mr, .ref Mh, .int (nI hp), .int (nI cc), .ref Ma, .ref Mas, .ref Msn, .ref Mac, .ref Mat])), (Mn, .inl (g 0, 1767, .inl fno)), (Mh, .inl (g 0, 9, .inl (upd F_4 (nI (3 * hix + i_3)).toNatClampNeg (nI n_162)))), (Mr, .inl (g 0, 3, .inl fmr)), (Mrh, .inl (g 0, 9, .inl frh))] H := ⟨hP2, hD2⟩
        have hS := hS2; clear hP2 hD2 hS2; have hP := hPD.1; have hD := hPD.2; clear hPD
        rw [nI_clamp (show 3 * hix + i_3 < 2 ^ 31 by omega)] at hP hD
        have hPD : PD D A [(Mm, .inr (7, [.int zth, .ref Mt, .int (nI tp), .int zma, .int zwr, .ref Mrr, .ref Mrh, .ref Mrc, .int zrh, .int zrc, .ref Mn, .ref Mf, .ref Mr, .ref Mh, .int (nI hp), .int (nI cc), .ref Ma, .ref Mas, .ref Msn, .ref Mac, .ref Mat])), (Mn, .inl (g 0, 1767, .inl fno)), (Mh, .inl (g 0, 9, .inl (upd F_4 (3 * hix + i_3) (nI n_162)))), (Mr, .inl (g 0, 3, .inl fmr)), (Mrh, .inl (g 0, 9, .inl frh))] H := ⟨hP, hD⟩
        clear hP hD; have hP := hPD.1; have hD := hPD.2; clear hPD
        have hF_163 : n3 (upd F_4 (3 * hix + i_3) (nI n_162)) := n3_upd (hF_4) (n := n_162) (show n_162 ≤ 300 by omega)
        generalize upd F_4 (3 * hix + i_3) (nI n_162) = F_163 at hP hD hF_163
        refine lv_iinc (v := (nI (i_3 + 1))) (lv' := [(2, .int (nI (i_3 + 1))), (0, .ref Mm), (1, .int (nI hix))]) hx hb dX7_laysHop_27 hl (k := 0) rfl (nI_1 (i_3)) (by decide) rfl (fun ls hl => ?_)
        refine lv_goto (tgt := 2) hx hb dX7_laysHop_30 (by decide) ?_
        exact loop_10_ih (i_3 + 1) F_163 (hF_163) (show (i_3 + 1) ≤ 3 by omega) (show 3 - (i_3 + 1) < Nloop_10 by omega) _ _ _ hP hD hS hl
  exact loop_10 _ 0 fmh (h8) (show 0 ≤ 3 by omega) (Nat.lt_succ_self _) _ _ _ hP hD hS hl
