set_option maxHeartbeats 4000000 in
set_option maxRecDepth 100000 in
theorem w_X7_readNet (l : Launch) (D : va_G) (g : Nat → ClassId) (sz : Nat) (Mm : Nat) (zth : Int32) (Mt : Nat) (tp : Nat) (zma : Int32) (zwr : Int32) (Mrr : Nat) (Mrh : Nat) (Mrc : Nat) (zrh : Int32) (zrc : Int32) (Mn : Nat) (Mf : Nat) (Mr : Nat) (Mh : Nat) (zhp : Int32) (zcc : Int32) (Ma : Nat) (Mas : Nat) (Msn : Nat) (Mac : Nat) (Mat : Nat) (fmt : Nat → Int32) (frr : Nat → Int32) (frh : Nat → Int32) (frc : Nat → Int32) (h0 : tp ≤ 160) (h1 : n1 frr) (h2 : n1 frh) (h3 : n1 frc) (h4 : tOK fmt) : Met l yX7_readNet wsX7_readNet ({ frames := 5, cells := 0, slots := 0, locals := 111 }) (va_Pc [.ref Mm] (pre D g sz [(Mm, .inr (7, [.int zth, .ref Mt, .int (nI tp), .int zma, .int zwr, .ref Mrr, .ref Mrh, .ref Mrc, .int zrh, .int zrc, .ref Mn, .ref Mf, .ref Mr, .ref Mh, .int zhp, .int zcc, .ref Ma, .ref Mas, .ref Msn, .ref Mac, .ref Mat])), (Mt, .inl (g 0, 160, .inl fmt)), (Mrr, .inl (g 0, 3, .inl frr)), (Mrh, .inl (g 0, 9, .inl frh)), (Mrc, .inl (g 0, 9, .inl frc))])) (va_Qi (fun (r : Int32) (u : va_W) => ∃ (zmax : Int32) (zwrx : Int32) (rhx : Nat) (rcx : Nat) (frrx : Nat → Int32) (frhx : Nat → Int32) (frcx : Nat → Int32), u = [(Mm, .inr (7, [.int zth, .ref Mt, .int (nI tp), .int zmax, .int zwrx, .ref Mrr, .ref Mrh, .ref Mrc, .int (nI rhx), .int (nI rcx), .ref Mn, .ref Mf, .ref Mr, .ref Mh, .int zhp, .int zcc, .ref Ma, .ref Mas, .ref Msn, .ref Mac, .ref Mat])), (Mt, .inl (g 0, 160, .inl fmt)), (Mrr, .inl (g 0, 3, .inl frrx)), (Mrh, .inl (g 0, 9, .inl frhx)), (Mrc, .inl (g 0, 9, .inl frcx))] ∧ r = zwrx ∧ ((n1 frrx) ∧ (n1 frhx) ∧ (n1 frcx) ∧ (rhx ≤ 3) ∧ (rcx ≤ 3) ∧ ((zwrx, rcx) = rdV fmt tp) ∧ (zwrx = -1 → rhx = (rdWV fmt tp).1 ∧ rlW frrx frhx frcx rhx rcx (rdWV fmt tp).2))) (wd D (va_A [(Mm, .inr (7, [.int zth, .ref Mt, .int (nI tp), .int zma, .int zwr, .ref Mrr, .ref Mrh, .ref Mrc, .int zrh, .int zrc, .ref Mn, .ref Mf, .ref Mr, .ref Mh, .int zhp, .int zcc, .ref Ma, .ref Mas, .ref Msn, .ref Mac, .ref Mat])), (Mt, .inl (g 0, 160, .inl fmt)), (Mrr, .inl (g 0, 3, .inl frr)), (Mrh, .inl (g 0, 9, .inl frh)), (Mrc, .inl (g 0, 9, .inl frc))] sz)) (va_A [(Mm, .inr (7, [.int zth, .ref Mt, .int (nI tp), .int zma, .int zwr, .ref Mrr, .ref Mrh, .ref Mrc, .int zrh, .int zrc, .ref Mn, .ref Mf, .ref Mr, .ref Mh, .int zhp, .int zcc, .ref Ma, .ref Mas, .ref Msn, .ref Mac, .ref Mat])), (Mt, .inl (g 0, 160, .inl fmt)), (Mrr, .inl (g 0, 3, .inl frr)), (Mrh, .inl (g 0, 9, .inl frh)), (Mrc, .inl (g 0, 9, .inl frc))] sz)) 0 0 (va_A [(Mm, .inr (7, [.int zth, .ref Mt, .int (nI tp), .int zma, .int zwr, .ref Mrr, .ref Mrh, .ref Mrc, .int zrh, .int zrc, .ref Mn, .ref Mf, .ref Mr, .ref Mh, .int zhp, .int zcc, .ref Ma, .ref Mas, .ref Msn, .ref Mac, .ref Mat])), (Mt, .inl (g 0, 160, .inl fmt)), (Mrr, .inl (g 0, 3, .inl frr)), (Mrh, .inl (g 0, 9, .inl frh)), (Mrc, .inl (g 0, 9, .inl frc))] sz) := by
  refine Met.ofW (cc := cX7_readNet) (maxL := 3) (ret := (some .int)) (by decide) rfl ?_
  intro p e s m args below meth c s₁ B hml hv
  obtain ⟨rfl, hsz, hP, ⟨hK, hN⟩, hD0, hZ⟩ := hv
  have hx := B.exec
  have hb := B.bytes
  have hr := B.returns
  have hts := atoms_spec (ws := wsX7_readNet) B.pre
  have hown : s.vm.findClass RX7 = some m.cls := findClass_of_methodNamed B.named
  have hlocks := B.notSynchronized
  clear B
  subst hsz
  have hD := hD0.self (sz := s.heap.size)
  clear hD0
  generalize hAe : va_A [(Mm, .inr (7, [.int zth, .ref Mt, .int (nI tp), .int zma, .int zwr, .ref Mrr, .ref Mrh, .ref Mrc, .int zrh, .int zrc, .ref Mn, .ref Mf, .ref Mr, .ref Mh, .int zhp, .int zcc, .ref Ma, .ref Mas, .ref Msn, .ref Mac, .ref Mat])), (Mt, .inl (g 0, 160, .inl fmt)), (Mrr, .inl (g 0, 3, .inl frr)), (Mrh, .inl (g 0, 9, .inl frh)), (Mrc, .inl (g 0, 9, .inl frc))] s.heap.size = A at hD hZ ⊢
  have hA : ∀ q : Nat, s.heap.size ≤ q → A q := fun q h => by rw [← hAe]; exact Or.inr h
  have hS : va_S A s.heap s.heap [] := va_S.rf
  have f111 := hts (.fieldLink RX7 111 "HopCreditsModel" "readHops" "I") (List.mem_of_getElem? (i := 3) rfl)
  have f114 := hts (.fieldLink RX7 114 "HopCreditsModel" "readCircuits" "I") (List.mem_of_getElem? (i := 4) rfl)
  have f13 := hts (.fieldLink RX7 13 "HopCreditsModel" "readRule" "[I") (List.mem_of_getElem? (i := 5) rfl)
  have f64 := hts (.fieldLink RX7 64 "HopCreditsModel" "at" "I") (List.mem_of_getElem? (i := 1) rfl)
  have f71 := hts (.fieldLink RX7 71 "HopCreditsModel" "wrong" "I") (List.mem_of_getElem? (i := 2) rfl)
  have iX7 : ∀ w ∈ u_ws RX7 TX7 21, w ∈ wsX7_readNet := fun w h => List.mem_cons_of_mem _ (List.mem_append_right _ (h))
  have hl := lv_entry ([.ref Mm]) (n := 3) (Nat.le_of_ble_eq_true rfl)
  rw [lg_entry_eq]
  generalize (lg_sl ([.ref Mm]) ++ List.replicate (3 - (lg_sl ([.ref Mm])).length) Slot.unset).toArray = ls at hl ⊢
  have hl : lv_has ls 3 [(0, .ref Mm)] := hl
  generalize hQ : MQ below _ _ s _ _ _ = Q
  generalize hH : s.heap = H at hP ⊢
  have hS : va_S A s.heap H [] := by rw [← hH]; exact hS
  clear hH
  refine lv_aload_n hx hb dX7_readNet_0 rfl (lv_at hl 0 rfl) ?_
  refine lv_iconst (v := 0) hx hb dX7_readNet_1 (by decide) ?_
  refine va_put (D := D) (ci := 7) (v := .int 0) (ty := .int) (C := RX7) (T := TX7) (N := 21) hx hb hts iX7 tyX7 tyX7_ok nmX7 hown hK hP hD hS 0 rfl rfl 3 (by decide) f64 (fun _ h9 => h9) rfl (by decide +kernel) (rfl) (rfl) (Nat.le_of_ble_eq_true rfl) dX7_readNet_2 (fun H locs hP2 hD2 hS2 => ?_)
  clear hP hD hS
  have hPD : PD D A [(Mm, .inr (7, [.int zth, .ref Mt, .int (nI tp), .int 0, .int zwr, .ref Mrr, .ref Mrh, .ref Mrc, .int zrh, .int zrc, .ref Mn, .ref Mf, .ref Mr, .ref Mh, .int zhp, .int zcc, .ref Ma, .ref Mas, .ref Msn, .ref Mac, .ref Mat])), (Mt, .inl (g 0, 160, .inl fmt)), (Mrr, .inl (g 0, 3, .inl frr)), (Mrh, .inl (g 0, 9, .inl frh)), (Mrc, .inl (g 0, 9, .inl frc))] H := ⟨hP2, hD2⟩
  have hS := hS2; clear hP2 hD2 hS2; have hP := hPD.1; have hD := hPD.2; clear hPD
  refine lv_aload_n hx hb dX7_readNet_5 rfl (lv_at hl 0 rfl) ?_
  refine lv_iconst (v := (-1)) hx hb dX7_readNet_6 (by decide) ?_
  refine va_put (D := D) (ci := 7) (v := .int (-1)) (ty := .int) (C := RX7) (T := TX7) (N := 21) hx hb hts iX7 tyX7 tyX7_ok nmX7 hown hK hP hD hS 0 rfl rfl 4 (by decide) f71 (fun _ h9 => h9) rfl (by decide +kernel) (rfl) (rfl) (Nat.le_of_ble_eq_true rfl) dX7_readNet_7 (fun H locs hP2 hD2 hS2 => ?_)
  clear hP hD hS
  have hPD : PD D A [(Mm, .inr (7, [.int zth, .ref Mt, .int (nI tp), .int 0, .int (-1), .ref Mrr, .ref Mrh, .ref Mrc, .int zrh, .int zrc, .ref Mn, .ref Mf, .ref Mr, .ref Mh, .int zhp, .int zcc, .ref Ma, .ref Mas, .ref Msn, .ref Mac, .ref Mat])), (Mt, .inl (g 0, 160, .inl fmt)), (Mrr, .inl (g 0, 3, .inl frr)), (Mrh, .inl (g 0, 9, .inl frh)), (Mrc, .inl (g 0, 9, .inl frc))] H := ⟨hP2, hD2⟩
  have hS := hS2; clear hP2 hD2 hS2; have hP := hPD.1; have hD := hPD.2; clear hPD
  refine lv_aload_n hx hb dX7_readNet_10 rfl (lv_at hl 0 rfl) ?_
  refine lv_iconst (v := 0) hx hb dX7_readNet_11 (by decide) ?_
  refine va_put (D := D) (ci := 7) (v := .int 0) (ty := .int) (C := RX7) (T := TX7) (N := 21) hx hb hts iX7 tyX7 tyX7_ok nmX7 hown hK hP hD hS 0 rfl rfl 8 (by decide) f111 (fun _ h9 => h9) rfl (by decide +kernel) (rfl) (rfl) (Nat.le_of_ble_eq_true rfl) dX7_readNet_12 (fun H locs hP2 hD2 hS2 => ?_)
  clear hP hD hS
  have hPD : PD D A [(Mm, .inr (7, [.int zth, .ref Mt, .int (nI tp), .int 0, .int (-1), .ref Mrr, .ref Mrh, .ref Mrc, .int 0, .int zrc, .ref Mn, .ref Mf, .ref Mr, .ref Mh, .int zhp, .int zcc, .ref Ma, .ref Mas, .ref Msn, .ref Mac, .ref Mat])), (Mt, .inl (g 0, 160, .inl fmt)), (Mrr, .inl (g 0, 3, .inl frr)), (Mrh, .inl (g 0, 9, .inl frh)), (Mrc, .inl (g 0, 9, .inl frc))] H := ⟨hP2, hD2⟩
  have hS := hS2; clear hP2 hD2 hS2; have hP := hPD.1; have hD := hPD.2; clear hPD
  refine lv_aload_n hx hb dX7_readNet_15 rfl (lv_at hl 0 rfl) ?_
  refine lv_iconst (v := 0) hx hb dX7_readNet_16 (by decide) ?_
  refine va_put (D := D) (ci := 7) (v := .int 0) (ty := .int) (C := RX7) (T := TX7) (N := 21) hx hb hts iX7 tyX7 tyX7_ok nmX7 hown hK hP hD hS 0 rfl rfl 9 (by decide) f114 (fun _ h9 => h9) rfl (by decide +kernel) (rfl) (rfl) (Nat.le_of_ble_eq_true rfl) dX7_readNet_17 (fun H locs hP2 hD2 hS2 => ?_)
  clear hP hD hS
  have hPD : PD D A [(Mm, .inr (7, [.int zth, .ref Mt, .int (nI tp), .int 0, .int (-1), .ref Mrr, .ref Mrh, .ref Mrc, .int 0, .int 0, .ref Mn, .ref Mf, .ref Mr, .ref Mh, .int zhp, .int zcc, .ref Ma, .ref Mas, .ref Msn, .ref Mac, .ref Mat])), (Mt, .inl (g 0, 160, .inl fmt)), (Mrr, .inl (g 0, 3, .inl frr)), (Mrh, .inl (g 0, 9, .inl frh)), (Mrc, .inl (g 0, 9, .inl frc))] H := ⟨hP2, hD2⟩
  have hS := hS2; clear hP2 hD2 hS2; have hP := hPD.1; have hD := hPD.2; clear hPD
  refine lv_aload_n hx hb dX7_readNet_20 rfl (lv_at hl 0 rfl) ?_
  refine lv_iconst (v := 0) hx hb dX7_readNet_21 (by decide) ?_
  refine lv_aload_n hx hb dX7_readNet_22 rfl (lv_at hl 0 rfl) ?_
  refine va_get (D := D) (ci := 7) (v := .ref Mrr) (C := RX7) (T := TX7) (N := 21) hx hb hts iX7 hown hK hP 0 rfl rfl 5 (by decide) f13 (fun _ h9 => h9) rfl dX7_readNet_23 ?_
  refine lv_iconst (v := 0) hx hb dX7_readNet_26 (by decide) ?_
  refine ky_Vv (As := [.int 0, .ref Mrr, .int 0]) (rest := []) ⟨hx, hb, hml, hown, hts⟩ ⟨hK, hN⟩ hZ hP hD hS hA [0, 2] [1, 3, 4] (wc := [(Mm, .inr (7, [.int zth, .ref Mt, .int (nI tp), .int 0, .int (-1), .ref Mrr, .ref Mrh, .ref Mrc, .int 0, .int 0, .ref Mn, .ref Mf, .ref Mr, .ref Mh, .int zhp, .int zcc, .ref Ma, .ref Mas, .ref Msn, .ref Mac, .ref Mat])), (Mrr, .inl (g 0, 3, .inl frr))]) (wr := [(Mt, .inl (g 0, 160, .inl fmt)), (Mrh, .inl (g 0, 9, .inl frh)), (Mrc, .inl (g 0, 9, .inl frc))]) rfl rfl rfl rfl (by decide) (w_X7_laysUsual_0 l D g H.size Mm Mrr zth Mt (nI tp) 0 (-1) Mrh Mrc 0 0 Mn Mf Mr Mh zhp zcc Ma Mas Msn Mac Mat frr (h1)) (cwV 3 hts gX7_readNet_X7_laysUsual rfl rfl rfl (by decide +kernel) ⟨(Nat.le_of_ble_eq_true rfl), (Nat.le_of_ble_eq_true rfl)⟩) 0 7 rfl rfl rfl rfl hl.1 rfl (Nat.le_of_ble_eq_true rfl) dX7_readNet_27 ⟨(Nat.le_of_ble_eq_true rfl), (Nat.le_of_ble_eq_true rfl)⟩ (fun u H locs hw hP2 hD2 hS2 => ?_)
  clear hP hD hS
  obtain ⟨frrx_2, rfl, hf_3, hf_4⟩ := hw
  have hPD : PD D A [(Mt, .inl (g 0, 160, .inl fmt)), (Mrh, .inl (g 0, 9, .inl frh)), (Mrc, .inl (g 0, 9, .inl frc)), (Mm, .inr (7, [.int zth, .ref Mt, .int (nI tp), .int 0, .int (-1), .ref Mrr, .ref Mrh, .ref Mrc, .int 0, .int 0, .ref Mn, .ref Mf, .ref Mr, .ref Mh, .int zhp, .int zcc, .ref Ma, .ref Mas, .ref Msn, .ref Mac, .ref Mat])), (Mrr, .inl (g 0, 3, .inl frrx_2))] H := ⟨hP2, hD2⟩
  have hS := hS2; clear hP2 hD2 hS2; have hP := hPD.1; have hD := hPD.2; clear hPD
  refine W.widen (k := 0) (n := 0) (Nat.le_of_ble_eq_true rfl) (Nat.le_of_ble_eq_true rfl) ?_
  refine lv_iconst (v := 1) hx hb dX7_readNet_30 (by decide) ?_
  refine lv_istore_n (lv' := [(1, .int 1), (0, .ref Mm)]) hx hb dX7_readNet_31 rfl hl (by decide) rfl (fun ls hl => ?_)
  refine lv_iconst (v := 1) hx hb dX7_readNet_32 (by decide) ?_
  refine lv_istore_n (lv' := [(2, .int 1), (1, .int 1), (0, .ref Mm)]) hx hb dX7_readNet_33 rfl hl (by decide) rfl (fun ls hl => ?_)
  have loop_86 : ∀ (Nloop_86 : Nat) (i_33 : Nat) (i_34 : Int32) (z_35 : Nat) (z_36 : Int32) (z_37 : Nat) (z_38 : Nat) (F_39 : Nat → Int32) (F_40 : Nat → Int32) (F_41 : Nat → Int32) (hi_34 : zb i_34) (hF_39 : n1 F_39) (hF_40 : n1 F_40) (hF_41 : n1 F_41) (hv_78 : z_35 ≤ tp) (hv_79 : z_37 ≤ 3) (hv_80 : z_38 ≤ 3) (hv_81 : i_33 ≤ 1) (hv_82 : rnP fmt tp i_33 z_36 i_34 z_35 z_37 z_38) (hv_83 : i_33 = 0 → (¬ z_36 = -1 ∧ (z_36, z_38) = rdV fmt tp) ∨ (z_36 = -1 ∧ sB fmt tp z_35 = z_35 ∧ ((if z_35 < tp then nI z_35 else (-1 : Int32)), z_38) = rdV fmt tp)) (hv_84 : rnW fmt tp i_33 i_34 z_35 z_37 z_38 F_39 F_40 F_41) (hv_85 : i_33 = 0 → z_36 = -1 → ¬ z_35 < tp → z_37 = (rdWV fmt tp).1 ∧ rlW F_39 F_40 F_41 z_37 z_38 (rdWV fmt tp).2) (hmloop_86 : 2 * (tp - z_35) + i_33 < Nloop_86) (H : Heap) (locs : List Loc) (ls : Array Slot), va_P D vwCl [(Mt, .inl (g 0, 160, .inl fmt)), (Mrh, .inl (g 0, 9, .inl F_40)), (Mrc, .inl (g 0, 9, .inl F_41)), (Mm, .inr (7, [.int zth, .ref Mt, .int (nI tp), .int (nI z_35), .int z_36, .ref Mrr, .ref Mrh, .ref Mrc, .int (nI z_37), .int (nI z_38), .ref Mn, .ref Mf, .ref Mr, .ref Mh, .int zhp, .int zcc, .ref Ma, .ref Mas, .ref Msn, .ref Mac, .ref Mat])), (Mrr, .inl (g 0, 3, .inl F_39))] H → va_D A [(Mt, .inl (g 0, 160, .inl fmt)), (Mrh, .inl (g 0, 9, .inl F_40)), (Mrc, .inl (g 0, 9, .inl F_41)), (Mm, .inr (7, [.int zth, .ref Mt, .int (nI tp), .int (nI z_35), .int z_36, .ref Mrr, .ref Mrh, .ref Mrc, .int (nI z_37), .int (nI z_38), .ref Mn, .ref Mf, .ref Mr, .ref Mh, .int zhp, .int zcc, .ref Ma, .ref Mas, .ref Msn, .ref Mac, .ref Mat])), (Mrr, .inl (g 0, 3, .inl F_39))] → va_S A s.heap H locs → lv_has ls 3 [(2, .int (nI i_33)), (1, .int i_34), (0, .ref Mm)] → W p l e (headSpec wsX7_readNet ({ frames := 5, cells := 0, slots := 0, locals := 111 })).room s m ([.ref Mm] : List Value).toArray below meth c H locs 0 0 Q (F0 m 34 ls []) := by
    clear hP hD hS hl
    intro Nloop_86
    induction Nloop_86 with
    | zero => intro i_33 i_34 z_35 z_36 z_37 z_38 F_39 F_40 F_41 hi_34 hF_39 hF_40 hF_41 hv_78 hv_79 hv_80 hv_81 hv_82 hv_83 hv_84 hv_85 hm9; exact absurd hm9 (Nat.not_lt_zero _)
    | succ Nloop_86 loop_86_ih =>
      intro i_33 i_34 z_35 z_36 z_37 z_38 F_39 F_40 F_41 hi_34 hF_39 hF_40 hF_41 hv_78 hv_79 hv_80 hv_81 hv_82 hv_83 hv_84 hv_85 hmloop_86 H locs ls hP hD hS hl
      refine lv_iload_n hx hb dX7_readNet_34 rfl (lv_at hl 0 rfl) ?_
      refine lv_if_eq (tgt := 89) hx hb dX7_readNet_35 (by decide) (fun cb_87 => ?_) (fun cb_87 => ?_)
      · skip
        have cn_88 : i_33 = 0 := (nI_eq (show i_33 < 2 ^ 31 by omega) (show 0 < 2 ^ 31 by omega)).mp cb_87
        rcases hv_83 (by omega) with ⟨ha_89, hb_90⟩ | ⟨ha_89, hb_90, hc_91⟩
        · skip
          refine lv_aload_n hx hb dX7_readNet_89 rfl (lv_at hl 2 rfl) ?_
          refine va_get (D := D) (ci := 7) (v := .int z_36) (C := RX7) (T := TX7) (N := 21) hx hb hts iX7 hown hK hP 3 rfl rfl 4 (by decide) f71 (fun _ h9 => h9) rfl dX7_readNet_90 ?_
          refine lv_iconst (v := (-1)) hx hb dX7_readNet_93 (by decide) ?_
          refine lv_icmp_ne (tgt := 109) hx hb dX7_readNet_94 (by decide) (fun _ => ?_) (fun cb => absurd cb (ha_89))
          refine lv_aload_n hx hb dX7_readNet_109 rfl (lv_at hl 2 rfl) ?_
          refine va_get (D := D) (ci := 7) (v := .int z_36) (C := RX7) (T := TX7) (N := 21) hx hb hts iX7 hown hK hP 3 rfl rfl 4 (by decide) f71 (fun _ h9 => h9) rfl dX7_readNet_110 ?_
          have hPD9 : PD D A [(Mm, .inr (7, [.int zth, .ref Mt, .int (nI tp), .int (nI z_35), .int z_36, .ref Mrr, .ref Mrh, .ref Mrc, .int (nI z_37), .int (nI z_38), .ref Mn, .ref Mf, .ref Mr, .ref Mh, .int zhp, .int zcc, .ref Ma, .ref Mas, .ref Msn, .ref Mac, .ref Mat])), (Mt, .inl (g 0, 160, .inl fmt)), (Mrr, .inl (g 0, 3, .inl F_39)), (Mrh, .inl (g 0, 9, .inl F_40)), (Mrc, .inl (g 0, 9, .inl F_41))] H := ⟨hP.sub [3, 0, 4, 1, 2] rfl, hD.sub [3, 0, 4, 1, 2] (by decide) rfl⟩
          have hP9 := hPD9.1; have hD9 := hPD9.2
          subst hQ
          refine W.widen (k := 0) (n := 0) (Nat.le_of_ble_eq_true rfl) (Nat.le_of_ble_eq_true rfl) ?_
          exact W.iret (v := z_36) hx hb hr (fun tS htS _ => ⟨⟨_, _, rfl, ⟨(nI z_35), z_36, z_37, z_38, F_39, F_40, F_41, rfl, rfl, ⟨(hF_39), (hF_40), (hF_41), (show z_37 ≤ 3 by omega), (show z_38 ≤ 3 by omega), hb_90, (fun q9 => absurd q9 ha_89)⟩⟩, by rw [htS]; exact hP9, hD9⟩, hS.F htS⟩) hS.2.2 dX7_readNet_113
        · skip
          have hPq_92 := hP; have hDq_92 := hD; have hSq_92 := hS; have hlq_92 := hl; clear hP hD hS hl
          subst ha_89
          have hP := hPq_92; have hD := hDq_92; have hS := hSq_92; have hl := hlq_92; clear hPq_92 hDq_92 hSq_92 hlq_92
          refine lv_aload_n hx hb dX7_readNet_89 rfl (lv_at hl 2 rfl) ?_
          refine va_get (D := D) (ci := 7) (v := .int (-1)) (C := RX7) (T := TX7) (N := 21) hx hb hts iX7 hown hK hP 3 rfl rfl 4 (by decide) f71 (fun _ h9 => h9) rfl dX7_readNet_90 ?_
          refine lv_iconst (v := (-1)) hx hb dX7_readNet_93 (by decide) ?_
          refine lv_icmp_ne (tgt := 109) hx hb dX7_readNet_94 (by decide) (fun cb => absurd (by decide) cb) (fun _ => ?_)
          refine lv_aload_n hx hb dX7_readNet_97 rfl (lv_at hl 2 rfl) ?_
          refine ky_Vi (As := []) (rest := []) ⟨hx, hb, hml, hown, hts⟩ ⟨hK, hN⟩ hZ hP hD hS hA [3, 0] [1, 2, 4] (wc := [(Mm, .inr (7, [.int zth, .ref Mt, .int (nI tp), .int (nI z_35), .int (-1), .ref Mrr, .ref Mrh, .ref Mrc, .int (nI z_37), .int (nI z_38), .ref Mn, .ref Mf, .ref Mr, .ref Mh, .int zhp, .int zcc, .ref Ma, .ref Mas, .ref Msn, .ref Mac, .ref Mat])), (Mt, .inl (g 0, 160, .inl fmt))]) (wr := [(Mrh, .inl (g 0, 9, .inl F_40)), (Mrc, .inl (g 0, 9, .inl F_41)), (Mrr, .inl (g 0, 3, .inl F_39))]) rfl rfl rfl rfl (by decide) (r_X7_ahead l D g H.size Mm zth Mt tp z_35 (-1) Mrr Mrh Mrc z_37 z_38 Mn Mf Mr Mh zhp zcc Ma Mas Msn Mac Mat fmt (show tp ≤ 160 by omega) (show z_35 ≤ tp by omega)) (cwV 0 hts gX7_readNet_X7_ahead rfl rfl rfl (by decide +kernel) ⟨(Nat.le_of_ble_eq_true rfl), (Nat.le_of_ble_eq_true rfl)⟩) 3 7 rfl rfl rfl rfl hl.1 rfl (Nat.le_of_ble_eq_true rfl) dX7_readNet_98 ⟨(Nat.le_of_ble_eq_true rfl), (Nat.le_of_ble_eq_true rfl)⟩ (fun r_93 u H locs hw hP2 hD2 hS2 => ?_)
          clear hP hD hS
          obtain ⟨max_94, rfl, rfl, hf_95, hf_96, hf_97⟩ := hw
          have hPD : PD D A [(Mrh, .inl (g 0, 9, .inl F_40)), (Mrc, .inl (g 0, 9, .inl F_41)), (Mrr, .inl (g 0, 3, .inl F_39)), (Mm, .inr (7, [.int zth, .ref Mt, .int (nI tp), .int (nI max_94), .int (-1), .ref Mrr, .ref Mrh, .ref Mrc, .int (nI z_37), .int (nI z_38), .ref Mn, .ref Mf, .ref Mr, .ref Mh, .int zhp, .int zcc, .ref Ma, .ref Mas, .ref Msn, .ref Mac, .ref Mat])), (Mt, .inl (g 0, 160, .inl fmt))] H := ⟨hP2, hD2⟩
          have hS := hS2; clear hP2 hD2 hS2; have hP := hPD.1; have hD := hPD.2; clear hPD
          refine W.widen (k := 0) (n := 0) (Nat.le_of_ble_eq_true rfl) (Nat.le_of_ble_eq_true rfl) ?_
          refine lv_topi (fun y_98 hey_98 => ?_)
          refine lv_iconst (v := (-1)) hx hb dX7_readNet_101 (by decide) ?_
          refine lv_icmp_eq (tgt := 109) hx hb dX7_readNet_102 (by decide) (fun cb_99 => ?_) (fun cb_99 => ?_)
          · skip
            refine lv_aload_n hx hb dX7_readNet_109 rfl (lv_at hl 2 rfl) ?_
            refine va_get (D := D) (ci := 7) (v := .int (-1)) (C := RX7) (T := TX7) (N := 21) hx hb hts iX7 hown hK hP 3 rfl rfl 4 (by decide) f71 (fun _ h9 => h9) rfl dX7_readNet_110 ?_
            have hPD9 : PD D A [(Mm, .inr (7, [.int zth, .ref Mt, .int (nI tp), .int (nI max_94), .int (-1), .ref Mrr, .ref Mrh, .ref Mrc, .int (nI z_37), .int (nI z_38), .ref Mn, .ref Mf, .ref Mr, .ref Mh, .int zhp, .int zcc, .ref Ma, .ref Mas, .ref Msn, .ref Mac, .ref Mat])), (Mt, .inl (g 0, 160, .inl fmt)), (Mrr, .inl (g 0, 3, .inl F_39)), (Mrh, .inl (g 0, 9, .inl F_40)), (Mrc, .inl (g 0, 9, .inl F_41))] H := ⟨hP.sub [3, 4, 2, 0, 1] rfl, hD.sub [3, 4, 2, 0, 1] (by decide) rfl⟩
            have hP9 := hPD9.1; have hD9 := hPD9.2
            subst hQ
            refine W.widen (k := 0) (n := 0) (Nat.le_of_ble_eq_true rfl) (Nat.le_of_ble_eq_true rfl) ?_
            exact W.iret (v := (-1)) hx hb hr (fun tS htS _ => ⟨⟨_, _, rfl, ⟨(nI max_94), (-1), z_37, z_38, F_39, F_40, F_41, rfl, rfl, ⟨(hF_39), (hF_40), (hF_41), (show z_37 ≤ 3 by omega), (show z_38 ≤ 3 by omega), (by rw [← hc_91, if_neg (show ¬ z_35 < tp from fun q => he_m h4 hey_98.symm cb_99 (show max_94 < tp by omega))]), (fun _ => hv_85 (by omega) rfl (show ¬ z_35 < tp from fun q => he_m h4 hey_98.symm cb_99 (show max_94 < tp by omega)))⟩⟩, by rw [htS]; exact hP9, hD9⟩, hS.F htS⟩) hS.2.2 dX7_readNet_113
          · skip
            have hq_100 : max_94 < tp := (fun q9 => here_lt hey_98 q9) cb_99
            refine lv_aload_n hx hb dX7_readNet_105 rfl (lv_at hl 2 rfl) ?_
            refine ky_Vv (As := []) (rest := []) ⟨hx, hb, hml, hown, hts⟩ ⟨hK, hN⟩ hZ hP hD hS hA [3] [0, 1, 2, 4] (wc := [(Mm, .inr (7, [.int zth, .ref Mt, .int (nI tp), .int (nI max_94), .int (-1), .ref Mrr, .ref Mrh, .ref Mrc, .int (nI z_37), .int (nI z_38), .ref Mn, .ref Mf, .ref Mr, .ref Mh, .int zhp, .int zcc, .ref Ma, .ref Mas, .ref Msn, .ref Mac, .ref Mat]))]) (wr := [(Mrh, .inl (g 0, 9, .inl F_40)), (Mrc, .inl (g 0, 9, .inl F_41)), (Mrr, .inl (g 0, 3, .inl F_39)), (Mt, .inl (g 0, 160, .inl fmt))]) rfl rfl rfl rfl (by decide) (r_X7_bad l D g H.size Mm zth Mt tp max_94 Mrr Mrh Mrc z_37 z_38 Mn Mf Mr Mh zhp zcc Ma Mas Msn Mac Mat) (cwV 0 hts gX7_readNet_X7_bad rfl rfl rfl (by decide +kernel) ⟨(Nat.le_of_ble_eq_true rfl), (Nat.le_of_ble_eq_true rfl)⟩) 3 7 rfl rfl rfl rfl hl.1 rfl (Nat.le_of_ble_eq_true rfl) dX7_readNet_106 ⟨(Nat.le_of_ble_eq_true rfl), (Nat.le_of_ble_eq_true rfl)⟩ (fun u H locs hw hP2 hD2 hS2 => ?_)
            clear hP hD hS
            obtain rfl := hw
            have hPD : PD D A [(Mrh, .inl (g 0, 9, .inl F_40)), (Mrc, .inl (g 0, 9, .inl F_41)), (Mrr, .inl (g 0, 3, .inl F_39)), (Mt, .inl (g 0, 160, .inl fmt)), (Mm, .inr (7, [.int zth, .ref Mt, .int (nI tp), .int (nI max_94), .int (nI max_94), .ref Mrr, .ref Mrh, .ref Mrc, .int (nI z_37), .int (nI z_38), .ref Mn, .ref Mf, .ref Mr, .ref Mh, .int zhp, .int zcc, .ref Ma, .ref Mas, .ref Msn, .ref Mac, .ref Mat]))] H := ⟨hP2, hD2⟩
            have hS := hS2; clear hP2 hD2 hS2; have hP := hPD.1; have hD := hPD.2; clear hPD
            refine W.widen (k := 0) (n := 0) (Nat.le_of_ble_eq_true rfl) (Nat.le_of_ble_eq_true rfl) ?_
            refine lv_aload_n hx hb dX7_readNet_109 rfl (lv_at hl 2 rfl) ?_
            refine va_get (D := D) (ci := 7) (v := .int (nI max_94)) (C := RX7) (T := TX7) (N := 21) hx hb hts iX7 hown hK hP 4 rfl rfl 4 (by decide) f71 (fun _ h9 => h9) rfl dX7_readNet_110 ?_
            have hPD9 : PD D A [(Mm, .inr (7, [.int zth, .ref Mt, .int (nI tp), .int (nI max_94), .int (nI max_94), .ref Mrr, .ref Mrh, .ref Mrc, .int (nI z_37), .int (nI z_38), .ref Mn, .ref Mf, .ref Mr, .ref Mh, .int zhp, .int zcc, .ref Ma, .ref Mas, .ref Msn, .ref Mac, .ref Mat])), (Mt, .inl (g 0, 160, .inl fmt)), (Mrr, .inl (g 0, 3, .inl F_39)), (Mrh, .inl (g 0, 9, .inl F_40)), (Mrc, .inl (g 0, 9, .inl F_41))] H := ⟨hP.sub [4, 3, 2, 0, 1] rfl, hD.sub [4, 3, 2, 0, 1] (by decide) rfl⟩
            have hP9 := hPD9.1; have hD9 := hPD9.2
            subst hQ
            refine W.widen (k := 0) (n := 0) (Nat.le_of_ble_eq_true rfl) (Nat.le_of_ble_eq_true rfl) ?_
            exact W.iret (v := (nI max_94)) hx hb hr (fun tS htS _ => ⟨⟨_, _, rfl, ⟨(nI max_94), (nI max_94), z_37, z_38, F_39, F_40, F_41, rfl, rfl, ⟨(hF_39), (hF_40), (hF_41), (show z_37 ≤ 3 by omega), (show z_38 ≤ 3 by omega), (by rw [← hc_91, if_pos (show z_35 < tp by have := (he_lt hey_98.symm cb_99).1; omega), show max_94 = z_35 by omega]), (fun q9 => absurd q9 (m1_ne (show max_94 < 2 ^ 31 by omega)))⟩⟩, by rw [htS]; exact hP9, hD9⟩, hS.F htS⟩) hS.2.2 dX7_readNet_113
      · skip
        have cn_102 : ¬ i_33 = 0 := fun q9 => cb_87 (congrArg nI q9)
        obtain ⟨hi_106, f_105, hi_103, hi_104⟩ := rnP_e hv_82 (by omega)
        have hPq_107 := hP; have hDq_107 := hD; have hSq_107 := hS; have hlq_107 := hl; clear hP hD hS hl
        subst hi_106
        have hP := hPq_107; have hD := hDq_107; have hS := hSq_107; have hl := hlq_107; clear hPq_107 hDq_107 hSq_107 hlq_107
        refine lv_aload_n hx hb dX7_readNet_38 rfl (lv_at hl 2 rfl) ?_
        refine lv_iload_n hx hb dX7_readNet_39 rfl (lv_at hl 1 rfl) ?_
        refine ky_Vv (As := [.int i_34]) (rest := []) ⟨hx, hb, hml, hown, hts⟩ ⟨hK, hN⟩ hZ hP hD hS hA [3, 0, 4, 1, 2] [] (wc := [(Mm, .inr (7, [.int zth, .ref Mt, .int (nI tp), .int (nI z_35), .int (-1), .ref Mrr, .ref Mrh, .ref Mrc, .int (nI z_37), .int (nI z_38), .ref Mn, .ref Mf, .ref Mr, .ref Mh, .int zhp, .int zcc, .ref Ma, .ref Mas, .ref Msn, .ref Mac, .ref Mat])), (Mt, .inl (g 0, 160, .inl fmt)), (Mrr, .inl (g 0, 3, .inl F_39)), (Mrh, .inl (g 0, 9, .inl F_40)), (Mrc, .inl (g 0, 9, .inl F_41))]) (wr := []) rfl rfl rfl rfl (by decide) (w_X7_clause l D g H.size Mm i_34 zth Mt tp z_35 Mrr Mrh Mrc z_37 z_38 Mn Mf Mr Mh zhp zcc Ma Mas Msn Mac Mat fmt F_39 F_40 F_41 (show tp ≤ 160 by omega) (show z_35 ≤ tp by omega) (show z_37 ≤ 3 by omega) (show z_38 ≤ 3 by omega) (hF_39) (hF_40) (hF_41)) (cwV 1 hts gX7_readNet_X7_clause rfl rfl rfl (by decide +kernel) ⟨(Nat.le_of_ble_eq_true rfl), (Nat.le_of_ble_eq_true rfl)⟩) 3 7 rfl rfl rfl rfl hl.1 rfl (Nat.le_of_ble_eq_true rfl) dX7_readNet_40 ⟨(Nat.le_of_ble_eq_true rfl), (Nat.le_of_ble_eq_true rfl)⟩ (fun u H locs hw hP2 hD2 hS2 => ?_)
        clear hP hD hS
        obtain ⟨max_109, zwrx_110, rhx_111, rcx_112, frrx_113, frhx_114, frcx_115, rfl, hf_116⟩ := hw
        have hg_117 := hf_116.2.2.2.1
        have hg_118 := hf_116.2.2.2.2.1
        have hg_119 := hf_116.2.2.2.2.2.1
        have hg_120 := hf_116.2.2.2.2.2.2.1
        have hPD : PD D A [(Mm, .inr (7, [.int zth, .ref Mt, .int (nI tp), .int (nI max_109), .int zwrx_110, .ref Mrr, .ref Mrh, .ref Mrc, .int (nI rhx_111), .int (nI rcx_112), .ref Mn, .ref Mf, .ref Mr, .ref Mh, .int zhp, .int zcc, .ref Ma, .ref Mas, .ref Msn, .ref Mac, .ref Mat])), (Mt, .inl (g 0, 160, .inl fmt)), (Mrr, .inl (g 0, 3, .inl frrx_113)), (Mrh, .inl (g 0, 9, .inl frhx_114)), (Mrc, .inl (g 0, 9, .inl frcx_115))] H := ⟨hP2, hD2⟩
        have hS := hS2; clear hP2 hD2 hS2; have hP := hPD.1; have hD := hPD.2; clear hPD
        refine W.widen (k := 0) (n := 0) (Nat.le_of_ble_eq_true rfl) (Nat.le_of_ble_eq_true rfl) ?_
        rcases cqP_e (hf_116.2.2.2.2.2.2.2.1) with ⟨he_121, hw_122⟩ | ⟨cl_123, hc_124, he_121, hw_122, hj_125⟩
        · skip
          refine lv_iconst (v := 0) hx hb dX7_readNet_43 (by decide) ?_
          refine lv_istore_n (lv' := [(1, .int 0), (2, .int (nI i_33)), (0, .ref Mm)]) hx hb dX7_readNet_44 rfl hl (by decide) rfl (fun ls hl => ?_)
          refine lv_aload_n hx hb dX7_readNet_45 rfl (lv_at hl 2 rfl) ?_
          refine va_get (D := D) (ci := 7) (v := .int zwrx_110) (C := RX7) (T := TX7) (N := 21) hx hb hts iX7 hown hK hP 0 rfl rfl 4 (by decide) f71 (fun _ h9 => h9) rfl dX7_readNet_46 ?_
          refine lv_iconst (v := (-1)) hx hb dX7_readNet_49 (by decide) ?_
          refine lv_icmp_ne (tgt := 66) hx hb dX7_readNet_50 (by decide) (fun _ => ?_) (fun cb => absurd cb ((by rw [hw_122]; exact m1_ne (by have := sB_le (T := fmt) (show z_35 ≤ tp by omega); omega))))
          refine lv_iconst (v := 0) hx hb dX7_readNet_66 (by decide) ?_
          refine lv_istore_n (lv' := [(2, .int 0), (1, .int 0), (0, .ref Mm)]) hx hb dX7_readNet_67 rfl hl (by decide) rfl (fun ls hl => ?_)
          refine lv_aload_n hx hb dX7_readNet_68 rfl (lv_at hl 2 rfl) ?_
          refine lv_dup hx hb dX7_readNet_69 rfl ?_
          refine va_get (D := D) (ci := 7) (v := .int (nI max_109)) (C := RX7) (T := TX7) (N := 21) hx hb hts iX7 hown hK hP 0 rfl rfl 3 (by decide) f64 (fun _ h9 => h9) rfl dX7_readNet_70 ?_
          refine lv_iload_n hx hb dX7_readNet_73 rfl (lv_at hl 0 rfl) ?_
          refine lv_if_eq (tgt := 81) hx hb dX7_readNet_74 (by decide) (fun _ => ?_) (fun cb => absurd (by decide) cb)
          refine lv_iconst (v := 0) hx hb dX7_readNet_81 (by decide) ?_
          refine lv_iadd hx hb dX7_readNet_82 ?_
          refine lv_eqi (y := (nI (max_109 + 0))) (nI_add (max_109) (0)) ?_
          refine va_put (D := D) (ci := 7) (v := .int (nI (max_109 + 0))) (ty := .int) (C := RX7) (T := TX7) (N := 21) hx hb hts iX7 tyX7 tyX7_ok nmX7 hown hK hP hD hS 0 rfl rfl 3 (by decide) f64 (fun _ h9 => h9) rfl (by decide +kernel) (rfl) (rfl) (Nat.le_of_ble_eq_true rfl) dX7_readNet_83 (fun H locs hP2 hD2 hS2 => ?_)
          clear hP hD hS
          have hPD : PD D A [(Mm, .inr (7, [.int zth, .ref Mt, .int (nI tp), .int (nI (max_109 + 0)), .int zwrx_110, .ref Mrr, .ref Mrh, .ref Mrc, .int (nI rhx_111), .int (nI rcx_112), .ref Mn, .ref Mf, .ref Mr, .ref Mh, .int zhp, .int zcc, .ref Ma, .ref Mas, .ref Msn, .ref Mac, .ref Mat])), (Mt, .inl (g 0, 160, .inl fmt)), (Mrr, .inl (g 0, 3, .inl frrx_113)), (Mrh, .inl (g 0, 9, .inl frhx_114)), (Mrc, .inl (g 0, 9, .inl frcx_115))] H := ⟨hP2, hD2⟩
          have hS := hS2; clear hP2 hD2 hS2; have hP := hPD.1; have hD := hPD.2; clear hPD
          refine lv_goto (tgt := 34) hx hb dX7_readNet_86 (by decide) ?_
          exact loop_86_ih 0 0 (max_109 + 0) zwrx_110 rhx_111 rcx_112 frrx_113 frhx_114 frcx_115 (zb_0) (hf_116.1) (hf_116.2.1) (hf_116.2.2.1) (show (max_109 + 0) ≤ tp by omega) (show rhx_111 ≤ 3 by omega) (show rcx_112 ≤ 3 by omega) (show 0 ≤ 1 by omega) (rnP_i (fun q => absurd rfl q)) (fun _ => Or.inl (rq_no (show tp < 2 ^ 31 by omega) hi_103 (show z_35 ≤ tp by omega) hi_104 he_121 hw_122)) (rnW_no) (fun _ q9 => absurd (hw_122.symm.trans q9) (m1_ne (by have := sB_le (T := fmt) (show z_35 ≤ tp by omega); omega))) (show 2 * (tp - (max_109 + 0)) + 0 < Nloop_86 by omega) _ _ _ (hP.sub [1, 3, 4, 0, 2] rfl) (hD.sub [1, 3, 4, 0, 2] (by decide) rfl) hS hl
        · skip
          refine lv_iconst (v := 0) hx hb dX7_readNet_43 (by decide) ?_
          refine lv_istore_n (lv' := [(1, .int 0), (2, .int (nI i_33)), (0, .ref Mm)]) hx hb dX7_readNet_44 rfl hl (by decide) rfl (fun ls hl => ?_)
          refine lv_aload_n hx hb dX7_readNet_45 rfl (lv_at hl 2 rfl) ?_
          refine va_get (D := D) (ci := 7) (v := .int zwrx_110) (C := RX7) (T := TX7) (N := 21) hx hb hts iX7 hown hK hP 0 rfl rfl 4 (by decide) f71 (fun _ h9 => h9) rfl dX7_readNet_46 ?_
          refine lv_iconst (v := (-1)) hx hb dX7_readNet_49 (by decide) ?_
          refine lv_icmp_ne (tgt := 66) hx hb dX7_readNet_50 (by decide) (fun cb_126 => ?_) (fun cb_126 => ?_)
          · skip
            refine lv_iconst (v := 0) hx hb dX7_readNet_66 (by decide) ?_
            refine lv_istore_n (lv' := [(2, .int 0), (1, .int 0), (0, .ref Mm)]) hx hb dX7_readNet_67 rfl hl (by decide) rfl (fun ls hl => ?_)
            refine lv_aload_n hx hb dX7_readNet_68 rfl (lv_at hl 2 rfl) ?_
            refine lv_dup hx hb dX7_readNet_69 rfl ?_
            refine va_get (D := D) (ci := 7) (v := .int (nI max_109)) (C := RX7) (T := TX7) (N := 21) hx hb hts iX7 hown hK hP 0 rfl rfl 3 (by decide) f64 (fun _ h9 => h9) rfl dX7_readNet_70 ?_
            refine lv_iload_n hx hb dX7_readNet_73 rfl (lv_at hl 0 rfl) ?_
            refine lv_if_eq (tgt := 81) hx hb dX7_readNet_74 (by decide) (fun _ => ?_) (fun cb => absurd (by decide) cb)
            refine lv_iconst (v := 0) hx hb dX7_readNet_81 (by decide) ?_
            refine lv_iadd hx hb dX7_readNet_82 ?_
            refine lv_eqi (y := (nI (max_109 + 0))) (nI_add (max_109) (0)) ?_
            refine va_put (D := D) (ci := 7) (v := .int (nI (max_109 + 0))) (ty := .int) (C := RX7) (T := TX7) (N := 21) hx hb hts iX7 tyX7 tyX7_ok nmX7 hown hK hP hD hS 0 rfl rfl 3 (by decide) f64 (fun _ h9 => h9) rfl (by decide +kernel) (rfl) (rfl) (Nat.le_of_ble_eq_true rfl) dX7_readNet_83 (fun H locs hP2 hD2 hS2 => ?_)
            clear hP hD hS
            have hPD : PD D A [(Mm, .inr (7, [.int zth, .ref Mt, .int (nI tp), .int (nI (max_109 + 0)), .int zwrx_110, .ref Mrr, .ref Mrh, .ref Mrc, .int (nI rhx_111), .int (nI rcx_112), .ref Mn, .ref Mf, .ref Mr, .ref Mh, .int zhp, .int zcc, .ref Ma, .ref Mas, .ref Msn, .ref Mac, .ref Mat])), (Mt, .inl (g 0, 160, .inl fmt)), (Mrr, .inl (g 0, 3, .inl frrx_113)), (Mrh, .inl (g 0, 9, .inl frhx_114)), (Mrc, .inl (g 0, 9, .inl frcx_115))] H := ⟨hP2, hD2⟩
            have hS := hS2; clear hP2 hD2 hS2; have hP := hPD.1; have hD := hPD.2; clear hPD
            refine lv_goto (tgt := 34) hx hb dX7_readNet_86 (by decide) ?_
            exact loop_86_ih 0 0 (max_109 + 0) zwrx_110 rhx_111 rcx_112 frrx_113 frhx_114 frcx_115 (zb_0) (hf_116.1) (hf_116.2.1) (hf_116.2.2.1) (show (max_109 + 0) ≤ tp by omega) (show rhx_111 ≤ 3 by omega) (show rcx_112 ≤ 3 by omega) (show 0 ≤ 1 by omega) (rnP_i (fun q => absurd rfl q)) (fun _ => Or.inl (rq_w hi_103 (show z_35 ≤ tp by omega) hi_104 he_121 hc_124 hw_122 cb_126)) (rnW_no) (fun _ q9 => absurd q9 cb_126) (show 2 * (tp - (max_109 + 0)) + 0 < Nloop_86 by omega) _ _ _ (hP.sub [1, 3, 4, 0, 2] rfl) (hD.sub [1, 3, 4, 0, 2] (by decide) rfl) hS hl
          · skip
            have hPq_127 := hP; have hDq_127 := hD; have hSq_127 := hS; have hlq_127 := hl; clear hP hD hS hl
            subst cb_126
            have hP := hPq_127; have hD := hDq_127; have hS := hSq_127; have hl := hlq_127; clear hPq_127 hDq_127 hSq_127 hlq_127
            refine lv_aload_n hx hb dX7_readNet_53 rfl (lv_at hl 2 rfl) ?_
            refine ky_Vi (As := []) (rest := []) ⟨hx, hb, hml, hown, hts⟩ ⟨hK, hN⟩ hZ hP hD hS hA [0, 1] [2, 3, 4] (wc := [(Mm, .inr (7, [.int zth, .ref Mt, .int (nI tp), .int (nI max_109), .int (-1), .ref Mrr, .ref Mrh, .ref Mrc, .int (nI rhx_111), .int (nI rcx_112), .ref Mn, .ref Mf, .ref Mr, .ref Mh, .int zhp, .int zcc, .ref Ma, .ref Mas, .ref Msn, .ref Mac, .ref Mat])), (Mt, .inl (g 0, 160, .inl fmt))]) (wr := [(Mrr, .inl (g 0, 3, .inl frrx_113)), (Mrh, .inl (g 0, 9, .inl frhx_114)), (Mrc, .inl (g 0, 9, .inl frcx_115))]) rfl rfl rfl rfl (by decide) (r_X7_ahead l D g H.size Mm zth Mt tp max_109 (-1) Mrr Mrh Mrc rhx_111 rcx_112 Mn Mf Mr Mh zhp zcc Ma Mas Msn Mac Mat fmt (show tp ≤ 160 by omega) (show max_109 ≤ tp by omega)) (cwV 0 hts gX7_readNet_X7_ahead rfl rfl rfl (by decide +kernel) ⟨(Nat.le_of_ble_eq_true rfl), (Nat.le_of_ble_eq_true rfl)⟩) 0 7 rfl rfl rfl rfl hl.1 rfl (Nat.le_of_ble_eq_true rfl) dX7_readNet_54 ⟨(Nat.le_of_ble_eq_true rfl), (Nat.le_of_ble_eq_true rfl)⟩ (fun r_128 u H locs hw hP2 hD2 hS2 => ?_)
            clear hP hD hS
            obtain ⟨max_129, rfl, rfl, hf_130, hf_131, hf_132⟩ := hw
            have hPD : PD D A [(Mrr, .inl (g 0, 3, .inl frrx_113)), (Mrh, .inl (g 0, 9, .inl frhx_114)), (Mrc, .inl (g 0, 9, .inl frcx_115)), (Mm, .inr (7, [.int zth, .ref Mt, .int (nI tp), .int (nI max_129), .int (-1), .ref Mrr, .ref Mrh, .ref Mrc, .int (nI rhx_111), .int (nI rcx_112), .ref Mn, .ref Mf, .ref Mr, .ref Mh, .int zhp, .int zcc, .ref Ma, .ref Mas, .ref Msn, .ref Mac, .ref Mat])), (Mt, .inl (g 0, 160, .inl fmt))] H := ⟨hP2, hD2⟩
            have hS := hS2; clear hP2 hD2 hS2; have hP := hPD.1; have hD := hPD.2; clear hPD
            refine W.widen (k := 0) (n := 0) (Nat.le_of_ble_eq_true rfl) (Nat.le_of_ble_eq_true rfl) ?_
            refine lv_topi (fun y_133 hey_133 => ?_)
            refine lv_bipush (v := 59) hx hb dX7_readNet_57 (by decide) ?_
            refine lv_icmp_ne (tgt := 66) hx hb dX7_readNet_59 (by decide) (fun cb_134 => ?_) (fun cb_134 => ?_)
            · skip
              refine lv_iconst (v := 0) hx hb dX7_readNet_66 (by decide) ?_
              refine lv_istore_n (lv' := [(2, .int 0), (1, .int 0), (0, .ref Mm)]) hx hb dX7_readNet_67 rfl hl (by decide) rfl (fun ls hl => ?_)
              refine lv_aload_n hx hb dX7_readNet_68 rfl (lv_at hl 2 rfl) ?_
              refine lv_dup hx hb dX7_readNet_69 rfl ?_
              refine va_get (D := D) (ci := 7) (v := .int (nI max_129)) (C := RX7) (T := TX7) (N := 21) hx hb hts iX7 hown hK hP 3 rfl rfl 3 (by decide) f64 (fun _ h9 => h9) rfl dX7_readNet_70 ?_
              refine lv_iload_n hx hb dX7_readNet_73 rfl (lv_at hl 0 rfl) ?_
              refine lv_if_eq (tgt := 81) hx hb dX7_readNet_74 (by decide) (fun _ => ?_) (fun cb => absurd (by decide) cb)
              refine lv_iconst (v := 0) hx hb dX7_readNet_81 (by decide) ?_
              refine lv_iadd hx hb dX7_readNet_82 ?_
              refine lv_eqi (y := (nI (max_129 + 0))) (nI_add (max_129) (0)) ?_
              refine va_put (D := D) (ci := 7) (v := .int (nI (max_129 + 0))) (ty := .int) (C := RX7) (T := TX7) (N := 21) hx hb hts iX7 tyX7 tyX7_ok nmX7 hown hK hP hD hS 3 rfl rfl 3 (by decide) f64 (fun _ h9 => h9) rfl (by decide +kernel) (rfl) (rfl) (Nat.le_of_ble_eq_true rfl) dX7_readNet_83 (fun H locs hP2 hD2 hS2 => ?_)
              clear hP hD hS
              have hPD : PD D A [(Mrr, .inl (g 0, 3, .inl frrx_113)), (Mrh, .inl (g 0, 9, .inl frhx_114)), (Mrc, .inl (g 0, 9, .inl frcx_115)), (Mm, .inr (7, [.int zth, .ref Mt, .int (nI tp), .int (nI (max_129 + 0)), .int (-1), .ref Mrr, .ref Mrh, .ref Mrc, .int (nI rhx_111), .int (nI rcx_112), .ref Mn, .ref Mf, .ref Mr, .ref Mh, .int zhp, .int zcc, .ref Ma, .ref Mas, .ref Msn, .ref Mac, .ref Mat])), (Mt, .inl (g 0, 160, .inl fmt))] H := ⟨hP2, hD2⟩
              have hS := hS2; clear hP2 hD2 hS2; have hP := hPD.1; have hD := hPD.2; clear hPD
              refine lv_goto (tgt := 34) hx hb dX7_readNet_86 (by decide) ?_
              exact loop_86_ih 0 0 (max_129 + 0) (-1) rhx_111 rcx_112 frrx_113 frhx_114 frcx_115 (zb_0) (hf_116.1) (hf_116.2.1) (hf_116.2.2.1) (show (max_129 + 0) ≤ tp by omega) (show rhx_111 ≤ 3 by omega) (show rcx_112 ≤ 3 by omega) (show 0 ≤ 1 by omega) (rnP_i (fun q => absurd rfl q)) (fun _ => Or.inr ⟨rfl, rq_end (show tp < 2 ^ 31 by omega) hi_103 (show z_35 ≤ tp by omega) hi_104 he_121 hc_124 hw_122 (hj_125 rfl) hf_132 (fun q => cb_134 (hey_133.trans ((if_pos q.1).trans q.2)))⟩) (rnW_no) (fun _ _ q9 => rnW_end (by omega) hv_84 (by omega) (show z_35 ≤ tp by omega) he_121 hc_124 hw_122 (hj_125 rfl) (hf_116.2.2.2.2.2.2.2.2 rfl) hf_132 q9) (show 2 * (tp - (max_129 + 0)) + 0 < Nloop_86 by omega) _ _ _ (hP.sub [4, 1, 2, 3, 0] rfl) (hD.sub [4, 1, 2, 3, 0] (by decide) rfl) hS hl
            · skip
              have hq_135 : max_129 < tp := (fun q9 => here_lt hey_133 q9) (by rw [cb_134]; decide)
              refine lv_iconst (v := 1) hx hb dX7_readNet_62 (by decide) ?_
              refine lv_goto (tgt := 67) hx hb dX7_readNet_63 (by decide) ?_
              refine lv_istore_n (lv' := [(2, .int 1), (1, .int 0), (0, .ref Mm)]) hx hb dX7_readNet_67 rfl hl (by decide) rfl (fun ls hl => ?_)
              refine lv_aload_n hx hb dX7_readNet_68 rfl (lv_at hl 2 rfl) ?_
              refine lv_dup hx hb dX7_readNet_69 rfl ?_
              refine va_get (D := D) (ci := 7) (v := .int (nI max_129)) (C := RX7) (T := TX7) (N := 21) hx hb hts iX7 hown hK hP 3 rfl rfl 3 (by decide) f64 (fun _ h9 => h9) rfl dX7_readNet_70 ?_
              refine lv_iload_n hx hb dX7_readNet_73 rfl (lv_at hl 0 rfl) ?_
              refine lv_if_eq (tgt := 81) hx hb dX7_readNet_74 (by decide) (fun cb => absurd cb (by decide)) (fun _ => ?_)
              refine lv_iconst (v := 1) hx hb dX7_readNet_77 (by decide) ?_
              refine lv_goto (tgt := 82) hx hb dX7_readNet_78 (by decide) ?_
              refine lv_iadd hx hb dX7_readNet_82 ?_
              refine lv_eqi (y := (nI (max_129 + 1))) (nI_add (max_129) (1)) ?_
              refine va_put (D := D) (ci := 7) (v := .int (nI (max_129 + 1))) (ty := .int) (C := RX7) (T := TX7) (N := 21) hx hb hts iX7 tyX7 tyX7_ok nmX7 hown hK hP hD hS 3 rfl rfl 3 (by decide) f64 (fun _ h9 => h9) rfl (by decide +kernel) (rfl) (rfl) (Nat.le_of_ble_eq_true rfl) dX7_readNet_83 (fun H locs hP2 hD2 hS2 => ?_)
              clear hP hD hS
              have hPD : PD D A [(Mrr, .inl (g 0, 3, .inl frrx_113)), (Mrh, .inl (g 0, 9, .inl frhx_114)), (Mrc, .inl (g 0, 9, .inl frcx_115)), (Mm, .inr (7, [.int zth, .ref Mt, .int (nI tp), .int (nI (max_129 + 1)), .int (-1), .ref Mrr, .ref Mrh, .ref Mrc, .int (nI rhx_111), .int (nI rcx_112), .ref Mn, .ref Mf, .ref Mr, .ref Mh, .int zhp, .int zcc, .ref Ma, .ref Mas, .ref Msn, .ref Mac, .ref Mat])), (Mt, .inl (g 0, 160, .inl fmt))] H := ⟨hP2, hD2⟩
              have hS := hS2; clear hP2 hD2 hS2; have hP := hPD.1; have hD := hPD.2; clear hPD
              refine lv_goto (tgt := 34) hx hb dX7_readNet_86 (by decide) ?_
              exact loop_86_ih 1 0 (max_129 + 1) (-1) rhx_111 rcx_112 frrx_113 frhx_114 frcx_115 (zb_0) (hf_116.1) (hf_116.2.1) (hf_116.2.2.1) (show (max_129 + 1) ≤ tp by omega) (show rhx_111 ≤ 3 by omega) (show rcx_112 ≤ 3 by omega) (show 1 ≤ 1 by omega) (rnP_i (fun _ => ⟨rfl, rq_59 hi_103 (show z_35 ≤ tp by omega) hi_104 he_121 hc_124 hw_122 (hj_125 rfl) hf_132 (he_lt hey_133.symm (by rw [cb_134]; decide)).1 ((he_lt hey_133.symm (by rw [cb_134]; decide)).2.trans cb_134)⟩)) (fun q => absurd q (by decide)) (rnW_59 (by omega) hv_84 (by omega) (show z_35 ≤ tp by omega) he_121 hc_124 hw_122 (hj_125 rfl) (hf_116.2.2.2.2.2.2.2.2 rfl) hf_132 (he_lt hey_133.symm (by rw [cb_134]; decide)).1 ((he_lt hey_133.symm (by rw [cb_134]; decide)).2.trans cb_134)) (fun q => absurd q (by decide)) (show 2 * (tp - (max_129 + 1)) + 1 < Nloop_86 by omega) _ _ _ (hP.sub [4, 1, 2, 3, 0] rfl) (hD.sub [4, 1, 2, 3, 0] (by decide) rfl) hS hl
  exact loop_86 _ 1 1 0 (-1) 0 0 frrx_2 frh frc (zb_1) (hf_3) (h2) (h3) (show 0 ≤ tp by omega) (show 0 ≤ 3 by omega) (show 0 ≤ 3 by omega) (show 1 ≤ 1 by omega) (rnP_i (fun _ => ⟨rfl, tp + 1, Nat.le_refl _, rfl⟩)) (fun q => absurd q (by decide)) (rnW_0 (us3_0 hf_4)) (fun q => absurd q (by decide)) (Nat.lt_succ_self _) _ _ _ hP hD hS hl
