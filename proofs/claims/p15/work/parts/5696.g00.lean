set_option maxHeartbeats 4000000 in
set_option maxRecDepth 100000 in
theorem r_X7_feed (l : Launch) (D : va_G) (g : Nat → ClassId) (sz : Nat) (Mm : Nat) (za : Int32) (zb : Int32) (zc : Int32) (zd : Int32) (ze : Int32) (zth : Int32) (Mt : Nat) (tp : Nat) (zma : Int32) (zwr : Int32) (Mrr : Nat) (Mrh : Nat) (Mrc : Nat) (zrh : Int32) (zrc : Int32) (Mn : Nat) (Mf : Nat) (Mr : Nat) (Mh : Nat) (zhp : Int32) (zcc : Int32) (Ma : Nat) (Mas : Nat) (Msn : Nat) (Mac : Nat) (Mat : Nat) (fmt : Nat → Int32) (h0 : tp ≤ 160) : Met l yX7_feed wsX7_feed ({ frames := 1, cells := 0, slots := 0, locals := 26 }) (va_Pc [.ref Mm, .int za, .int zb, .int zc, .int zd, .int ze] (pre D g sz [(Mm, .inr (7, [.int zth, .ref Mt, .int (nI tp), .int zma, .int zwr, .ref Mrr, .ref Mrh, .ref Mrc, .int zrh, .int zrc, .ref Mn, .ref Mf, .ref Mr, .ref Mh, .int zhp, .int zcc, .ref Ma, .ref Mas, .ref Msn, .ref Mac, .ref Mat])), (Mt, .inl (g 0, 160, .inl fmt))])) (va_Qi (fun (r : Int32) (u : va_W) => ∃ (zthx : Int32) (tpx : Nat) (fmtx : Nat → Int32) (zr : Int32), u = [(Mm, .inr (7, [.int zthx, .ref Mt, .int (nI tpx), .int zma, .int zwr, .ref Mrr, .ref Mrh, .ref Mrc, .int zrh, .int zrc, .ref Mn, .ref Mf, .ref Mr, .ref Mh, .int zhp, .int zcc, .ref Ma, .ref Mas, .ref Msn, .ref Mac, .ref Mat])), (Mt, .inl (g 0, 160, .inl fmtx))] ∧ r = zr ∧ (tpx ≤ 160) ∧ ((zr, tpx, fmtx) = fdR (tp, fmt) za zb zc zd ze)) (wd D (va_A [(Mm, .inr (7, [.int zth, .ref Mt, .int (nI tp), .int zma, .int zwr, .ref Mrr, .ref Mrh, .ref Mrc, .int zrh, .int zrc, .ref Mn, .ref Mf, .ref Mr, .ref Mh, .int zhp, .int zcc, .ref Ma, .ref Mas, .ref Msn, .ref Mac, .ref Mat])), (Mt, .inl (g 0, 160, .inl fmt))] sz)) (va_A [(Mm, .inr (7, [.int zth, .ref Mt, .int (nI tp), .int zma, .int zwr, .ref Mrr, .ref Mrh, .ref Mrc, .int zrh, .int zrc, .ref Mn, .ref Mf, .ref Mr, .ref Mh, .int zhp, .int zcc, .ref Ma, .ref Mas, .ref Msn, .ref Mac, .ref Mat])), (Mt, .inl (g 0, 160, .inl fmt))] sz)) 0 0 (va_A [(Mm, .inr (7, [.int zth, .ref Mt, .int (nI tp), .int zma, .int zwr, .ref Mrr, .ref Mrh, .ref Mrc, .int zrh, .int zrc, .ref Mn, .ref Mf, .ref Mr, .ref Mh, .int zhp, .int zcc, .ref Ma, .ref Mas, .ref Msn, .ref Mac, .ref Mat])), (Mt, .inl (g 0, 160, .inl fmt))] sz) := by
  refine Met.ofW (cc := cX7_feed) (maxL := 9) (ret := (some .int)) (by decide) rfl ?_
  intro p e s m args below meth c s₁ B hml hv
  obtain ⟨rfl, hsz, hP, ⟨hK, hN⟩, hD0, hZ⟩ := hv
  have hx := B.exec
  have hb := B.bytes
  have hr := B.returns
  have hts := atoms_spec (ws := wsX7_feed) B.pre
  have hown : s.vm.findClass RX7 = some m.cls := findClass_of_methodNamed B.named
  have hlocks := B.notSynchronized
  clear B
  subst hsz
  have hD := hD0.self (sz := s.heap.size)
  clear hD0
  generalize hAe : va_A [(Mm, .inr (7, [.int zth, .ref Mt, .int (nI tp), .int zma, .int zwr, .ref Mrr, .ref Mrh, .ref Mrc, .int zrh, .int zrc, .ref Mn, .ref Mf, .ref Mr, .ref Mh, .int zhp, .int zcc, .ref Ma, .ref Mas, .ref Msn, .ref Mac, .ref Mat])), (Mt, .inl (g 0, 160, .inl fmt))] s.heap.size = A at hD hZ ⊢
  have hA : ∀ q : Nat, s.heap.size ≤ q → A q := fun q h => by rw [← hAe]; exact Or.inr h
  have hS : va_S A s.heap s.heap [] := va_S.rf
  have f49 := hts (.fieldLink RX7 49 "HopCreditsModel" "thrown" "I") (List.mem_of_getElem? (i := 1) rfl)
  have f57 := hts (.fieldLink RX7 57 "HopCreditsModel" "taped" "I") (List.mem_of_getElem? (i := 2) rfl)
  have f9 := hts (.fieldLink RX7 9 "HopCreditsModel" "tape" "[I") (List.mem_of_getElem? (i := 3) rfl)
  have iX7 : ∀ w ∈ u_ws RX7 TX7 21, w ∈ wsX7_feed := fun w h => List.mem_cons_of_mem _ (List.mem_append_right _ (h))
  have hl := lv_entry ([.ref Mm, .int za, .int zb, .int zc, .int zd, .int ze]) (n := 9) (Nat.le_of_ble_eq_true rfl)
  rw [lg_entry_eq]
  generalize (lg_sl ([.ref Mm, .int za, .int zb, .int zc, .int zd, .int ze]) ++ List.replicate (9 - (lg_sl ([.ref Mm, .int za, .int zb, .int zc, .int zd, .int ze])).length) Slot.unset).toArray = ls at hl ⊢
  have hl : lv_has ls 9 [(0, .ref Mm), (1, .int za), (2, .int zb), (3, .int zc), (4, .int zd), (5, .int ze)] := hl
  generalize hQ : MQ below _ _ s _ _ _ = Q
  generalize hH : s.heap = H at hP ⊢
  have hS : va_S A s.heap H [] := by rw [← hH]; exact hS
  clear hH
  have hf20 := fct_le (byr za zb zc zd ze) 20
  have hf00 : fct (byr za zb zc zd ze) 0 = 0 := rfl
  refine lv_aload_n hx hb dX7_feed_0 rfl (lv_at hl 0 rfl) ?_
  refine lv_iconst (v := 0) hx hb dX7_feed_1 (by decide) ?_
  refine va_put (D := D) (ci := 7) (v := .int 0) (ty := .int) (C := RX7) (T := TX7) (N := 21) hx hb hts iX7 tyX7 tyX7_ok nmX7 hown hK hP hD hS 0 rfl rfl 0 (by decide) f49 (fun _ h9 => h9) rfl (by decide +kernel) (rfl) (rfl) (Nat.le_of_ble_eq_true rfl) dX7_feed_2 (fun H locs hP2 hD2 hS2 => ?_)
  clear hP hD hS
  have hPD : PD D A [(Mm, .inr (7, [.int 0, .ref Mt, .int (nI tp), .int zma, .int zwr, .ref Mrr, .ref Mrh, .ref Mrc, .int zrh, .int zrc, .ref Mn, .ref Mf, .ref Mr, .ref Mh, .int zhp, .int zcc, .ref Ma, .ref Mas, .ref Msn, .ref Mac, .ref Mat])), (Mt, .inl (g 0, 160, .inl fmt))] H := ⟨hP2, hD2⟩
  have hS := hS2; clear hP2 hD2 hS2; have hP := hPD.1; have hD := hPD.2; clear hPD
  refine lv_iconst (v := 0) hx hb dX7_feed_5 (by decide) ?_
  refine lv_istore (lv' := [(6, .int 0), (0, .ref Mm), (1, .int za), (2, .int zb), (3, .int zc), (4, .int zd), (5, .int ze)]) hx hb dX7_feed_6 hl (by decide) rfl (fun ls hl => ?_)
  refine lv_iconst (v := 0) hx hb dX7_feed_8 (by decide) ?_
  refine lv_istore (lv' := [(7, .int 0), (6, .int 0), (0, .ref Mm), (1, .int za), (2, .int zb), (3, .int zc), (4, .int zd), (5, .int ze)]) hx hb dX7_feed_9 hl (by decide) rfl (fun ls hl => ?_)
  have loop_15 : ∀ (Nloop_15 : Nat) (i_5 : Nat) (i_6 : Nat) (hbi_5 : i_5 ≤ 20) (hv_14 : i_6 = fct (byr za zb zc zd ze) i_5) (hmloop_15 : 20 - i_5 < Nloop_15) (H : Heap) (locs : List Loc) (ls : Array Slot), va_P D vwCl [(Mm, .inr (7, [.int 0, .ref Mt, .int (nI tp), .int zma, .int zwr, .ref Mrr, .ref Mrh, .ref Mrc, .int zrh, .int zrc, .ref Mn, .ref Mf, .ref Mr, .ref Mh, .int zhp, .int zcc, .ref Ma, .ref Mas, .ref Msn, .ref Mac, .ref Mat])), (Mt, .inl (g 0, 160, .inl fmt))] H → va_D A [(Mm, .inr (7, [.int 0, .ref Mt, .int (nI tp), .int zma, .int zwr, .ref Mrr, .ref Mrh, .ref Mrc, .int zrh, .int zrc, .ref Mn, .ref Mf, .ref Mr, .ref Mh, .int zhp, .int zcc, .ref Ma, .ref Mas, .ref Msn, .ref Mac, .ref Mat])), (Mt, .inl (g 0, 160, .inl fmt))] → va_S A s.heap H locs → lv_has ls 9 [(7, .int (nI i_5)), (6, .int (nI i_6)), (0, .ref Mm), (1, .int za), (2, .int zb), (3, .int zc), (4, .int zd), (5, .int ze)] → W p l e (headSpec wsX7_feed ({ frames := 1, cells := 0, slots := 0, locals := 26 })).room s m ([.ref Mm, .int za, .int zb, .int zc, .int zd, .int ze] : List Value).toArray below meth c H locs 0 0 Q (F0 m 11 ls []) := by
    clear hP hD hS hl
    intro Nloop_15
    induction Nloop_15 with
    | zero => intro i_5 i_6 hbi_5 hv_14 hm9; exact absurd hm9 (Nat.not_lt_zero _)
    | succ Nloop_15 loop_15_ih =>
      intro i_5 i_6 hbi_5 hv_14 hmloop_15 H locs ls hP hD hS hl
      refine lv_iload hx hb dX7_feed_11 (lv_at hl 0 rfl) ?_
      refine lv_bipush (v := 20) hx hb dX7_feed_13 (by decide) ?_
      refine lv_icmp_ge (tgt := 49) hx hb dX7_feed_15 (by decide) (fun cb_16 => ?_) (fun cb_16 => ?_)
      · skip
        have cn_17 : 20 ≤ i_5 := (nI_leI (show 20 < 2 ^ 31 by omega) (show i_5 < 2 ^ 31 by omega)).mp cb_16
        have hle_cn_17 := fct_le (byr za zb zc zd ze) i_5
        have heq_cn_17 : fct (byr za zb zc zd ze) i_5 = fct (byr za zb zc zd ze) 20 := by rw [show i_5 = 20 by omega]
        refine lv_aload_n hx hb dX7_feed_49 rfl (lv_at hl 2 rfl) ?_
        refine va_get (D := D) (ci := 7) (v := .int (nI tp)) (C := RX7) (T := TX7) (N := 21) hx hb hts iX7 hown hK hP 0 rfl rfl 2 (by decide) f57 (fun _ h9 => h9) rfl dX7_feed_50 ?_
        refine lv_iload hx hb dX7_feed_53 (lv_at hl 1 rfl) ?_
        refine lv_iadd hx hb dX7_feed_55 ?_
        refine lv_eqi (y := (nI (tp + i_6))) (nI_add (tp) (i_6)) ?_
        refine lv_sipush (v := 160) hx hb dX7_feed_56 (by decide) ?_
        refine lv_icmp_le (tgt := 64) hx hb dX7_feed_59 (by decide) (fun cb_18 => ?_) (fun cb_18 => ?_)
        · skip
          have cn_19 : tp + i_6 ≤ 160 := (nI_leI (show tp + i_6 < 2 ^ 31 by omega) (show 160 < 2 ^ 31 by omega)).mp cb_18
          refine lv_iconst (v := 0) hx hb dX7_feed_64 (by decide) ?_
          refine lv_istore (lv' := [(7, .int 0), (6, .int (nI i_6)), (0, .ref Mm), (1, .int za), (2, .int zb), (3, .int zc), (4, .int zd), (5, .int ze)]) hx hb dX7_feed_65 hl (by decide) rfl (fun ls hl => ?_)
          have loop_36 : ∀ (Nloop_36 : Nat) (i_24 : Nat) (z_25 : Nat) (F_26 : Nat → Int32) (hbi_24 : i_24 ≤ 20) (hv_34 : z_25 = tp + fct (byr za zb zc zd ze) i_24) (hv_35 : (z_25, F_26) = pbs (byr za zb zc zd ze) (tp, fmt) i_24) (hmloop_36 : 20 - i_24 < Nloop_36) (H : Heap) (locs : List Loc) (ls : Array Slot), va_P D vwCl [(Mm, .inr (7, [.int 0, .ref Mt, .int (nI z_25), .int zma, .int zwr, .ref Mrr, .ref Mrh, .ref Mrc, .int zrh, .int zrc, .ref Mn, .ref Mf, .ref Mr, .ref Mh, .int zhp, .int zcc, .ref Ma, .ref Mas, .ref Msn, .ref Mac, .ref Mat])), (Mt, .inl (g 0, 160, .inl F_26))] H → va_D A [(Mm, .inr (7, [.int 0, .ref Mt, .int (nI z_25), .int zma, .int zwr, .ref Mrr, .ref Mrh, .ref Mrc, .int zrh, .int zrc, .ref Mn, .ref Mf, .ref Mr, .ref Mh, .int zhp, .int zcc, .ref Ma, .ref Mas, .ref Msn, .ref Mac, .ref Mat])), (Mt, .inl (g 0, 160, .inl F_26))] → va_S A s.heap H locs → lv_has ls 9 [(7, .int (nI i_24)), (0, .ref Mm), (1, .int za), (2, .int zb), (3, .int zc), (4, .int zd), (5, .int ze)] → W p l e (headSpec wsX7_feed ({ frames := 1, cells := 0, slots := 0, locals := 26 })).room s m ([.ref Mm, .int za, .int zb, .int zc, .int zd, .int ze] : List Value).toArray below meth c H locs 0 0 Q (F0 m 67 ls []) := by
            clear hP hD hS hl
            intro Nloop_36
            induction Nloop_36 with
            | zero => intro i_24 z_25 F_26 hbi_24 hv_34 hv_35 hm9; exact absurd hm9 (Nat.not_lt_zero _)
            | succ Nloop_36 loop_36_ih =>
              intro i_24 z_25 F_26 hbi_24 hv_34 hv_35 hmloop_36 H locs ls hP hD hS hl
              refine lv_iload hx hb dX7_feed_67 (lv_at hl 0 rfl) ?_
              refine lv_bipush (v := 20) hx hb dX7_feed_69 (by decide) ?_
              refine lv_icmp_ge (tgt := 120) hx hb dX7_feed_71 (by decide) (fun cb_37 => ?_) (fun cb_37 => ?_)
              · skip
                have cn_38 : 20 ≤ i_24 := (nI_leI (show 20 < 2 ^ 31 by omega) (show i_24 < 2 ^ 31 by omega)).mp cb_37
                have hle_cn_38 := fct_le (byr za zb zc zd ze) i_24
                have heq_cn_38 : fct (byr za zb zc zd ze) i_24 = fct (byr za zb zc zd ze) 20 := by rw [show i_24 = 20 by omega]
                refine lv_aload_n hx hb dX7_feed_120 rfl (lv_at hl 1 rfl) ?_
                refine va_get (D := D) (ci := 7) (v := .int (nI z_25)) (C := RX7) (T := TX7) (N := 21) hx hb hts iX7 hown hK hP 0 rfl rfl 2 (by decide) f57 (fun _ h9 => h9) rfl dX7_feed_121 ?_
                have hP9 := hP; have hD9 := hD
                subst hQ
                refine W.widen (k := 0) (n := 0) (Nat.le_of_ble_eq_true rfl) (Nat.le_of_ble_eq_true rfl) ?_
                exact W.iret (v := (nI z_25)) hx hb hr (fun tS htS _ => ⟨⟨_, _, rfl, ⟨0, z_25, F_26, (nI z_25), rfl, rfl, (show z_25 ≤ 160 by omega), fd_yes (by omega) (hv_35.trans (congrArg _ (show i_24 = 20 by omega)))⟩, by rw [htS]; exact hP9, hD9⟩, hS.F htS⟩) hS.2.2 dX7_feed_124
              · skip
                have cn_39 : i_24 < 20 := Nat.lt_of_not_le (fun q9 => cb_37 ((nI_leI (show 20 < 2 ^ 31 by omega) (show i_24 < 2 ^ 31 by omega)).mpr q9))
                refine lv_iload_n hx hb dX7_feed_74 rfl (lv_at hl 2 rfl) ?_
                refine lv_iload_n hx hb dX7_feed_75 rfl (lv_at hl 3 rfl) ?_
                refine lv_iload_n hx hb dX7_feed_76 rfl (lv_at hl 4 rfl) ?_
                refine lv_iload hx hb dX7_feed_77 (lv_at hl 5 rfl) ?_
                refine lv_iload hx hb dX7_feed_79 (lv_at hl 6 rfl) ?_
                refine lv_iload hx hb dX7_feed_81 (lv_at hl 0 rfl) ?_
                refine ky_Si (As := [.int za, .int zb, .int zc, .int zd, .int ze, .int (nI i_24)]) (rest := []) ⟨hx, hb, hml, hown, hts⟩ ⟨hK, hN⟩ hZ hP hD hS hA [] [0, 1] (wc := []) (wr := [(Mm, .inr (7, [.int 0, .ref Mt, .int (nI z_25), .int zma, .int zwr, .ref Mrr, .ref Mrh, .ref Mrc, .int zrh, .int zrc, .ref Mn, .ref Mf, .ref Mr, .ref Mh, .int zhp, .int zcc, .ref Ma, .ref Mas, .ref Msn, .ref Mac, .ref Mat])), (Mt, .inl (g 0, 160, .inl F_26))]) rfl rfl rfl rfl (by decide) (c_X7_byteOf l D g H.size za zb zc zd ze i_24 (show i_24 < 20 by omega)) (va_cwS 6 hts gX7_feed_X7_byteOf rfl rfl rfl (by decide +kernel) ⟨(Nat.le_of_ble_eq_true rfl), (Nat.le_of_ble_eq_true rfl)⟩) rfl hl.1 rfl (Nat.le_of_ble_eq_true rfl) dX7_feed_83 ⟨(Nat.le_of_ble_eq_true rfl), (Nat.le_of_ble_eq_true rfl)⟩ (fun r_40 u H locs hw hP2 hD2 hS2 => ?_)
                clear hP hD hS
                obtain ⟨rfl, rfl⟩ := hw
                have hPD : PD D A [(Mm, .inr (7, [.int 0, .ref Mt, .int (nI z_25), .int zma, .int zwr, .ref Mrr, .ref Mrh, .ref Mrc, .int zrh, .int zrc, .ref Mn, .ref Mf, .ref Mr, .ref Mh, .int zhp, .int zcc, .ref Ma, .ref Mas, .ref Msn, .ref Mac, .ref Mat])), (Mt, .inl (g 0, 160, .inl F_26))] H := ⟨hP2, hD2⟩
                have hS := hS2; clear hP2 hD2 hS2; have hP := hPD.1; have hD := hPD.2; clear hPD
                refine W.widen (k := 0) (n := 0) (Nat.le_of_ble_eq_true rfl) (Nat.le_of_ble_eq_true rfl) ?_
                refine lv_istore (lv' := [(8, .int (byr za zb zc zd ze i_24)), (7, .int (nI i_24)), (0, .ref Mm), (1, .int za), (2, .int zb), (3, .int zc), (4, .int zd), (5, .int ze)]) hx hb dX7_feed_86 hl (by decide) rfl (fun ls hl => ?_)
                refine lv_iload hx hb dX7_feed_88 (lv_at hl 0 rfl) ?_
                refine lv_if_eq (tgt := 114) hx hb dX7_feed_90 (by decide) (fun cb_41 => ?_) (fun cb_41 => ?_)
                · skip
                  have hct_42 := fct_0 (f := (byr za zb zc zd ze)) (k := i_24) cb_41
                  refine lv_iinc (v := (nI (i_24 + 1))) (lv' := [(7, .int (nI (i_24 + 1))), (8, .int (byr za zb zc zd ze i_24)), (0, .ref Mm), (1, .int za), (2, .int zb), (3, .int zc), (4, .int zd), (5, .int ze)]) hx hb dX7_feed_114 hl (k := 1) rfl (nI_1 (i_24)) (by decide) rfl (fun ls hl => ?_)
                  refine lv_goto (tgt := 67) hx hb dX7_feed_117 (by decide) ?_
                  exact loop_36_ih (i_24 + 1) z_25 F_26 (show (i_24 + 1) ≤ 20 by omega) (show z_25 = tp + fct (byr za zb zc zd ze) (i_24 + 1) by omega) (pb_0 hv_35 cb_41) (show 20 - (i_24 + 1) < Nloop_36 by omega) _ _ _ hP hD hS (lv_sub hl [0, 2, 3, 4, 5, 6, 7] rfl)
                · skip
                  have hct_43 := fct_1 (f := (byr za zb zc zd ze)) (k := i_24) cb_41
                  have hct_43m := fct_mono (byr za zb zc zd ze) (show i_24 + 1 ≤ 20 by omega)
                  refine lv_aload_n hx hb dX7_feed_93 rfl (lv_at hl 2 rfl) ?_
                  refine va_get (D := D) (ci := 7) (v := .ref Mt) (C := RX7) (T := TX7) (N := 21) hx hb hts iX7 hown hK hP 0 rfl rfl 1 (by decide) f9 (fun _ h9 => h9) rfl dX7_feed_94 ?_
                  refine lv_aload_n hx hb dX7_feed_97 rfl (lv_at hl 2 rfl) ?_
                  refine va_get (D := D) (ci := 7) (v := .int (nI z_25)) (C := RX7) (T := TX7) (N := 21) hx hb hts iX7 hown hK hP 0 rfl rfl 2 (by decide) f57 (fun _ h9 => h9) rfl dX7_feed_98 ?_
                  refine lv_iload hx hb dX7_feed_101 (lv_at hl 0 rfl) ?_
                  refine va_iast hx hb hK hP hD hS 1 0 rfl rfl (vp_in_nI (show z_25 < 160 by omega) (by decide)) dX7_feed_103 (fun H locs hP2 hD2 hS2 => ?_)
                  clear hP hD hS
                  have hPD : PD D A [(Mm, .inr (7, [.int 0, .ref Mt, .int (nI z_25), .int zma, .int zwr, .ref Mrr, .ref Mrh, .ref Mrc, .int zrh, .int zrc, .ref Mn, .ref Mf, .ref Mr, .ref Mh, .int zhp, .int zcc, .ref Ma, .ref Mas, .ref Msn, .ref Mac, .ref Mat])), (Mt, .inl (g 0, 160, .inl (upd F_26 (nI z_25).toNatClampNeg (byr za zb zc zd ze i_24))))] H := ⟨hP2, hD2⟩
                  have hS := hS2; clear hP2 hD2 hS2; have hP := hPD.1; have hD := hPD.2; clear hPD
                  rw [nI_clamp (show z_25 < 2 ^ 31 by omega)] at hP hD
                  have hPD : PD D A [(Mm, .inr (7, [.int 0, .ref Mt, .int (nI z_25), .int zma, .int zwr, .ref Mrr, .ref Mrh, .ref Mrc, .int zrh, .int zrc, .ref Mn, .ref Mf, .ref Mr, .ref Mh, .int zhp, .int zcc, .ref Ma, .ref Mas, .ref Msn, .ref Mac, .ref Mat])), (Mt, .inl (g 0, 160, .inl (upd F_26 (z_25) (byr za zb zc zd ze i_24))))] H := ⟨hP, hD⟩
                  clear hP hD; have hP := hPD.1; have hD := hPD.2; clear hPD
                  refine lv_aload_n hx hb dX7_feed_104 rfl (lv_at hl 2 rfl) ?_
                  refine lv_dup hx hb dX7_feed_105 rfl ?_
                  refine va_get (D := D) (ci := 7) (v := .int (nI z_25)) (C := RX7) (T := TX7) (N := 21) hx hb hts iX7 hown hK hP 0 rfl rfl 2 (by decide) f57 (fun _ h9 => h9) rfl dX7_feed_106 ?_
                  refine lv_iconst (v := 1) hx hb dX7_feed_109 (by decide) ?_
                  refine lv_iadd hx hb dX7_feed_110 ?_
                  refine lv_eqi (y := (nI (z_25 + 1))) (nI_add (z_25) (1)) ?_
                  refine va_put (D := D) (ci := 7) (v := .int (nI (z_25 + 1))) (ty := .int) (C := RX7) (T := TX7) (N := 21) hx hb hts iX7 tyX7 tyX7_ok nmX7 hown hK hP hD hS 0 rfl rfl 2 (by decide) f57 (fun _ h9 => h9) rfl (by decide +kernel) (rfl) (rfl) (Nat.le_of_ble_eq_true rfl) dX7_feed_111 (fun H locs hP2 hD2 hS2 => ?_)
                  clear hP hD hS
                  have hPD : PD D A [(Mm, .inr (7, [.int 0, .ref Mt, .int (nI (z_25 + 1)), .int zma, .int zwr, .ref Mrr, .ref Mrh, .ref Mrc, .int zrh, .int zrc, .ref Mn, .ref Mf, .ref Mr, .ref Mh, .int zhp, .int zcc, .ref Ma, .ref Mas, .ref Msn, .ref Mac, .ref Mat])), (Mt, .inl (g 0, 160, .inl (upd F_26 (z_25) (byr za zb zc zd ze i_24))))] H := ⟨hP2, hD2⟩
                  have hS := hS2; clear hP2 hD2 hS2; have hP := hPD.1; have hD := hPD.2; clear hPD
                  refine lv_iinc (v := (nI (i_24 + 1))) (lv' := [(7, .int (nI (i_24 + 1))), (8, .int (byr za zb zc zd ze i_24)), (0, .ref Mm), (1, .int za), (2, .int zb), (3, .int zc), (4, .int zd), (5, .int ze)]) hx hb dX7_feed_114 hl (k := 1) rfl (nI_1 (i_24)) (by decide) rfl (fun ls hl => ?_)
                  refine lv_goto (tgt := 67) hx hb dX7_feed_117 (by decide) ?_
                  exact loop_36_ih (i_24 + 1) (z_25 + 1) (upd F_26 (z_25) (byr za zb zc zd ze i_24)) (show (i_24 + 1) ≤ 20 by omega) (show (z_25 + 1) = tp + fct (byr za zb zc zd ze) (i_24 + 1) by omega) (pb_1 hv_35 cb_41 (by omega)) (show 20 - (i_24 + 1) < Nloop_36 by omega) _ _ _ hP hD hS (lv_sub hl [0, 2, 3, 4, 5, 6, 7] rfl)
          exact loop_36 _ 0 tp fmt (show 0 ≤ 20 by omega) (show tp = tp + fct (byr za zb zc zd ze) 0 by omega) (rfl) (Nat.lt_succ_self _) _ _ _ hP hD hS (lv_sub hl [0, 2, 3, 4, 5, 6, 7] rfl)
        · skip
          have cn_44 : 160 < tp + i_6 := Nat.lt_of_not_le (fun q9 => cb_18 ((nI_leI (show tp + i_6 < 2 ^ 31 by omega) (show 160 < 2 ^ 31 by omega)).mpr q9))
          refine lv_iconst (v := (-1)) hx hb dX7_feed_62 (by decide) ?_
          have hP9 := hP; have hD9 := hD
          subst hQ
          refine W.widen (k := 0) (n := 0) (Nat.le_of_ble_eq_true rfl) (Nat.le_of_ble_eq_true rfl) ?_
          exact W.iret (v := (-1)) hx hb hr (fun tS htS _ => ⟨⟨_, _, rfl, ⟨0, tp, fmt, (-1), rfl, rfl, (show tp ≤ 160 by omega), fd_no (by omega)⟩, by rw [htS]; exact hP9, hD9⟩, hS.F htS⟩) hS.2.2 dX7_feed_63
      · skip
        have cn_45 : i_5 < 20 := Nat.lt_of_not_le (fun q9 => cb_16 ((nI_leI (show 20 < 2 ^ 31 by omega) (show i_5 < 2 ^ 31 by omega)).mpr q9))
        refine lv_iload hx hb dX7_feed_18 (lv_at hl 1 rfl) ?_
        refine lv_iload_n hx hb dX7_feed_20 rfl (lv_at hl 3 rfl) ?_
        refine lv_iload_n hx hb dX7_feed_21 rfl (lv_at hl 4 rfl) ?_
        refine lv_iload_n hx hb dX7_feed_22 rfl (lv_at hl 5 rfl) ?_
        refine lv_iload hx hb dX7_feed_23 (lv_at hl 6 rfl) ?_
        refine lv_iload hx hb dX7_feed_25 (lv_at hl 7 rfl) ?_
        refine lv_iload hx hb dX7_feed_27 (lv_at hl 0 rfl) ?_
        refine ky_Si (As := [.int za, .int zb, .int zc, .int zd, .int ze, .int (nI i_5)]) (rest := [.int (nI i_6)]) ⟨hx, hb, hml, hown, hts⟩ ⟨hK, hN⟩ hZ hP hD hS hA [] [0, 1] (wc := []) (wr := [(Mm, .inr (7, [.int 0, .ref Mt, .int (nI tp), .int zma, .int zwr, .ref Mrr, .ref Mrh, .ref Mrc, .int zrh, .int zrc, .ref Mn, .ref Mf, .ref Mr, .ref Mh, .int zhp, .int zcc, .ref Ma, .ref Mas, .ref Msn, .ref Mac, .ref Mat])), (Mt, .inl (g 0, 160, .inl fmt))]) rfl rfl rfl rfl (by decide) (c_X7_byteOf l D g H.size za zb zc zd ze i_5 (show i_5 < 20 by omega)) (va_cwS 6 hts gX7_feed_X7_byteOf rfl rfl rfl (by decide +kernel) ⟨(Nat.le_of_ble_eq_true rfl), (Nat.le_of_ble_eq_true rfl)⟩) rfl hl.1 rfl (Nat.le_of_ble_eq_true rfl) dX7_feed_29 ⟨(Nat.le_of_ble_eq_true rfl), (Nat.le_of_ble_eq_true rfl)⟩ (fun r_46 u H locs hw hP2 hD2 hS2 => ?_)
        clear hP hD hS
        obtain ⟨rfl, rfl⟩ := hw
        have hPD : PD D A [(Mm, .inr (7, [.int 0, .ref Mt, .int (nI tp), .int zma, .int zwr, .ref Mrr, .ref Mrh, .ref Mrc, .int zrh, .int zrc, .ref Mn, .ref Mf, .ref Mr, .ref Mh, .int zhp, .int zcc, .ref Ma, .ref Mas, .ref Msn, .ref Mac, .ref Mat])), (Mt, .inl (g 0, 160, .inl fmt))] H := ⟨hP2, hD2⟩
        have hS := hS2; clear hP2 hD2 hS2; have hP := hPD.1; have hD := hPD.2; clear hPD
        refine W.widen (k := 0) (n := 0) (Nat.le_of_ble_eq_true rfl) (Nat.le_of_ble_eq_true rfl) ?_
        refine lv_if_eq (tgt := 39) hx hb dX7_feed_32 (by decide) (fun cb_47 => ?_) (fun cb_47 => ?_)
        · skip
          have hct_48 := fct_0 (f := (byr za zb zc zd ze)) (k := i_5) cb_47
          refine lv_iconst (v := 0) hx hb dX7_feed_39 (by decide) ?_
          refine lv_iadd hx hb dX7_feed_40 ?_
          refine lv_eqi (y := (nI (i_6 + 0))) (nI_add (i_6) (0)) ?_
          refine lv_istore (lv' := [(6, .int (nI (i_6 + 0))), (7, .int (nI i_5)), (0, .ref Mm), (1, .int za), (2, .int zb), (3, .int zc), (4, .int zd), (5, .int ze)]) hx hb dX7_feed_41 hl (by decide) rfl (fun ls hl => ?_)
          refine lv_iinc (v := (nI (i_5 + 1))) (lv' := [(7, .int (nI (i_5 + 1))), (6, .int (nI (i_6 + 0))), (0, .ref Mm), (1, .int za), (2, .int zb), (3, .int zc), (4, .int zd), (5, .int ze)]) hx hb dX7_feed_43 hl (k := 1) rfl (nI_1 (i_5)) (by decide) rfl (fun ls hl => ?_)
          refine lv_goto (tgt := 11) hx hb dX7_feed_46 (by decide) ?_
          exact loop_15_ih (i_5 + 1) (i_6 + 0) (show (i_5 + 1) ≤ 20 by omega) (show (i_6 + 0) = fct (byr za zb zc zd ze) (i_5 + 1) by omega) (show 20 - (i_5 + 1) < Nloop_15 by omega) _ _ _ hP hD hS hl
        · skip
          have hct_49 := fct_1 (f := (byr za zb zc zd ze)) (k := i_5) cb_47
          have hct_49m := fct_mono (byr za zb zc zd ze) (show i_5 + 1 ≤ 20 by omega)
          refine lv_iconst (v := 1) hx hb dX7_feed_35 (by decide) ?_
          refine lv_goto (tgt := 40) hx hb dX7_feed_36 (by decide) ?_
          refine lv_iadd hx hb dX7_feed_40 ?_
          refine lv_eqi (y := (nI (i_6 + 1))) (nI_add (i_6) (1)) ?_
          refine lv_istore (lv' := [(6, .int (nI (i_6 + 1))), (7, .int (nI i_5)), (0, .ref Mm), (1, .int za), (2, .int zb), (3, .int zc), (4, .int zd), (5, .int ze)]) hx hb dX7_feed_41 hl (by decide) rfl (fun ls hl => ?_)
          refine lv_iinc (v := (nI (i_5 + 1))) (lv' := [(7, .int (nI (i_5 + 1))), (6, .int (nI (i_6 + 1))), (0, .ref Mm), (1, .int za), (2, .int zb), (3, .int zc), (4, .int zd), (5, .int ze)]) hx hb dX7_feed_43 hl (k := 1) rfl (nI_1 (i_5)) (by decide) rfl (fun ls hl => ?_)
          refine lv_goto (tgt := 11) hx hb dX7_feed_46 (by decide) ?_
          exact loop_15_ih (i_5 + 1) (i_6 + 1) (show (i_5 + 1) ≤ 20 by omega) (show (i_6 + 1) = fct (byr za zb zc zd ze) (i_5 + 1) by omega) (show 20 - (i_5 + 1) < Nloop_15 by omega) _ _ _ hP hD hS hl
  exact loop_15 _ 0 0 (show 0 ≤ 20 by omega) (show 0 = fct (byr za zb zc zd ze) 0 by omega) (Nat.lt_succ_self _) _ _ _ hP hD hS hl

set_option maxHeartbeats 4000000 in
set_option maxRecDepth 100000 in
theorem r_X7_end (l : Launch) (D : va_G) (g : Nat → ClassId) (sz : Nat) (Mm : Nat) (zn : Int32) (zth : Int32) (Mt : Nat) (tp : Nat) (zma : Int32) (zwr : Int32) (Mrr : Nat) (Mrh : Nat) (Mrc : Nat) (zrh : Int32) (zrc : Int32) (Mn : Nat) (Mf : Nat) (Mr : Nat) (Mh : Nat) (hp : Nat) (cc : Nat) (Ma : Nat) (Mas : Nat) (Msn : Nat) (Mac : Nat) (Mat : Nat) (h0 : tp ≤ 160) : Met l yX7_end wsX7_end ({ frames := 1, cells := 0, slots := 0, locals := 22 }) (va_Pc [.ref Mm, .int zn] (pre D g sz [(Mm, .inr (7, [.int zth, .ref Mt, .int (nI tp), .int zma, .int zwr, .ref Mrr, .ref Mrh, .ref Mrc, .int zrh, .int zrc, .ref Mn, .ref Mf, .ref Mr, .ref Mh, .int (nI hp), .int (nI cc), .ref Ma, .ref Mas, .ref Msn, .ref Mac, .ref Mat]))])) (va_Qi (fun (r : Int32) (u : va_W) => ∃ (zthx : Int32) (tpx : Nat) (zr : Int32), u = [(Mm, .inr (7, [.int zthx, .ref Mt, .int (nI tpx), .int zma, .int zwr, .ref Mrr, .ref Mrh, .ref Mrc, .int zrh, .int zrc, .ref Mn, .ref Mf, .ref Mr, .ref Mh, .int (nI hp), .int (nI cc), .ref Ma, .ref Mas, .ref Msn, .ref Mac, .ref Mat]))] ∧ r = zr ∧ (tpx ≤ 160) ∧ ((zr, tpx) = edQ tp zn)) (wd D (va_A [(Mm, .inr (7, [.int zth, .ref Mt, .int (nI tp), .int zma, .int zwr, .ref Mrr, .ref Mrh, .ref Mrc, .int zrh, .int zrc, .ref Mn, .ref Mf, .ref Mr, .ref Mh, .int (nI hp), .int (nI cc), .ref Ma, .ref Mas, .ref Msn, .ref Mac, .ref Mat]))] sz)) (va_A [(Mm, .inr (7, [.int zth, .ref Mt, .int (nI tp), .int zma, .int zwr, .ref Mrr, .ref Mrh, .ref Mrc, .int zrh, .int zrc, .ref Mn, .ref Mf, .ref Mr, .ref Mh, .int (nI hp), .int (nI cc), .ref Ma, .ref Mas, .ref Msn, .ref Mac, .ref Mat]))] sz)) 0 0 (va_A [(Mm, .inr (7, [.int zth, .ref Mt, .int (nI tp), .int zma, .int zwr, .ref Mrr, .ref Mrh, .ref Mrc, .int zrh, .int zrc, .ref Mn, .ref Mf, .ref Mr, .ref Mh, .int (nI hp), .int (nI cc), .ref Ma, .ref Mas, .ref Msn, .ref Mac, .ref Mat]))] sz) := by
  refine Met.ofW (cc := cX7_end) (maxL := 2) (ret := (some .boolean)) (by decide) rfl ?_
  intro p e s m args below meth c s₁ B hml hv
  obtain ⟨rfl, hsz, hP, ⟨hK, hN⟩, hD0, hZ⟩ := hv
  have hx := B.exec
  have hb := B.bytes
  have hr := B.returns
  have hts := atoms_spec (ws := wsX7_end) B.pre
  have hown : s.vm.findClass RX7 = some m.cls := findClass_of_methodNamed B.named
  have hlocks := B.notSynchronized
  clear B
  subst hsz
  have hD := hD0.self (sz := s.heap.size)
  clear hD0
  generalize hAe : va_A [(Mm, .inr (7, [.int zth, .ref Mt, .int (nI tp), .int zma, .int zwr, .ref Mrr, .ref Mrh, .ref Mrc, .int zrh, .int zrc, .ref Mn, .ref Mf, .ref Mr, .ref Mh, .int (nI hp), .int (nI cc), .ref Ma, .ref Mas, .ref Msn, .ref Mac, .ref Mat]))] s.heap.size = A at hD hZ ⊢
  have hA : ∀ q : Nat, s.heap.size ≤ q → A q := fun q h => by rw [← hAe]; exact Or.inr h
  have hS : va_S A s.heap s.heap [] := va_S.rf
  have f49 := hts (.fieldLink RX7 49 "HopCreditsModel" "thrown" "I") (List.mem_of_getElem? (i := 1) rfl)
  have f57 := hts (.fieldLink RX7 57 "HopCreditsModel" "taped" "I") (List.mem_of_getElem? (i := 2) rfl)
  have iX7 : ∀ w ∈ u_ws RX7 TX7 21, w ∈ wsX7_end := fun w h => List.mem_cons_of_mem _ (List.mem_append_right _ (h))
  have hl := lv_entry ([.ref Mm, .int zn]) (n := 2) (Nat.le_of_ble_eq_true rfl)
  rw [lg_entry_eq]
  generalize (lg_sl ([.ref Mm, .int zn]) ++ List.replicate (2 - (lg_sl ([.ref Mm, .int zn])).length) Slot.unset).toArray = ls at hl ⊢
  have hl : lv_has ls 2 [(0, .ref Mm), (1, .int zn)] := hl
  generalize hQ : MQ below _ _ s _ _ _ = Q
  generalize hH : s.heap = H at hP ⊢
  have hS : va_S A s.heap H [] := by rw [← hH]; exact hS
  clear hH
  refine lv_aload_n hx hb dX7_end_0 rfl (lv_at hl 0 rfl) ?_
  refine lv_iconst (v := 0) hx hb dX7_end_1 (by decide) ?_
  refine va_put (D := D) (ci := 7) (v := .int 0) (ty := .int) (C := RX7) (T := TX7) (N := 21) hx hb hts iX7 tyX7 tyX7_ok nmX7 hown hK hP hD hS 0 rfl rfl 0 (by decide) f49 (fun _ h9 => h9) rfl (by decide +kernel) (rfl) (rfl) (Nat.le_of_ble_eq_true rfl) dX7_end_2 (fun H locs hP2 hD2 hS2 => ?_)
  clear hP hD hS
  have hPD : PD D A [(Mm, .inr (7, [.int 0, .ref Mt, .int (nI tp), .int zma, .int zwr, .ref Mrr, .ref Mrh, .ref Mrc, .int zrh, .int zrc, .ref Mn, .ref Mf, .ref Mr, .ref Mh, .int (nI hp), .int (nI cc), .ref Ma, .ref Mas, .ref Msn, .ref Mac, .ref Mat]))] H := ⟨hP2, hD2⟩
  have hS := hS2; clear hP2 hD2 hS2; have hP := hPD.1; have hD := hPD.2; clear hPD
  refine lv_iload_n hx hb dX7_end_5 rfl (lv_at hl 1 rfl) ?_
  refine lv_iconst (v := 0) hx hb dX7_end_6 (by decide) ?_
  refine lv_aload_n hx hb dX7_end_7 rfl (lv_at hl 0 rfl) ?_
  refine va_get (D := D) (ci := 7) (v := .int (nI tp)) (C := RX7) (T := TX7) (N := 21) hx hb hts iX7 hown hK hP 0 rfl rfl 2 (by decide) f57 (fun _ h9 => h9) rfl dX7_end_8 ?_
  refine ky_Si (As := [.int zn, .int 0, .int (nI tp)]) (rest := []) ⟨hx, hb, hml, hown, hts⟩ ⟨hK, hN⟩ hZ hP hD hS hA [] [0] (wc := []) (wr := [(Mm, .inr (7, [.int 0, .ref Mt, .int (nI tp), .int zma, .int zwr, .ref Mrr, .ref Mrh, .ref Mrc, .int zrh, .int zrc, .ref Mn, .ref Mf, .ref Mr, .ref Mh, .int (nI hp), .int (nI cc), .ref Ma, .ref Mas, .ref Msn, .ref Mac, .ref Mat]))]) rfl rfl rfl rfl (by decide) (k_X7_in l D g H.size zn 0 (nI tp)) (va_cwS 3 hts gX7_end_X7_in rfl rfl rfl (by decide +kernel) ⟨(Nat.le_of_ble_eq_true rfl), (Nat.le_of_ble_eq_true rfl)⟩) rfl hl.1 rfl (Nat.le_of_ble_eq_true rfl) dX7_end_11 ⟨(Nat.le_of_ble_eq_true rfl), (Nat.le_of_ble_eq_true rfl)⟩ (fun r_1 u H locs hw hP2 hD2 hS2 => ?_)
  clear hP hD hS
  obtain ⟨rfl, rfl⟩ := hw
  have hPD : PD D A [(Mm, .inr (7, [.int 0, .ref Mt, .int (nI tp), .int zma, .int zwr, .ref Mrr, .ref Mrh, .ref Mrc, .int zrh, .int zrc, .ref Mn, .ref Mf, .ref Mr, .ref Mh, .int (nI hp), .int (nI cc), .ref Ma, .ref Mas, .ref Msn, .ref Mac, .ref Mat]))] H := ⟨hP2, hD2⟩
  have hS := hS2; clear hP2 hD2 hS2; have hP := hPD.1; have hD := hPD.2; clear hPD
  refine W.widen (k := 0) (n := 0) (Nat.le_of_ble_eq_true rfl) (Nat.le_of_ble_eq_true rfl) ?_
  refine lv_if_ne (tgt := 19) hx hb dX7_end_14 (by decide) (fun cb_2 => ?_) (fun cb_2 => ?_)
  · skip
    have hq_3 : 0 ≤ zn ∧ zn ≤ (nI tp) := b01_1.mp cb_2
    have hPq_7 := hP; have hDq_7 := hD; have hSq_7 := hS; have hlq_7 := hl; clear hP hD hS hl
    obtain ⟨j_4, hl_5, hu_6, rfl⟩ := rg (L := 0) (U := tp) rfl rfl (show 0 < 2 ^ 31 by omega) (show tp < 2 ^ 31 by omega) hq_3
    have hP := hPq_7; have hD := hDq_7; have hS := hSq_7; have hl := hlq_7; clear hPq_7 hDq_7 hSq_7 hlq_7
    refine lv_aload_n hx hb dX7_end_19 rfl (lv_at hl 0 rfl) ?_
    refine lv_iload_n hx hb dX7_end_20 rfl (lv_at hl 1 rfl) ?_
    refine va_put (D := D) (ci := 7) (v := .int (nI j_4)) (ty := .int) (C := RX7) (T := TX7) (N := 21) hx hb hts iX7 tyX7 tyX7_ok nmX7 hown hK hP hD hS 0 rfl rfl 2 (by decide) f57 (fun _ h9 => h9) rfl (by decide +kernel) (rfl) (rfl) (Nat.le_of_ble_eq_true rfl) dX7_end_21 (fun H locs hP2 hD2 hS2 => ?_)
    clear hP hD hS
    have hPD : PD D A [(Mm, .inr (7, [.int 0, .ref Mt, .int (nI j_4), .int zma, .int zwr, .ref Mrr, .ref Mrh, .ref Mrc, .int zrh, .int zrc, .ref Mn, .ref Mf, .ref Mr, .ref Mh, .int (nI hp), .int (nI cc), .ref Ma, .ref Mas, .ref Msn, .ref Mac, .ref Mat]))] H := ⟨hP2, hD2⟩
    have hS := hS2; clear hP2 hD2 hS2; have hP := hPD.1; have hD := hPD.2; clear hPD
    refine lv_iconst (v := 1) hx hb dX7_end_24 (by decide) ?_
    have hP9 := hP; have hD9 := hD
    subst hQ
    refine W.widen (k := 0) (n := 0) (Nat.le_of_ble_eq_true rfl) (Nat.le_of_ble_eq_true rfl) ?_
    exact W.zret (v := 1) (ty := .boolean) hx hb hr (rfl) (fun tS htS _ => ⟨⟨_, _, rfl, ⟨0, j_4, 1, rfl, rfl, (show j_4 ≤ 160 by omega), ed_yes (by omega) (by omega)⟩, by rw [htS]; exact hP9, hD9⟩, hS.F htS⟩) hS.2.2 dX7_end_25
  · skip
    have hq_8 : ¬ (0 ≤ zn ∧ zn ≤ (nI tp)) := b01_0.mp cb_2
    refine lv_iconst (v := 0) hx hb dX7_end_17 (by decide) ?_
    have hP9 := hP; have hD9 := hD
    subst hQ
    refine W.widen (k := 0) (n := 0) (Nat.le_of_ble_eq_true rfl) (Nat.le_of_ble_eq_true rfl) ?_
    exact W.zret (v := 0) (ty := .boolean) hx hb hr (rfl) (fun tS htS _ => ⟨⟨_, _, rfl, ⟨0, tp, 0, rfl, rfl, (show tp ≤ 160 by omega), ed_no (b01_0.mp cb_2)⟩, by rw [htS]; exact hP9, hD9⟩, hS.F htS⟩) hS.2.2 dX7_end_18
