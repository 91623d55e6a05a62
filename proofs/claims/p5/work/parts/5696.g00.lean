set_option maxHeartbeats 4000000 in
set_option maxRecDepth 100000 in
theorem r_X7_feed (l : Launch) (D : va_G) (g : Nat → ClassId) (sz : Nat) (Mm : Nat) (za : Int32) (zb : Int32) (zc : Int32) (zd : Int32) (ze : Int32) (zth : Int32) (Mt : Nat) (tp : Nat) (zma : Int32) (zwr : Int32) (Mrr : Nat) (Mrh : Nat) (Mrc : Nat) (zrh : Int32) (zrc : Int32) (Mn : Nat) (Mf : Nat) (Mr : Nat) (Mh : Nat) (zhp : Int32) (zcc : Int32) (Ma : Nat) (Mas : Nat) (Msn : Nat) (Mac : Nat) (Mat : Nat) (fmt : Nat → Int32) (h0 : tp ≤ 160) : Met l yX7_feed wsX7_feed ({ frames := 1, cells := 0, slots := 0, locals := 26 }) (va_Pc [.ref Mm, .int za, .int zb, .int zc, .int zd, .int ze] (pre D g sz [(Mm, .inr (7, [.int zth, .ref Mt, .int (nI tp), .int zma, .int zwr, .ref Mrr, .ref Mrh, .ref Mrc, .int zrh, .int zrc, .ref Mn, .ref Mf, .ref Mr, .ref Mh, .int zhp, .int zcc, .ref Ma, .ref Mas, .ref Msn, .ref Mac, .ref Mat])), (Mt, .inl (g 0, 160, .inl fmt))])) (va_Qi (fun (r : Int32) (u : va_W) => ∃ (zthx : Int32) (tpx : Nat) (fmtx : Nat → Int32) (zr : Int32), u = [(Mm, .inr (7, [.int zthx, .ref Mt, .int (nI tpx), .int zma, .int zwr, .ref Mrr, .ref Mrh, .ref Mrc, .int zrh, .int zrc, .ref Mn, .ref Mf, .ref Mr, .ref Mh, .int zhp, .int zcc, .ref Ma, .ref Mas, .ref Msn, .ref Mac, .ref Mat])), (Mt, .inl (g 0, 160, .inl fmtx))] ∧ r = zr ∧ (tpx ≤ 160) ∧ ((zr, tpx, fmtx) = fdR (tp, fmt) za zb zc zd ze)) (wd D (va_A [(Mm, .inr (7, [.int zth, .ref Mt, .int (nI tp), .int zma, .int zwr, .ref Mrr, .ref Mrh, .ref Mrc, .int zrh, .int zrc, .ref Mn, .ref Mf, .ref Mr, .ref Mh, .int zhp, .int zcc, .ref Ma, .ref Mas, .ref Msn, .ref Mac, .ref Mat])), (Mt, .inl (g 0, 160, .inl fmt))] sz)) (va_A [(Mm, .inr (7, [.int zth, .ref Mt, .int (nI tp), .int zma, .int zwr, .ref Mrr, .ref Mrh, .ref Mrc, .int zrh, .int zrc, .ref Mn, .ref Mf, .ref Mr, .ref Mh, .int zhp, .int zcc, .ref Ma, .ref Mas, .ref Msn, .ref Mac, .ref Mat])), (Mt, .inl (g 0, 160, .inl fmt))] sz)) 0 0 (va_A [(Mm, .inr (7, [.int zth, .ref Mt, .int (nI tp), .int zma, .int zwr, .ref Mrr, .ref Mrh, .ref Mrc, .int zrh, .int zrc, .ref Mn, .ref Mf, .ref Mr, .ref Mh, .int zhp, .int zcc, .ref Ma, .ref Mas, .ref Msn, .ref Mac, .ref Mat])), (Mt, .inl (g 0, 160, .inl fmt))] sz) := by
  refine Met.ofW (cc := cX7_feed) (maxL := 9) (ret := (some .int)) (by decide) rfl ?_
  intro p e s m args below meth c s₁ B hml hv
  obtain ⟨rfl, hsz, hP, ⟨hK, hN⟩, hD0, hZ⟩ := hv
  have hx := B.exec
  have hb := B.bytes
  have hr := B.returns
  have hts := atoms_spec (ws := wsX7_feed) B.pre
  have hown : s.vm.findClass RX7 = some m.cls := findClass_of_methodNamed B.named
  have hlocks := B.notSynchronized
  clear B
  subst hsz
  have hD := hD0.self (sz := s.heap.size)
  clear hD0
  generalize hAe : va_A [(Mm, .inr (7, [.int zth, .ref Mt, .int (nI tp), .int zma, .int zwr, .ref Mrr, .ref Mrh, .ref Mrc, .int zrh, .int zrc, .ref Mn, .ref Mf, .ref Mr, .ref Mh, .int zhp, .int zcc, .ref Ma, .ref Mas, .ref Msn, .ref Mac, .ref Mat])), (Mt, .inl (g 0, 160, .inl fmt))] s.heap.size = A at hD hZ ⊢
  have hA : ∀ q : Nat, s.heap.size ≤ q → A q := fun q h => by rw [← hAe]; exact Or.inr h
  have hS : va_S A s.heap s.heap [] := va_S.rf
  have f49 := hts (.fieldLink RX7 49 "HopCreditsModel" "thrown" "I") (List.mem_of_getElem? (i := 1) rfl)
  have f57 := hts (.fieldLink RX7 57 "HopCreditsModel" "taped" "I") (List.mem_of_getElem? (i := 2) rfl)
  have f9 := hts (.fieldLink RX7 9 "HopCreditsModel" "tape" "[I") (List.mem_of_getElem? (i := 3) rfl)
  have iX7 : ∀ w ∈ u_ws RX7 TX7 21, w ∈ wsX7_feed := fun w h => List.mem_cons_of_mem _ (List.mem_append_right _ (h))
  have hl := lv_entry ([.ref Mm, .int za, .int zb, .int zc, .int zd, .int ze]) (n := 9) (Nat.le_of_ble_eq_true rfl)
  rw [lg_entry_eq]
  generalize (lg_sl ([.ref Mm, .int za, .int zb, .int zc, .int zd, .int ze]) ++ List.replicate (9 - (lg_sl ([.ref Mm, .int za, .int zb, .int zc, .int zd, .int ze])).length) Slot.unset).toArray = ls at hl ⊢
  have hl : lv_has ls 9 [(0, .ref Mm), (1, .int za), (2, .int zb), (3, .int zc), (4, .int zd), (5, .int ze)] := hl
  generalize hQ : MQ below _ _ s _ _ _ = Q
  generalize hH : s.heap = H at hP ⊢
  have hS : va_S A s.heap H [] := by rw [← hH]; exact hS
  clear hH
  have hf20 := fct_le (byr za zb zc zd ze) 20
  have hf00 : fct (byr za zb zc zd ze) 0 = 0 := rfl
  refine lv_aload_n hx hb dX7_feed_0 rfl (lv_at hl 0 rfl) ?_
  refine lv_iconst (v := 0) hx hb dX7_feed_1 (by decide) ?_
  refine va_put (D := D) (ci := 7) (v := .int 0) (ty := .int) (C := RX7) (T := TX7) (N := 21) hx hb hts iX7 tyX7 tyX7_ok nmX7 hown hK hP hD hS 0 rfl rfl 0 (by decide) f49 (fun _ h9 => h9) rfl (by decide +kernel) (rfl) (rfl) (Nat.le_of_ble_eq_true rfl) dX7_feed_2 (fun H locs hP2 hD2 hS2 => ?_)
  clear hP hD hS
  have hPD : PD D A [(Mm, .inr (7, [.int 0, .ref Mt, .int (nI tp), .int zma, .int zwr, .ref Mrr, .ref Mrh, .ref Mrc, .int zrh, .int zrc, .ref Mn, .ref Mf, .ref Mr, .ref Mh, .int zhp, .int zcc, .ref Ma, .ref Mas, .ref Msn, .ref Mac, .ref Mat])), (Mt, .inl (g 0, 160, .inl fmt))] H := ⟨hP2, hD2⟩
  have hS := hS2; clear hP2 hD2 hS2; have hP := hPD.1; have hD := hPD.2; clear hPD
  refine lv_iconst (v := 0) hx hb dX7_feed_5 (by decide) ?_
  refine lv_istore (lv' := [(6, .int 0), (0, .ref Mm), (1, .int za), (2, .int zb), (3, .int zc), (4, .int zd), (5, .int ze)]) hx hb dX7_feed_6 hl (by decide) rfl (fun ls hl => ?_)
  refine lv_iconst (v := 0) hx hb dX7_feed_8 (by decide) ?_
  refine lv_istore (lv' := [(7, .int 0), (6, .int 0), (0, .ref Mm), (1, .int za), (2, .int zb), (3, .int zc), (4, .int zd), (5, .int ze)]) hx hb dX7_feed_9 hl (by decide) rfl (fun ls hl => ?_)
  have loop_15 : ∀ (Nloop_15 : Nat) (i_5 : Nat) (i_6 : Nat) (hbi_5 : i_5 ≤ 20) (hv_14 : i_6 = fct (byr za zb zc zd ze) i_5) (hmloop_15 : 20 - i_5 < Nloop_15) (H : Heap) (locs : List Loc) (ls : Array Slot), va_P D vwCl [(Mm, .inr (7, [.int 0, .ref Mt, .int (nI tp), .int zma, .int zwr, .ref Mrr, .ref Mrh, .ref Mrc, .int zrh, .int zrc, .ref Mn, .ref Mf, .ref Mr, .ref Mh, .int zhp, .int zcc, .ref Ma, .ref Mas, .ref Msn, .ref Mac, .ref Mat])), (Mt, .inl (g 0, 160, .inl fmt))] H → va_D A [(Mm, .inr (7, [.int 0, .ref Mt, .int (nI tp), .int zma, .int zwr, .ref Mrr, .ref Mrh, .ref Mrc, .int zrh, .int zrc, .ref Mn, .ref Mf, .ref Mr, .ref Mh, .int zhp, .int zcc, .ref Ma, .ref Mas, .ref Msn, .ref Mac, .ref Mat])), (Mt, .inl (g 0, 160, .inl fmt))] → va_S A s.heap H locs → lv_has ls 9 [(7, .int (nI i_5)), (6, .int (nI i_6)), (0, .ref Mm), (1, .int za), (2, .int zb), (3, .int zc), (4, .int zd), (5, .int ze)] → W p l e (headSpec wsX7_feed ({ frames := 1, cells := 0, slots := 0, locals := 26 })).room s m ([.ref Mm, .int za, .int zb, .int zc, .int zd, .int ze] : List Value).toArray below meth c H locs 0 0 Q (F0 m 11 ls []) := by
    clear hP hD hS hl
    intro Nloop_15
    induction Nloop_15 with
    | zero => intro i_5 i_6 hbi_5 hv_14 hm9; exact absurd hm9 (Nat.not_lt_zero _)
    | succ Nloop_15 loop_15_ih =>
      intro i_5 i_6 hbi_5 hv_14 hmloop_15 H locs ls hP hD hS hl
      refine lv_iload hx hb dX7_feed_11 (lv_at hl 0 rfl) ?_
      refine lv_bipush (v := 20) hx hb dX7_feed_13 (by decide) ?_
      refine lv_icmp_ge (tgt := 49) hx hb dX7_feed_15 (by decide) (fun cb_16 => ?_) (fun cb_16 => ?_)
      · skip
        have cn_17 : 20 ≤ i_5 := (nI_leI (show 20 < 2 ^ 31 by omega) (show i_5 < 2 ^ 31 by omega)).mp cb_16
        have hle_cn_17 := fct_le (byr za zb zc zd ze) i_5
        have heq_cn_17 : fct (byr za zb zc zd ze) i_5 = fct (byr za zb zc zd ze) 20 := by rw [show i_5 = 20 by omega]
        refine lv_aload_n hx hb dX7_feed_49 rfl (lv_at hl 2 rfl) ?_
        refine va_get (D := D) (ci := 7) (v := .int (nI tp)) (C := RX7) (T := TX7) (N := 21) hx hb hts iX7 hown hK hP 0 rfl rfl 2 (by decide) f57 (fun _ h9 => h9) rfl dX7_feed_50 ?_
        refine lv_iload hx hb dX7_feed_53 (lv_at hl 1 rfl) ?_
        refine lv_iadd hx hb dX7_feed_55 ?_
        refine lv_eqi (y := (nI (tp + i_6))) (nI_add (tp) (i_6)) ?_
        refine lv_sipush (v := 160) hx hb dX7_feed_56 (by decide) ?_
        refine lv_icmp_le (tgt := 64) hx hb dX7_feed_59 (by decide) (fun cb_18 => ?_) (fun cb_18 => ?_)
        · skip
          have cn_19 : tp + i_6 ≤ 160 := (nI_leI (show tp + i_6 < 2 ^ 31 by omega) (show 160 < 2 ^ 31 by omega)).mp cb_18
          refine lv_iconst (v := 0) hx hb dX7_feed_64 (by decide) ?_
          refine lv_istore (lv' := [(7, .int 0), (6, .int (nI i_6)), (0, .ref Mm), (1, .int za), (2, .int zb), (3, .int zc), (4, .int zd), (5, .int ze)]) hx hb dX7_feed_65 hl (by decide) rfl (fun ls hl => ?_)
          have loop_36 : ∀ (Nloop_36 : Nat) (i_24 : Nat) (z_25 : Nat) (F_26 : Nat → Int32) (hbi_24 : i_24 ≤ 20) (hv_34 : z_25 = tp + fct (byr za zb zc zd ze) i_24) (hv_35 : (z_25, F_26) = pbs (byr za zb zc zd ze) (tp, fmt) i_24) (hmloop_36 : 20 - i_24 < Nloop_36) (H : Heap) (locs : List Loc) (ls : Array Slot), va_P D vwCl [(Mm, .inr (7, [.int 0, .ref Mt, .int (nI z_25), .int zma, .int zwr, .ref Mrr, .ref Mrh, .ref Mrc, .int zrh, .int zrc, .ref Mn, .ref Mf, .ref Mr, .ref Mh, .int zhp, .int zcc, .ref Ma, .ref Mas, .ref Msn, .ref Mac, .ref Mat])), (Mt, .inl (g 0, 160, .inl F_26))] H → va_D A [(Mm, .inr (7, [.int 0, .ref Mt, .int (nI z_25), .int zma, .int zwr, .ref Mrr, .ref Mrh, .ref Mrc, .int zrh, .int zrc, .ref Mn, .ref Mf, .ref Mr, .ref Mh, .int zhp, .int zcc, .ref Ma, .ref Mas, .ref Msn, .ref Mac, .ref Mat])), (Mt, .inl (g 0, 160, .inl F_26))] → va_S A s.heap H locs → lv_has ls 9 [(7, .int (nI i_24)), (0, .ref Mm), (1, .int za), (2, .int zb), (3, .int zc), (4, .int zd), (5, .int ze)] → W p l e (headSpec wsX7_feed ({ frames := 1, cells := 0, slots := 0, locals := 26 })).room s m ([.ref Mm, .int za, .int zb, .int zc, .int zd, .int ze] : List Value).toArray below meth c H locs 0 0 Q (F0 m 67 ls []) := by
            clear hP hD hS hl
            intro Nloop_36
            induction Nloop_36 with
            | zero => intro i_24 z_25 F_26 hbi_24 hv_34 hv_35 hm9; exact absurd hm9 (Nat.not_lt_zero _)
            | succ Nloop_36 loop_36_ih =>
              intro i_24 z_25 F_26 hbi_24 hv_34 hv_35 hmloop_36 H locs ls hP hD hS hl
              refine lv_iload hx hb dX7_feed_67 (lv_at hl 0 rfl) ?_
              refine lv_bipush (v := 20) hx hb dX7_feed_69 (by decide) ?_
              refine lv_icmp_ge (tgt := 120) hx hb dX7_feed_71 (by decide) (fun cb_37 => ?_) (fun cb_37 => ?_)
              · skip
                have cn_38 : 20 ≤ i_24 := (nI_leI (show 20 < 2 ^ 31 by omega) (show i_24 < 2 ^ 31 by omega)).mp cb_37
                have hle_cn_38 := fct_le (byr za zb zc zd ze) i_24
                have heq_cn_38 : fct (byr za zb zc zd ze) i_24 = fct (byr za zb zc zd ze) 20 := by rw [show i_24 = 20 by omega]
                refine lv_aload_n hx hb dX7_feed_120 rfl (lv_at hl 1 rfl) ?_
                refine va_get (D := D) (ci := 7) (v := .int (nI z_25)) (C := RX7) (T := TX7) (N := 21) hx hb hts iX7 hown hK hP 0 rfl rfl 2 (by decide) f57 (fun _ h9 => h9) rfl dX7_feed_121 ?_
                have hP9 := hP; have hD9 := hD
                subst hQ
                refine W.widen (k := 0) (n := 0) (Nat.le_of_ble_eq_true rfl) (Nat.le_of_ble_eq_true rfl) ?_
                exact W.iret (v := (nI z_25)) hx hb hr (fun tS htS _ => ⟨⟨_, _, rfl, ⟨0, z_25, F_26, (nI z_25), rfl, rfl, (show z_25 ≤ 160 by omega), fd_yes (by omega) (hv_35.trans (congrArg _ (show i_24 = 20 by omega)))⟩, by rw [htS]; exact hP9, hD9⟩, hS.F htS⟩) hS.2.2 dX7_feed_124
              · skip
                have cn_39 : i_24 < 20 := Nat.lt_of_not_le (fun q9 => cb_37 ((nI_leI (show 20 < 2 ^ 31 by omega) (show i_24 < 2 ^ 31 by omega)).mpr q9))
                refine lv_iload_n hx hb dX7_feed_74 rfl (lv_at hl 2 rfl) ?_
                refine lv_iload_n hx hb dX7_feed_75 rfl (lv_at hl 3 rfl) ?_
                refine lv_iload_n hx hb dX7_feed_76 rfl (lv_at hl 4 rfl) ?_
                refine lv_iload hx hb dX7_feed_77 (lv_at hl 5 rfl) ?_
                refine lv_iload hx hb dX7_feed_79 (lv_at hl 6 rfl) ?_
                refine lv_iload hx hb dX7_feed_81 (lv_at hl 0 rfl) ?_
                refine ky_Si (As := [.int za, .int zb, .int zc, .int zd, .int ze, .int (nI i_24)]) (rest := []) ⟨hx, hb, hml, hown, hts⟩ ⟨hK, hN⟩ hZ hP hD hS hA [] [0, 1] (wc := []) (wr := [(Mm, .inr (7, [.int 0, .ref Mt, .int (nI z_25), .int zma, .int zwr, .ref Mrr, .ref Mrh, .ref Mrc, .int zrh, .int zrc, .ref Mn, .ref Mf, .ref Mr, .ref Mh, .int zhp, .int zcc, .ref Ma, .ref Mas, .ref Msn, .ref Mac, .ref Mat])), (Mt, .inl (g 0, 160, .inl F_26))]) rfl rfl rfl rfl (by decide) (c_X7_byteOf l D g H.size za zb zc zd ze i_24 (show i_24 < 20 by omega)) (va_cwS 6 hts gX7_feed_X7_byteOf rfl rfl rfl (by decide +kernel) ⟨(Nat.le_of_ble_eq_true rfl), (Nat.le_of_ble_eq_true rfl)⟩) rfl hl.1 rfl (Nat.le_of_ble_eq_true rfl) dX7_feed_83 ⟨(Nat.le_of_ble_eq_true rfl), (Nat.le_of_ble_eq_true rfl)⟩ (fun r_40 u H locs hw hP2 hD2 hS2 => ?_)
                clear hP hD hS
                obtain ⟨rfl, rfl⟩ := hw
                have hPD : PD D A [(Mm, .inr (7, [.int 0, .ref Mt, .int (nI z_25), .int zma, .int zwr, .ref Mrr, .ref Mrh, .ref Mrc, .int zrh, .int zrc, .ref Mn, .ref Mf, .ref Mr, .ref Mh, .int zhp, .int zcc, .ref Ma, .ref Mas, .ref Msn, .ref Mac, .ref Mat])), (Mt, .inl (g 0, 160, .inl F_26))] H := ⟨hP2, hD2⟩
                have hS := hS2; clear hP2 hD2 hS2; have hP := hPD.1; have hD := hPD.2; clear hPD
                refine W.widen (k := 0) (n := 0) (Nat.le_of_ble_eq_true rfl) (Nat.le_of_ble_eq_true rfl) ?_
                refine lv_istore (lv' := [(8, .int (byr za zb zc zd ze i_24)), (7, .int (nI i_24)), (0, .ref Mm), (1, .int za), (2, .int zb), (3, .int zc), (4, .int zd), (5, .int ze)]) hx hb dX7_feed_86 hl (by decide) rfl (fun ls hl => ?_)
                refine lv_iload hx hb dX7_feed_88 (lv_at hl 0 rfl) ?_
                refine lv_if_eq (tgt := 114) hx hb dX7_feed_90 (by decide) (fun cb_41 => ?_) (fun cb_41 => ?_)
                · skip
                  have hct_42 := fct_0 (f := (byr za zb zc zd ze)) (k := i_24) cb_41
                  refine lv_iinc (v := (nI (i_24 + 1))) (lv' := [(7, .int (nI (i_24 + 1))), (8, .int (byr za zb zc zd ze i_24)), (0, .ref Mm), (1, .int za), (2, .int zb), (3, .int zc), (4, .int zd), (5, .int ze)]) hx hb dX7_feed_114 hl (k := 1) rfl (nI_1 (i_24)) (by decide) rfl (fun ls hl => ?_)
                  refine lv_goto (tgt := 67) hx hb dX7_feed_117 (by decide) ?_
                  exact loop_36_ih (i_24 + 1) z_25 F_26 (show (i_24 + 1) ≤ 20 by omega) (show z_25 = tp + fct (byr za zb zc zd ze) (i_24 + 1) by omega) (pb_0 hv_35 cb_41) (show 20 - (i_24 + 1) < Nloop_36 by omega) _ _ _ hP hD hS (lv_sub hl [0, 2, 3, 4, 5, 6, 7] rfl)
                · skip
                  have hct_43 := fct_1 (f := (byr za zb zc zd ze)) (k := i_24) cb_41
                  have hct_43m := fct_mono (byr za zb zc zd ze) (show i_24 + 1 ≤ 20 by omega)
                  refine lv_aload_n hx hb dX7_feed_93 rfl (lv_at hl 2 rfl) ?_
                  refine va_get (D := D) (ci := 7) (v := .ref Mt) (C := RX7) (T := TX7) (N := 21) hx hb hts iX7 hown hK hP 0 rfl rfl 1 (by decide) f9 (fun _ h9 => h9) rfl dX7_feed_94 ?_
                  refine lv_aload_n hx hb dX7_feed_97 rfl (lv_at hl 2 rfl) ?_
                  refine va_get (D := D) (ci := 7) (v := .int (nI z_25)) (C := RX7) (T := TX7) (N := 21) hx hb hts iX7 hown hK hP 0 rfl rfl 2 (by decide) f57 (fun _ h9 => h9) rfl dX7_feed_98 ?_
                  refine lv_iload hx hb dX7_feed_101 (lv_at hl 0 rfl) ?_
                  refine va_iast hx hb hK hP hD hS 1 0 rfl rfl (vp_in_nI (show z_25 < 160 by omega) (by decide)) dX7_feed_103 (fun H locs hP2 hD2 hS2 => ?_)
                  clear hP hD hS
                  have hPD : PD D A [(Mm, .inr (7, [.int 0, .ref Mt, .int (nI z_25), .int zma, .int zwr, .ref Mrr, .ref Mrh, .ref Mrc, .int zrh, .int zrc, .ref Mn, .ref Mf, .ref Mr, .ref Mh, .int zhp, .int zcc, .ref Ma, .ref Mas, .ref Msn, .ref Mac, .ref Mat])), (Mt, .inl (g 0, 160, .inl (upd F_26 (nI z_25).toNatClampNeg (byr za zb zc zd ze i_24))))] H := ⟨hP2, hD2⟩
                  have hS := hS2; clear hP2 hD2 hS2; have hP := hPD.1; have hD := hPD.2; clear hPD
                  rw [nI_clamp (show z_25 < 2 ^ 31 by omega)] at hP hD
                  have hPD : PD D A [(Mm, .inr (7, [.int 0, .ref Mt, .int (nI z_25), .int zma, .int zwr, .ref Mrr, .ref Mrh, .ref Mrc, .int zrh, .int zrc, .ref Mn, .ref Mf, .ref Mr, .ref Mh, .int zhp, .int zcc, .ref Ma, .ref Mas, .ref Msn, .ref Mac, .ref Mat])), (Mt, .inl (g 0, 160, .inl (upd F_26 (z_25) (byr za zb zc zd ze i_24))))] H := ⟨hP, hD⟩
                  clear hP hD; have hP := hPD.1; have hD := hPD.2; clear hPD
                  refine lv_aload_n hx hb dX7_feed_104 rfl (lv_at hl 2 rfl) ?_
                  refine lv_dup hx hb dX7_feed_105 rfl ?_
                  refine va_get (D := D) (ci := 7) (v := .int (nI z_25)) (C := RX7) (T := TX7) (N := 21) hx hb hts iX7 hown hK hP 0 rfl rfl 2 (by decide) f57 (fun _ h9 => h9) rfl dX7_feed_106 ?_
                  refine lv_iconst (v := 1) hx hb dX7_feed_109 (by decide) ?_
                  refine lv_iadd hx hb dX7_feed_110 ?_
                  refine lv_eqi (y := (nI (z_25 + 1))) (nI_add (z_25) (1)) ?_
                  refine va_put (D := D) (ci := 7) (v := .int (nI (z_25 + 1))) (ty := .int) (C := RX7) (T := TX7) (N := 21) hx hb hts iX7 tyX7 tyX7_ok nmX7 hown hK hP hD hS 0 rfl rfl 2 (by decide) f57 (fun _ h9 => h9) rfl (by decide +kernel) (rfl) (rfl) (Nat.le_of_ble_eq_true rfl) dX7_feed_111 (fun H locs hP2 hD2 hS2 => ?_)
                  clear hP hD hS
                  have hPD : PD D A [(Mm, .inr (7, [.int 0, .ref Mt, .int (nI (z_25 + 1)), .int zma, .int zwr, .ref Mrr, .ref Mrh, .ref Mrc, .int zrh, .int zrc, .ref Mn, .ref Mf, .ref Mr, .ref Mh, .int zhp, .int zcc, .ref Ma, .ref Mas, .ref Msn, .ref Mac, .ref Mat])), (Mt, .inl (g 0, 160, .inl (upd F_26 (z_25) (byr za zb zc zd ze i_24))))] H := ⟨hP2, hD2⟩
                  have hS := hS2; clear hP2 hD2 hS2; have hP := hPD.1; have hD := hPD.2; clear hPD
                  refine lv_iinc (v := (nI (i_24 + 1))) (lv' := [(7, .int (nI (i_24 + 1))), (8, .int (byr za zb zc zd ze i_24)), (0, .ref Mm), (1, .int za), (2, .int zb), (3, .int zc), (4, .int zd), (5, .int ze)]) hx hb dX7_feed_114 hl (k := 1) rfl (nI_1 (i_24)) (by decide) rfl (fun ls hl => ?_)
                  refine lv_goto (tgt := 67) hx hb dX7_feed_117 (by decide) ?_
                  exact loop_36_ih (i_24 + 1) (z_25 + 1) (upd F_26 (z_25) (byr za zb zc zd ze i_24)) (show (i_24 + 1) ≤ 20 by omega) (show (z_25 + 1) = tp + fct (byr za zb zc zd ze) (i_24 + 1) by omega) (pb_1 hv_35 cb_41 (by omega)) (show 20 - (i_24 + 1) < Nloop_36 by omega) _ _ _ hP hD hS (lv_sub hl [0, 2, 3, 4, 5, 6, 7] rfl)
          exact loop_36 _ 0 tp fmt (show 0 ≤ 20 by omega) (show tp = tp + fct (byr za zb zc zd ze) 0 by omega) (rfl) (Nat.lt_succ_self _) _ _ _ hP hD hS (lv_sub hl [0, 2, 3, 4, 5, 6, 7] rfl)
        · skip
          have cn_44 : 160 < tp + i_6 := Nat.lt_of_not_le (fun q9 => cb_18 ((nI_leI (show tp + i_6 < 2 ^ 31 by omega) (show 160 < 2 ^ 31 by omega)).mpr q9))
          refine lv_iconst (v := (-1)) hx hb dX7_feed_62 (by decide) ?_
          have hP9 := hP; have hD9 := hD
          subst hQ
          refine W.widen (k := 0) (n := 0) (Nat.le_of_ble_eq_true rfl) (Nat.le_of_ble_eq_true rfl) ?_
          exact W.iret (v := (-1)) hx hb hr (fun tS htS _ => ⟨⟨_, _, rfl, ⟨0, tp, fmt, (-1), rfl, rfl, (show tp ≤ 160 by omega), fd_no (by omega)⟩, by rw [htS]; exact hP9, hD9⟩, hS.F htS⟩) hS.2.2 dX7_feed_63
      · skip
        have cn_45 : i_5 < 20 := Nat.lt_of_not_le (fun q9 => cb_16 ((nI_leI (show 20 < 2 ^ 31 by omega) (show i_5 < 2 ^ 31 by omega)).mpr q9))
        refine lv_iload hx hb dX7_feed_18 (lv_at hl 1 rfl) ?_
        refine lv_iload_n hx hb dX7_feed_20 rfl (lv_at hl 3 rfl) ?_
        refine lv_iload_n hx hb dX7_feed_21 rfl (lv_at hl 4 rfl) ?_
        refine lv_iload_n hx hb dX7_feed_22 rfl (lv_at hl 5 rfl) ?_
        refine lv_iload hx hb dX7_feed_23 (lv_at hl 6 rfl) ?_
        refine lv_iload hx hb dX7_feed_25 (lv_at hl 7 rfl) ?_
        refine lv_iload hx hb dX7_feed_27 (lv_at hl 0 rfl) ?_
        refine ky_Si (As := [.int za, .int zb, .int zc, .int zd, .int ze, .int (nI i_5)]) (rest := [.int (nI i_6)]) ⟨hx, hb, hml, hown, hts⟩ ⟨hK, hN⟩ hZ hP hD hS hA [] [0, 1] (wc := []) (wr := [(Mm, .inr (7, [.int 0, .ref Mt, .int (nI tp), .int zma, .int zwr, .ref Mrr, .ref Mrh, .ref Mrc, .int zrh, .int zrc, .ref Mn, .ref Mf, .ref Mr, .ref Mh, .int zhp, .int zcc, .ref Ma, .ref Mas, .ref Msn, .ref Mac, .ref Mat])), (Mt, .inl (g 0, 160, .inl fmt))]) rfl rfl rfl rfl (by decide) (c_X7_byteOf l D g H.size za zb zc zd ze i_5 (show i_5 < 20 by omega)) (va_cwS 6 hts gX7_feed_X7_byteOf rfl rfl rfl (by decide +kernel) ⟨(Nat.le_of_ble_eq_true rfl), (Nat.le_of_ble_eq_true rfl)⟩) rfl hl.1 rfl (Nat.le_of_ble_eq_true rfl) dX7_feed_29 ⟨(Nat.le_of_ble_eq_true rfl), (Nat.le_of_ble_eq_true rfl)⟩ (fun r_46 u H locs hw hP2 hD2 hS2 => ?_)
        clear hP hD hS
        obtain ⟨rfl, rfl⟩ := hw
        have hPD : PD D A [(Mm, .inr (7, [.int 0, .ref Mt, .int (nI tp), .int zma, .int zwr, .ref Mrr, .ref Mrh, .ref Mrc, .int zrh, .int zrc, .ref Mn, .ref Mf, .ref Mr, .ref Mh, .int zhp, .int zcc, .ref Ma, .ref Mas, .ref Msn, .ref Mac, .ref Mat])), (Mt, .inl (g 0, 160, .inl fmt))] H := ⟨hP2, hD2⟩
        have hS := hS2; clear hP2 hD2 hS2; have hP := hPD.1; have hD := hPD.2; clear hPD
        refine W.widen (k := 0) (n := 0) (Nat.le_of_ble_eq_true rfl) (Nat.le_of_ble_eq_true rfl) ?_
        refine lv_if_eq (tgt := 39) hx hb dX7_feed_32 (by decide) (fun cb_47 => ?_) (fun cb_47 => ?_)
        · skip
          have hct_48 := fct_0 (f := (byr za zb zc zd ze)) (k := i_5) cb_47
          refine lv_iconst (v := 0) hx hb dX7_feed_39 (by decide) ?_
          refine lv_iadd hx hb dX7_feed_40 ?_
          refine lv_eqi (y := (nI (i_6 + 0))) (nI_add (i_6) (0)) ?_
          refine lv_istore (lv' := [(6, .int (nI (i_6 + 0))), (7, .int (nI i_5)), (0, .ref Mm), (1, .int za), (2, .int zb), (3, .int zc), (4, .int zd), (5, .int ze)]) hx hb dX7_feed_41 hl (by decide) rfl (fun ls hl => ?_)
          refine lv_iinc (v := (nI (i_5 + 1))) (lv' := [(7, .int (nI (i_5 + 1))), (6, .int (nI (i_6 + 0))), (0, .ref Mm), (1, .int za), (2, .int zb), (3, .int zc), (4, .int zd), (5, .int ze)]) hx hb dX7_feed_43 hl (k := 1) rfl (nI_1 (i_5)) (by decide) rfl (fun ls hl => ?_)
          refine lv_goto (tgt := 11) hx hb dX7_feed_46 (by decide) ?_
          exact loop_15_ih (i_5 + 1) (i_6 + 0) (show (i_5 + 1) ≤ 20 by omega) (show (i_6 + 0) = fct (byr za zb zc zd ze) (i_5 + 1) by omega) (show 20 - (i_5 + 1) < Nloop_15 by omega) _ _ _ hP hD hS hl
        · skip
          have hct_49 := fct_1 (f := (byr za zb zc zd ze)) (k := i_5) cb_47
          have hct_49m := fct_mono (byr za zb zc zd ze) (show i_5 + 1 ≤ 20 by omega)
          refine lv_iconst (v := 1) hx hb dX7_feed_35 (by decide) ?_
          refine lv_goto (tgt := 40) hx hb dX7_feed_36 (by decide) ?_
          refine lv_iadd hx hb dX7_feed_40 ?_
          refine lv_eqi (y := (nI (i_6 + 1))) (nI_add (i_6) (1)) ?_
          refine lv_istore (lv' := [(6, .int (nI (i_6 + 1))), (7, .int (nI i_5)), (0, .ref Mm), (1, .int za), (2, .int zb), (3, .int zc), (4, .int zd), (5, .int ze)]) hx hb dX7_feed_41 hl (by decide) rfl (fun ls hl => ?_)
          refine lv_iinc (v := (nI (i_5 + 1))) (lv' := [(7, .int (nI (i_5 + 1))), (6, .int (nI (i_6 + 1))), (0, .ref Mm), (1, .int za), (2, .int zb), (3, .int zc), (4, .int zd), (5, .int ze)]) hx hb dX7_feed_43 hl (k := 1) rfl (nI_1 (i_5)) (by decide) rfl (fun ls hl => ?_)
          refine lv_goto (tgt := 11) hx hb dX7_feed_46 (by decide) ?_
          exact loop_15_ih (i_5 + 1) (i_6 + 1) (show (i_5 + 1) ≤ 20 by omega) (show (i_6 + 1) = fct (byr za zb zc zd ze) (i_5 + 1) by omega) (show 20 - (i_5 + 1) < Nloop_15 by omega) _ _ _ hP hD hS hl
  exact loop_15 _ 0 0 (show 0 ≤ 20 by omega) (show 0 = fct (byr za zb zc zd ze) 0 by omega) (Nat.lt_succ_self _) _ _ _ hP hD hS hl

set_option maxHeartbeats 4000000 in
set_option maxRecDepth 100000 in
theorem r_X7_end (l : Launch) (D : va_G) (g : Nat → ClassId) (sz : Nat) (Mm : Nat) (zn : Int32) (zth : Int32) (Mt : Nat) (tp : Nat) (zma : Int32) (zwr : Int32) (Mrr : Nat) (Mrh : Nat) (Mrc : Nat) (zrh : Int32) (zrc : Int32) (Mn : Nat) (Mf : Nat) (Mr : Nat) (Mh : Nat) (hp : Nat) (cc : Nat) (Ma : Nat) (Mas : Nat) (Msn : Nat) (Mac : Nat) (Mat : Nat) (h0 : tp ≤ 160) : Met l yX7_end wsX7_end ({ frames := 1, cells := 0, slots := 0, locals := 22 }) (va_Pc [.ref Mm, .int zn] (pre D g sz [(Mm, .inr (7, [.int zth, .ref Mt, .int (nI tp), .int zma, .int zwr, .ref Mrr, .ref Mrh, .ref Mrc, .int zrh, .int zrc, .ref Mn, .ref Mf, .ref Mr, .ref Mh, .int (nI hp), .int (nI cc), .ref Ma, .ref Mas, .ref Msn, .ref Mac, .ref Mat]))])) (va_Qi (fun (r : Int32) (u : va_W) => ∃ (zthx : Int32) (tpx : Nat) (zr : Int32), u = [(Mm, .inr (7, [.int zthx, .ref Mt, .int (nI tpx), .int zma, .int zwr, .ref Mrr, .ref Mrh, .ref Mrc, .int zrh, .int zrc, .ref Mn, .ref Mf, .ref Mr, .ref Mh, .int (nI hp), .int (nI cc), .ref Ma, .ref Mas, .ref Msn, .ref Mac, .ref Mat]))] ∧ r = zr ∧ (tpx ≤ 160) ∧ ((zr, tpx) = edQ tp zn)) (wd D (va_A [(Mm, .inr (7, [.int zth, .ref Mt, .int (nI tp), .int zma, .int zwr, .ref Mrr, .ref Mrh, .ref Mrc, .int zrh, .int zrc, .ref Mn, .ref Mf, .ref Mr, .ref Mh, .int (nI hp), .int (nI cc), .ref Ma, .ref Mas, .ref Msn, .ref Mac, .ref Mat]))] sz)) (va_A [(Mm, .inr (7, [.int zth, .ref Mt, .int (nI tp), .int zma, .int zwr, .ref Mrr, .ref Mrh, .ref Mrc, .int zrh, .int zrc, .ref Mn, .ref Mf, .ref Mr, .ref Mh, .int (nI hp), .int (nI cc), .ref Ma, .ref Mas, .ref Msn, .ref Mac, .ref Mat]))] sz)) 0 0 (va_A [(Mm, .inr (7, [.int zth, .ref Mt, .int (nI tp), .int zma, .int zwr, .ref Mrr, .ref Mrh, .ref Mrc, .int zrh, .int zrc, .ref Mn, .ref Mf, .ref Mr, .ref Mh, .int (nI hp), .int (nI cc), .ref Ma, .ref Mas, .ref Msn, .ref Mac, .ref Mat]))] sz) := by
  refine Met.ofW (cc := cX7_end) (maxL := 2) (ret := (some .boolean)) (by decide) rfl ?_
  intro p e s m args below meth c s₁ B hml hv
  obtain ⟨rfl, hsz, hP, ⟨hK, hN⟩, hD0, hZ⟩ := hv
  have hx := B.exec
  have hb := B.bytes
  have hr := B.returns
  have hts := atoms_spec (ws := wsX7_end) B.pre
  have hown : s.vm.findClass RX7 = some m.cls := findClass_of_methodNamed B.named
  have hlocks := B.notSynchronized
  clear B
  subst hsz
  have hD := hD0.self (sz := s.heap.size)
  clear hD0
  generalize hAe : va_A [(Mm, .inr (7, [.int zth, .ref Mt, .int (nI tp), .int zma, .int zwr, .ref Mrr, .ref Mrh, .ref Mrc, .int zrh, .int zrc, .ref Mn, .ref Mf, .ref Mr, .ref Mh, .int (nI hp), .int (nI cc), .ref Ma, .ref Mas, .ref Msn, .ref Mac, .ref Mat]))] s.heap.size = A at hD hZ ⊢
  have hA : ∀ q : Nat, s.heap.size ≤ q → A q := fun q h => by rw [← hAe]; exact Or.inr h
  have hS : va_S A s.heap s.heap [] := va_S.rf
  have f49 := hts (.fieldLink RX7 49 "HopCreditsModel" "thrown" "I") (List.mem_of_getElem? (i := 1) rfl)
  have f57 := hts (.fieldLink RX7 57 "HopCreditsModel" "taped" "I") (List.mem_of_getElem? (i := 2) rfl)
  have iX7 : ∀ w ∈ u_ws RX7 TX7 21, w ∈ wsX7_end := fun w h => List.mem_cons_of_mem _ (List.mem_append_right _ (h))
  have hl := lv_entry ([.ref Mm, .int zn]) (n := 2) (Nat.le_of_ble_eq_true rfl)
  rw [lg_entry_eq]
  generalize (lg_sl ([.ref Mm, .int zn]) ++ List.replicate (2 - (lg_sl ([.ref Mm, .int zn])).length) Slot.unset).toArray = ls at hl ⊢
  have hl : lv_has ls 2 [(0, .ref Mm), (1, .int zn)] := hl
  generalize hQ : MQ below _ _ s _ _ _ = Q
  generalize hH : s.heap = H at hP ⊢
  have hS : va_S A s.heap H [] := by rw [← hH]; exact hS
  clear hH
  refine lv_aload_n hx hb dX7_end_0 rfl (lv_at hl 0 rfl) ?_
  refine lv_iconst (v := 0) hx hb dX7_end_1 (by decide) ?_
  refine va_put (D := D) (ci := 7) (v := .int 0) (ty := .int) (C := RX7) (T := TX7) (N := 21) hx hb hts iX7 tyX7 tyX7_ok nmX7 hown hK hP hD hS 0 rfl rfl 0 (by decide) f49 (fun _ h9 => h9) rfl (by decide +kernel) (rfl) (rfl) (Nat.le_of_ble_eq_true rfl) dX7_end_2 (fun H locs hP2 hD2 hS2 => ?_)
  clear hP hD hS
  have hPD : PD D A [(Mm, .inr (7, [.int 0, .ref Mt, .int (nI tp), .int zma, .int zwr, .ref Mrr, .ref Mrh, .ref Mrc, .int zrh, .int zrc, .ref Mn, .ref Mf, .ref Mr, .ref Mh, .int (nI hp), .int (nI cc), .ref Ma, .ref Mas, .ref Msn, .ref Mac, .ref Mat]))] H := ⟨hP2, hD2⟩
  have hS := hS2; clear hP2 hD2 hS2; have hP := hPD.1; have hD := hPD.2; clear hPD
  refine lv_iload_n hx hb dX7_end_5 rfl (lv_at hl 1 rfl) ?_
  refine lv_iconst (v := 0) hx hb dX7_end_6 (by decide) ?_
  refine lv_aload_n hx hb dX7_end_7 rfl (lv_at hl 0 rfl) ?_
  refine va_get (D := D) (ci := 7) (v := .int (nI tp)) (C := RX7) (T := TX7) (N := 21) hx hb hts iX7 hown hK hP 0 rfl rfl 2 (by decide) f57 (fun _ h9 => h9) rfl dX7_end_8 ?_
  refine ky_Si (As := [.int zn, .int 0, .int (nI tp)]) (rest := []) ⟨hx, hb, hml, hown, hts⟩ ⟨hK, hN⟩ hZ hP hD hS hA [] [0] (wc := []) (wr := [(Mm, .inr (7, [.int 0, .ref Mt, .int (nI tp), .int zma, .int zwr, .ref Mrr, .ref Mrh, .ref Mrc, .int zrh, .int zrc, .ref Mn, .ref Mf, .ref Mr, .ref Mh, .int (nI hp), .int (nI cc), .ref Ma, .ref Mas, .ref Msn, .ref Mac, .ref Mat]))]) rfl rfl rfl rfl (by decide) (k_X7_in l D g H.size zn 0 (nI tp)) (va_cwS 3 hts gX7_end_X7_in rfl rfl rfl (by decide +kernel) ⟨(Nat.le_of_ble_eq_true rfl), (Nat.le_of_ble_eq_true rfl)⟩) rfl hl.1 rfl (Nat.le_of_ble_eq_true rfl) dX7_end_11 ⟨(Nat.le_of_ble_eq_true rfl), (Nat.le_of_ble_eq_true rfl)⟩ (fun r_1 u H locs hw hP2 hD2 hS2 => ?_)
  clear hP hD hS
  obtain ⟨rfl, rfl⟩ := hw
  have hPD : PD D A [(Mm, .inr (7, [.int 0, .ref Mt, .int (nI tp), .int zma, .int zwr, .ref Mrr, .ref Mrh, .ref Mrc, .int zrh, .int zrc, .ref Mn, .ref Mf, .ref Mr, .ref Mh, .int (nI hp), .int (nI cc), .ref Ma, .ref Mas, .ref Msn, .ref Mac, .ref Mat]))] H := ⟨hP2, hD2⟩
  have hS := hS2; clear hP2 hD2 hS2; have hP := hPD.1; have hD := hPD.2; clear hPD
  refine W.widen (k := 0) (n := 0) (Nat.le_of_ble_eq_true rfl) (Nat.le_of_ble_eq_true rfl) ?_
  refine lv_if_ne (tgt := 19) hx hb dX7_end_14 (by decide) (fun cb_2 => ?_) (fun cb_2 => ?_)
  · skip
    have hq_3 : 0 ≤ zn ∧ zn ≤ (nI tp) := b01_1.mp cb_2
    have hPq_7 := hP; have hDq_7 := hD; have hSq_7 := hS; have hlq_7 := hl; clear hP hD hS hl
    obtain ⟨j_4, hl_5, hu_6, rfl⟩ := rg (L := 0) (U := tp) rfl rfl (show 0 < 2 ^ 31 by omega) (show tp < 2 ^ 31 by omega) hq_3
    have hP := hPq_7; have hD := hDq_7; have hS := hSq_7; have hl := hlq_7; clear hPq_7 hDq_7 hSq_7 hlq_7
    refine lv_aload_n hx hb dX7_end_19 rfl (lv_at hl 0 rfl) ?_
    refine lv_iload_n hx hb dX7_end_20 rfl (lv_at hl 1 rfl) ?_
    refine va_put (D := D) (ci := 7) (v := .int (nI j_4)) (ty := .int) (C := RX7) (T := TX7) (N := 21) hx hb hts iX7 tyX7 tyX7_ok nmX7 hown hK hP hD hS 0 rfl rfl 2 (by decide) f57 (fun _ h9 => h9) rfl (by decide +kernel) (rfl) (rfl) (Nat.le_of_ble_eq_true rfl) dX7_end_21 (fun H locs hP2 hD2 hS2 => ?_)
    clear hP hD hS
    have hPD : PD D A [(Mm, .inr (7, [.int 0, .ref Mt, .int (nI j_4), .int zma, .int zwr, .ref Mrr, .ref Mrh, .ref Mrc, .int zrh, .int zrc, .ref Mn, .ref Mf, .ref Mr, .ref Mh, .int (nI hp), .int (nI cc), .ref Ma, .ref Mas, .ref Msn, .ref Mac, .ref Mat]))] H := ⟨hP2, hD2⟩
    have hS := hS2; clear hP2 hD2 hS2; have hP := hPD.1; have hD := hPD.2; clear hPD
    refine lv_iconst (v := 1) hx hb dX7_end_24 (by decide) ?_
    have hP9 := hP; have hD9 := hD
    subst hQ
    refine W.widen (k := 0) (n := 0) (Nat.le_of_ble_eq_true rfl) (Nat.le_of_ble_eq_true rfl) ?_
    exact W.zret (v := 1) (ty := .boolean) hx hb hr (rfl) (fun tS htS _ => ⟨⟨_, _, rfl, ⟨0, j_4, 1, rfl, rfl, (show j_4 ≤ 160 by omega), ed_yes (by omega) (by omega)⟩, by rw [htS]; exact hP9, hD9⟩, hS.F htS⟩) hS.2.2 dX7_end_25
  · skip
    have hq_8 : ¬ (0 ≤ zn ∧ zn ≤ (nI tp)) := b01_0.mp cb_2
    refine lv_iconst (v := 0) hx hb dX7_end_17 (by decide) ?_
    have hP9 := hP; have hD9 := hD
    subst hQ
    refine W.widen (k := 0) (n := 0) (Nat.le_of_ble_eq_true rfl) (Nat.le_of_ble_eq_true rfl) ?_
    exact W.zret (v := 0) (ty := .boolean) hx hb hr (rfl) (fun tS htS _ => ⟨⟨_, _, rfl, ⟨0, tp, 0, rfl, rfl, (show tp ≤ 160 by omega), ed_no (b01_0.mp cb_2)⟩, by rw [htS]; exact hP9, hD9⟩, hS.F htS⟩) hS.2.2 dX7_end_18

set_option maxHeartbeats 4000000 in
set_option maxRecDepth 100000 in
theorem r_X7_net (l : Launch) (D : va_G) (g : Nat → ClassId) (sz : Nat) (Mm : Nat) (zth : Int32) (Mt : Nat) (tp : Nat) (zma : Int32) (zwr : Int32) (Mrr : Nat) (Mrh : Nat) (Mrc : Nat) (zrh : Int32) (zrc : Int32) (Mn : Nat) (Mf : Nat) (Mr : Nat) (Mh : Nat) (hp : Nat) (cc : Nat) (Ma : Nat) (Mas : Nat) (Msn : Nat) (Mac : Nat) (Mat : Nat) (fmt : Nat → Int32) (frr : Nat → Int32) (frh : Nat → Int32) (frc : Nat → Int32) (fno : Nat → Int32) (fmr : Nat → Int32) (fmh : Nat → Int32) (tb : Nat) (ub : Nat) (h0 : tp ≤ 160) (h1 : n1 frr) (h2 : n1 frh) (h3 : n1 frc) (h4 : tb < 2 ^ 29) (h5 : ub < 2 ^ 29) (h6 : mOK tb ub fno) (h7 : n1 fmr) (h8 : n3 fmh) (h9 : hp ≤ 3) (h10 : cc ≤ 3) (h11 : (hp = 0 ∧ cc = 0) ∨ (1 ≤ hp ∧ 1 ≤ cc)) (h12 : tOK fmt) : Met l yX7_net wsX7_net ({ frames := 6, cells := 0, slots := 0, locals := 133 }) (va_Pc [.ref Mm] (pre D g sz [(Mm, .inr (7, [.int zth, .ref Mt, .int (nI tp), .int zma, .int zwr, .ref Mrr, .ref Mrh, .ref Mrc, .int zrh, .int zrc, .ref Mn, .ref Mf, .ref Mr, .ref Mh, .int (nI hp), .int (nI cc), .ref Ma, .ref Mas, .ref Msn, .ref Mac, .ref Mat])), (Mt, .inl (g 0, 160, .inl fmt)), (Mrr, .inl (g 0, 3, .inl frr)), (Mrh, .inl (g 0, 9, .inl frh)), (Mrc, .inl (g 0, 9, .inl frc)), (Mn, .inl (g 0, 1767, .inl fno)), (Mr, .inl (g 0, 3, .inl fmr)), (Mh, .inl (g 0, 9, .inl fmh))])) (va_Qi (fun (r : Int32) (u : va_W) => ∃ (PF : Nat → Nat → Int32) (zthx : Int32) (tpx : Nat) (zmax : Int32) (zwrx : Int32) (zrhx : Int32) (zrcx : Int32) (hpx : Nat) (ccx : Nat) (zr : Int32), u = [(Mm, .inr (7, [.int zthx, .ref Mt, .int (nI tpx), .int zmax, .int zwrx, .ref Mrr, .ref Mrh, .ref Mrc, .int zrhx, .int zrcx, .ref Mn, .ref Mf, .ref Mr, .ref Mh, .int (nI hpx), .int (nI ccx), .ref Ma, .ref Mas, .ref Msn, .ref Mac, .ref Mat])), (Mt, .inl (g 0, 160, .inl fmt)), (Mrr, .inl (g 0, 3, .inl (PF 0))), (Mrh, .inl (g 0, 9, .inl (PF 1))), (Mrc, .inl (g 0, 9, .inl (PF 2))), (Mn, .inl (g 0, 1767, .inl (PF 3))), (Mr, .inl (g 0, 3, .inl (PF 4))), (Mh, .inl (g 0, 9, .inl (PF 5)))] ∧ r = zr ∧ ((n1 (PF 0)) ∧ (n1 (PF 1)) ∧ (n1 (PF 2)) ∧ (mOK tb ub (PF 3)) ∧ (n1 (PF 4)) ∧ (n3 (PF 5)) ∧ (hpx ≤ 3) ∧ (ccx ≤ 3) ∧ ((hpx = 0 ∧ ccx = 0) ∨ (1 ≤ hpx ∧ 1 ≤ ccx)) ∧ (tpx ≤ 160) ∧ ((zr, tpx) = ntQ fmt tp))) (wd D (va_A [(Mm, .inr (7, [.int zth, .ref Mt, .int (nI tp), .int zma, .int zwr, .ref Mrr, .ref Mrh, .ref Mrc, .int zrh, .int zrc, .ref Mn, .ref Mf, .ref Mr, .ref Mh, .int (nI hp), .int (nI cc), .ref Ma, .ref Mas, .ref Msn, .ref Mac, .ref Mat])), (Mt, .inl (g 0, 160, .inl fmt)), (Mrr, .inl (g 0, 3, .inl frr)), (Mrh, .inl (g 0, 9, .inl frh)), (Mrc, .inl (g 0, 9, .inl frc)), (Mn, .inl (g 0, 1767, .inl fno)), (Mr, .inl (g 0, 3, .inl fmr)), (Mh, .inl (g 0, 9, .inl fmh))] sz)) (va_A [(Mm, .inr (7, [.int zth, .ref Mt, .int (nI tp), .int zma, .int zwr, .ref Mrr, .ref Mrh, .ref Mrc, .int zrh, .int zrc, .ref Mn, .ref Mf, .ref Mr, .ref Mh, .int (nI hp), .int (nI cc), .ref Ma, .ref Mas, .ref Msn, .ref Mac, .ref Mat])), (Mt, .inl (g 0, 160, .inl fmt)), (Mrr, .inl (g 0, 3, .inl frr)), (Mrh, .inl (g 0, 9, .inl frh)), (Mrc, .inl (g 0, 9, .inl frc)), (Mn, .inl (g 0, 1767, .inl fno)), (Mr, .inl (g 0, 3, .inl fmr)), (Mh, .inl (g 0, 9, .inl fmh))] sz)) 0 0 (va_A [(Mm, .inr (7, [.int zth, .ref Mt, .int (nI tp), .int zma, .int zwr, .ref Mrr, .ref Mrh, .ref Mrc, .int zrh, .int zrc, .ref Mn, .ref Mf, .ref Mr, .ref Mh, .int (nI hp), .int (nI cc), .ref Ma, .ref Mas, .ref Msn, .ref Mac, .ref Mat])), (Mt, .inl (g 0, 160, .inl fmt)), (Mrr, .inl (g 0, 3, .inl frr)), (Mrh, .inl (g 0, 9, .inl frh)), (Mrc, .inl (g 0, 9, .inl frc)), (Mn, .inl (g 0, 1767, .inl fno)), (Mr, .inl (g 0, 3, .inl fmr)), (Mh, .inl (g 0, 9, .inl fmh))] sz) := by
  refine Met.ofW (cc := cX7_net) (maxL := 3) (ret := (some .int)) (by decide) rfl ?_
  intro p e s m args below meth c s₁ B hml hv
  obtain ⟨rfl, hsz, hP, ⟨hK, hN⟩, hD0, hZ⟩ := hv
  have hx := B.exec
  have hb := B.bytes
  have hr := B.returns
  have hts := atoms_spec (ws := wsX7_net) B.pre
  have hown : s.vm.findClass RX7 = some m.cls := findClass_of_methodNamed B.named
  have hlocks := B.notSynchronized
  clear B
  subst hsz
  have hD := hD0.self (sz := s.heap.size)
  clear hD0
  generalize hAe : va_A [(Mm, .inr (7, [.int zth, .ref Mt, .int (nI tp), .int zma, .int zwr, .ref Mrr, .ref Mrh, .ref Mrc, .int zrh, .int zrc, .ref Mn, .ref Mf, .ref Mr, .ref Mh, .int (nI hp), .int (nI cc), .ref Ma, .ref Mas, .ref Msn, .ref Mac, .ref Mat])), (Mt, .inl (g 0, 160, .inl fmt)), (Mrr, .inl (g 0, 3, .inl frr)), (Mrh, .inl (g 0, 9, .inl frh)), (Mrc, .inl (g 0, 9, .inl frc)), (Mn, .inl (g 0, 1767, .inl fno)), (Mr, .inl (g 0, 3, .inl fmr)), (Mh, .inl (g 0, 9, .inl fmh))] s.heap.size = A at hD hZ ⊢
  have hA : ∀ q : Nat, s.heap.size ≤ q → A q := fun q h => by rw [← hAe]; exact Or.inr h
  have hS : va_S A s.heap s.heap [] := va_S.rf
  have f111 := hts (.fieldLink RX7 111 "HopCreditsModel" "readHops" "I") (List.mem_of_getElem? (i := 3) rfl)
  have f114 := hts (.fieldLink RX7 114 "HopCreditsModel" "readCircuits" "I") (List.mem_of_getElem? (i := 5) rfl)
  have f124 := hts (.fieldLink RX7 124 "HopCreditsModel" "hops" "I") (List.mem_of_getElem? (i := 7) rfl)
  have f127 := hts (.fieldLink RX7 127 "HopCreditsModel" "circuits" "I") (List.mem_of_getElem? (i := 8) rfl)
  have f13 := hts (.fieldLink RX7 13 "HopCreditsModel" "readRule" "[I") (List.mem_of_getElem? (i := 11) rfl)
  have f16 := hts (.fieldLink RX7 16 "HopCreditsModel" "readHop" "[I") (List.mem_of_getElem? (i := 4) rfl)
  have f19 := hts (.fieldLink RX7 19 "HopCreditsModel" "readCircuit" "[I") (List.mem_of_getElem? (i := 6) rfl)
  have f22 := hts (.fieldLink RX7 22 "HopCreditsModel" "now" "[I") (List.mem_of_getElem? (i := 9) rfl)
  have f28 := hts (.fieldLink RX7 28 "HopCreditsModel" "rule" "[I") (List.mem_of_getElem? (i := 10) rfl)
  have f49 := hts (.fieldLink RX7 49 "HopCreditsModel" "thrown" "I") (List.mem_of_getElem? (i := 1) rfl)
  have f57 := hts (.fieldLink RX7 57 "HopCreditsModel" "taped" "I") (List.mem_of_getElem? (i := 2) rfl)
  have iX7 : ∀ w ∈ u_ws RX7 TX7 21, w ∈ wsX7_net := fun w h => List.mem_cons_of_mem _ (List.mem_append_right _ (h))
  have hl := lv_entry ([.ref Mm]) (n := 3) (Nat.le_of_ble_eq_true rfl)
  rw [lg_entry_eq]
  generalize (lg_sl ([.ref Mm]) ++ List.replicate (3 - (lg_sl ([.ref Mm])).length) Slot.unset).toArray = ls at hl ⊢
  have hl : lv_has ls 3 [(0, .ref Mm)] := hl
  generalize hQ : MQ below _ _ s _ _ _ = Q
  generalize hH : s.heap = H at hP ⊢
  have hS : va_S A s.heap H [] := by rw [← hH]; exact hS
  clear hH
  refine lv_aload_n hx hb dX7_net_0 rfl (lv_at hl 0 rfl) ?_
  refine lv_iconst (v := 0) hx hb dX7_net_1 (by decide) ?_
  refine va_put (D := D) (ci := 7) (v := .int 0) (ty := .int) (C := RX7) (T := TX7) (N := 21) hx hb hts iX7 tyX7 tyX7_ok nmX7 hown hK hP hD hS 0 rfl rfl 0 (by decide) f49 (fun _ h9 => h9) rfl (by decide +kernel) (rfl) (rfl) (Nat.le_of_ble_eq_true rfl) dX7_net_2 (fun H locs hP2 hD2 hS2 => ?_)
  clear hP hD hS
  have hPD : PD D A [(Mm, .inr (7, [.int 0, .ref Mt, .int (nI tp), .int zma, .int zwr, .ref Mrr, .ref Mrh, .ref Mrc, .int zrh, .int zrc, .ref Mn, .ref Mf, .ref Mr, .ref Mh, .int (nI hp), .int (nI cc), .ref Ma, .ref Mas, .ref Msn, .ref Mac, .ref Mat])), (Mt, .inl (g 0, 160, .inl fmt)), (Mrr, .inl (g 0, 3, .inl frr)), (Mrh, .inl (g 0, 9, .inl frh)), (Mrc, .inl (g 0, 9, .inl frc)), (Mn, .inl (g 0, 1767, .inl fno)), (Mr, .inl (g 0, 3, .inl fmr)), (Mh, .inl (g 0, 9, .inl fmh))] H := ⟨hP2, hD2⟩
  have hS := hS2; clear hP2 hD2 hS2; have hP := hPD.1; have hD := hPD.2; clear hPD
  refine lv_aload_n hx hb dX7_net_5 rfl (lv_at hl 0 rfl) ?_
  refine ky_Vi (As := []) (rest := []) ⟨hx, hb, hml, hown, hts⟩ ⟨hK, hN⟩ hZ hP hD hS hA [0, 1, 2, 3, 4] [5, 6, 7] (wc := [(Mm, .inr (7, [.int 0, .ref Mt, .int (nI tp), .int zma, .int zwr, .ref Mrr, .ref Mrh, .ref Mrc, .int zrh, .int zrc, .ref Mn, .ref Mf, .ref Mr, .ref Mh, .int (nI hp), .int (nI cc), .ref Ma, .ref Mas, .ref Msn, .ref Mac, .ref Mat])), (Mt, .inl (g 0, 160, .inl fmt)), (Mrr, .inl (g 0, 3, .inl frr)), (Mrh, .inl (g 0, 9, .inl frh)), (Mrc, .inl (g 0, 9, .inl frc))]) (wr := [(Mn, .inl (g 0, 1767, .inl fno)), (Mr, .inl (g 0, 3, .inl fmr)), (Mh, .inl (g 0, 9, .inl fmh))]) rfl rfl rfl rfl (by decide) (r_X7_readNet l D g H.size Mm 0 Mt tp zma zwr Mrr Mrh Mrc zrh zrc Mn Mf Mr Mh (nI hp) (nI cc) Ma Mas Msn Mac Mat fmt frr frh frc (show tp ≤ 160 by omega) (h1) (h2) (h3) (h12)) (cwV 0 hts gX7_net_X7_readNet rfl rfl rfl (by decide +kernel) ⟨(Nat.le_of_ble_eq_true rfl), (Nat.le_of_ble_eq_true rfl)⟩) 0 7 rfl rfl rfl rfl hl.1 rfl (Nat.le_of_ble_eq_true rfl) dX7_net_6 ⟨(Nat.le_of_ble_eq_true rfl), (Nat.le_of_ble_eq_true rfl)⟩ (fun r_1 u H locs hw hP2 hD2 hS2 => ?_)
  clear hP hD hS
  obtain ⟨zmax_2, zwrx_3, rhx_4, rcx_5, frrx_6, frhx_7, frcx_8, rfl, rfl, hf_9⟩ := hw
  have hg_10 := hf_9.2.2.2.1
  have hg_11 := hf_9.2.2.2.2.1
  have hPD : PD D A [(Mn, .inl (g 0, 1767, .inl fno)), (Mr, .inl (g 0, 3, .inl fmr)), (Mh, .inl (g 0, 9, .inl fmh)), (Mm, .inr (7, [.int 0, .ref Mt, .int (nI tp), .int zmax_2, .int r_1, .ref Mrr, .ref Mrh, .ref Mrc, .int (nI rhx_4), .int (nI rcx_5), .ref Mn, .ref Mf, .ref Mr, .ref Mh, .int (nI hp), .int (nI cc), .ref Ma, .ref Mas, .ref Msn, .ref Mac, .ref Mat])), (Mt, .inl (g 0, 160, .inl fmt)), (Mrr, .inl (g 0, 3, .inl frrx_6)), (Mrh, .inl (g 0, 9, .inl frhx_7)), (Mrc, .inl (g 0, 9, .inl frcx_8))] H := ⟨hP2, hD2⟩
  have hS := hS2; clear hP2 hD2 hS2; have hP := hPD.1; have hD := hPD.2; clear hPD
  refine W.widen (k := 0) (n := 0) (Nat.le_of_ble_eq_true rfl) (Nat.le_of_ble_eq_true rfl) ?_
  have hmx_12 := mx1_or rcx_5
  refine lv_iconst (v := (-1)) hx hb dX7_net_9 (by decide) ?_
  refine lv_icmp_eq (tgt := 15) hx hb dX7_net_10 (by decide) (fun cb_13 => ?_) (fun cb_13 => ?_)
  · skip
    have hPq_14 := hP; have hDq_14 := hD; have hSq_14 := hS; have hlq_14 := hl; clear hP hD hS hl
    subst cb_13
    have hP := hPq_14; have hD := hDq_14; have hS := hSq_14; have hl := hlq_14; clear hPq_14 hDq_14 hSq_14 hlq_14
    refine lv_aload_n hx hb dX7_net_15 rfl (lv_at hl 0 rfl) ?_
    refine lv_iconst (v := 0) hx hb dX7_net_16 (by decide) ?_
    refine va_put (D := D) (ci := 7) (v := .int 0) (ty := .int) (C := RX7) (T := TX7) (N := 21) hx hb hts iX7 tyX7 tyX7_ok nmX7 hown hK hP hD hS 3 rfl rfl 2 (by decide) f57 (fun _ h9 => h9) rfl (by decide +kernel) (rfl) (rfl) (Nat.le_of_ble_eq_true rfl) dX7_net_17 (fun H locs hP2 hD2 hS2 => ?_)
    clear hP hD hS
    have hPD : PD D A [(Mn, .inl (g 0, 1767, .inl fno)), (Mr, .inl (g 0, 3, .inl fmr)), (Mh, .inl (g 0, 9, .inl fmh)), (Mm, .inr (7, [.int 0, .ref Mt, .int 0, .int zmax_2, .int (-1), .ref Mrr, .ref Mrh, .ref Mrc, .int (nI rhx_4), .int (nI rcx_5), .ref Mn, .ref Mf, .ref Mr, .ref Mh, .int (nI hp), .int (nI cc), .ref Ma, .ref Mas, .ref Msn, .ref Mac, .ref Mat])), (Mt, .inl (g 0, 160, .inl fmt)), (Mrr, .inl (g 0, 3, .inl frrx_6)), (Mrh, .inl (g 0, 9, .inl frhx_7)), (Mrc, .inl (g 0, 9, .inl frcx_8))] H := ⟨hP2, hD2⟩
    have hS := hS2; clear hP2 hD2 hS2; have hP := hPD.1; have hD := hPD.2; clear hPD
    refine lv_aload_n hx hb dX7_net_20 rfl (lv_at hl 0 rfl) ?_
    refine va_get (D := D) (ci := 7) (v := .int (nI rhx_4)) (C := RX7) (T := TX7) (N := 21) hx hb hts iX7 hown hK hP 3 rfl rfl 8 (by decide) f111 (fun _ h9 => h9) rfl dX7_net_21 ?_
    refine lv_if_ne (tgt := 42) hx hb dX7_net_24 (by decide) (fun cb_15 => ?_) (fun cb_15 => ?_)
    · skip
      have cn_16 : ¬ rhx_4 = 0 := fun q9 => cb_15 (congrArg nI q9)
      refine lv_aload_n hx hb dX7_net_42 rfl (lv_at hl 0 rfl) ?_
      refine va_get (D := D) (ci := 7) (v := .int (nI rcx_5)) (C := RX7) (T := TX7) (N := 21) hx hb hts iX7 hown hK hP 3 rfl rfl 9 (by decide) f114 (fun _ h9 => h9) rfl dX7_net_43 ?_
      refine lv_if_ne (tgt := 64) hx hb dX7_net_46 (by decide) (fun cb_17 => ?_) (fun cb_17 => ?_)
      · skip
        have cn_18 : ¬ rcx_5 = 0 := fun q9 => cb_17 (congrArg nI q9)
        refine lv_aload_n hx hb dX7_net_64 rfl (lv_at hl 0 rfl) ?_
        refine lv_aload_n hx hb dX7_net_65 rfl (lv_at hl 0 rfl) ?_
        refine va_get (D := D) (ci := 7) (v := .int (nI rhx_4)) (C := RX7) (T := TX7) (N := 21) hx hb hts iX7 hown hK hP 3 rfl rfl 8 (by decide) f111 (fun _ h9 => h9) rfl dX7_net_66 ?_
        refine va_put (D := D) (ci := 7) (v := .int (nI rhx_4)) (ty := .int) (C := RX7) (T := TX7) (N := 21) hx hb hts iX7 tyX7 tyX7_ok nmX7 hown hK hP hD hS 3 rfl rfl 14 (by decide) f124 (fun _ h9 => h9) rfl (by decide +kernel) (rfl) (rfl) (Nat.le_of_ble_eq_true rfl) dX7_net_69 (fun H locs hP2 hD2 hS2 => ?_)
        clear hP hD hS
        have hPD : PD D A [(Mn, .inl (g 0, 1767, .inl fno)), (Mr, .inl (g 0, 3, .inl fmr)), (Mh, .inl (g 0, 9, .inl fmh)), (Mm, .inr (7, [.int 0, .ref Mt, .int 0, .int zmax_2, .int (-1), .ref Mrr, .ref Mrh, .ref Mrc, .int (nI rhx_4), .int (nI rcx_5), .ref Mn, .ref Mf, .ref Mr, .ref Mh, .int (nI rhx_4), .int (nI cc), .ref Ma, .ref Mas, .ref Msn, .ref Mac, .ref Mat])), (Mt, .inl (g 0, 160, .inl fmt)), (Mrr, .inl (g 0, 3, .inl frrx_6)), (Mrh, .inl (g 0, 9, .inl frhx_7)), (Mrc, .inl (g 0, 9, .inl frcx_8))] H := ⟨hP2, hD2⟩
        have hS := hS2; clear hP2 hD2 hS2; have hP := hPD.1; have hD := hPD.2; clear hPD
        refine lv_aload_n hx hb dX7_net_72 rfl (lv_at hl 0 rfl) ?_
        refine lv_aload_n hx hb dX7_net_73 rfl (lv_at hl 0 rfl) ?_
        refine va_get (D := D) (ci := 7) (v := .int (nI rcx_5)) (C := RX7) (T := TX7) (N := 21) hx hb hts iX7 hown hK hP 3 rfl rfl 9 (by decide) f114 (fun _ h9 => h9) rfl dX7_net_74 ?_
        refine va_put (D := D) (ci := 7) (v := .int (nI rcx_5)) (ty := .int) (C := RX7) (T := TX7) (N := 21) hx hb hts iX7 tyX7 tyX7_ok nmX7 hown hK hP hD hS 3 rfl rfl 15 (by decide) f127 (fun _ h9 => h9) rfl (by decide +kernel) (rfl) (rfl) (Nat.le_of_ble_eq_true rfl) dX7_net_77 (fun H locs hP2 hD2 hS2 => ?_)
        clear hP hD hS
        have hPD : PD D A [(Mn, .inl (g 0, 1767, .inl fno)), (Mr, .inl (g 0, 3, .inl fmr)), (Mh, .inl (g 0, 9, .inl fmh)), (Mm, .inr (7, [.int 0, .ref Mt, .int 0, .int zmax_2, .int (-1), .ref Mrr, .ref Mrh, .ref Mrc, .int (nI rhx_4), .int (nI rcx_5), .ref Mn, .ref Mf, .ref Mr, .ref Mh, .int (nI rhx_4), .int (nI rcx_5), .ref Ma, .ref Mas, .ref Msn, .ref Mac, .ref Mat])), (Mt, .inl (g 0, 160, .inl fmt)), (Mrr, .inl (g 0, 3, .inl frrx_6)), (Mrh, .inl (g 0, 9, .inl frhx_7)), (Mrc, .inl (g 0, 9, .inl frcx_8))] H := ⟨hP2, hD2⟩
        have hS := hS2; clear hP2 hD2 hS2; have hP := hPD.1; have hD := hPD.2; clear hPD
        refine lv_iconst (v := 0) hx hb dX7_net_80 (by decide) ?_
        refine lv_istore_n (lv' := [(1, .int 0), (0, .ref Mm)]) hx hb dX7_net_81 rfl hl (by decide) rfl (fun ls hl => ?_)
        have loop_26 : ∀ (Nloop_26 : Nat) (i_20 : Nat) (F_21 : Nat → Int32) (hF_21 : mOK tb ub F_21) (hbi_20 : i_20 ≤ 1767) (hmloop_26 : 1767 - i_20 < Nloop_26) (H : Heap) (locs : List Loc) (ls : Array Slot), va_P D vwCl [(Mn, .inl (g 0, 1767, .inl F_21)), (Mr, .inl (g 0, 3, .inl fmr)), (Mh, .inl (g 0, 9, .inl fmh)), (Mm, .inr (7, [.int 0, .ref Mt, .int 0, .int zmax_2, .int (-1), .ref Mrr, .ref Mrh, .ref Mrc, .int (nI rhx_4), .int (nI rcx_5), .ref Mn, .ref Mf, .ref Mr, .ref Mh, .int (nI rhx_4), .int (nI rcx_5), .ref Ma, .ref Mas, .ref Msn, .ref Mac, .ref Mat])), (Mt, .inl (g 0, 160, .inl fmt)), (Mrr, .inl (g 0, 3, .inl frrx_6)), (Mrh, .inl (g 0, 9, .inl frhx_7)), (Mrc, .inl (g 0, 9, .inl frcx_8))] H → va_D A [(Mn, .inl (g 0, 1767, .inl F_21)), (Mr, .inl (g 0, 3, .inl fmr)), (Mh, .inl (g 0, 9, .inl fmh)), (Mm, .inr (7, [.int 0, .ref Mt, .int 0, .int zmax_2, .int (-1), .ref Mrr, .ref Mrh, .ref Mrc, .int (nI rhx_4), .int (nI rcx_5), .ref Mn, .ref Mf, .ref Mr, .ref Mh, .int (nI rhx_4), .int (nI rcx_5), .ref Ma, .ref Mas, .ref Msn, .ref Mac, .ref Mat])), (Mt, .inl (g 0, 160, .inl fmt)), (Mrr, .inl (g 0, 3, .inl frrx_6)), (Mrh, .inl (g 0, 9, .inl frhx_7)), (Mrc, .inl (g 0, 9, .inl frcx_8))] → va_S A s.heap H locs → lv_has ls 3 [(1, .int (nI i_20)), (0, .ref Mm)] → W p l e (headSpec wsX7_net ({ frames := 6, cells := 0, slots := 0, locals := 133 })).room s m ([.ref Mm] : List Value).toArray below meth c H locs 0 0 Q (F0 m 82 ls []) := by
          clear hP hD hS hl
          intro Nloop_26
          induction Nloop_26 with
          | zero => intro i_20 F_21 hF_21 hbi_20 hm9; exact absurd hm9 (Nat.not_lt_zero _)
          | succ Nloop_26 loop_26_ih =>
            intro i_20 F_21 hF_21 hbi_20 hmloop_26 H locs ls hP hD hS hl
            refine lv_iload_n hx hb dX7_net_82 rfl (lv_at hl 0 rfl) ?_
            refine lv_sipush (v := 1767) hx hb dX7_net_83 (by decide) ?_
            refine lv_icmp_ge (tgt := 102) hx hb dX7_net_86 (by decide) (fun cb_27 => ?_) (fun cb_27 => ?_)
            · skip
              have cn_28 : 1767 ≤ i_20 := (nI_leI (show 1767 < 2 ^ 31 by omega) (show i_20 < 2 ^ 31 by omega)).mp cb_27
              refine lv_iconst (v := 0) hx hb dX7_net_102 (by decide) ?_
              refine lv_istore_n (lv' := [(1, .int 0), (0, .ref Mm)]) hx hb dX7_net_103 rfl hl (by decide) rfl (fun ls hl => ?_)
              have loop_38 : ∀ (Nloop_38 : Nat) (i_31 : Nat) (F_32 : Nat → Int32) (hF_32 : n1 F_32) (hbi_31 : i_31 ≤ 3) (hmloop_38 : 3 - i_31 < Nloop_38) (H : Heap) (locs : List Loc) (ls : Array Slot), va_P D vwCl [(Mn, .inl (g 0, 1767, .inl F_21)), (Mr, .inl (g 0, 3, .inl F_32)), (Mh, .inl (g 0, 9, .inl fmh)), (Mm, .inr (7, [.int 0, .ref Mt, .int 0, .int zmax_2, .int (-1), .ref Mrr, .ref Mrh, .ref Mrc, .int (nI rhx_4), .int (nI rcx_5), .ref Mn, .ref Mf, .ref Mr, .ref Mh, .int (nI rhx_4), .int (nI rcx_5), .ref Ma, .ref Mas, .ref Msn, .ref Mac, .ref Mat])), (Mt, .inl (g 0, 160, .inl fmt)), (Mrr, .inl (g 0, 3, .inl frrx_6)), (Mrh, .inl (g 0, 9, .inl frhx_7)), (Mrc, .inl (g 0, 9, .inl frcx_8))] H → va_D A [(Mn, .inl (g 0, 1767, .inl F_21)), (Mr, .inl (g 0, 3, .inl F_32)), (Mh, .inl (g 0, 9, .inl fmh)), (Mm, .inr (7, [.int 0, .ref Mt, .int 0, .int zmax_2, .int (-1), .ref Mrr, .ref Mrh, .ref Mrc, .int (nI rhx_4), .int (nI rcx_5), .ref Mn, .ref Mf, .ref Mr, .ref Mh, .int (nI rhx_4), .int (nI rcx_5), .ref Ma, .ref Mas, .ref Msn, .ref Mac, .ref Mat])), (Mt, .inl (g 0, 160, .inl fmt)), (Mrr, .inl (g 0, 3, .inl frrx_6)), (Mrh, .inl (g 0, 9, .inl frhx_7)), (Mrc, .inl (g 0, 9, .inl frcx_8))] → va_S A s.heap H locs → lv_has ls 3 [(1, .int (nI i_31)), (0, .ref Mm)] → W p l e (headSpec wsX7_net ({ frames := 6, cells := 0, slots := 0, locals := 133 })).room s m ([.ref Mm] : List Value).toArray below meth c H locs 0 0 Q (F0 m 104 ls []) := by
                clear hP hD hS hl
                intro Nloop_38
                induction Nloop_38 with
                | zero => intro i_31 F_32 hF_32 hbi_31 hm9; exact absurd hm9 (Nat.not_lt_zero _)
                | succ Nloop_38 loop_38_ih =>
                  intro i_31 F_32 hF_32 hbi_31 hmloop_38 H locs ls hP hD hS hl
                  refine lv_iload_n hx hb dX7_net_104 rfl (lv_at hl 0 rfl) ?_
                  refine lv_iconst (v := 3) hx hb dX7_net_105 (by decide) ?_
                  refine lv_icmp_ge (tgt := 127) hx hb dX7_net_106 (by decide) (fun cb_39 => ?_) (fun cb_39 => ?_)
                  · skip
                    have cn_40 : 3 ≤ i_31 := (nI_leI (show 3 < 2 ^ 31 by omega) (show i_31 < 2 ^ 31 by omega)).mp cb_39
                    refine lv_iconst (v := 0) hx hb dX7_net_127 (by decide) ?_
                    refine lv_istore_n (lv' := [(1, .int 0), (0, .ref Mm)]) hx hb dX7_net_128 rfl hl (by decide) rfl (fun ls hl => ?_)
                    have loop_57 : ∀ (Nloop_57 : Nat) (i_46 : Nat) (F_47 : Nat → Int32) (F_48 : Nat → Int32) (hF_47 : mOK tb ub F_47) (hF_48 : n3 F_48) (hbi_46 : i_46 ≤ rhx_4) (hmloop_57 : rhx_4 - i_46 < Nloop_57) (H : Heap) (locs : List Loc) (ls : Array Slot), va_P D vwCl [(Mn, .inl (g 0, 1767, .inl F_47)), (Mr, .inl (g 0, 3, .inl F_32)), (Mh, .inl (g 0, 9, .inl F_48)), (Mm, .inr (7, [.int 0, .ref Mt, .int 0, .int zmax_2, .int (-1), .ref Mrr, .ref Mrh, .ref Mrc, .int (nI rhx_4), .int (nI rcx_5), .ref Mn, .ref Mf, .ref Mr, .ref Mh, .int (nI rhx_4), .int (nI rcx_5), .ref Ma, .ref Mas, .ref Msn, .ref Mac, .ref Mat])), (Mt, .inl (g 0, 160, .inl fmt)), (Mrr, .inl (g 0, 3, .inl frrx_6)), (Mrh, .inl (g 0, 9, .inl frhx_7)), (Mrc, .inl (g 0, 9, .inl frcx_8))] H → va_D A [(Mn, .inl (g 0, 1767, .inl F_47)), (Mr, .inl (g 0, 3, .inl F_32)), (Mh, .inl (g 0, 9, .inl F_48)), (Mm, .inr (7, [.int 0, .ref Mt, .int 0, .int zmax_2, .int (-1), .ref Mrr, .ref Mrh, .ref Mrc, .int (nI rhx_4), .int (nI rcx_5), .ref Mn, .ref Mf, .ref Mr, .ref Mh, .int (nI rhx_4), .int (nI rcx_5), .ref Ma, .ref Mas, .ref Msn, .ref Mac, .ref Mat])), (Mt, .inl (g 0, 160, .inl fmt)), (Mrr, .inl (g 0, 3, .inl frrx_6)), (Mrh, .inl (g 0, 9, .inl frhx_7)), (Mrc, .inl (g 0, 9, .inl frcx_8))] → va_S A s.heap H locs → lv_has ls 3 [(1, .int (nI i_46)), (0, .ref Mm)] → W p l e (headSpec wsX7_net ({ frames := 6, cells := 0, slots := 0, locals := 133 })).room s m ([.ref Mm] : List Value).toArray below meth c H locs 0 0 Q (F0 m 129 ls []) := by
                      clear hP hD hS hl
                      intro Nloop_57
                      induction Nloop_57 with
                      | zero => intro i_46 F_47 F_48 hF_47 hF_48 hbi_46 hm9; exact absurd hm9 (Nat.not_lt_zero _)
                      | succ Nloop_57 loop_57_ih =>
                        intro i_46 F_47 F_48 hF_47 hF_48 hbi_46 hmloop_57 H locs ls hP hD hS hl
                        refine lv_iload_n hx hb dX7_net_129 rfl (lv_at hl 0 rfl) ?_
                        refine lv_aload_n hx hb dX7_net_130 rfl (lv_at hl 1 rfl) ?_
                        refine va_get (D := D) (ci := 7) (v := .int (nI rhx_4)) (C := RX7) (T := TX7) (N := 21) hx hb hts iX7 hown hK hP 3 rfl rfl 14 (by decide) f124 (fun _ h9 => h9) rfl dX7_net_131 ?_
                        refine lv_icmp_ge (tgt := 148) hx hb dX7_net_134 (by decide) (fun cb_58 => ?_) (fun cb_58 => ?_)
                        · skip
                          have cn_59 : rhx_4 ≤ i_46 := (nI_leI (show rhx_4 < 2 ^ 31 by omega) (show i_46 < 2 ^ 31 by omega)).mp cb_58
                          refine lv_iconst (v := 0) hx hb dX7_net_148 (by decide) ?_
                          refine lv_istore_n (lv' := [(1, .int 0), (0, .ref Mm)]) hx hb dX7_net_149 rfl hl (by decide) rfl (fun ls hl => ?_)
                          have loop_109 : ∀ (Nloop_109 : Nat) (i_82 : Nat) (F_83 : Nat → Int32) (hF_83 : mOK tb ub F_83) (hbi_82 : i_82 ≤ rcx_5) (hmloop_109 : rcx_5 - i_82 < Nloop_109) (H : Heap) (locs : List Loc) (ls : Array Slot), va_P D vwCl [(Mn, .inl (g 0, 1767, .inl F_83)), (Mr, .inl (g 0, 3, .inl F_32)), (Mh, .inl (g 0, 9, .inl F_48)), (Mm, .inr (7, [.int 0, .ref Mt, .int 0, .int zmax_2, .int (-1), .ref Mrr, .ref Mrh, .ref Mrc, .int (nI rhx_4), .int (nI rcx_5), .ref Mn, .ref Mf, .ref Mr, .ref Mh, .int (nI rhx_4), .int (nI rcx_5), .ref Ma, .ref Mas, .ref Msn, .ref Mac, .ref Mat])), (Mt, .inl (g 0, 160, .inl fmt)), (Mrr, .inl (g 0, 3, .inl frrx_6)), (Mrh, .inl (g 0, 9, .inl frhx_7)), (Mrc, .inl (g 0, 9, .inl frcx_8))] H → va_D A [(Mn, .inl (g 0, 1767, .inl F_83)), (Mr, .inl (g 0, 3, .inl F_32)), (Mh, .inl (g 0, 9, .inl F_48)), (Mm, .inr (7, [.int 0, .ref Mt, .int 0, .int zmax_2, .int (-1), .ref Mrr, .ref Mrh, .ref Mrc, .int (nI rhx_4), .int (nI rcx_5), .ref Mn, .ref Mf, .ref Mr, .ref Mh, .int (nI rhx_4), .int (nI rcx_5), .ref Ma, .ref Mas, .ref Msn, .ref Mac, .ref Mat])), (Mt, .inl (g 0, 160, .inl fmt)), (Mrr, .inl (g 0, 3, .inl frrx_6)), (Mrh, .inl (g 0, 9, .inl frhx_7)), (Mrc, .inl (g 0, 9, .inl frcx_8))] → va_S A s.heap H locs → lv_has ls 3 [(1, .int (nI i_82)), (0, .ref Mm)] → W p l e (headSpec wsX7_net ({ frames := 6, cells := 0, slots := 0, locals := 133 })).room s m ([.ref Mm] : List Value).toArray below meth c H locs 0 0 Q (F0 m 150 ls []) := by
                            clear hP hD hS hl
                            intro Nloop_109
                            induction Nloop_109 with
                            | zero => intro i_82 F_83 hF_83 hbi_82 hm9; exact absurd hm9 (Nat.not_lt_zero _)
                            | succ Nloop_109 loop_109_ih =>
                              intro i_82 F_83 hF_83 hbi_82 hmloop_109 H locs ls hP hD hS hl
                              refine lv_iload_n hx hb dX7_net_150 rfl (lv_at hl 0 rfl) ?_
                              refine lv_aload_n hx hb dX7_net_151 rfl (lv_at hl 1 rfl) ?_
                              refine va_get (D := D) (ci := 7) (v := .int (nI rcx_5)) (C := RX7) (T := TX7) (N := 21) hx hb hts iX7 hown hK hP 3 rfl rfl 15 (by decide) f127 (fun _ h9 => h9) rfl dX7_net_152 ?_
                              refine lv_icmp_ge (tgt := 211) hx hb dX7_net_155 (by decide) (fun cb_110 => ?_) (fun cb_110 => ?_)
                              · skip
                                have cn_111 : rcx_5 ≤ i_82 := (nI_leI (show rcx_5 < 2 ^ 31 by omega) (show i_82 < 2 ^ 31 by omega)).mp cb_110
                                refine lv_aload_n hx hb dX7_net_211 rfl (lv_at hl 1 rfl) ?_
                                refine va_get (D := D) (ci := 7) (v := .int (nI rcx_5)) (C := RX7) (T := TX7) (N := 21) hx hb hts iX7 hown hK hP 3 rfl rfl 15 (by decide) f127 (fun _ h9 => h9) rfl dX7_net_212 ?_
                                have hPD9 : PD D A [(Mm, .inr (7, [.int 0, .ref Mt, .int 0, .int zmax_2, .int (-1), .ref Mrr, .ref Mrh, .ref Mrc, .int (nI rhx_4), .int (nI rcx_5), .ref Mn, .ref Mf, .ref Mr, .ref Mh, .int (nI rhx_4), .int (nI rcx_5), .ref Ma, .ref Mas, .ref Msn, .ref Mac, .ref Mat])), (Mt, .inl (g 0, 160, .inl fmt)), (Mrr, .inl (g 0, 3, .inl frrx_6)), (Mrh, .inl (g 0, 9, .inl frhx_7)), (Mrc, .inl (g 0, 9, .inl frcx_8)), (Mn, .inl (g 0, 1767, .inl F_83)), (Mr, .inl (g 0, 3, .inl F_32)), (Mh, .inl (g 0, 9, .inl F_48))] H := ⟨hP.sub [3, 4, 5, 6, 7, 0, 1, 2] rfl, hD.sub [3, 4, 5, 6, 7, 0, 1, 2] (by decide) rfl⟩
                                have hP9 := hPD9.1; have hD9 := hPD9.2
                                subst hQ
                                refine W.widen (k := 0) (n := 0) (Nat.le_of_ble_eq_true rfl) (Nat.le_of_ble_eq_true rfl) ?_
                                exact W.iret (v := (nI rcx_5)) hx hb hr (fun tS htS _ => ⟨⟨_, _, rfl, ⟨(lf2 [frrx_6, frhx_7, frcx_8, F_83, F_32, F_48]), 0, 0, zmax_2, (-1), (nI rhx_4), (nI rcx_5), rhx_4, rcx_5, (nI rcx_5), rfl, rfl, ⟨(hf_9.1), (hf_9.2.1), (hf_9.2.2.1), (hF_83), (hF_32), (hF_48), (show rhx_4 ≤ 3 by omega), (show rcx_5 ≤ 3 by omega), (show (rhx_4 = 0 ∧ rcx_5 = 0) ∨ (1 ≤ rhx_4 ∧ 1 ≤ rcx_5) by omega), (show 0 ≤ 160 by omega), nt_yes (cc := rcx_5) hf_9.2.2.2.2.2 rfl (by omega)⟩⟩, by rw [htS]; exact hP9, hD9⟩, hS.F htS⟩) hS.2.2 dX7_net_215
                              · skip
                                have cn_112 : i_82 < rcx_5 := Nat.lt_of_not_le (fun q9 => cb_110 ((nI_leI (show rcx_5 < 2 ^ 31 by omega) (show i_82 < 2 ^ 31 by omega)).mpr q9))
                                refine lv_iconst (v := 0) hx hb dX7_net_158 (by decide) ?_
                                refine lv_istore_n (lv' := [(2, .int 0), (1, .int (nI i_82)), (0, .ref Mm)]) hx hb dX7_net_159 rfl hl (by decide) rfl (fun ls hl => ?_)
                                have loop_126 : ∀ (Nloop_126 : Nat) (i_116 : Nat) (F_117 : Nat → Int32) (hF_117 : mOK tb ub F_117) (hbi_116 : i_116 ≤ 3) (hmloop_126 : 3 - i_116 < Nloop_126) (H : Heap) (locs : List Loc) (ls : Array Slot), va_P D vwCl [(Mn, .inl (g 0, 1767, .inl F_117)), (Mr, .inl (g 0, 3, .inl F_32)), (Mh, .inl (g 0, 9, .inl F_48)), (Mm, .inr (7, [.int 0, .ref Mt, .int 0, .int zmax_2, .int (-1), .ref Mrr, .ref Mrh, .ref Mrc, .int (nI rhx_4), .int (nI rcx_5), .ref Mn, .ref Mf, .ref Mr, .ref Mh, .int (nI rhx_4), .int (nI rcx_5), .ref Ma, .ref Mas, .ref Msn, .ref Mac, .ref Mat])), (Mt, .inl (g 0, 160, .inl fmt)), (Mrr, .inl (g 0, 3, .inl frrx_6)), (Mrh, .inl (g 0, 9, .inl frhx_7)), (Mrc, .inl (g 0, 9, .inl frcx_8))] H → va_D A [(Mn, .inl (g 0, 1767, .inl F_117)), (Mr, .inl (g 0, 3, .inl F_32)), (Mh, .inl (g 0, 9, .inl F_48)), (Mm, .inr (7, [.int 0, .ref Mt, .int 0, .int zmax_2, .int (-1), .ref Mrr, .ref Mrh, .ref Mrc, .int (nI rhx_4), .int (nI rcx_5), .ref Mn, .ref Mf, .ref Mr, .ref Mh, .int (nI rhx_4), .int (nI rcx_5), .ref Ma, .ref Mas, .ref Msn, .ref Mac, .ref Mat])), (Mt, .inl (g 0, 160, .inl fmt)), (Mrr, .inl (g 0, 3, .inl frrx_6)), (Mrh, .inl (g 0, 9, .inl frhx_7)), (Mrc, .inl (g 0, 9, .inl frcx_8))] → va_S A s.heap H locs → lv_has ls 3 [(2, .int (nI i_116)), (1, .int (nI i_82)), (0, .ref Mm)] → W p l e (headSpec wsX7_net ({ frames := 6, cells := 0, slots := 0, locals := 133 })).room s m ([.ref Mm] : List Value).toArray below meth c H locs 0 0 Q (F0 m 160 ls []) := by
                                  clear hP hD hS hl
                                  intro Nloop_126
                                  induction Nloop_126 with
                                  | zero => intro i_116 F_117 hF_117 hbi_116 hm9; exact absurd hm9 (Nat.not_lt_zero _)
                                  | succ Nloop_126 loop_126_ih =>
                                    intro i_116 F_117 hF_117 hbi_116 hmloop_126 H locs ls hP hD hS hl
                                    refine lv_iload_n hx hb dX7_net_160 rfl (lv_at hl 0 rfl) ?_
                                    refine lv_iconst (v := 3) hx hb dX7_net_161 (by decide) ?_
                                    refine lv_icmp_ge (tgt := 192) hx hb dX7_net_162 (by decide) (fun cb_127 => ?_) (fun cb_127 => ?_)
                                    · skip
                                      have cn_128 : 3 ≤ i_116 := (nI_leI (show 3 < 2 ^ 31 by omega) (show i_116 < 2 ^ 31 by omega)).mp cb_127
                                      refine lv_aload_n hx hb dX7_net_192 rfl (lv_at hl 2 rfl) ?_
                                      refine va_get (D := D) (ci := 7) (v := .ref Mn) (C := RX7) (T := TX7) (N := 21) hx hb hts iX7 hown hK hP 3 rfl rfl 10 (by decide) f22 (fun _ h9 => h9) rfl dX7_net_193 ?_
                                      refine lv_iload_n hx hb dX7_net_196 rfl (lv_at hl 1 rfl) ?_
                                      refine ky_Si (As := [.int (nI i_82)]) (rest := [.ref Mn]) ⟨hx, hb, hml, hown, hts⟩ ⟨hK, hN⟩ hZ hP hD hS hA [] [0, 1, 2, 3, 4, 5, 6, 7] (wc := []) (wr := [(Mn, .inl (g 0, 1767, .inl F_117)), (Mr, .inl (g 0, 3, .inl F_32)), (Mh, .inl (g 0, 9, .inl F_48)), (Mm, .inr (7, [.int 0, .ref Mt, .int 0, .int zmax_2, .int (-1), .ref Mrr, .ref Mrh, .ref Mrc, .int (nI rhx_4), .int (nI rcx_5), .ref Mn, .ref Mf, .ref Mr, .ref Mh, .int (nI rhx_4), .int (nI rcx_5), .ref Ma, .ref Mas, .ref Msn, .ref Mac, .ref Mat])), (Mt, .inl (g 0, 160, .inl fmt)), (Mrr, .inl (g 0, 3, .inl frrx_6)), (Mrh, .inl (g 0, 9, .inl frhx_7)), (Mrc, .inl (g 0, 9, .inl frcx_8))]) rfl rfl rfl rfl (by decide) (k_X7_circuitAt l D g H.size i_82 (show i_82 < 3 by omega)) (va_cwS 1 hts gX7_net_X7_circuitAt rfl rfl rfl (by decide +kernel) ⟨(Nat.le_of_ble_eq_true rfl), (Nat.le_of_ble_eq_true rfl)⟩) rfl hl.1 rfl (Nat.le_of_ble_eq_true rfl) dX7_net_197 ⟨(Nat.le_of_ble_eq_true rfl), (Nat.le_of_ble_eq_true rfl)⟩ (fun r_129 u H locs hw hP2 hD2 hS2 => ?_)
                                      clear hP hD hS
                                      obtain ⟨rfl, rfl⟩ := hw
                                      have hPD : PD D A [(Mn, .inl (g 0, 1767, .inl F_117)), (Mr, .inl (g 0, 3, .inl F_32)), (Mh, .inl (g 0, 9, .inl F_48)), (Mm, .inr (7, [.int 0, .ref Mt, .int 0, .int zmax_2, .int (-1), .ref Mrr, .ref Mrh, .ref Mrc, .int (nI rhx_4), .int (nI rcx_5), .ref Mn, .ref Mf, .ref Mr, .ref Mh, .int (nI rhx_4), .int (nI rcx_5), .ref Ma, .ref Mas, .ref Msn, .ref Mac, .ref Mat])), (Mt, .inl (g 0, 160, .inl fmt)), (Mrr, .inl (g 0, 3, .inl frrx_6)), (Mrh, .inl (g 0, 9, .inl frhx_7)), (Mrc, .inl (g 0, 9, .inl frcx_8))] H := ⟨hP2, hD2⟩
                                      have hS := hS2; clear hP2 hD2 hS2; have hP := hPD.1; have hD := hPD.2; clear hPD
                                      refine W.widen (k := 0) (n := 0) (Nat.le_of_ble_eq_true rfl) (Nat.le_of_ble_eq_true rfl) ?_
                                      refine lv_bipush (v := 6) hx hb dX7_net_200 (by decide) ?_
                                      refine lv_iadd hx hb dX7_net_202 ?_
                                      refine lv_eqi (y := (nI (201 + 9 * i_82 + 6))) (nI_add (201 + 9 * i_82) (6)) ?_
                                      refine lv_iconst (v := (-1)) hx hb dX7_net_203 (by decide) ?_
                                      refine va_iast hx hb hK hP hD hS 0 0 rfl rfl (vp_in_nI (show 201 + 9 * i_82 + 6 < 1767 by omega) (by decide)) dX7_net_204 (fun H locs hP2 hD2 hS2 => ?_)
                                      clear hP hD hS
                                      have hPD : PD D A [(Mn, .inl (g 0, 1767, .inl (upd F_117 (nI (201 + 9 * i_82 + 6)).toNatClampNeg (-1)))), (Mr, .inl (g 0, 3, .inl F_32)), (Mh, .inl (g 0, 9, .inl F_48)), (Mm, .inr (7, [.int 0, .ref Mt, .int 0, .int zmax_2, .int (-1), .ref Mrr, .ref Mrh, .ref Mrc, .int (nI rhx_4), .int (nI rcx_5), .ref Mn, .ref Mf, .ref Mr, .ref Mh, .int (nI rhx_4), .int (nI rcx_5), .ref Ma, .ref Mas, .ref Msn, .ref Mac, .ref Mat])), (Mt, .inl (g 0, 160, .inl fmt)), (Mrr, .inl (g 0, 3, .inl frrx_6)), (Mrh, .inl (g 0, 9, .inl frhx_7)), (Mrc, .inl (g 0, 9, .inl frcx_8))] H := ⟨hP2, hD2⟩
                                      have hS := hS2; clear hP2 hD2 hS2; have hP := hPD.1; have hD := hPD.2; clear hPD
                                      rw [nI_clamp (show 201 + 9 * i_82 + 6 < 2 ^ 31 by omega)] at hP hD
                                      have hPD : PD D A [(Mn, .inl (g 0, 1767, .inl (upd F_117 (201 + 9 * i_82 + 6) (-1)))), (Mr, .inl (g 0, 3, .inl F_32)), (Mh, .inl (g 0, 9, .inl F_48)), (Mm, .inr (7, [.int 0, .ref Mt, .int 0, .int zmax_2, .int (-1), .ref Mrr, .ref Mrh, .ref Mrc, .int (nI rhx_4), .int (nI rcx_5), .ref Mn, .ref Mf, .ref Mr, .ref Mh, .int (nI rhx_4), .int (nI rcx_5), .ref Ma, .ref Mas, .ref Msn, .ref Mac, .ref Mat])), (Mt, .inl (g 0, 160, .inl fmt)), (Mrr, .inl (g 0, 3, .inl frrx_6)), (Mrh, .inl (g 0, 9, .inl frhx_7)), (Mrc, .inl (g 0, 9, .inl frcx_8))] H := ⟨hP, hD⟩
                                      clear hP hD; have hP := hPD.1; have hD := hPD.2; clear hPD
                                      have hF_130 : mOK tb ub (upd F_117 (201 + 9 * i_82 + 6) (-1)) := mOK_free hF_117 (show mfree (201 + 9 * i_82 + 6) by unfold mfree; omega)
                                      generalize upd F_117 (201 + 9 * i_82 + 6) (-1) = F_130 at hP hD hF_130
                                      refine lv_iinc (v := (nI (i_82 + 1))) (lv' := [(1, .int (nI (i_82 + 1))), (2, .int (nI i_116)), (0, .ref Mm)]) hx hb dX7_net_205 hl (k := 1) rfl (nI_1 (i_82)) (by decide) rfl (fun ls hl => ?_)
                                      refine lv_goto (tgt := 150) hx hb dX7_net_208 (by decide) ?_
                                      exact loop_109_ih (i_82 + 1) F_130 (hF_130) (show (i_82 + 1) ≤ rcx_5 by omega) (show rcx_5 - (i_82 + 1) < Nloop_109 by omega) _ _ _ hP hD hS (lv_sub hl [0, 2] rfl)
                                    · skip
                                      have cn_131 : i_116 < 3 := Nat.lt_of_not_le (fun q9 => cb_127 ((nI_leI (show 3 < 2 ^ 31 by omega) (show i_116 < 2 ^ 31 by omega)).mpr q9))
                                      refine lv_aload_n hx hb dX7_net_165 rfl (lv_at hl 2 rfl) ?_
                                      refine va_get (D := D) (ci := 7) (v := .ref Mn) (C := RX7) (T := TX7) (N := 21) hx hb hts iX7 hown hK hP 3 rfl rfl 10 (by decide) f22 (fun _ h9 => h9) rfl dX7_net_166 ?_
                                      refine lv_iload_n hx hb dX7_net_169 rfl (lv_at hl 1 rfl) ?_
                                      refine ky_Si (As := [.int (nI i_82)]) (rest := [.ref Mn]) ⟨hx, hb, hml, hown, hts⟩ ⟨hK, hN⟩ hZ hP hD hS hA [] [0, 1, 2, 3, 4, 5, 6, 7] (wc := []) (wr := [(Mn, .inl (g 0, 1767, .inl F_117)), (Mr, .inl (g 0, 3, .inl F_32)), (Mh, .inl (g 0, 9, .inl F_48)), (Mm, .inr (7, [.int 0, .ref Mt, .int 0, .int zmax_2, .int (-1), .ref Mrr, .ref Mrh, .ref Mrc, .int (nI rhx_4), .int (nI rcx_5), .ref Mn, .ref Mf, .ref Mr, .ref Mh, .int (nI rhx_4), .int (nI rcx_5), .ref Ma, .ref Mas, .ref Msn, .ref Mac, .ref Mat])), (Mt, .inl (g 0, 160, .inl fmt)), (Mrr, .inl (g 0, 3, .inl frrx_6)), (Mrh, .inl (g 0, 9, .inl frhx_7)), (Mrc, .inl (g 0, 9, .inl frcx_8))]) rfl rfl rfl rfl (by decide) (k_X7_circuitAt l D g H.size i_82 (show i_82 < 3 by omega)) (va_cwS 1 hts gX7_net_X7_circuitAt rfl rfl rfl (by decide +kernel) ⟨(Nat.le_of_ble_eq_true rfl), (Nat.le_of_ble_eq_true rfl)⟩) rfl hl.1 rfl (Nat.le_of_ble_eq_true rfl) dX7_net_170 ⟨(Nat.le_of_ble_eq_true rfl), (Nat.le_of_ble_eq_true rfl)⟩ (fun r_132 u H locs hw hP2 hD2 hS2 => ?_)
                                      clear hP hD hS
                                      obtain ⟨rfl, rfl⟩ := hw
                                      have hPD : PD D A [(Mn, .inl (g 0, 1767, .inl F_117)), (Mr, .inl (g 0, 3, .inl F_32)), (Mh, .inl (g 0, 9, .inl F_48)), (Mm, .inr (7, [.int 0, .ref Mt, .int 0, .int zmax_2, .int (-1), .ref Mrr, .ref Mrh, .ref Mrc, .int (nI rhx_4), .int (nI rcx_5), .ref Mn, .ref Mf, .ref Mr, .ref Mh, .int (nI rhx_4), .int (nI rcx_5), .ref Ma, .ref Mas, .ref Msn, .ref Mac, .ref Mat])), (Mt, .inl (g 0, 160, .inl fmt)), (Mrr, .inl (g 0, 3, .inl frrx_6)), (Mrh, .inl (g 0, 9, .inl frhx_7)), (Mrc, .inl (g 0, 9, .inl frcx_8))] H := ⟨hP2, hD2⟩
                                      have hS := hS2; clear hP2 hD2 hS2; have hP := hPD.1; have hD := hPD.2; clear hPD
                                      refine W.widen (k := 0) (n := 0) (Nat.le_of_ble_eq_true rfl) (Nat.le_of_ble_eq_true rfl) ?_
                                      refine lv_iload_n hx hb dX7_net_173 rfl (lv_at hl 0 rfl) ?_
                                      refine lv_iadd hx hb dX7_net_174 ?_
                                      refine lv_eqi (y := (nI (201 + 9 * i_82 + i_116))) (nI_add (201 + 9 * i_82) (i_116)) ?_
                                      refine lv_aload_n hx hb dX7_net_175 rfl (lv_at hl 2 rfl) ?_
                                      refine va_get (D := D) (ci := 7) (v := .ref Mrc) (C := RX7) (T := TX7) (N := 21) hx hb hts iX7 hown hK hP 3 rfl rfl 7 (by decide) f19 (fun _ h9 => h9) rfl dX7_net_176 ?_
                                      refine lv_iconst (v := 3) hx hb dX7_net_179 (by decide) ?_
                                      refine lv_iload_n hx hb dX7_net_180 rfl (lv_at hl 1 rfl) ?_
                                      refine lv_imul hx hb dX7_net_181 ?_
                                      refine lv_eqi (y := (nI (3 * i_82))) (pk_mul (3) (i_82)) ?_
                                      refine lv_iload_n hx hb dX7_net_182 rfl (lv_at hl 0 rfl) ?_
                                      refine lv_iadd hx hb dX7_net_183 ?_
                                      refine lv_eqi (y := (nI (3 * i_82 + i_116))) (nI_add (3 * i_82) (i_116)) ?_
                                      refine va_iald hx hb hK hP 7 0 rfl rfl (vp_in_nI (show 3 * i_82 + i_116 < 9 by omega) (by decide)) dX7_net_184 ?_
                                      refine lv_eqi (y := (frcx_8 (3 * i_82 + i_116))) (congrArg frcx_8 (nI_clamp (show 3 * i_82 + i_116 < 2 ^ 31 by omega))) ?_
                                      obtain ⟨n_133, hn_133, q9⟩ := hf_9.2.2.1 (3 * i_82 + i_116)
                                      refine lv_eqi (y := nI n_133) q9 ?_
                                      refine va_iast hx hb hK hP hD hS 0 0 rfl rfl (vp_in_nI (show 201 + 9 * i_82 + i_116 < 1767 by omega) (by decide)) dX7_net_185 (fun H locs hP2 hD2 hS2 => ?_)
                                      clear hP hD hS
                                      have hPD : PD D A [(Mn, .inl (g 0, 1767, .inl (upd F_117 (nI (201 + 9 * i_82 + i_116)).toNatClampNeg (nI n_133)))), (Mr, .inl (g 0, 3, .inl F_32)), (Mh, .inl (g 0, 9, .inl F_48)), (Mm, .inr (7, [.int 0, .ref Mt, .int 0, .int zmax_2, .int (-1), .ref Mrr, .ref Mrh, .ref Mrc, .int (nI rhx_4), .int (nI rcx_5), .ref Mn, .ref Mf, .ref Mr, .ref Mh, .int (nI rhx_4), .int (nI rcx_5), .ref Ma, .ref Mas, .ref Msn, .ref Mac, .ref Mat])), (Mt, .inl (g 0, 160, .inl fmt)), (Mrr, .inl (g 0, 3, .inl frrx_6)), (Mrh, .inl (g 0, 9, .inl frhx_7)), (Mrc, .inl (g 0, 9, .inl frcx_8))] H := ⟨hP2, hD2⟩
                                      have hS := hS2; clear hP2 hD2 hS2; have hP := hPD.1; have hD := hPD.2; clear hPD
                                      rw [nI_clamp (show 201 + 9 * i_82 + i_116 < 2 ^ 31 by omega)] at hP hD
                                      have hPD : PD D A [(Mn, .inl (g 0, 1767, .inl (upd F_117 (201 + 9 * i_82 + i_116) (nI n_133)))), (Mr, .inl (g 0, 3, .inl F_32)), (Mh, .inl (g 0, 9, .inl F_48)), (Mm, .inr (7, [.int 0, .ref Mt, .int 0, .int zmax_2, .int (-1), .ref Mrr, .ref Mrh, .ref Mrc, .int (nI rhx_4), .int (nI rcx_5), .ref Mn, .ref Mf, .ref Mr, .ref Mh, .int (nI rhx_4), .int (nI rcx_5), .ref Ma, .ref Mas, .ref Msn, .ref Mac, .ref Mat])), (Mt, .inl (g 0, 160, .inl fmt)), (Mrr, .inl (g 0, 3, .inl frrx_6)), (Mrh, .inl (g 0, 9, .inl frhx_7)), (Mrc, .inl (g 0, 9, .inl frcx_8))] H := ⟨hP, hD⟩
                                      clear hP hD; have hP := hPD.1; have hD := hPD.2; clear hPD
                                      have hF_134 : mOK tb ub (upd F_117 (201 + 9 * i_82 + i_116) (nI n_133)) := mOK_free hF_117 (show mfree (201 + 9 * i_82 + i_116) by unfold mfree; omega)
                                      generalize upd F_117 (201 + 9 * i_82 + i_116) (nI n_133) = F_134 at hP hD hF_134
                                      refine lv_iinc (v := (nI (i_116 + 1))) (lv' := [(2, .int (nI (i_116 + 1))), (1, .int (nI i_82)), (0, .ref Mm)]) hx hb dX7_net_186 hl (k := 0) rfl (nI_1 (i_116)) (by decide) rfl (fun ls hl => ?_)
                                      refine lv_goto (tgt := 160) hx hb dX7_net_189 (by decide) ?_
                                      exact loop_126_ih (i_116 + 1) F_134 (hF_134) (show (i_116 + 1) ≤ 3 by omega) (show 3 - (i_116 + 1) < Nloop_126 by omega) _ _ _ hP hD hS hl
                                exact loop_126 _ 0 F_83 (hF_83) (show 0 ≤ 3 by omega) (Nat.lt_succ_self _) _ _ _ hP hD hS hl
                          exact loop_109 _ 0 F_47 (hF_47) (show 0 ≤ rcx_5 by omega) (Nat.lt_succ_self _) _ _ _ hP hD hS hl
                        · skip
                          have cn_135 : i_46 < rhx_4 := Nat.lt_of_not_le (fun q9 => cb_58 ((nI_leI (show rhx_4 < 2 ^ 31 by omega) (show i_46 < 2 ^ 31 by omega)).mpr q9))
                          refine lv_aload_n hx hb dX7_net_137 rfl (lv_at hl 1 rfl) ?_
                          refine lv_iload_n hx hb dX7_net_138 rfl (lv_at hl 0 rfl) ?_
                          refine ky_Vv (As := [.int (nI i_46)]) (rest := []) ⟨hx, hb, hml, hown, hts⟩ ⟨hK, hN⟩ hZ hP hD hS hA [3, 0, 2, 1, 6] [4, 5, 7] (wc := [(Mm, .inr (7, [.int 0, .ref Mt, .int 0, .int zmax_2, .int (-1), .ref Mrr, .ref Mrh, .ref Mrc, .int (nI rhx_4), .int (nI rcx_5), .ref Mn, .ref Mf, .ref Mr, .ref Mh, .int (nI rhx_4), .int (nI rcx_5), .ref Ma, .ref Mas, .ref Msn, .ref Mac, .ref Mat])), (Mn, .inl (g 0, 1767, .inl F_47)), (Mh, .inl (g 0, 9, .inl F_48)), (Mr, .inl (g 0, 3, .inl F_32)), (Mrh, .inl (g 0, 9, .inl frhx_7))]) (wr := [(Mt, .inl (g 0, 160, .inl fmt)), (Mrr, .inl (g 0, 3, .inl frrx_6)), (Mrc, .inl (g 0, 9, .inl frcx_8))]) rfl rfl rfl rfl (by decide) (k_X7_laysHop l D g H.size Mm i_46 0 Mt 0 zmax_2 (-1) Mrr Mrh Mrc (nI rhx_4) (nI rcx_5) Mn Mf Mr Mh rhx_4 rcx_5 Ma Mas Msn Mac Mat F_47 F_48 F_32 frhx_7 tb ub (show tb < 2 ^ 29 by omega) (show ub < 2 ^ 29 by omega) (hF_47) (show 1 ≤ rhx_4 by omega) (show rhx_4 ≤ 3 by omega) (show 1 ≤ rcx_5 by omega) (show rcx_5 ≤ 3 by omega) (show i_46 < 3 by omega) (hF_48) (hf_9.2.1) (hF_32)) (cwV 1 hts gX7_net_X7_laysHop rfl rfl rfl (by decide +kernel) ⟨(Nat.le_of_ble_eq_true rfl), (Nat.le_of_ble_eq_true rfl)⟩) 3 7 rfl rfl rfl rfl hl.1 rfl (Nat.le_of_ble_eq_true rfl) dX7_net_139 ⟨(Nat.le_of_ble_eq_true rfl), (Nat.le_of_ble_eq_true rfl)⟩ (fun u H locs hw hP2 hD2 hS2 => ?_)
                          clear hP hD hS
                          obtain ⟨fnox_137, fmhx_138, rfl, hf_139, hf_140⟩ := hw
                          have hPD : PD D A [(Mt, .inl (g 0, 160, .inl fmt)), (Mrr, .inl (g 0, 3, .inl frrx_6)), (Mrc, .inl (g 0, 9, .inl frcx_8)), (Mm, .inr (7, [.int 0, .ref Mt, .int (nI 0), .int zmax_2, .int (-1), .ref Mrr, .ref Mrh, .ref Mrc, .int (nI rhx_4), .int (nI rcx_5), .ref Mn, .ref Mf, .ref Mr, .ref Mh, .int (nI rhx_4), .int (nI rcx_5), .ref Ma, .ref Mas, .ref Msn, .ref Mac, .ref Mat])), (Mn, .inl (g 0, 1767, .inl fnox_137)), (Mh, .inl (g 0, 9, .inl fmhx_138)), (Mr, .inl (g 0, 3, .inl F_32)), (Mrh, .inl (g 0, 9, .inl frhx_7))] H := ⟨hP2, hD2⟩
                          have hS := hS2; clear hP2 hD2 hS2; have hP := hPD.1; have hD := hPD.2; clear hPD
                          refine W.widen (k := 0) (n := 0) (Nat.le_of_ble_eq_true rfl) (Nat.le_of_ble_eq_true rfl) ?_
                          refine lv_iinc (v := (nI (i_46 + 1))) (lv' := [(1, .int (nI (i_46 + 1))), (0, .ref Mm)]) hx hb dX7_net_142 hl (k := 0) rfl (nI_1 (i_46)) (by decide) rfl (fun ls hl => ?_)
                          refine lv_goto (tgt := 129) hx hb dX7_net_145 (by decide) ?_
                          exact loop_57_ih (i_46 + 1) fnox_137 fmhx_138 (hf_139) (hf_140) (show (i_46 + 1) ≤ rhx_4 by omega) (show rhx_4 - (i_46 + 1) < Nloop_57 by omega) _ _ _ (hP.sub [4, 6, 5, 3, 0, 1, 7, 2] rfl) (hD.sub [4, 6, 5, 3, 0, 1, 7, 2] (by decide) rfl) hS hl
                    exact loop_57 _ 0 F_21 fmh (hF_21) (h8) (show 0 ≤ rhx_4 by omega) (Nat.lt_succ_self _) _ _ _ hP hD hS hl
                  · skip
                    have cn_141 : i_31 < 3 := Nat.lt_of_not_le (fun q9 => cb_39 ((nI_leI (show 3 < 2 ^ 31 by omega) (show i_31 < 2 ^ 31 by omega)).mpr q9))
                    refine lv_aload_n hx hb dX7_net_109 rfl (lv_at hl 1 rfl) ?_
                    refine va_get (D := D) (ci := 7) (v := .ref Mr) (C := RX7) (T := TX7) (N := 21) hx hb hts iX7 hown hK hP 3 rfl rfl 12 (by decide) f28 (fun _ h9 => h9) rfl dX7_net_110 ?_
                    refine lv_iload_n hx hb dX7_net_113 rfl (lv_at hl 0 rfl) ?_
                    refine lv_aload_n hx hb dX7_net_114 rfl (lv_at hl 1 rfl) ?_
                    refine va_get (D := D) (ci := 7) (v := .ref Mrr) (C := RX7) (T := TX7) (N := 21) hx hb hts iX7 hown hK hP 3 rfl rfl 5 (by decide) f13 (fun _ h9 => h9) rfl dX7_net_115 ?_
                    refine lv_iload_n hx hb dX7_net_118 rfl (lv_at hl 0 rfl) ?_
                    refine va_iald hx hb hK hP 5 0 rfl rfl (vp_in_nI (show i_31 < 3 by omega) (by decide)) dX7_net_119 ?_
                    refine lv_eqi (y := (frrx_6 (i_31))) (congrArg frrx_6 (nI_clamp (show i_31 < 2 ^ 31 by omega))) ?_
                    obtain ⟨n_142, hn_142, q9⟩ := hf_9.1 (i_31)
                    refine lv_eqi (y := nI n_142) q9 ?_
                    refine va_iast hx hb hK hP hD hS 1 0 rfl rfl (vp_in_nI (show i_31 < 3 by omega) (by decide)) dX7_net_120 (fun H locs hP2 hD2 hS2 => ?_)
                    clear hP hD hS
                    have hPD : PD D A [(Mn, .inl (g 0, 1767, .inl F_21)), (Mr, .inl (g 0, 3, .inl (upd F_32 (nI i_31).toNatClampNeg (nI n_142)))), (Mh, .inl (g 0, 9, .inl fmh)), (Mm, .inr (7, [.int 0, .ref Mt, .int 0, .int zmax_2, .int (-1), .ref Mrr, .ref Mrh, .ref Mrc, .int (nI rhx_4), .int (nI rcx_5), .ref Mn, .ref Mf, .ref Mr, .ref Mh, .int (nI rhx_4), .int (nI rcx_5), .ref Ma, .ref Mas, .ref Msn, .ref Mac, .ref Mat])), (Mt, .inl (g 0, 160, .inl fmt)), (Mrr, .inl (g 0, 3, .inl frrx_6)), (Mrh, .inl (g 0, 9, .inl frhx_7)), (Mrc, .inl (g 0, 9, .inl frcx_8))] H := ⟨hP2, hD2⟩
                    have hS := hS2; clear hP2 hD2 hS2; have hP := hPD.1; have hD := hPD.2; clear hPD
                    rw [nI_clamp (show i_31 < 2 ^ 31 by omega)] at hP hD
                    have hPD : PD D A [(Mn, .inl (g 0, 1767, .inl F_21)), (Mr, .inl (g 0, 3, .inl (upd F_32 (i_31) (nI n_142)))), (Mh, .inl (g 0, 9, .inl fmh)), (Mm, .inr (7, [.int 0, .ref Mt, .int 0, .int zmax_2, .int (-1), .ref Mrr, .ref Mrh, .ref Mrc, .int (nI rhx_4), .int (nI rcx_5), .ref Mn, .ref Mf, .ref Mr, .ref Mh, .int (nI rhx_4), .int (nI rcx_5), .ref Ma, .ref Mas, .ref Msn, .ref Mac, .ref Mat])), (Mt, .inl (g 0, 160, .inl fmt)), (Mrr, .inl (g 0, 3, .inl frrx_6)), (Mrh, .inl (g 0, 9, .inl frhx_7)), (Mrc, .inl (g 0, 9, .inl frcx_8))] H := ⟨hP, hD⟩
                    clear hP hD; have hP := hPD.1; have hD := hPD.2; clear hPD
                    have hF_143 : n1 (upd F_32 (i_31) (nI n_142)) := n1_upd (hF_32) (n := n_142) (show n_142 ≤ 99 by omega)
                    generalize upd F_32 (i_31) (nI n_142) = F_143 at hP hD hF_143
                    refine lv_iinc (v := (nI (i_31 + 1))) (lv' := [(1, .int (nI (i_31 + 1))), (0, .ref Mm)]) hx hb dX7_net_121 hl (k := 0) rfl (nI_1 (i_31)) (by decide) rfl (fun ls hl => ?_)
                    refine lv_goto (tgt := 104) hx hb dX7_net_124 (by decide) ?_
                    exact loop_38_ih (i_31 + 1) F_143 (hF_143) (show (i_31 + 1) ≤ 3 by omega) (show 3 - (i_31 + 1) < Nloop_38 by omega) _ _ _ hP hD hS hl
              exact loop_38 _ 0 fmr (h7) (show 0 ≤ 3 by omega) (Nat.lt_succ_self _) _ _ _ hP hD hS hl
            · skip
              have cn_144 : i_20 < 1767 := Nat.lt_of_not_le (fun q9 => cb_27 ((nI_leI (show 1767 < 2 ^ 31 by omega) (show i_20 < 2 ^ 31 by omega)).mpr q9))
              refine lv_aload_n hx hb dX7_net_89 rfl (lv_at hl 1 rfl) ?_
              refine va_get (D := D) (ci := 7) (v := .ref Mn) (C := RX7) (T := TX7) (N := 21) hx hb hts iX7 hown hK hP 3 rfl rfl 10 (by decide) f22 (fun _ h9 => h9) rfl dX7_net_90 ?_
              refine lv_iload_n hx hb dX7_net_93 rfl (lv_at hl 0 rfl) ?_
              refine lv_iconst (v := 0) hx hb dX7_net_94 (by decide) ?_
              refine va_iast hx hb hK hP hD hS 0 0 rfl rfl (vp_in_nI (show i_20 < 1767 by omega) (by decide)) dX7_net_95 (fun H locs hP2 hD2 hS2 => ?_)
              clear hP hD hS
              have hPD : PD D A [(Mn, .inl (g 0, 1767, .inl (upd F_21 (nI i_20).toNatClampNeg 0))), (Mr, .inl (g 0, 3, .inl fmr)), (Mh, .inl (g 0, 9, .inl fmh)), (Mm, .inr (7, [.int 0, .ref Mt, .int 0, .int zmax_2, .int (-1), .ref Mrr, .ref Mrh, .ref Mrc, .int (nI rhx_4), .int (nI rcx_5), .ref Mn, .ref Mf, .ref Mr, .ref Mh, .int (nI rhx_4), .int (nI rcx_5), .ref Ma, .ref Mas, .ref Msn, .ref Mac, .ref Mat])), (Mt, .inl (g 0, 160, .inl fmt)), (Mrr, .inl (g 0, 3, .inl frrx_6)), (Mrh, .inl (g 0, 9, .inl frhx_7)), (Mrc, .inl (g 0, 9, .inl frcx_8))] H := ⟨hP2, hD2⟩
              have hS := hS2; clear hP2 hD2 hS2; have hP := hPD.1; have hD := hPD.2; clear hPD
              rw [nI_clamp (show i_20 < 2 ^ 31 by omega)] at hP hD
              have hPD : PD D A [(Mn, .inl (g 0, 1767, .inl (upd F_21 (i_20) 0))), (Mr, .inl (g 0, 3, .inl fmr)), (Mh, .inl (g 0, 9, .inl fmh)), (Mm, .inr (7, [.int 0, .ref Mt, .int 0, .int zmax_2, .int (-1), .ref Mrr, .ref Mrh, .ref Mrc, .int (nI rhx_4), .int (nI rcx_5), .ref Mn, .ref Mf, .ref Mr, .ref Mh, .int (nI rhx_4), .int (nI rcx_5), .ref Ma, .ref Mas, .ref Msn, .ref Mac, .ref Mat])), (Mt, .inl (g 0, 160, .inl fmt)), (Mrr, .inl (g 0, 3, .inl frrx_6)), (Mrh, .inl (g 0, 9, .inl frhx_7)), (Mrc, .inl (g 0, 9, .inl frcx_8))] H := ⟨hP, hD⟩
              clear hP hD; have hP := hPD.1; have hD := hPD.2; clear hPD
              have hF_145 : mOK tb ub (upd F_21 (i_20) 0) := mOK_zero hF_21
              generalize upd F_21 (i_20) 0 = F_145 at hP hD hF_145
              refine lv_iinc (v := (nI (i_20 + 1))) (lv' := [(1, .int (nI (i_20 + 1))), (0, .ref Mm)]) hx hb dX7_net_96 hl (k := 0) rfl (nI_1 (i_20)) (by decide) rfl (fun ls hl => ?_)
              refine lv_goto (tgt := 82) hx hb dX7_net_99 (by decide) ?_
              exact loop_26_ih (i_20 + 1) F_145 (hF_145) (show (i_20 + 1) ≤ 1767 by omega) (show 1767 - (i_20 + 1) < Nloop_26 by omega) _ _ _ hP hD hS hl
        exact loop_26 _ 0 fno (h6) (show 0 ≤ 1767 by omega) (Nat.lt_succ_self _) _ _ _ hP hD hS hl
      · skip
        have cn_146 : rcx_5 = 0 := (nI_eq (show rcx_5 < 2 ^ 31 by omega) (show 0 < 2 ^ 31 by omega)).mp cb_17
        refine lv_aload_n hx hb dX7_net_49 rfl (lv_at hl 0 rfl) ?_
        refine lv_iconst (v := 2) hx hb dX7_net_50 (by decide) ?_
        refine lv_aload_n hx hb dX7_net_51 rfl (lv_at hl 0 rfl) ?_
        refine va_get (D := D) (ci := 7) (v := .ref Mrc) (C := RX7) (T := TX7) (N := 21) hx hb hts iX7 hown hK hP 3 rfl rfl 7 (by decide) f19 (fun _ h9 => h9) rfl dX7_net_52 ?_
        refine lv_iconst (v := 0) hx hb dX7_net_55 (by decide) ?_
        refine ky_Vv (As := [.int 2, .ref Mrc, .int 0]) (rest := []) ⟨hx, hb, hml, hown, hts⟩ ⟨hK, hN⟩ hZ hP hD hS hA [3, 7] [0, 1, 2, 4, 5, 6] (wc := [(Mm, .inr (7, [.int 0, .ref Mt, .int 0, .int zmax_2, .int (-1), .ref Mrr, .ref Mrh, .ref Mrc, .int (nI rhx_4), .int (nI rcx_5), .ref Mn, .ref Mf, .ref Mr, .ref Mh, .int (nI hp), .int (nI cc), .ref Ma, .ref Mas, .ref Msn, .ref Mac, .ref Mat])), (Mrc, .inl (g 0, 9, .inl frcx_8))]) (wr := [(Mn, .inl (g 0, 1767, .inl fno)), (Mr, .inl (g 0, 3, .inl fmr)), (Mh, .inl (g 0, 9, .inl fmh)), (Mt, .inl (g 0, 160, .inl fmt)), (Mrr, .inl (g 0, 3, .inl frrx_6)), (Mrh, .inl (g 0, 9, .inl frhx_7))]) rfl rfl rfl rfl (by decide) (k_X7_laysUsual_2 l D g H.size Mm Mrc 0 0 Mt 0 zmax_2 (-1) Mrr Mrh (nI rhx_4) (nI rcx_5) Mn Mf Mr Mh (nI hp) (nI cc) Ma Mas Msn Mac Mat frcx_8 (show 0 ≤ 6 by omega) (hf_9.2.2.1)) (cwV 3 hts gX7_net_X7_laysUsual rfl rfl rfl (by decide +kernel) ⟨(Nat.le_of_ble_eq_true rfl), (Nat.le_of_ble_eq_true rfl)⟩) 3 7 rfl rfl rfl rfl hl.1 rfl (Nat.le_of_ble_eq_true rfl) dX7_net_56 ⟨(Nat.le_of_ble_eq_true rfl), (Nat.le_of_ble_eq_true rfl)⟩ (fun u H locs hw hP2 hD2 hS2 => ?_)
        clear hP hD hS
        obtain ⟨frcx_148, rfl, hf_149⟩ := hw
        have hPD : PD D A [(Mn, .inl (g 0, 1767, .inl fno)), (Mr, .inl (g 0, 3, .inl fmr)), (Mh, .inl (g 0, 9, .inl fmh)), (Mt, .inl (g 0, 160, .inl fmt)), (Mrr, .inl (g 0, 3, .inl frrx_6)), (Mrh, .inl (g 0, 9, .inl frhx_7)), (Mm, .inr (7, [.int 0, .ref Mt, .int 0, .int zmax_2, .int (-1), .ref Mrr, .ref Mrh, .ref Mrc, .int (nI rhx_4), .int (nI rcx_5), .ref Mn, .ref Mf, .ref Mr, .ref Mh, .int (nI hp), .int (nI cc), .ref Ma, .ref Mas, .ref Msn, .ref Mac, .ref Mat])), (Mrc, .inl (g 0, 9, .inl frcx_148))] H := ⟨hP2, hD2⟩
        have hS := hS2; clear hP2 hD2 hS2; have hP := hPD.1; have hD := hPD.2; clear hPD
        refine W.widen (k := 0) (n := 0) (Nat.le_of_ble_eq_true rfl) (Nat.le_of_ble_eq_true rfl) ?_
        refine lv_aload_n hx hb dX7_net_59 rfl (lv_at hl 0 rfl) ?_
        refine lv_iconst (v := 1) hx hb dX7_net_60 (by decide) ?_
        refine va_put (D := D) (ci := 7) (v := .int 1) (ty := .int) (C := RX7) (T := TX7) (N := 21) hx hb hts iX7 tyX7 tyX7_ok nmX7 hown hK hP hD hS 6 rfl rfl 9 (by decide) f114 (fun _ h9 => h9) rfl (by decide +kernel) (rfl) (rfl) (Nat.le_of_ble_eq_true rfl) dX7_net_61 (fun H locs hP2 hD2 hS2 => ?_)
        clear hP hD hS
        have hPD : PD D A [(Mn, .inl (g 0, 1767, .inl fno)), (Mr, .inl (g 0, 3, .inl fmr)), (Mh, .inl (g 0, 9, .inl fmh)), (Mt, .inl (g 0, 160, .inl fmt)), (Mrr, .inl (g 0, 3, .inl frrx_6)), (Mrh, .inl (g 0, 9, .inl frhx_7)), (Mm, .inr (7, [.int 0, .ref Mt, .int 0, .int zmax_2, .int (-1), .ref Mrr, .ref Mrh, .ref Mrc, .int (nI rhx_4), .int 1, .ref Mn, .ref Mf, .ref Mr, .ref Mh, .int (nI hp), .int (nI cc), .ref Ma, .ref Mas, .ref Msn, .ref Mac, .ref Mat])), (Mrc, .inl (g 0, 9, .inl frcx_148))] H := ⟨hP2, hD2⟩
        have hS := hS2; clear hP2 hD2 hS2; have hP := hPD.1; have hD := hPD.2; clear hPD
        refine lv_aload_n hx hb dX7_net_64 rfl (lv_at hl 0 rfl) ?_
        refine lv_aload_n hx hb dX7_net_65 rfl (lv_at hl 0 rfl) ?_
        refine va_get (D := D) (ci := 7) (v := .int (nI rhx_4)) (C := RX7) (T := TX7) (N := 21) hx hb hts iX7 hown hK hP 6 rfl rfl 8 (by decide) f111 (fun _ h9 => h9) rfl dX7_net_66 ?_
        refine va_put (D := D) (ci := 7) (v := .int (nI rhx_4)) (ty := .int) (C := RX7) (T := TX7) (N := 21) hx hb hts iX7 tyX7 tyX7_ok nmX7 hown hK hP hD hS 6 rfl rfl 14 (by decide) f124 (fun _ h9 => h9) rfl (by decide +kernel) (rfl) (rfl) (Nat.le_of_ble_eq_true rfl) dX7_net_69 (fun H locs hP2 hD2 hS2 => ?_)
        clear hP hD hS
        have hPD : PD D A [(Mn, .inl (g 0, 1767, .inl fno)), (Mr, .inl (g 0, 3, .inl fmr)), (Mh, .inl (g 0, 9, .inl fmh)), (Mt, .inl (g 0, 160, .inl fmt)), (Mrr, .inl (g 0, 3, .inl frrx_6)), (Mrh, .inl (g 0, 9, .inl frhx_7)), (Mm, .inr (7, [.int 0, .ref Mt, .int 0, .int zmax_2, .int (-1), .ref Mrr, .ref Mrh, .ref Mrc, .int (nI rhx_4), .int 1, .ref Mn, .ref Mf, .ref Mr, .ref Mh, .int (nI rhx_4), .int (nI cc), .ref Ma, .ref Mas, .ref Msn, .ref Mac, .ref Mat])), (Mrc, .inl (g 0, 9, .inl frcx_148))] H := ⟨hP2, hD2⟩
        have hS := hS2; clear hP2 hD2 hS2; have hP := hPD.1; have hD := hPD.2; clear hPD
        refine lv_aload_n hx hb dX7_net_72 rfl (lv_at hl 0 rfl) ?_
        refine lv_aload_n hx hb dX7_net_73 rfl (lv_at hl 0 rfl) ?_
        refine va_get (D := D) (ci := 7) (v := .int 1) (C := RX7) (T := TX7) (N := 21) hx hb hts iX7 hown hK hP 6 rfl rfl 9 (by decide) f114 (fun _ h9 => h9) rfl dX7_net_74 ?_
        refine va_put (D := D) (ci := 7) (v := .int 1) (ty := .int) (C := RX7) (T := TX7) (N := 21) hx hb hts iX7 tyX7 tyX7_ok nmX7 hown hK hP hD hS 6 rfl rfl 15 (by decide) f127 (fun _ h9 => h9) rfl (by decide +kernel) (rfl) (rfl) (Nat.le_of_ble_eq_true rfl) dX7_net_77 (fun H locs hP2 hD2 hS2 => ?_)
        clear hP hD hS
        have hPD : PD D A [(Mn, .inl (g 0, 1767, .inl fno)), (Mr, .inl (g 0, 3, .inl fmr)), (Mh, .inl (g 0, 9, .inl fmh)), (Mt, .inl (g 0, 160, .inl fmt)), (Mrr, .inl (g 0, 3, .inl frrx_6)), (Mrh, .inl (g 0, 9, .inl frhx_7)), (Mm, .inr (7, [.int 0, .ref Mt, .int 0, .int zmax_2, .int (-1), .ref Mrr, .ref Mrh, .ref Mrc, .int (nI rhx_4), .int 1, .ref Mn, .ref Mf, .ref Mr, .ref Mh, .int (nI rhx_4), .int 1, .ref Ma, .ref Mas, .ref Msn, .ref Mac, .ref Mat])), (Mrc, .inl (g 0, 9, .inl frcx_148))] H := ⟨hP2, hD2⟩
        have hS := hS2; clear hP2 hD2 hS2; have hP := hPD.1; have hD := hPD.2; clear hPD
        refine lv_iconst (v := 0) hx hb dX7_net_80 (by decide) ?_
        refine lv_istore_n (lv' := [(1, .int 0), (0, .ref Mm)]) hx hb dX7_net_81 rfl hl (by decide) rfl (fun ls hl => ?_)
        have loop_157 : ∀ (Nloop_157 : Nat) (i_151 : Nat) (F_152 : Nat → Int32) (hF_152 : mOK tb ub F_152) (hbi_151 : i_151 ≤ 1767) (hmloop_157 : 1767 - i_151 < Nloop_157) (H : Heap) (locs : List Loc) (ls : Array Slot), va_P D vwCl [(Mn, .inl (g 0, 1767, .inl F_152)), (Mr, .inl (g 0, 3, .inl fmr)), (Mh, .inl (g 0, 9, .inl fmh)), (Mt, .inl (g 0, 160, .inl fmt)), (Mrr, .inl (g 0, 3, .inl frrx_6)), (Mrh, .inl (g 0, 9, .inl frhx_7)), (Mm, .inr (7, [.int 0, .ref Mt, .int 0, .int zmax_2, .int (-1), .ref Mrr, .ref Mrh, .ref Mrc, .int (nI rhx_4), .int 1, .ref Mn, .ref Mf, .ref Mr, .ref Mh, .int (nI rhx_4), .int 1, .ref Ma, .ref Mas, .ref Msn, .ref Mac, .ref Mat])), (Mrc, .inl (g 0, 9, .inl frcx_148))] H → va_D A [(Mn, .inl (g 0, 1767, .inl F_152)), (Mr, .inl (g 0, 3, .inl fmr)), (Mh, .inl (g 0, 9, .inl fmh)), (Mt, .inl (g 0, 160, .inl fmt)), (Mrr, .inl (g 0, 3, .inl frrx_6)), (Mrh, .inl (g 0, 9, .inl frhx_7)), (Mm, .inr (7, [.int 0, .ref Mt, .int 0, .int zmax_2, .int (-1), .ref Mrr, .ref Mrh, .ref Mrc, .int (nI rhx_4), .int 1, .ref Mn, .ref Mf, .ref Mr, .ref Mh, .int (nI rhx_4), .int 1, .ref Ma, .ref Mas, .ref Msn, .ref Mac, .ref Mat])), (Mrc, .inl (g 0, 9, .inl frcx_148))] → va_S A s.heap H locs → lv_has ls 3 [(1, .int (nI i_151)), (0, .ref Mm)] → W p l e (headSpec wsX7_net ({ frames := 6, cells := 0, slots := 0, locals := 133 })).room s m ([.ref Mm] : List Value).toArray below meth c H locs 0 0 Q (F0 m 82 ls []) := by
          clear hP hD hS hl
          intro Nloop_157
          induction Nloop_157 with
          | zero => intro i_151 F_152 hF_152 hbi_151 hm9; exact absurd hm9 (Nat.not_lt_zero _)
          | succ Nloop_157 loop_157_ih =>
            intro i_151 F_152 hF_152 hbi_151 hmloop_157 H locs ls hP hD hS hl
            refine lv_iload_n hx hb dX7_net_82 rfl (lv_at hl 0 rfl) ?_
            refine lv_sipush (v := 1767) hx hb dX7_net_83 (by decide) ?_
            refine lv_icmp_ge (tgt := 102) hx hb dX7_net_86 (by decide) (fun cb_158 => ?_) (fun cb_158 => ?_)
            · skip
              have cn_159 : 1767 ≤ i_151 := (nI_leI (show 1767 < 2 ^ 31 by omega) (show i_151 < 2 ^ 31 by omega)).mp cb_158
              refine lv_iconst (v := 0) hx hb dX7_net_102 (by decide) ?_
              refine lv_istore_n (lv' := [(1, .int 0), (0, .ref Mm)]) hx hb dX7_net_103 rfl hl (by decide) rfl (fun ls hl => ?_)
              have loop_169 : ∀ (Nloop_169 : Nat) (i_162 : Nat) (F_163 : Nat → Int32) (hF_163 : n1 F_163) (hbi_162 : i_162 ≤ 3) (hmloop_169 : 3 - i_162 < Nloop_169) (H : Heap) (locs : List Loc) (ls : Array Slot), va_P D vwCl [(Mn, .inl (g 0, 1767, .inl F_152)), (Mr, .inl (g 0, 3, .inl F_163)), (Mh, .inl (g 0, 9, .inl fmh)), (Mt, .inl (g 0, 160, .inl fmt)), (Mrr, .inl (g 0, 3, .inl frrx_6)), (Mrh, .inl (g 0, 9, .inl frhx_7)), (Mm, .inr (7, [.int 0, .ref Mt, .int 0, .int zmax_2, .int (-1), .ref Mrr, .ref Mrh, .ref Mrc, .int (nI rhx_4), .int 1, .ref Mn, .ref Mf, .ref Mr, .ref Mh, .int (nI rhx_4), .int 1, .ref Ma, .ref Mas, .ref Msn, .ref Mac, .ref Mat])), (Mrc, .inl (g 0, 9, .inl frcx_148))] H → va_D A [(Mn, .inl (g 0, 1767, .inl F_152)), (Mr, .inl (g 0, 3, .inl F_163)), (Mh, .inl (g 0, 9, .inl fmh)), (Mt, .inl (g 0, 160, .inl fmt)), (Mrr, .inl (g 0, 3, .inl frrx_6)), (Mrh, .inl (g 0, 9, .inl frhx_7)), (Mm, .inr (7, [.int 0, .ref Mt, .int 0, .int zmax_2, .int (-1), .ref Mrr, .ref Mrh, .ref Mrc, .int (nI rhx_4), .int 1, .ref Mn, .ref Mf, .ref Mr, .ref Mh, .int (nI rhx_4), .int 1, .ref Ma, .ref Mas, .ref Msn, .ref Mac, .ref Mat])), (Mrc, .inl (g 0, 9, .inl frcx_148))] → va_S A s.heap H locs → lv_has ls 3 [(1, .int (nI i_162)), (0, .ref Mm)] → W p l e (headSpec wsX7_net ({ frames := 6, cells := 0, slots := 0, locals := 133 })).room s m ([.ref Mm] : List Value).toArray below meth c H locs 0 0 Q (F0 m 104 ls []) := by
                clear hP hD hS hl
                intro Nloop_169
                induction Nloop_169 with
                | zero => intro i_162 F_163 hF_163 hbi_162 hm9; exact absurd hm9 (Nat.not_lt_zero _)
                | succ Nloop_169 loop_169_ih =>
                  intro i_162 F_163 hF_163 hbi_162 hmloop_169 H locs ls hP hD hS hl
                  refine lv_iload_n hx hb dX7_net_104 rfl (lv_at hl 0 rfl) ?_
                  refine lv_iconst (v := 3) hx hb dX7_net_105 (by decide) ?_
                  refine lv_icmp_ge (tgt := 127) hx hb dX7_net_106 (by decide) (fun cb_170 => ?_) (fun cb_170 => ?_)
                  · skip
                    have cn_171 : 3 ≤ i_162 := (nI_leI (show 3 < 2 ^ 31 by omega) (show i_162 < 2 ^ 31 by omega)).mp cb_170
                    refine lv_iconst (v := 0) hx hb dX7_net_127 (by decide) ?_
                    refine lv_istore_n (lv' := [(1, .int 0), (0, .ref Mm)]) hx hb dX7_net_128 rfl hl (by decide) rfl (fun ls hl => ?_)
                    have loop_188 : ∀ (Nloop_188 : Nat) (i_177 : Nat) (F_178 : Nat → Int32) (F_179 : Nat → Int32) (hF_178 : mOK tb ub F_178) (hF_179 : n3 F_179) (hbi_177 : i_177 ≤ rhx_4) (hmloop_188 : rhx_4 - i_177 < Nloop_188) (H : Heap) (locs : List Loc) (ls : Array Slot), va_P D vwCl [(Mn, .inl (g 0, 1767, .inl F_178)), (Mr, .inl (g 0, 3, .inl F_163)), (Mh, .inl (g 0, 9, .inl F_179)), (Mt, .inl (g 0, 160, .inl fmt)), (Mrr, .inl (g 0, 3, .inl frrx_6)), (Mrh, .inl (g 0, 9, .inl frhx_7)), (Mm, .inr (7, [.int 0, .ref Mt, .int 0, .int zmax_2, .int (-1), .ref Mrr, .ref Mrh, .ref Mrc, .int (nI rhx_4), .int 1, .ref Mn, .ref Mf, .ref Mr, .ref Mh, .int (nI rhx_4), .int 1, .ref Ma, .ref Mas, .ref Msn, .ref Mac, .ref Mat])), (Mrc, .inl (g 0, 9, .inl frcx_148))] H → va_D A [(Mn, .inl (g 0, 1767, .inl F_178)), (Mr, .inl (g 0, 3, .inl F_163)), (Mh, .inl (g 0, 9, .inl F_179)), (Mt, .inl (g 0, 160, .inl fmt)), (Mrr, .inl (g 0, 3, .inl frrx_6)), (Mrh, .inl (g 0, 9, .inl frhx_7)), (Mm, .inr (7, [.int 0, .ref Mt, .int 0, .int zmax_2, .int (-1), .ref Mrr, .ref Mrh, .ref Mrc, .int (nI rhx_4), .int 1, .ref Mn, .ref Mf, .ref Mr, .ref Mh, .int (nI rhx_4), .int 1, .ref Ma, .ref Mas, .ref Msn, .ref Mac, .ref Mat])), (Mrc, .inl (g 0, 9, .inl frcx_148))] → va_S A s.heap H locs → lv_has ls 3 [(1, .int (nI i_177)), (0, .ref Mm)] → W p l e (headSpec wsX7_net ({ frames := 6, cells := 0, slots := 0, locals := 133 })).room s m ([.ref Mm] : List Value).toArray below meth c H locs 0 0 Q (F0 m 129 ls []) := by
                      clear hP hD hS hl
                      intro Nloop_188
                      induction Nloop_188 with
                      | zero => intro i_177 F_178 F_179 hF_178 hF_179 hbi_177 hm9; exact absurd hm9 (Nat.not_lt_zero _)
                      | succ Nloop_188 loop_188_ih =>
                        intro i_177 F_178 F_179 hF_178 hF_179 hbi_177 hmloop_188 H locs ls hP hD hS hl
                        refine lv_iload_n hx hb dX7_net_129 rfl (lv_at hl 0 rfl) ?_
                        refine lv_aload_n hx hb dX7_net_130 rfl (lv_at hl 1 rfl) ?_
                        refine va_get (D := D) (ci := 7) (v := .int (nI rhx_4)) (C := RX7) (T := TX7) (N := 21) hx hb hts iX7 hown hK hP 6 rfl rfl 14 (by decide) f124 (fun _ h9 => h9) rfl dX7_net_131 ?_
                        refine lv_icmp_ge (tgt := 148) hx hb dX7_net_134 (by decide) (fun cb_189 => ?_) (fun cb_189 => ?_)
                        · skip
                          have cn_190 : rhx_4 ≤ i_177 := (nI_leI (show rhx_4 < 2 ^ 31 by omega) (show i_177 < 2 ^ 31 by omega)).mp cb_189
                          refine lv_iconst (v := 0) hx hb dX7_net_148 (by decide) ?_
                          refine lv_istore_n (lv' := [(1, .int 0), (0, .ref Mm)]) hx hb dX7_net_149 rfl hl (by decide) rfl (fun ls hl => ?_)
                          have loop_240 : ∀ (Nloop_240 : Nat) (i_213 : Nat) (F_214 : Nat → Int32) (hF_214 : mOK tb ub F_214) (hbi_213 : i_213 ≤ 1) (hmloop_240 : 1 - i_213 < Nloop_240) (H : Heap) (locs : List Loc) (ls : Array Slot), va_P D vwCl [(Mn, .inl (g 0, 1767, .inl F_214)), (Mr, .inl (g 0, 3, .inl F_163)), (Mh, .inl (g 0, 9, .inl F_179)), (Mt, .inl (g 0, 160, .inl fmt)), (Mrr, .inl (g 0, 3, .inl frrx_6)), (Mrh, .inl (g 0, 9, .inl frhx_7)), (Mm, .inr (7, [.int 0, .ref Mt, .int 0, .int zmax_2, .int (-1), .ref Mrr, .ref Mrh, .ref Mrc, .int (nI rhx_4), .int 1, .ref Mn, .ref Mf, .ref Mr, .ref Mh, .int (nI rhx_4), .int 1, .ref Ma, .ref Mas, .ref Msn, .ref Mac, .ref Mat])), (Mrc, .inl (g 0, 9, .inl frcx_148))] H → va_D A [(Mn, .inl (g 0, 1767, .inl F_214)), (Mr, .inl (g 0, 3, .inl F_163)), (Mh, .inl (g 0, 9, .inl F_179)), (Mt, .inl (g 0, 160, .inl fmt)), (Mrr, .inl (g 0, 3, .inl frrx_6)), (Mrh, .inl (g 0, 9, .inl frhx_7)), (Mm, .inr (7, [.int 0, .ref Mt, .int 0, .int zmax_2, .int (-1), .ref Mrr, .ref Mrh, .ref Mrc, .int (nI rhx_4), .int 1, .ref Mn, .ref Mf, .ref Mr, .ref Mh, .int (nI rhx_4), .int 1, .ref Ma, .ref Mas, .ref Msn, .ref Mac, .ref Mat])), (Mrc, .inl (g 0, 9, .inl frcx_148))] → va_S A s.heap H locs → lv_has ls 3 [(1, .int (nI i_213)), (0, .ref Mm)] → W p l e (headSpec wsX7_net ({ frames := 6, cells := 0, slots := 0, locals := 133 })).room s m ([.ref Mm] : List Value).toArray below meth c H locs 0 0 Q (F0 m 150 ls []) := by
                            clear hP hD hS hl
                            intro Nloop_240
                            induction Nloop_240 with
                            | zero => intro i_213 F_214 hF_214 hbi_213 hm9; exact absurd hm9 (Nat.not_lt_zero _)
                            | succ Nloop_240 loop_240_ih =>
                              intro i_213 F_214 hF_214 hbi_213 hmloop_240 H locs ls hP hD hS hl
                              refine lv_iload_n hx hb dX7_net_150 rfl (lv_at hl 0 rfl) ?_
                              refine lv_aload_n hx hb dX7_net_151 rfl (lv_at hl 1 rfl) ?_
                              refine va_get (D := D) (ci := 7) (v := .int 1) (C := RX7) (T := TX7) (N := 21) hx hb hts iX7 hown hK hP 6 rfl rfl 15 (by decide) f127 (fun _ h9 => h9) rfl dX7_net_152 ?_
                              refine lv_icmp_ge (tgt := 211) hx hb dX7_net_155 (by decide) (fun cb_241 => ?_) (fun cb_241 => ?_)
                              · skip
                                have cn_242 : 1 ≤ i_213 := (nI_leI (show 1 < 2 ^ 31 by omega) (show i_213 < 2 ^ 31 by omega)).mp cb_241
                                refine lv_aload_n hx hb dX7_net_211 rfl (lv_at hl 1 rfl) ?_
                                refine va_get (D := D) (ci := 7) (v := .int 1) (C := RX7) (T := TX7) (N := 21) hx hb hts iX7 hown hK hP 6 rfl rfl 15 (by decide) f127 (fun _ h9 => h9) rfl dX7_net_212 ?_
                                have hPD9 : PD D A [(Mm, .inr (7, [.int 0, .ref Mt, .int 0, .int zmax_2, .int (-1), .ref Mrr, .ref Mrh, .ref Mrc, .int (nI rhx_4), .int 1, .ref Mn, .ref Mf, .ref Mr, .ref Mh, .int (nI rhx_4), .int 1, .ref Ma, .ref Mas, .ref Msn, .ref Mac, .ref Mat])), (Mt, .inl (g 0, 160, .inl fmt)), (Mrr, .inl (g 0, 3, .inl frrx_6)), (Mrh, .inl (g 0, 9, .inl frhx_7)), (Mrc, .inl (g 0, 9, .inl frcx_148)), (Mn, .inl (g 0, 1767, .inl F_214)), (Mr, .inl (g 0, 3, .inl F_163)), (Mh, .inl (g 0, 9, .inl F_179))] H := ⟨hP.sub [6, 3, 4, 5, 7, 0, 1, 2] rfl, hD.sub [6, 3, 4, 5, 7, 0, 1, 2] (by decide) rfl⟩
                                have hP9 := hPD9.1; have hD9 := hPD9.2
                                subst hQ
                                refine W.widen (k := 0) (n := 0) (Nat.le_of_ble_eq_true rfl) (Nat.le_of_ble_eq_true rfl) ?_
                                exact W.iret (v := 1) hx hb hr (fun tS htS _ => ⟨⟨_, _, rfl, ⟨(lf2 [frrx_6, frhx_7, frcx_148, F_214, F_163, F_179]), 0, 0, zmax_2, (-1), (nI rhx_4), 1, rhx_4, 1, 1, rfl, rfl, ⟨(hf_9.1), (hf_9.2.1), (hf_149), (hF_214), (hF_163), (hF_179), (show rhx_4 ≤ 3 by omega), (show 1 ≤ 3 by omega), (show (rhx_4 = 0 ∧ 1 = 0) ∨ (1 ≤ rhx_4 ∧ 1 ≤ 1) by omega), (show 0 ≤ 160 by omega), nt_yes (cc := 1) hf_9.2.2.2.2.2 rfl (by omega)⟩⟩, by rw [htS]; exact hP9, hD9⟩, hS.F htS⟩) hS.2.2 dX7_net_215
                              · skip
                                have cn_243 : i_213 < 1 := Nat.lt_of_not_le (fun q9 => cb_241 ((nI_leI (show 1 < 2 ^ 31 by omega) (show i_213 < 2 ^ 31 by omega)).mpr q9))
                                refine lv_iconst (v := 0) hx hb dX7_net_158 (by decide) ?_
                                refine lv_istore_n (lv' := [(2, .int 0), (1, .int (nI i_213)), (0, .ref Mm)]) hx hb dX7_net_159 rfl hl (by decide) rfl (fun ls hl => ?_)
                                have loop_257 : ∀ (Nloop_257 : Nat) (i_247 : Nat) (F_248 : Nat → Int32) (hF_248 : mOK tb ub F_248) (hbi_247 : i_247 ≤ 3) (hmloop_257 : 3 - i_247 < Nloop_257) (H : Heap) (locs : List Loc) (ls : Array Slot), va_P D vwCl [(Mn, .inl (g 0, 1767, .inl F_248)), (Mr, .inl (g 0, 3, .inl F_163)), (Mh, .inl (g 0, 9, .inl F_179)), (Mt, .inl (g 0, 160, .inl fmt)), (Mrr, .inl (g 0, 3, .inl frrx_6)), (Mrh, .inl (g 0, 9, .inl frhx_7)), (Mm, .inr (7, [.int 0, .ref Mt, .int 0, .int zmax_2, .int (-1), .ref Mrr, .ref Mrh, .ref Mrc, .int (nI rhx_4), .int 1, .ref Mn, .ref Mf, .ref Mr, .ref Mh, .int (nI rhx_4), .int 1, .ref Ma, .ref Mas, .ref Msn, .ref Mac, .ref Mat])), (Mrc, .inl (g 0, 9, .inl frcx_148))] H → va_D A [(Mn, .inl (g 0, 1767, .inl F_248)), (Mr, .inl (g 0, 3, .inl F_163)), (Mh, .inl (g 0, 9, .inl F_179)), (Mt, .inl (g 0, 160, .inl fmt)), (Mrr, .inl (g 0, 3, .inl frrx_6)), (Mrh, .inl (g 0, 9, .inl frhx_7)), (Mm, .inr (7, [.int 0, .ref Mt, .int 0, .int zmax_2, .int (-1), .ref Mrr, .ref Mrh, .ref Mrc, .int (nI rhx_4), .int 1, .ref Mn, .ref Mf, .ref Mr, .ref Mh, .int (nI rhx_4), .int 1, .ref Ma, .ref Mas, .ref Msn, .ref Mac, .ref Mat])), (Mrc, .inl (g 0, 9, .inl frcx_148))] → va_S A s.heap H locs → lv_has ls 3 [(2, .int (nI i_247)), (1, .int (nI i_213)), (0, .ref Mm)] → W p l e (headSpec wsX7_net ({ frames := 6, cells := 0, slots := 0, locals := 133 })).room s m ([.ref Mm] : List Value).toArray below meth c H locs 0 0 Q (F0 m 160 ls []) := by
                                  clear hP hD hS hl
                                  intro Nloop_257
                                  induction Nloop_257 with
                                  | zero => intro i_247 F_248 hF_248 hbi_247 hm9; exact absurd hm9 (Nat.not_lt_zero _)
                                  | succ Nloop_257 loop_257_ih =>
                                    intro i_247 F_248 hF_248 hbi_247 hmloop_257 H locs ls hP hD hS hl
                                    refine lv_iload_n hx hb dX7_net_160 rfl (lv_at hl 0 rfl) ?_
                                    refine lv_iconst (v := 3) hx hb dX7_net_161 (by decide) ?_
                                    refine lv_icmp_ge (tgt := 192) hx hb dX7_net_162 (by decide) (fun cb_258 => ?_) (fun cb_258 => ?_)
                                    · skip
                                      have cn_259 : 3 ≤ i_247 := (nI_leI (show 3 < 2 ^ 31 by omega) (show i_247 < 2 ^ 31 by omega)).mp cb_258
                                      refine lv_aload_n hx hb dX7_net_192 rfl (lv_at hl 2 rfl) ?_
                                      refine va_get (D := D) (ci := 7) (v := .ref Mn) (C := RX7) (T := TX7) (N := 21) hx hb hts iX7 hown hK hP 6 rfl rfl 10 (by decide) f22 (fun _ h9 => h9) rfl dX7_net_193 ?_
                                      refine lv_iload_n hx hb dX7_net_196 rfl (lv_at hl 1 rfl) ?_
                                      refine ky_Si (As := [.int (nI i_213)]) (rest := [.ref Mn]) ⟨hx, hb, hml, hown, hts⟩ ⟨hK, hN⟩ hZ hP hD hS hA [] [0, 1, 2, 3, 4, 5, 6, 7] (wc := []) (wr := [(Mn, .inl (g 0, 1767, .inl F_248)), (Mr, .inl (g 0, 3, .inl F_163)), (Mh, .inl (g 0, 9, .inl F_179)), (Mt, .inl (g 0, 160, .inl fmt)), (Mrr, .inl (g 0, 3, .inl frrx_6)), (Mrh, .inl (g 0, 9, .inl frhx_7)), (Mm, .inr (7, [.int 0, .ref Mt, .int 0, .int zmax_2, .int (-1), .ref Mrr, .ref Mrh, .ref Mrc, .int (nI rhx_4), .int 1, .ref Mn, .ref Mf, .ref Mr, .ref Mh, .int (nI rhx_4), .int 1, .ref Ma, .ref Mas, .ref Msn, .ref Mac, .ref Mat])), (Mrc, .inl (g 0, 9, .inl frcx_148))]) rfl rfl rfl rfl (by decide) (k_X7_circuitAt l D g H.size i_213 (show i_213 < 3 by omega)) (va_cwS 1 hts gX7_net_X7_circuitAt rfl rfl rfl (by decide +kernel) ⟨(Nat.le_of_ble_eq_true rfl), (Nat.le_of_ble_eq_true rfl)⟩) rfl hl.1 rfl (Nat.le_of_ble_eq_true rfl) dX7_net_197 ⟨(Nat.le_of_ble_eq_true rfl), (Nat.le_of_ble_eq_true rfl)⟩ (fun r_260 u H locs hw hP2 hD2 hS2 => ?_)
                                      clear hP hD hS
                                      obtain ⟨rfl, rfl⟩ := hw
                                      have hPD : PD D A [(Mn, .inl (g 0, 1767, .inl F_248)), (Mr, .inl (g 0, 3, .inl F_163)), (Mh, .inl (g 0, 9, .inl F_179)), (Mt, .inl (g 0, 160, .inl fmt)), (Mrr, .inl (g 0, 3, .inl frrx_6)), (Mrh, .inl (g 0, 9, .inl frhx_7)), (Mm, .inr (7, [.int 0, .ref Mt, .int 0, .int zmax_2, .int (-1), .ref Mrr, .ref Mrh, .ref Mrc, .int (nI rhx_4), .int 1, .ref Mn, .ref Mf, .ref Mr, .ref Mh, .int (nI rhx_4), .int 1, .ref Ma, .ref Mas, .ref Msn, .ref Mac, .ref Mat])), (Mrc, .inl (g 0, 9, .inl frcx_148))] H := ⟨hP2, hD2⟩
                                      have hS := hS2; clear hP2 hD2 hS2; have hP := hPD.1; have hD := hPD.2; clear hPD
                                      refine W.widen (k := 0) (n := 0) (Nat.le_of_ble_eq_true rfl) (Nat.le_of_ble_eq_true rfl) ?_
                                      refine lv_bipush (v := 6) hx hb dX7_net_200 (by decide) ?_
                                      refine lv_iadd hx hb dX7_net_202 ?_
                                      refine lv_eqi (y := (nI (201 + 9 * i_213 + 6))) (nI_add (201 + 9 * i_213) (6)) ?_
                                      refine lv_iconst (v := (-1)) hx hb dX7_net_203 (by decide) ?_
                                      refine va_iast hx hb hK hP hD hS 0 0 rfl rfl (vp_in_nI (show 201 + 9 * i_213 + 6 < 1767 by omega) (by decide)) dX7_net_204 (fun H locs hP2 hD2 hS2 => ?_)
                                      clear hP hD hS
                                      have hPD : PD D A [(Mn, .inl (g 0, 1767, .inl (upd F_248 (nI (201 + 9 * i_213 + 6)).toNatClampNeg (-1)))), (Mr, .inl (g 0, 3, .inl F_163)), (Mh, .inl (g 0, 9, .inl F_179)), (Mt, .inl (g 0, 160, .inl fmt)), (Mrr, .inl (g 0, 3, .inl frrx_6)), (Mrh, .inl (g 0, 9, .inl frhx_7)), (Mm, .inr (7, [.int 0, .ref Mt, .int 0, .int zmax_2, .int (-1), .ref Mrr, .ref Mrh, .ref Mrc, .int (nI rhx_4), .int 1, .ref Mn, .ref Mf, .ref Mr, .ref Mh, .int (nI rhx_4), .int 1, .ref Ma, .ref Mas, .ref Msn, .ref Mac, .ref Mat])), (Mrc, .inl (g 0, 9, .inl frcx_148))] H := ⟨hP2, hD2⟩
                                      have hS := hS2; clear hP2 hD2 hS2; have hP := hPD.1; have hD := hPD.2; clear hPD
                                      rw [nI_clamp (show 201 + 9 * i_213 + 6 < 2 ^ 31 by omega)] at hP hD
                                      have hPD : PD D A [(Mn, .inl (g 0, 1767, .inl (upd F_248 (201 + 9 * i_213 + 6) (-1)))), (Mr, .inl (g 0, 3, .inl F_163)), (Mh, .inl (g 0, 9, .inl F_179)), (Mt, .inl (g 0, 160, .inl fmt)), (Mrr, .inl (g 0, 3, .inl frrx_6)), (Mrh, .inl (g 0, 9, .inl frhx_7)), (Mm, .inr (7, [.int 0, .ref Mt, .int 0, .int zmax_2, .int (-1), .ref Mrr, .ref Mrh, .ref Mrc, .int (nI rhx_4), .int 1, .ref Mn, .ref Mf, .ref Mr, .ref Mh, .int (nI rhx_4), .int 1, .ref Ma, .ref Mas, .ref Msn, .ref Mac, .ref Mat])), (Mrc, .inl (g 0, 9, .inl frcx_148))] H := ⟨hP, hD⟩
                                      clear hP hD; have hP := hPD.1; have hD := hPD.2; clear hPD
                                      have hF_261 : mOK tb ub (upd F_248 (201 + 9 * i_213 + 6) (-1)) := mOK_free hF_248 (show mfree (201 + 9 * i_213 + 6) by unfold mfree; omega)
                                      generalize upd F_248 (201 + 9 * i_213 + 6) (-1) = F_261 at hP hD hF_261
                                      refine lv_iinc (v := (nI (i_213 + 1))) (lv' := [(1, .int (nI (i_213 + 1))), (2, .int (nI i_247)), (0, .ref Mm)]) hx hb dX7_net_205 hl (k := 1) rfl (nI_1 (i_213)) (by decide) rfl (fun ls hl => ?_)
                                      refine lv_goto (tgt := 150) hx hb dX7_net_208 (by decide) ?_
                                      exact loop_240_ih (i_213 + 1) F_261 (hF_261) (show (i_213 + 1) ≤ 1 by omega) (show 1 - (i_213 + 1) < Nloop_240 by omega) _ _ _ hP hD hS (lv_sub hl [0, 2] rfl)
                                    · skip
                                      have cn_262 : i_247 < 3 := Nat.lt_of_not_le (fun q9 => cb_258 ((nI_leI (show 3 < 2 ^ 31 by omega) (show i_247 < 2 ^ 31 by omega)).mpr q9))
                                      refine lv_aload_n hx hb dX7_net_165 rfl (lv_at hl 2 rfl) ?_
                                      refine va_get (D := D) (ci := 7) (v := .ref Mn) (C := RX7) (T := TX7) (N := 21) hx hb hts iX7 hown hK hP 6 rfl rfl 10 (by decide) f22 (fun _ h9 => h9) rfl dX7_net_166 ?_
                                      refine lv_iload_n hx hb dX7_net_169 rfl (lv_at hl 1 rfl) ?_
                                      refine ky_Si (As := [.int (nI i_213)]) (rest := [.ref Mn]) ⟨hx, hb, hml, hown, hts⟩ ⟨hK, hN⟩ hZ hP hD hS hA [] [0, 1, 2, 3, 4, 5, 6, 7] (wc := []) (wr := [(Mn, .inl (g 0, 1767, .inl F_248)), (Mr, .inl (g 0, 3, .inl F_163)), (Mh, .inl (g 0, 9, .inl F_179)), (Mt, .inl (g 0, 160, .inl fmt)), (Mrr, .inl (g 0, 3, .inl frrx_6)), (Mrh, .inl (g 0, 9, .inl frhx_7)), (Mm, .inr (7, [.int 0, .ref Mt, .int 0, .int zmax_2, .int (-1), .ref Mrr, .ref Mrh, .ref Mrc, .int (nI rhx_4), .int 1, .ref Mn, .ref Mf, .ref Mr, .ref Mh, .int (nI rhx_4), .int 1, .ref Ma, .ref Mas, .ref Msn, .ref Mac, .ref Mat])), (Mrc, .inl (g 0, 9, .inl frcx_148))]) rfl rfl rfl rfl (by decide) (k_X7_circuitAt l D g H.size i_213 (show i_213 < 3 by omega)) (va_cwS 1 hts gX7_net_X7_circuitAt rfl rfl rfl (by decide +kernel) ⟨(Nat.le_of_ble_eq_true rfl), (Nat.le_of_ble_eq_true rfl)⟩) rfl hl.1 rfl (Nat.le_of_ble_eq_true rfl) dX7_net_170 ⟨(Nat.le_of_ble_eq_true rfl), (Nat.le_of_ble_eq_true rfl)⟩ (fun r_263 u H locs hw hP2 hD2 hS2 => ?_)
                                      clear hP hD hS
                                      obtain ⟨rfl, rfl⟩ := hw
                                      have hPD : PD D A [(Mn, .inl (g 0, 1767, .inl F_248)), (Mr, .inl (g 0, 3, .inl F_163)), (Mh, .inl (g 0, 9, .inl F_179)), (Mt, .inl (g 0, 160, .inl fmt)), (Mrr, .inl (g 0, 3, .inl frrx_6)), (Mrh, .inl (g 0, 9, .inl frhx_7)), (Mm, .inr (7, [.int 0, .ref Mt, .int 0, .int zmax_2, .int (-1), .ref Mrr, .ref Mrh, .ref Mrc, .int (nI rhx_4), .int 1, .ref Mn, .ref Mf, .ref Mr, .ref Mh, .int (nI rhx_4), .int 1, .ref Ma, .ref Mas, .ref Msn, .ref Mac, .ref Mat])), (Mrc, .inl (g 0, 9, .inl frcx_148))] H := ⟨hP2, hD2⟩
                                      have hS := hS2; clear hP2 hD2 hS2; have hP := hPD.1; have hD := hPD.2; clear hPD
                                      refine W.widen (k := 0) (n := 0) (Nat.le_of_ble_eq_true rfl) (Nat.le_of_ble_eq_true rfl) ?_
                                      refine lv_iload_n hx hb dX7_net_173 rfl (lv_at hl 0 rfl) ?_
                                      refine lv_iadd hx hb dX7_net_174 ?_
                                      refine lv_eqi (y := (nI (201 + 9 * i_213 + i_247))) (nI_add (201 + 9 * i_213) (i_247)) ?_
                                      refine lv_aload_n hx hb dX7_net_175 rfl (lv_at hl 2 rfl) ?_
                                      refine va_get (D := D) (ci := 7) (v := .ref Mrc) (C := RX7) (T := TX7) (N := 21) hx hb hts iX7 hown hK hP 6 rfl rfl 7 (by decide) f19 (fun _ h9 => h9) rfl dX7_net_176 ?_
                                      refine lv_iconst (v := 3) hx hb dX7_net_179 (by decide) ?_
                                      refine lv_iload_n hx hb dX7_net_180 rfl (lv_at hl 1 rfl) ?_
                                      refine lv_imul hx hb dX7_net_181 ?_
                                      refine lv_eqi (y := (nI (3 * i_213))) (pk_mul (3) (i_213)) ?_
                                      refine lv_iload_n hx hb dX7_net_182 rfl (lv_at hl 0 rfl) ?_
                                      refine lv_iadd hx hb dX7_net_183 ?_
                                      refine lv_eqi (y := (nI (3 * i_213 + i_247))) (nI_add (3 * i_213) (i_247)) ?_
                                      refine va_iald hx hb hK hP 7 0 rfl rfl (vp_in_nI (show 3 * i_213 + i_247 < 9 by omega) (by decide)) dX7_net_184 ?_
                                      refine lv_eqi (y := (frcx_148 (3 * i_213 + i_247))) (congrArg frcx_148 (nI_clamp (show 3 * i_213 + i_247 < 2 ^ 31 by omega))) ?_
                                      obtain ⟨n_264, hn_264, q9⟩ := hf_149 (3 * i_213 + i_247)
                                      refine lv_eqi (y := nI n_264) q9 ?_
                                      refine va_iast hx hb hK hP hD hS 0 0 rfl rfl (vp_in_nI (show 201 + 9 * i_213 + i_247 < 1767 by omega) (by decide)) dX7_net_185 (fun H locs hP2 hD2 hS2 => ?_)
                                      clear hP hD hS
                                      have hPD : PD D A [(Mn, .inl (g 0, 1767, .inl (upd F_248 (nI (201 + 9 * i_213 + i_247)).toNatClampNeg (nI n_264)))), (Mr, .inl (g 0, 3, .inl F_163)), (Mh, .inl (g 0, 9, .inl F_179)), (Mt, .inl (g 0, 160, .inl fmt)), (Mrr, .inl (g 0, 3, .inl frrx_6)), (Mrh, .inl (g 0, 9, .inl frhx_7)), (Mm, .inr (7, [.int 0, .ref Mt, .int 0, .int zmax_2, .int (-1), .ref Mrr, .ref Mrh, .ref Mrc, .int (nI rhx_4), .int 1, .ref Mn, .ref Mf, .ref Mr, .ref Mh, .int (nI rhx_4), .int 1, .ref Ma, .ref Mas, .ref Msn, .ref Mac, .ref Mat])), (Mrc, .inl (g 0, 9, .inl frcx_148))] H := ⟨hP2, hD2⟩
                                      have hS := hS2; clear hP2 hD2 hS2; have hP := hPD.1; have hD := hPD.2; clear hPD
                                      rw [nI_clamp (show 201 + 9 * i_213 + i_247 < 2 ^ 31 by omega)] at hP hD
                                      have hPD : PD D A [(Mn, .inl (g 0, 1767, .inl (upd F_248 (201 + 9 * i_213 + i_247) (nI n_264)))), (Mr, .inl (g 0, 3, .inl F_163)), (Mh, .inl (g 0, 9, .inl F_179)), (Mt, .inl (g 0, 160, .inl fmt)), (Mrr, .inl (g 0, 3, .inl frrx_6)), (Mrh, .inl (g 0, 9, .inl frhx_7)), (Mm, .inr (7, [.int 0, .ref Mt, .int 0, .int zmax_2, .int (-1), .ref Mrr, .ref Mrh, .ref Mrc, .int (nI rhx_4), .int 1, .ref Mn, .ref Mf, .ref Mr, .ref Mh, .int (nI rhx_4), .int 1, .ref Ma, .ref Mas, .ref Msn, .ref Mac, .ref Mat])), (Mrc, .inl (g 0, 9, .inl frcx_148))] H := ⟨hP, hD⟩
                                      clear hP hD; have hP := hPD.1; have hD := hPD.2; clear hPD
                                      have hF_265 : mOK tb ub (upd F_248 (201 + 9 * i_213 + i_247) (nI n_264)) := mOK_free hF_248 (show mfree (201 + 9 * i_213 + i_247) by unfold mfree; omega)
                                      generalize upd F_248 (201 + 9 * i_213 + i_247) (nI n_264) = F_265 at hP hD hF_265
                                      refine lv_iinc (v := (nI (i_247 + 1))) (lv' := [(2, .int (nI (i_247 + 1))), (1, .int (nI i_213)), (0, .ref Mm)]) hx hb dX7_net_186 hl (k := 0) rfl (nI_1 (i_247)) (by decide) rfl (fun ls hl => ?_)
                                      refine lv_goto (tgt := 160) hx hb dX7_net_189 (by decide) ?_
                                      exact loop_257_ih (i_247 + 1) F_265 (hF_265) (show (i_247 + 1) ≤ 3 by omega) (show 3 - (i_247 + 1) < Nloop_257 by omega) _ _ _ hP hD hS hl
                                exact loop_257 _ 0 F_214 (hF_214) (show 0 ≤ 3 by omega) (Nat.lt_succ_self _) _ _ _ hP hD hS hl
                          exact loop_240 _ 0 F_178 (hF_178) (show 0 ≤ 1 by omega) (Nat.lt_succ_self _) _ _ _ hP hD hS hl
                        · skip
                          have cn_266 : i_177 < rhx_4 := Nat.lt_of_not_le (fun q9 => cb_189 ((nI_leI (show rhx_4 < 2 ^ 31 by omega) (show i_177 < 2 ^ 31 by omega)).mpr q9))
                          refine lv_aload_n hx hb dX7_net_137 rfl (lv_at hl 1 rfl) ?_
                          refine lv_iload_n hx hb dX7_net_138 rfl (lv_at hl 0 rfl) ?_
                          refine ky_Vv (As := [.int (nI i_177)]) (rest := []) ⟨hx, hb, hml, hown, hts⟩ ⟨hK, hN⟩ hZ hP hD hS hA [6, 0, 2, 1, 5] [3, 4, 7] (wc := [(Mm, .inr (7, [.int 0, .ref Mt, .int 0, .int zmax_2, .int (-1), .ref Mrr, .ref Mrh, .ref Mrc, .int (nI rhx_4), .int 1, .ref Mn, .ref Mf, .ref Mr, .ref Mh, .int (nI rhx_4), .int 1, .ref Ma, .ref Mas, .ref Msn, .ref Mac, .ref Mat])), (Mn, .inl (g 0, 1767, .inl F_178)), (Mh, .inl (g 0, 9, .inl F_179)), (Mr, .inl (g 0, 3, .inl F_163)), (Mrh, .inl (g 0, 9, .inl frhx_7))]) (wr := [(Mt, .inl (g 0, 160, .inl fmt)), (Mrr, .inl (g 0, 3, .inl frrx_6)), (Mrc, .inl (g 0, 9, .inl frcx_148))]) rfl rfl rfl rfl (by decide) (k_X7_laysHop l D g H.size Mm i_177 0 Mt 0 zmax_2 (-1) Mrr Mrh Mrc (nI rhx_4) 1 Mn Mf Mr Mh rhx_4 1 Ma Mas Msn Mac Mat F_178 F_179 F_163 frhx_7 tb ub (show tb < 2 ^ 29 by omega) (show ub < 2 ^ 29 by omega) (hF_178) (show 1 ≤ rhx_4 by omega) (show rhx_4 ≤ 3 by omega) (show 1 ≤ 1 by omega) (show 1 ≤ 3 by omega) (show i_177 < 3 by omega) (hF_179) (hf_9.2.1) (hF_163)) (cwV 1 hts gX7_net_X7_laysHop rfl rfl rfl (by decide +kernel) ⟨(Nat.le_of_ble_eq_true rfl), (Nat.le_of_ble_eq_true rfl)⟩) 6 7 rfl rfl rfl rfl hl.1 rfl (Nat.le_of_ble_eq_true rfl) dX7_net_139 ⟨(Nat.le_of_ble_eq_true rfl), (Nat.le_of_ble_eq_true rfl)⟩ (fun u H locs hw hP2 hD2 hS2 => ?_)
                          clear hP hD hS
                          obtain ⟨fnox_268, fmhx_269, rfl, hf_270, hf_271⟩ := hw
                          have hPD : PD D A [(Mt, .inl (g 0, 160, .inl fmt)), (Mrr, .inl (g 0, 3, .inl frrx_6)), (Mrc, .inl (g 0, 9, .inl frcx_148)), (Mm, .inr (7, [.int 0, .ref Mt, .int (nI 0), .int zmax_2, .int (-1), .ref Mrr, .ref Mrh, .ref Mrc, .int (nI rhx_4), .int 1, .ref Mn, .ref Mf, .ref Mr, .ref Mh, .int (nI rhx_4), .int (nI 1), .ref Ma, .ref Mas, .ref Msn, .ref Mac, .ref Mat])), (Mn, .inl (g 0, 1767, .inl fnox_268)), (Mh, .inl (g 0, 9, .inl fmhx_269)), (Mr, .inl (g 0, 3, .inl F_163)), (Mrh, .inl (g 0, 9, .inl frhx_7))] H := ⟨hP2, hD2⟩
                          have hS := hS2; clear hP2 hD2 hS2; have hP := hPD.1; have hD := hPD.2; clear hPD
                          refine W.widen (k := 0) (n := 0) (Nat.le_of_ble_eq_true rfl) (Nat.le_of_ble_eq_true rfl) ?_
                          refine lv_iinc (v := (nI (i_177 + 1))) (lv' := [(1, .int (nI (i_177 + 1))), (0, .ref Mm)]) hx hb dX7_net_142 hl (k := 0) rfl (nI_1 (i_177)) (by decide) rfl (fun ls hl => ?_)
                          refine lv_goto (tgt := 129) hx hb dX7_net_145 (by decide) ?_
                          exact loop_188_ih (i_177 + 1) fnox_268 fmhx_269 (hf_270) (hf_271) (show (i_177 + 1) ≤ rhx_4 by omega) (show rhx_4 - (i_177 + 1) < Nloop_188 by omega) _ _ _ (hP.sub [4, 6, 5, 0, 1, 7, 3, 2] rfl) (hD.sub [4, 6, 5, 0, 1, 7, 3, 2] (by decide) rfl) hS hl
                    exact loop_188 _ 0 F_152 fmh (hF_152) (h8) (show 0 ≤ rhx_4 by omega) (Nat.lt_succ_self _) _ _ _ hP hD hS hl
                  · skip
                    have cn_272 : i_162 < 3 := Nat.lt_of_not_le (fun q9 => cb_170 ((nI_leI (show 3 < 2 ^ 31 by omega) (show i_162 < 2 ^ 31 by omega)).mpr q9))
                    refine lv_aload_n hx hb dX7_net_109 rfl (lv_at hl 1 rfl) ?_
                    refine va_get (D := D) (ci := 7) (v := .ref Mr) (C := RX7) (T := TX7) (N := 21) hx hb hts iX7 hown hK hP 6 rfl rfl 12 (by decide) f28 (fun _ h9 => h9) rfl dX7_net_110 ?_
                    refine lv_iload_n hx hb dX7_net_113 rfl (lv_at hl 0 rfl) ?_
                    refine lv_aload_n hx hb dX7_net_114 rfl (lv_at hl 1 rfl) ?_
                    refine va_get (D := D) (ci := 7) (v := .ref Mrr) (C := RX7) (T := TX7) (N := 21) hx hb hts iX7 hown hK hP 6 rfl rfl 5 (by decide) f13 (fun _ h9 => h9) rfl dX7_net_115 ?_
                    refine lv_iload_n hx hb dX7_net_118 rfl (lv_at hl 0 rfl) ?_
                    refine va_iald hx hb hK hP 4 0 rfl rfl (vp_in_nI (show i_162 < 3 by omega) (by decide)) dX7_net_119 ?_
                    refine lv_eqi (y := (frrx_6 (i_162))) (congrArg frrx_6 (nI_clamp (show i_162 < 2 ^ 31 by omega))) ?_
                    obtain ⟨n_273, hn_273, q9⟩ := hf_9.1 (i_162)
                    refine lv_eqi (y := nI n_273) q9 ?_
                    refine va_iast hx hb hK hP hD hS 1 0 rfl rfl (vp_in_nI (show i_162 < 3 by omega) (by decide)) dX7_net_120 (fun H locs hP2 hD2 hS2 => ?_)
                    clear hP hD hS
                    have hPD : PD D A [(Mn, .inl (g 0, 1767, .inl F_152)), (Mr, .inl (g 0, 3, .inl (upd F_163 (nI i_162).toNatClampNeg (nI n_273)))), (Mh, .inl (g 0, 9, .inl fmh)), (Mt, .inl (g 0, 160, .inl fmt)), (Mrr, .inl (g 0, 3, .inl frrx_6)), (Mrh, .inl (g 0, 9, .inl frhx_7)), (Mm, .inr (7, [.int 0, .ref Mt, .int 0, .int zmax_2, .int (-1), .ref Mrr, .ref Mrh, .ref Mrc, .int (nI rhx_4), .int 1, .ref Mn, .ref Mf, .ref Mr, .ref Mh, .int (nI rhx_4), .int 1, .ref Ma, .ref Mas, .ref Msn, .ref Mac, .ref Mat])), (Mrc, .inl (g 0, 9, .inl frcx_148))] H := ⟨hP2, hD2⟩
                    have hS := hS2; clear hP2 hD2 hS2; have hP := hPD.1; have hD := hPD.2; clear hPD
                    rw [nI_clamp (show i_162 < 2 ^ 31 by omega)] at hP hD
                    have hPD : PD D A [(Mn, .inl (g 0, 1767, .inl F_152)), (Mr, .inl (g 0, 3, .inl (upd F_163 (i_162) (nI n_273)))), (Mh, .inl (g 0, 9, .inl fmh)), (Mt, .inl (g 0, 160, .inl fmt)), (Mrr, .inl (g 0, 3, .inl frrx_6)), (Mrh, .inl (g 0, 9, .inl frhx_7)), (Mm, .inr (7, [.int 0, .ref Mt, .int 0, .int zmax_2, .int (-1), .ref Mrr, .ref Mrh, .ref Mrc, .int (nI rhx_4), .int 1, .ref Mn, .ref Mf, .ref Mr, .ref Mh, .int (nI rhx_4), .int 1, .ref Ma, .ref Mas, .ref Msn, .ref Mac, .ref Mat])), (Mrc, .inl (g 0, 9, .inl frcx_148))] H := ⟨hP, hD⟩
                    clear hP hD; have hP := hPD.1; have hD := hPD.2; clear hPD
                    have hF_274 : n1 (upd F_163 (i_162) (nI n_273)) := n1_upd (hF_163) (n := n_273) (show n_273 ≤ 99 by omega)
                    generalize upd F_163 (i_162) (nI n_273) = F_274 at hP hD hF_274
                    refine lv_iinc (v := (nI (i_162 + 1))) (lv' := [(1, .int (nI (i_162 + 1))), (0, .ref Mm)]) hx hb dX7_net_121 hl (k := 0) rfl (nI_1 (i_162)) (by decide) rfl (fun ls hl => ?_)
                    refine lv_goto (tgt := 104) hx hb dX7_net_124 (by decide) ?_
                    exact loop_169_ih (i_162 + 1) F_274 (hF_274) (show (i_162 + 1) ≤ 3 by omega) (show 3 - (i_162 + 1) < Nloop_169 by omega) _ _ _ hP hD hS hl
              exact loop_169 _ 0 fmr (h7) (show 0 ≤ 3 by omega) (Nat.lt_succ_self _) _ _ _ hP hD hS hl
            · skip
              have cn_275 : i_151 < 1767 := Nat.lt_of_not_le (fun q9 => cb_158 ((nI_leI (show 1767 < 2 ^ 31 by omega) (show i_151 < 2 ^ 31 by omega)).mpr q9))
              refine lv_aload_n hx hb dX7_net_89 rfl (lv_at hl 1 rfl) ?_
              refine va_get (D := D) (ci := 7) (v := .ref Mn) (C := RX7) (T := TX7) (N := 21) hx hb hts iX7 hown hK hP 6 rfl rfl 10 (by decide) f22 (fun _ h9 => h9) rfl dX7_net_90 ?_
              refine lv_iload_n hx hb dX7_net_93 rfl (lv_at hl 0 rfl) ?_
              refine lv_iconst (v := 0) hx hb dX7_net_94 (by decide) ?_
              refine va_iast hx hb hK hP hD hS 0 0 rfl rfl (vp_in_nI (show i_151 < 1767 by omega) (by decide)) dX7_net_95 (fun H locs hP2 hD2 hS2 => ?_)
              clear hP hD hS
              have hPD : PD D A [(Mn, .inl (g 0, 1767, .inl (upd F_152 (nI i_151).toNatClampNeg 0))), (Mr, .inl (g 0, 3, .inl fmr)), (Mh, .inl (g 0, 9, .inl fmh)), (Mt, .inl (g 0, 160, .inl fmt)), (Mrr, .inl (g 0, 3, .inl frrx_6)), (Mrh, .inl (g 0, 9, .inl frhx_7)), (Mm, .inr (7, [.int 0, .ref Mt, .int 0, .int zmax_2, .int (-1), .ref Mrr, .ref Mrh, .ref Mrc, .int (nI rhx_4), .int 1, .ref Mn, .ref Mf, .ref Mr, .ref Mh, .int (nI rhx_4), .int 1, .ref Ma, .ref Mas, .ref Msn, .ref Mac, .ref Mat])), (Mrc, .inl (g 0, 9, .inl frcx_148))] H := ⟨hP2, hD2⟩
              have hS := hS2; clear hP2 hD2 hS2; have hP := hPD.1; have hD := hPD.2; clear hPD
              rw [nI_clamp (show i_151 < 2 ^ 31 by omega)] at hP hD
              have hPD : PD D A [(Mn, .inl (g 0, 1767, .inl (upd F_152 (i_151) 0))), (Mr, .inl (g 0, 3, .inl fmr)), (Mh, .inl (g 0, 9, .inl fmh)), (Mt, .inl (g 0, 160, .inl fmt)), (Mrr, .inl (g 0, 3, .inl frrx_6)), (Mrh, .inl (g 0, 9, .inl frhx_7)), (Mm, .inr (7, [.int 0, .ref Mt, .int 0, .int zmax_2, .int (-1), .ref Mrr, .ref Mrh, .ref Mrc, .int (nI rhx_4), .int 1, .ref Mn, .ref Mf, .ref Mr, .ref Mh, .int (nI rhx_4), .int 1, .ref Ma, .ref Mas, .ref Msn, .ref Mac, .ref Mat])), (Mrc, .inl (g 0, 9, .inl frcx_148))] H := ⟨hP, hD⟩
              clear hP hD; have hP := hPD.1; have hD := hPD.2; clear hPD
              have hF_276 : mOK tb ub (upd F_152 (i_151) 0) := mOK_zero hF_152
              generalize upd F_152 (i_151) 0 = F_276 at hP hD hF_276
              refine lv_iinc (v := (nI (i_151 + 1))) (lv' := [(1, .int (nI (i_151 + 1))), (0, .ref Mm)]) hx hb dX7_net_96 hl (k := 0) rfl (nI_1 (i_151)) (by decide) rfl (fun ls hl => ?_)
              refine lv_goto (tgt := 82) hx hb dX7_net_99 (by decide) ?_
              exact loop_157_ih (i_151 + 1) F_276 (hF_276) (show (i_151 + 1) ≤ 1767 by omega) (show 1767 - (i_151 + 1) < Nloop_157 by omega) _ _ _ hP hD hS hl
        exact loop_157 _ 0 fno (h6) (show 0 ≤ 1767 by omega) (Nat.lt_succ_self _) _ _ _ hP hD hS hl
    · skip
      have cn_277 : rhx_4 = 0 := (nI_eq (show rhx_4 < 2 ^ 31 by omega) (show 0 < 2 ^ 31 by omega)).mp cb_15
      refine lv_aload_n hx hb dX7_net_27 rfl (lv_at hl 0 rfl) ?_
      refine lv_iconst (v := 1) hx hb dX7_net_28 (by decide) ?_
      refine lv_aload_n hx hb dX7_net_29 rfl (lv_at hl 0 rfl) ?_
      refine va_get (D := D) (ci := 7) (v := .ref Mrh) (C := RX7) (T := TX7) (N := 21) hx hb hts iX7 hown hK hP 3 rfl rfl 6 (by decide) f16 (fun _ h9 => h9) rfl dX7_net_30 ?_
      refine lv_iconst (v := 0) hx hb dX7_net_33 (by decide) ?_
      refine ky_Vv (As := [.int 1, .ref Mrh, .int 0]) (rest := []) ⟨hx, hb, hml, hown, hts⟩ ⟨hK, hN⟩ hZ hP hD hS hA [3, 6] [0, 1, 2, 4, 5, 7] (wc := [(Mm, .inr (7, [.int 0, .ref Mt, .int 0, .int zmax_2, .int (-1), .ref Mrr, .ref Mrh, .ref Mrc, .int (nI rhx_4), .int (nI rcx_5), .ref Mn, .ref Mf, .ref Mr, .ref Mh, .int (nI hp), .int (nI cc), .ref Ma, .ref Mas, .ref Msn, .ref Mac, .ref Mat])), (Mrh, .inl (g 0, 9, .inl frhx_7))]) (wr := [(Mn, .inl (g 0, 1767, .inl fno)), (Mr, .inl (g 0, 3, .inl fmr)), (Mh, .inl (g 0, 9, .inl fmh)), (Mt, .inl (g 0, 160, .inl fmt)), (Mrr, .inl (g 0, 3, .inl frrx_6)), (Mrc, .inl (g 0, 9, .inl frcx_8))]) rfl rfl rfl rfl (by decide) (k_X7_laysUsual_1 l D g H.size Mm Mrh 0 0 Mt 0 zmax_2 (-1) Mrr Mrc (nI rhx_4) (nI rcx_5) Mn Mf Mr Mh (nI hp) (nI cc) Ma Mas Msn Mac Mat frhx_7 (show 0 ≤ 6 by omega) (hf_9.2.1)) (cwV 3 hts gX7_net_X7_laysUsual rfl rfl rfl (by decide +kernel) ⟨(Nat.le_of_ble_eq_true rfl), (Nat.le_of_ble_eq_true rfl)⟩) 3 7 rfl rfl rfl rfl hl.1 rfl (Nat.le_of_ble_eq_true rfl) dX7_net_34 ⟨(Nat.le_of_ble_eq_true rfl), (Nat.le_of_ble_eq_true rfl)⟩ (fun u H locs hw hP2 hD2 hS2 => ?_)
      clear hP hD hS
      obtain ⟨frhx_279, rfl, hf_280⟩ := hw
      have hPD : PD D A [(Mn, .inl (g 0, 1767, .inl fno)), (Mr, .inl (g 0, 3, .inl fmr)), (Mh, .inl (g 0, 9, .inl fmh)), (Mt, .inl (g 0, 160, .inl fmt)), (Mrr, .inl (g 0, 3, .inl frrx_6)), (Mrc, .inl (g 0, 9, .inl frcx_8)), (Mm, .inr (7, [.int 0, .ref Mt, .int 0, .int zmax_2, .int (-1), .ref Mrr, .ref Mrh, .ref Mrc, .int (nI rhx_4), .int (nI rcx_5), .ref Mn, .ref Mf, .ref Mr, .ref Mh, .int (nI hp), .int (nI cc), .ref Ma, .ref Mas, .ref Msn, .ref Mac, .ref Mat])), (Mrh, .inl (g 0, 9, .inl frhx_279))] H := ⟨hP2, hD2⟩
      have hS := hS2; clear hP2 hD2 hS2; have hP := hPD.1; have hD := hPD.2; clear hPD
      refine W.widen (k := 0) (n := 0) (Nat.le_of_ble_eq_true rfl) (Nat.le_of_ble_eq_true rfl) ?_
      refine lv_aload_n hx hb dX7_net_37 rfl (lv_at hl 0 rfl) ?_
      refine lv_iconst (v := 1) hx hb dX7_net_38 (by decide) ?_
      refine va_put (D := D) (ci := 7) (v := .int 1) (ty := .int) (C := RX7) (T := TX7) (N := 21) hx hb hts iX7 tyX7 tyX7_ok nmX7 hown hK hP hD hS 6 rfl rfl 8 (by decide) f111 (fun _ h9 => h9) rfl (by decide +kernel) (rfl) (rfl) (Nat.le_of_ble_eq_true rfl) dX7_net_39 (fun H locs hP2 hD2 hS2 => ?_)
      clear hP hD hS
      have hPD : PD D A [(Mn, .inl (g 0, 1767, .inl fno)), (Mr, .inl (g 0, 3, .inl fmr)), (Mh, .inl (g 0, 9, .inl fmh)), (Mt, .inl (g 0, 160, .inl fmt)), (Mrr, .inl (g 0, 3, .inl frrx_6)), (Mrc, .inl (g 0, 9, .inl frcx_8)), (Mm, .inr (7, [.int 0, .ref Mt, .int 0, .int zmax_2, .int (-1), .ref Mrr, .ref Mrh, .ref Mrc, .int 1, .int (nI rcx_5), .ref Mn, .ref Mf, .ref Mr, .ref Mh, .int (nI hp), .int (nI cc), .ref Ma, .ref Mas, .ref Msn, .ref Mac, .ref Mat])), (Mrh, .inl (g 0, 9, .inl frhx_279))] H := ⟨hP2, hD2⟩
      have hS := hS2; clear hP2 hD2 hS2; have hP := hPD.1; have hD := hPD.2; clear hPD
      refine lv_aload_n hx hb dX7_net_42 rfl (lv_at hl 0 rfl) ?_
      refine va_get (D := D) (ci := 7) (v := .int (nI rcx_5)) (C := RX7) (T := TX7) (N := 21) hx hb hts iX7 hown hK hP 6 rfl rfl 9 (by decide) f114 (fun _ h9 => h9) rfl dX7_net_43 ?_
      refine lv_if_ne (tgt := 64) hx hb dX7_net_46 (by decide) (fun cb_281 => ?_) (fun cb_281 => ?_)
      · skip
        have cn_282 : ¬ rcx_5 = 0 := fun q9 => cb_281 (congrArg nI q9)
        refine lv_aload_n hx hb dX7_net_64 rfl (lv_at hl 0 rfl) ?_
        refine lv_aload_n hx hb dX7_net_65 rfl (lv_at hl 0 rfl) ?_
        refine va_get (D := D) (ci := 7) (v := .int 1) (C := RX7) (T := TX7) (N := 21) hx hb hts iX7 hown hK hP 6 rfl rfl 8 (by decide) f111 (fun _ h9 => h9) rfl dX7_net_66 ?_
        refine va_put (D := D) (ci := 7) (v := .int 1) (ty := .int) (C := RX7) (T := TX7) (N := 21) hx hb hts iX7 tyX7 tyX7_ok nmX7 hown hK hP hD hS 6 rfl rfl 14 (by decide) f124 (fun _ h9 => h9) rfl (by decide +kernel) (rfl) (rfl) (Nat.le_of_ble_eq_true rfl) dX7_net_69 (fun H locs hP2 hD2 hS2 => ?_)
        clear hP hD hS
        have hPD : PD D A [(Mn, .inl (g 0, 1767, .inl fno)), (Mr, .inl (g 0, 3, .inl fmr)), (Mh, .inl (g 0, 9, .inl fmh)), (Mt, .inl (g 0, 160, .inl fmt)), (Mrr, .inl (g 0, 3, .inl frrx_6)), (Mrc, .inl (g 0, 9, .inl frcx_8)), (Mm, .inr (7, [.int 0, .ref Mt, .int 0, .int zmax_2, .int (-1), .ref Mrr, .ref Mrh, .ref Mrc, .int 1, .int (nI rcx_5), .ref Mn, .ref Mf, .ref Mr, .ref Mh, .int 1, .int (nI cc), .ref Ma, .ref Mas, .ref Msn, .ref Mac, .ref Mat])), (Mrh, .inl (g 0, 9, .inl frhx_279))] H := ⟨hP2, hD2⟩
        have hS := hS2; clear hP2 hD2 hS2; have hP := hPD.1; have hD := hPD.2; clear hPD
        refine lv_aload_n hx hb dX7_net_72 rfl (lv_at hl 0 rfl) ?_
        refine lv_aload_n hx hb dX7_net_73 rfl (lv_at hl 0 rfl) ?_
        refine va_get (D := D) (ci := 7) (v := .int (nI rcx_5)) (C := RX7) (T := TX7) (N := 21) hx hb hts iX7 hown hK hP 6 rfl rfl 9 (by decide) f114 (fun _ h9 => h9) rfl dX7_net_74 ?_
        refine va_put (D := D) (ci := 7) (v := .int (nI rcx_5)) (ty := .int) (C := RX7) (T := TX7) (N := 21) hx hb hts iX7 tyX7 tyX7_ok nmX7 hown hK hP hD hS 6 rfl rfl 15 (by decide) f127 (fun _ h9 => h9) rfl (by decide +kernel) (rfl) (rfl) (Nat.le_of_ble_eq_true rfl) dX7_net_77 (fun H locs hP2 hD2 hS2 => ?_)
        clear hP hD hS
        have hPD : PD D A [(Mn, .inl (g 0, 1767, .inl fno)), (Mr, .inl (g 0, 3, .inl fmr)), (Mh, .inl (g 0, 9, .inl fmh)), (Mt, .inl (g 0, 160, .inl fmt)), (Mrr, .inl (g 0, 3, .inl frrx_6)), (Mrc, .inl (g 0, 9, .inl frcx_8)), (Mm, .inr (7, [.int 0, .ref Mt, .int 0, .int zmax_2, .int (-1), .ref Mrr, .ref Mrh, .ref Mrc, .int 1, .int (nI rcx_5), .ref Mn, .ref Mf, .ref Mr, .ref Mh, .int 1, .int (nI rcx_5), .ref Ma, .ref Mas, .ref Msn, .ref Mac, .ref Mat])), (Mrh, .inl (g 0, 9, .inl frhx_279))] H := ⟨hP2, hD2⟩
        have hS := hS2; clear hP2 hD2 hS2; have hP := hPD.1; have hD := hPD.2; clear hPD
        refine lv_iconst (v := 0) hx hb dX7_net_80 (by decide) ?_
        refine lv_istore_n (lv' := [(1, .int 0), (0, .ref Mm)]) hx hb dX7_net_81 rfl hl (by decide) rfl (fun ls hl => ?_)
        have loop_290 : ∀ (Nloop_290 : Nat) (i_284 : Nat) (F_285 : Nat → Int32) (hF_285 : mOK tb ub F_285) (hbi_284 : i_284 ≤ 1767) (hmloop_290 : 1767 - i_284 < Nloop_290) (H : Heap) (locs : List Loc) (ls : Array Slot), va_P D vwCl [(Mn, .inl (g 0, 1767, .inl F_285)), (Mr, .inl (g 0, 3, .inl fmr)), (Mh, .inl (g 0, 9, .inl fmh)), (Mt, .inl (g 0, 160, .inl fmt)), (Mrr, .inl (g 0, 3, .inl frrx_6)), (Mrc, .inl (g 0, 9, .inl frcx_8)), (Mm, .inr (7, [.int 0, .ref Mt, .int 0, .int zmax_2, .int (-1), .ref Mrr, .ref Mrh, .ref Mrc, .int 1, .int (nI rcx_5), .ref Mn, .ref Mf, .ref Mr, .ref Mh, .int 1, .int (nI rcx_5), .ref Ma, .ref Mas, .ref Msn, .ref Mac, .ref Mat])), (Mrh, .inl (g 0, 9, .inl frhx_279))] H → va_D A [(Mn, .inl (g 0, 1767, .inl F_285)), (Mr, .inl (g 0, 3, .inl fmr)), (Mh, .inl (g 0, 9, .inl fmh)), (Mt, .inl (g 0, 160, .inl fmt)), (Mrr, .inl (g 0, 3, .inl frrx_6)), (Mrc, .inl (g 0, 9, .inl frcx_8)), (Mm, .inr (7, [.int 0, .ref Mt, .int 0, .int zmax_2, .int (-1), .ref Mrr, .ref Mrh, .ref Mrc, .int 1, .int (nI rcx_5), .ref Mn, .ref Mf, .ref Mr, .ref Mh, .int 1, .int (nI rcx_5), .ref Ma, .ref Mas, .ref Msn, .ref Mac, .ref Mat])), (Mrh, .inl (g 0, 9, .inl frhx_279))] → va_S A s.heap H locs → lv_has ls 3 [(1, .int (nI i_284)), (0, .ref Mm)] → W p l e (headSpec wsX7_net ({ frames := 6, cells := 0, slots := 0, locals := 133 })).room s m ([.ref Mm] : List Value).toArray below meth c H locs 0 0 Q (F0 m 82 ls []) := by
          clear hP hD hS hl
          intro Nloop_290
          induction Nloop_290 with
          | zero => intro i_284 F_285 hF_285 hbi_284 hm9; exact absurd hm9 (Nat.not_lt_zero _)
          | succ Nloop_290 loop_290_ih =>
            intro i_284 F_285 hF_285 hbi_284 hmloop_290 H locs ls hP hD hS hl
            refine lv_iload_n hx hb dX7_net_82 rfl (lv_at hl 0 rfl) ?_
            refine lv_sipush (v := 1767) hx hb dX7_net_83 (by decide) ?_
            refine lv_icmp_ge (tgt := 102) hx hb dX7_net_86 (by decide) (fun cb_291 => ?_) (fun cb_291 => ?_)
            · skip
              have cn_292 : 1767 ≤ i_284 := (nI_leI (show 1767 < 2 ^ 31 by omega) (show i_284 < 2 ^ 31 by omega)).mp cb_291
              refine lv_iconst (v := 0) hx hb dX7_net_102 (by decide) ?_
              refine lv_istore_n (lv' := [(1, .int 0), (0, .ref Mm)]) hx hb dX7_net_103 rfl hl (by decide) rfl (fun ls hl => ?_)
              have loop_302 : ∀ (Nloop_302 : Nat) (i_295 : Nat) (F_296 : Nat → Int32) (hF_296 : n1 F_296) (hbi_295 : i_295 ≤ 3) (hmloop_302 : 3 - i_295 < Nloop_302) (H : Heap) (locs : List Loc) (ls : Array Slot), va_P D vwCl [(Mn, .inl (g 0, 1767, .inl F_285)), (Mr, .inl (g 0, 3, .inl F_296)), (Mh, .inl (g 0, 9, .inl fmh)), (Mt, .inl (g 0, 160, .inl fmt)), (Mrr, .inl (g 0, 3, .inl frrx_6)), (Mrc, .inl (g 0, 9, .inl frcx_8)), (Mm, .inr (7, [.int 0, .ref Mt, .int 0, .int zmax_2, .int (-1), .ref Mrr, .ref Mrh, .ref Mrc, .int 1, .int (nI rcx_5), .ref Mn, .ref Mf, .ref Mr, .ref Mh, .int 1, .int (nI rcx_5), .ref Ma, .ref Mas, .ref Msn, .ref Mac, .ref Mat])), (Mrh, .inl (g 0, 9, .inl frhx_279))] H → va_D A [(Mn, .inl (g 0, 1767, .inl F_285)), (Mr, .inl (g 0, 3, .inl F_296)), (Mh, .inl (g 0, 9, .inl fmh)), (Mt, .inl (g 0, 160, .inl fmt)), (Mrr, .inl (g 0, 3, .inl frrx_6)), (Mrc, .inl (g 0, 9, .inl frcx_8)), (Mm, .inr (7, [.int 0, .ref Mt, .int 0, .int zmax_2, .int (-1), .ref Mrr, .ref Mrh, .ref Mrc, .int 1, .int (nI rcx_5), .ref Mn, .ref Mf, .ref Mr, .ref Mh, .int 1, .int (nI rcx_5), .ref Ma, .ref Mas, .ref Msn, .ref Mac, .ref Mat])), (Mrh, .inl (g 0, 9, .inl frhx_279))] → va_S A s.heap H locs → lv_has ls 3 [(1, .int (nI i_295)), (0, .ref Mm)] → W p l e (headSpec wsX7_net ({ frames := 6, cells := 0, slots := 0, locals := 133 })).room s m ([.ref Mm] : List Value).toArray below meth c H locs 0 0 Q (F0 m 104 ls []) := by
                clear hP hD hS hl
                intro Nloop_302
                induction Nloop_302 with
                | zero => intro i_295 F_296 hF_296 hbi_295 hm9; exact absurd hm9 (Nat.not_lt_zero _)
                | succ Nloop_302 loop_302_ih =>
                  intro i_295 F_296 hF_296 hbi_295 hmloop_302 H locs ls hP hD hS hl
                  refine lv_iload_n hx hb dX7_net_104 rfl (lv_at hl 0 rfl) ?_
                  refine lv_iconst (v := 3) hx hb dX7_net_105 (by decide) ?_
                  refine lv_icmp_ge (tgt := 127) hx hb dX7_net_106 (by decide) (fun cb_303 => ?_) (fun cb_303 => ?_)
                  · skip
                    have cn_304 : 3 ≤ i_295 := (nI_leI (show 3 < 2 ^ 31 by omega) (show i_295 < 2 ^ 31 by omega)).mp cb_303
                    refine lv_iconst (v := 0) hx hb dX7_net_127 (by decide) ?_
                    refine lv_istore_n (lv' := [(1, .int 0), (0, .ref Mm)]) hx hb dX7_net_128 rfl hl (by decide) rfl (fun ls hl => ?_)
                    have loop_321 : ∀ (Nloop_321 : Nat) (i_310 : Nat) (F_311 : Nat → Int32) (F_312 : Nat → Int32) (hF_311 : mOK tb ub F_311) (hF_312 : n3 F_312) (hbi_310 : i_310 ≤ 1) (hmloop_321 : 1 - i_310 < Nloop_321) (H : Heap) (locs : List Loc) (ls : Array Slot), va_P D vwCl [(Mn, .inl (g 0, 1767, .inl F_311)), (Mr, .inl (g 0, 3, .inl F_296)), (Mh, .inl (g 0, 9, .inl F_312)), (Mt, .inl (g 0, 160, .inl fmt)), (Mrr, .inl (g 0, 3, .inl frrx_6)), (Mrc, .inl (g 0, 9, .inl frcx_8)), (Mm, .inr (7, [.int 0, .ref Mt, .int 0, .int zmax_2, .int (-1), .ref Mrr, .ref Mrh, .ref Mrc, .int 1, .int (nI rcx_5), .ref Mn, .ref Mf, .ref Mr, .ref Mh, .int 1, .int (nI rcx_5), .ref Ma, .ref Mas, .ref Msn, .ref Mac, .ref Mat])), (Mrh, .inl (g 0, 9, .inl frhx_279))] H → va_D A [(Mn, .inl (g 0, 1767, .inl F_311)), (Mr, .inl (g 0, 3, .inl F_296)), (Mh, .inl (g 0, 9, .inl F_312)), (Mt, .inl (g 0, 160, .inl fmt)), (Mrr, .inl (g 0, 3, .inl frrx_6)), (Mrc, .inl (g 0, 9, .inl frcx_8)), (Mm, .inr (7, [.int 0, .ref Mt, .int 0, .int zmax_2, .int (-1), .ref Mrr, .ref Mrh, .ref Mrc, .int 1, .int (nI rcx_5), .ref Mn, .ref Mf, .ref Mr, .ref Mh, .int 1, .int (nI rcx_5), .ref Ma, .ref Mas, .ref Msn, .ref Mac, .ref Mat])), (Mrh, .inl (g 0, 9, .inl frhx_279))] → va_S A s.heap H locs → lv_has ls 3 [(1, .int (nI i_310)), (0, .ref Mm)] → W p l e (headSpec wsX7_net ({ frames := 6, cells := 0, slots := 0, locals := 133 })).room s m ([.ref Mm] : List Value).toArray below meth c H locs 0 0 Q (F0 m 129 ls []) := by
                      clear hP hD hS hl
                      intro Nloop_321
                      induction Nloop_321 with
                      | zero => intro i_310 F_311 F_312 hF_311 hF_312 hbi_310 hm9; exact absurd hm9 (Nat.not_lt_zero _)
                      | succ Nloop_321 loop_321_ih =>
                        intro i_310 F_311 F_312 hF_311 hF_312 hbi_310 hmloop_321 H locs ls hP hD hS hl
                        refine lv_iload_n hx hb dX7_net_129 rfl (lv_at hl 0 rfl) ?_
                        refine lv_aload_n hx hb dX7_net_130 rfl (lv_at hl 1 rfl) ?_
                        refine va_get (D := D) (ci := 7) (v := .int 1) (C := RX7) (T := TX7) (N := 21) hx hb hts iX7 hown hK hP 6 rfl rfl 14 (by decide) f124 (fun _ h9 => h9) rfl dX7_net_131 ?_
                        refine lv_icmp_ge (tgt := 148) hx hb dX7_net_134 (by decide) (fun cb_322 => ?_) (fun cb_322 => ?_)
                        · skip
                          have cn_323 : 1 ≤ i_310 := (nI_leI (show 1 < 2 ^ 31 by omega) (show i_310 < 2 ^ 31 by omega)).mp cb_322
                          refine lv_iconst (v := 0) hx hb dX7_net_148 (by decide) ?_
                          refine lv_istore_n (lv' := [(1, .int 0), (0, .ref Mm)]) hx hb dX7_net_149 rfl hl (by decide) rfl (fun ls hl => ?_)
                          have loop_373 : ∀ (Nloop_373 : Nat) (i_346 : Nat) (F_347 : Nat → Int32) (hF_347 : mOK tb ub F_347) (hbi_346 : i_346 ≤ rcx_5) (hmloop_373 : rcx_5 - i_346 < Nloop_373) (H : Heap) (locs : List Loc) (ls : Array Slot), va_P D vwCl [(Mn, .inl (g 0, 1767, .inl F_347)), (Mr, .inl (g 0, 3, .inl F_296)), (Mh, .inl (g 0, 9, .inl F_312)), (Mt, .inl (g 0, 160, .inl fmt)), (Mrr, .inl (g 0, 3, .inl frrx_6)), (Mrc, .inl (g 0, 9, .inl frcx_8)), (Mm, .inr (7, [.int 0, .ref Mt, .int 0, .int zmax_2, .int (-1), .ref Mrr, .ref Mrh, .ref Mrc, .int 1, .int (nI rcx_5), .ref Mn, .ref Mf, .ref Mr, .ref Mh, .int 1, .int (nI rcx_5), .ref Ma, .ref Mas, .ref Msn, .ref Mac, .ref Mat])), (Mrh, .inl (g 0, 9, .inl frhx_279))] H → va_D A [(Mn, .inl (g 0, 1767, .inl F_347)), (Mr, .inl (g 0, 3, .inl F_296)), (Mh, .inl (g 0, 9, .inl F_312)), (Mt, .inl (g 0, 160, .inl fmt)), (Mrr, .inl (g 0, 3, .inl frrx_6)), (Mrc, .inl (g 0, 9, .inl frcx_8)), (Mm, .inr (7, [.int 0, .ref Mt, .int 0, .int zmax_2, .int (-1), .ref Mrr, .ref Mrh, .ref Mrc, .int 1, .int (nI rcx_5), .ref Mn, .ref Mf, .ref Mr, .ref Mh, .int 1, .int (nI rcx_5), .ref Ma, .ref Mas, .ref Msn, .ref Mac, .ref Mat])), (Mrh, .inl (g 0, 9, .inl frhx_279))] → va_S A s.heap H locs → lv_has ls 3 [(1, .int (nI i_346)), (0, .ref Mm)] → W p l e (headSpec wsX7_net ({ frames := 6, cells := 0, slots := 0, locals := 133 })).room s m ([.ref Mm] : List Value).toArray below meth c H locs 0 0 Q (F0 m 150 ls []) := by
                            clear hP hD hS hl
                            intro Nloop_373
                            induction Nloop_373 with
                            | zero => intro i_346 F_347 hF_347 hbi_346 hm9; exact absurd hm9 (Nat.not_lt_zero _)
                            | succ Nloop_373 loop_373_ih =>
                              intro i_346 F_347 hF_347 hbi_346 hmloop_373 H locs ls hP hD hS hl
                              refine lv_iload_n hx hb dX7_net_150 rfl (lv_at hl 0 rfl) ?_
                              refine lv_aload_n hx hb dX7_net_151 rfl (lv_at hl 1 rfl) ?_
                              refine va_get (D := D) (ci := 7) (v := .int (nI rcx_5)) (C := RX7) (T := TX7) (N := 21) hx hb hts iX7 hown hK hP 6 rfl rfl 15 (by decide) f127 (fun _ h9 => h9) rfl dX7_net_152 ?_
                              refine lv_icmp_ge (tgt := 211) hx hb dX7_net_155 (by decide) (fun cb_374 => ?_) (fun cb_374 => ?_)
                              · skip
                                have cn_375 : rcx_5 ≤ i_346 := (nI_leI (show rcx_5 < 2 ^ 31 by omega) (show i_346 < 2 ^ 31 by omega)).mp cb_374
                                refine lv_aload_n hx hb dX7_net_211 rfl (lv_at hl 1 rfl) ?_
                                refine va_get (D := D) (ci := 7) (v := .int (nI rcx_5)) (C := RX7) (T := TX7) (N := 21) hx hb hts iX7 hown hK hP 6 rfl rfl 15 (by decide) f127 (fun _ h9 => h9) rfl dX7_net_212 ?_
                                have hPD9 : PD D A [(Mm, .inr (7, [.int 0, .ref Mt, .int 0, .int zmax_2, .int (-1), .ref Mrr, .ref Mrh, .ref Mrc, .int 1, .int (nI rcx_5), .ref Mn, .ref Mf, .ref Mr, .ref Mh, .int 1, .int (nI rcx_5), .ref Ma, .ref Mas, .ref Msn, .ref Mac, .ref Mat])), (Mt, .inl (g 0, 160, .inl fmt)), (Mrr, .inl (g 0, 3, .inl frrx_6)), (Mrh, .inl (g 0, 9, .inl frhx_279)), (Mrc, .inl (g 0, 9, .inl frcx_8)), (Mn, .inl (g 0, 1767, .inl F_347)), (Mr, .inl (g 0, 3, .inl F_296)), (Mh, .inl (g 0, 9, .inl F_312))] H := ⟨hP.sub [6, 3, 4, 7, 5, 0, 1, 2] rfl, hD.sub [6, 3, 4, 7, 5, 0, 1, 2] (by decide) rfl⟩
                                have hP9 := hPD9.1; have hD9 := hPD9.2
                                subst hQ
                                refine W.widen (k := 0) (n := 0) (Nat.le_of_ble_eq_true rfl) (Nat.le_of_ble_eq_true rfl) ?_
                                exact W.iret (v := (nI rcx_5)) hx hb hr (fun tS htS _ => ⟨⟨_, _, rfl, ⟨(lf2 [frrx_6, frhx_279, frcx_8, F_347, F_296, F_312]), 0, 0, zmax_2, (-1), 1, (nI rcx_5), 1, rcx_5, (nI rcx_5), rfl, rfl, ⟨(hf_9.1), (hf_280), (hf_9.2.2.1), (hF_347), (hF_296), (hF_312), (show 1 ≤ 3 by omega), (show rcx_5 ≤ 3 by omega), (show (1 = 0 ∧ rcx_5 = 0) ∨ (1 ≤ 1 ∧ 1 ≤ rcx_5) by omega), (show 0 ≤ 160 by omega), nt_yes (cc := rcx_5) hf_9.2.2.2.2.2 rfl (by omega)⟩⟩, by rw [htS]; exact hP9, hD9⟩, hS.F htS⟩) hS.2.2 dX7_net_215
                              · skip
                                have cn_376 : i_346 < rcx_5 := Nat.lt_of_not_le (fun q9 => cb_374 ((nI_leI (show rcx_5 < 2 ^ 31 by omega) (show i_346 < 2 ^ 31 by omega)).mpr q9))
                                refine lv_iconst (v := 0) hx hb dX7_net_158 (by decide) ?_
                                refine lv_istore_n (lv' := [(2, .int 0), (1, .int (nI i_346)), (0, .ref Mm)]) hx hb dX7_net_159 rfl hl (by decide) rfl (fun ls hl => ?_)
                                have loop_390 : ∀ (Nloop_390 : Nat) (i_380 : Nat) (F_381 : Nat → Int32) (hF_381 : mOK tb ub F_381) (hbi_380 : i_380 ≤ 3) (hmloop_390 : 3 - i_380 < Nloop_390) (H : Heap) (locs : List Loc) (ls : Array Slot), va_P D vwCl [(Mn, .inl (g 0, 1767, .inl F_381)), (Mr, .inl (g 0, 3, .inl F_296)), (Mh, .inl (g 0, 9, .inl F_312)), (Mt, .inl (g 0, 160, .inl fmt)), (Mrr, .inl (g 0, 3, .inl frrx_6)), (Mrc, .inl (g 0, 9, .inl frcx_8)), (Mm, .inr (7, [.int 0, .ref Mt, .int 0, .int zmax_2, .int (-1), .ref Mrr, .ref Mrh, .ref Mrc, .int 1, .int (nI rcx_5), .ref Mn, .ref Mf, .ref Mr, .ref Mh, .int 1, .int (nI rcx_5), .ref Ma, .ref Mas, .ref Msn, .ref Mac, .ref Mat])), (Mrh, .inl (g 0, 9, .inl frhx_279))] H → va_D A [(Mn, .inl (g 0, 1767, .inl F_381)), (Mr, .inl (g 0, 3, .inl F_296)), (Mh, .inl (g 0, 9, .inl F_312)), (Mt, .inl (g 0, 160, .inl fmt)), (Mrr, .inl (g 0, 3, .inl frrx_6)), (Mrc, .inl (g 0, 9, .inl frcx_8)), (Mm, .inr (7, [.int 0, .ref Mt, .int 0, .int zmax_2, .int (-1), .ref Mrr, .ref Mrh, .ref Mrc, .int 1, .int (nI rcx_5), .ref Mn, .ref Mf, .ref Mr, .ref Mh, .int 1, .int (nI rcx_5), .ref Ma, .ref Mas, .ref Msn, .ref Mac, .ref Mat])), (Mrh, .inl (g 0, 9, .inl frhx_279))] → va_S A s.heap H locs → lv_has ls 3 [(2, .int (nI i_380)), (1, .int (nI i_346)), (0, .ref Mm)] → W p l e (headSpec wsX7_net ({ frames := 6, cells := 0, slots := 0, locals := 133 })).room s m ([.ref Mm] : List Value).toArray below meth c H locs 0 0 Q (F0 m 160 ls []) := by
                                  clear hP hD hS hl
                                  intro Nloop_390
                                  induction Nloop_390 with
                                  | zero => intro i_380 F_381 hF_381 hbi_380 hm9; exact absurd hm9 (Nat.not_lt_zero _)
                                  | succ Nloop_390 loop_390_ih =>
                                    intro i_380 F_381 hF_381 hbi_380 hmloop_390 H locs ls hP hD hS hl
                                    refine lv_iload_n hx hb dX7_net_160 rfl (lv_at hl 0 rfl) ?_
                                    refine lv_iconst (v := 3) hx hb dX7_net_161 (by decide) ?_
                                    refine lv_icmp_ge (tgt := 192) hx hb dX7_net_162 (by decide) (fun cb_391 => ?_) (fun cb_391 => ?_)
                                    · skip
                                      have cn_392 : 3 ≤ i_380 := (nI_leI (show 3 < 2 ^ 31 by omega) (show i_380 < 2 ^ 31 by omega)).mp cb_391
                                      refine lv_aload_n hx hb dX7_net_192 rfl (lv_at hl 2 rfl) ?_
                                      refine va_get (D := D) (ci := 7) (v := .ref Mn) (C := RX7) (T := TX7) (N := 21) hx hb hts iX7 hown hK hP 6 rfl rfl 10 (by decide) f22 (fun _ h9 => h9) rfl dX7_net_193 ?_
                                      refine lv_iload_n hx hb dX7_net_196 rfl (lv_at hl 1 rfl) ?_
                                      refine ky_Si (As := [.int (nI i_346)]) (rest := [.ref Mn]) ⟨hx, hb, hml, hown, hts⟩ ⟨hK, hN⟩ hZ hP hD hS hA [] [0, 1, 2, 3, 4, 5, 6, 7] (wc := []) (wr := [(Mn, .inl (g 0, 1767, .inl F_381)), (Mr, .inl (g 0, 3, .inl F_296)), (Mh, .inl (g 0, 9, .inl F_312)), (Mt, .inl (g 0, 160, .inl fmt)), (Mrr, .inl (g 0, 3, .inl frrx_6)), (Mrc, .inl (g 0, 9, .inl frcx_8)), (Mm, .inr (7, [.int 0, .ref Mt, .int 0, .int zmax_2, .int (-1), .ref Mrr, .ref Mrh, .ref Mrc, .int 1, .int (nI rcx_5), .ref Mn, .ref Mf, .ref Mr, .ref Mh, .int 1, .int (nI rcx_5), .ref Ma, .ref Mas, .ref Msn, .ref Mac, .ref Mat])), (Mrh, .inl (g 0, 9, .inl frhx_279))]) rfl rfl rfl rfl (by decide) (k_X7_circuitAt l D g H.size i_346 (show i_346 < 3 by omega)) (va_cwS 1 hts gX7_net_X7_circuitAt rfl rfl rfl (by decide +kernel) ⟨(Nat.le_of_ble_eq_true rfl), (Nat.le_of_ble_eq_true rfl)⟩) rfl hl.1 rfl (Nat.le_of_ble_eq_true rfl) dX7_net_197 ⟨(Nat.le_of_ble_eq_true rfl), (Nat.le_of_ble_eq_true rfl)⟩ (fun r_393 u H locs hw hP2 hD2 hS2 => ?_)
                                      clear hP hD hS
                                      obtain ⟨rfl, rfl⟩ := hw
                                      have hPD : PD D A [(Mn, .inl (g 0, 1767, .inl F_381)), (Mr, .inl (g 0, 3, .inl F_296)), (Mh, .inl (g 0, 9, .inl F_312)), (Mt, .inl (g 0, 160, .inl fmt)), (Mrr, .inl (g 0, 3, .inl frrx_6)), (Mrc, .inl (g 0, 9, .inl frcx_8)), (Mm, .inr (7, [.int 0, .ref Mt, .int 0, .int zmax_2, .int (-1), .ref Mrr, .ref Mrh, .ref Mrc, .int 1, .int (nI rcx_5), .ref Mn, .ref Mf, .ref Mr, .ref Mh, .int 1, .int (nI rcx_5), .ref Ma, .ref Mas, .ref Msn, .ref Mac, .ref Mat])), (Mrh, .inl (g 0, 9, .inl frhx_279))] H := ⟨hP2, hD2⟩
                                      have hS := hS2; clear hP2 hD2 hS2; have hP := hPD.1; have hD := hPD.2; clear hPD
                                      refine W.widen (k := 0) (n := 0) (Nat.le_of_ble_eq_true rfl) (Nat.le_of_ble_eq_true rfl) ?_
                                      refine lv_bipush (v := 6) hx hb dX7_net_200 (by decide) ?_
                                      refine lv_iadd hx hb dX7_net_202 ?_
                                      refine lv_eqi (y := (nI (201 + 9 * i_346 + 6))) (nI_add (201 + 9 * i_346) (6)) ?_
                                      refine lv_iconst (v := (-1)) hx hb dX7_net_203 (by decide) ?_
                                      refine va_iast hx hb hK hP hD hS 0 0 rfl rfl (vp_in_nI (show 201 + 9 * i_346 + 6 < 1767 by omega) (by decide)) dX7_net_204 (fun H locs hP2 hD2 hS2 => ?_)
                                      clear hP hD hS
                                      have hPD : PD D A [(Mn, .inl (g 0, 1767, .inl (upd F_381 (nI (201 + 9 * i_346 + 6)).toNatClampNeg (-1)))), (Mr, .inl (g 0, 3, .inl F_296)), (Mh, .inl (g 0, 9, .inl F_312)), (Mt, .inl (g 0, 160, .inl fmt)), (Mrr, .inl (g 0, 3, .inl frrx_6)), (Mrc, .inl (g 0, 9, .inl frcx_8)), (Mm, .inr (7, [.int 0, .ref Mt, .int 0, .int zmax_2, .int (-1), .ref Mrr, .ref Mrh, .ref Mrc, .int 1, .int (nI rcx_5), .ref Mn, .ref Mf, .ref Mr, .ref Mh, .int 1, .int (nI rcx_5), .ref Ma, .ref Mas, .ref Msn, .ref Mac, .ref Mat])), (Mrh, .inl (g 0, 9, .inl frhx_279))] H := ⟨hP2, hD2⟩
                                      have hS := hS2; clear hP2 hD2 hS2; have hP := hPD.1; have hD := hPD.2; clear hPD
                                      rw [nI_clamp (show 201 + 9 * i_346 + 6 < 2 ^ 31 by omega)] at hP hD
                                      have hPD : PD D A [(Mn, .inl (g 0, 1767, .inl (upd F_381 (201 + 9 * i_346 + 6) (-1)))), (Mr, .inl (g 0, 3, .inl F_296)), (Mh, .inl (g 0, 9, .inl F_312)), (Mt, .inl (g 0, 160, .inl fmt)), (Mrr, .inl (g 0, 3, .inl frrx_6)), (Mrc, .inl (g 0, 9, .inl frcx_8)), (Mm, .inr (7, [.int 0, .ref Mt, .int 0, .int zmax_2, .int (-1), .ref Mrr, .ref Mrh, .ref Mrc, .int 1, .int (nI rcx_5), .ref Mn, .ref Mf, .ref Mr, .ref Mh, .int 1, .int (nI rcx_5), .ref Ma, .ref Mas, .ref Msn, .ref Mac, .ref Mat])), (Mrh, .inl (g 0, 9, .inl frhx_279))] H := ⟨hP, hD⟩
                                      clear hP hD; have hP := hPD.1; have hD := hPD.2; clear hPD
                                      have hF_394 : mOK tb ub (upd F_381 (201 + 9 * i_346 + 6) (-1)) := mOK_free hF_381 (show mfree (201 + 9 * i_346 + 6) by unfold mfree; omega)
                                      generalize upd F_381 (201 + 9 * i_346 + 6) (-1) = F_394 at hP hD hF_394
                                      refine lv_iinc (v := (nI (i_346 + 1))) (lv' := [(1, .int (nI (i_346 + 1))), (2, .int (nI i_380)), (0, .ref Mm)]) hx hb dX7_net_205 hl (k := 1) rfl (nI_1 (i_346)) (by decide) rfl (fun ls hl => ?_)
                                      refine lv_goto (tgt := 150) hx hb dX7_net_208 (by decide) ?_
                                      exact loop_373_ih (i_346 + 1) F_394 (hF_394) (show (i_346 + 1) ≤ rcx_5 by omega) (show rcx_5 - (i_346 + 1) < Nloop_373 by omega) _ _ _ hP hD hS (lv_sub hl [0, 2] rfl)
                                    · skip
                                      have cn_395 : i_380 < 3 := Nat.lt_of_not_le (fun q9 => cb_391 ((nI_leI (show 3 < 2 ^ 31 by omega) (show i_380 < 2 ^ 31 by omega)).mpr q9))
                                      refine lv_aload_n hx hb dX7_net_165 rfl (lv_at hl 2 rfl) ?_
                                      refine va_get (D := D) (ci := 7) (v := .ref Mn) (C := RX7) (T := TX7) (N := 21) hx hb hts iX7 hown hK hP 6 rfl rfl 10 (by decide) f22 (fun _ h9 => h9) rfl dX7_net_166 ?_
                                      refine lv_iload_n hx hb dX7_net_169 rfl (lv_at hl 1 rfl) ?_
                                      refine ky_Si (As := [.int (nI i_346)]) (rest := [.ref Mn]) ⟨hx, hb, hml, hown, hts⟩ ⟨hK, hN⟩ hZ hP hD hS hA [] [0, 1, 2, 3, 4, 5, 6, 7] (wc := []) (wr := [(Mn, .inl (g 0, 1767, .inl F_381)), (Mr, .inl (g 0, 3, .inl F_296)), (Mh, .inl (g 0, 9, .inl F_312)), (Mt, .inl (g 0, 160, .inl fmt)), (Mrr, .inl (g 0, 3, .inl frrx_6)), (Mrc, .inl (g 0, 9, .inl frcx_8)), (Mm, .inr (7, [.int 0, .ref Mt, .int 0, .int zmax_2, .int (-1), .ref Mrr, .ref Mrh, .ref Mrc, .int 1, .int (nI rcx_5), .ref Mn, .ref Mf, .ref Mr, .ref Mh, .int 1, .int (nI rcx_5), .ref Ma, .ref Mas, .ref Msn, .ref Mac, .ref Mat])), (Mrh, .inl (g 0, 9, .inl frhx_279))]) rfl rfl rfl rfl (by decide) (k_X7_circuitAt l D g H.size i_346 (show i_346 < 3 by omega)) (va_cwS 1 hts gX7_net_X7_circuitAt rfl rfl rfl (by decide +kernel) ⟨(Nat.le_of_ble_eq_true rfl), (Nat.le_of_ble_eq_true rfl)⟩) rfl hl.1 rfl (Nat.le_of_ble_eq_true rfl) dX7_net_170 ⟨(Nat.le_of_ble_eq_true rfl), (Nat.le_of_ble_eq_true rfl)⟩ (fun r_396 u H locs hw hP2 hD2 hS2 => ?_)
                                      clear hP hD hS
                                      obtain ⟨rfl, rfl⟩ := hw
                                      have hPD : PD D A [(Mn, .inl (g 0, 1767, .inl F_381)), (Mr, .inl (g 0, 3, .inl F_296)), (Mh, .inl (g 0, 9, .inl F_312)), (Mt, .inl (g 0, 160, .inl fmt)), (Mrr, .inl (g 0, 3, .inl frrx_6)), (Mrc, .inl (g 0, 9, .inl frcx_8)), (Mm, .inr (7, [.int 0, .ref Mt, .int 0, .int zmax_2, .int (-1), .ref Mrr, .ref Mrh, .ref Mrc, .int 1, .int (nI rcx_5), .ref Mn, .ref Mf, .ref Mr, .ref Mh, .int 1, .int (nI rcx_5), .ref Ma, .ref Mas, .ref Msn, .ref Mac, .ref Mat])), (Mrh, .inl (g 0, 9, .inl frhx_279))] H := ⟨hP2, hD2⟩
                                      have hS := hS2; clear hP2 hD2 hS2; have hP := hPD.1; have hD := hPD.2; clear hPD
                                      refine W.widen (k := 0) (n := 0) (Nat.le_of_ble_eq_true rfl) (Nat.le_of_ble_eq_true rfl) ?_
                                      refine lv_iload_n hx hb dX7_net_173 rfl (lv_at hl 0 rfl) ?_
                                      refine lv_iadd hx hb dX7_net_174 ?_
                                      refine lv_eqi (y := (nI (201 + 9 * i_346 + i_380))) (nI_add (201 + 9 * i_346) (i_380)) ?_
                                      refine lv_aload_n hx hb dX7_net_175 rfl (lv_at hl 2 rfl) ?_
                                      refine va_get (D := D) (ci := 7) (v := .ref Mrc) (C := RX7) (T := TX7) (N := 21) hx hb hts iX7 hown hK hP 6 rfl rfl 7 (by decide) f19 (fun _ h9 => h9) rfl dX7_net_176 ?_
                                      refine lv_iconst (v := 3) hx hb dX7_net_179 (by decide) ?_
                                      refine lv_iload_n hx hb dX7_net_180 rfl (lv_at hl 1 rfl) ?_
                                      refine lv_imul hx hb dX7_net_181 ?_
                                      refine lv_eqi (y := (nI (3 * i_346))) (pk_mul (3) (i_346)) ?_
                                      refine lv_iload_n hx hb dX7_net_182 rfl (lv_at hl 0 rfl) ?_
                                      refine lv_iadd hx hb dX7_net_183 ?_
                                      refine lv_eqi (y := (nI (3 * i_346 + i_380))) (nI_add (3 * i_346) (i_380)) ?_
                                      refine va_iald hx hb hK hP 5 0 rfl rfl (vp_in_nI (show 3 * i_346 + i_380 < 9 by omega) (by decide)) dX7_net_184 ?_
                                      refine lv_eqi (y := (frcx_8 (3 * i_346 + i_380))) (congrArg frcx_8 (nI_clamp (show 3 * i_346 + i_380 < 2 ^ 31 by omega))) ?_
                                      obtain ⟨n_397, hn_397, q9⟩ := hf_9.2.2.1 (3 * i_346 + i_380)
                                      refine lv_eqi (y := nI n_397) q9 ?_
                                      refine va_iast hx hb hK hP hD hS 0 0 rfl rfl (vp_in_nI (show 201 + 9 * i_346 + i_380 < 1767 by omega) (by decide)) dX7_net_185 (fun H locs hP2 hD2 hS2 => ?_)
                                      clear hP hD hS
                                      have hPD : PD D A [(Mn, .inl (g 0, 1767, .inl (upd F_381 (nI (201 + 9 * i_346 + i_380)).toNatClampNeg (nI n_397)))), (Mr, .inl (g 0, 3, .inl F_296)), (Mh, .inl (g 0, 9, .inl F_312)), (Mt, .inl (g 0, 160, .inl fmt)), (Mrr, .inl (g 0, 3, .inl frrx_6)), (Mrc, .inl (g 0, 9, .inl frcx_8)), (Mm, .inr (7, [.int 0, .ref Mt, .int 0, .int zmax_2, .int (-1), .ref Mrr, .ref Mrh, .ref Mrc, .int 1, .int (nI rcx_5), .ref Mn, .ref Mf, .ref Mr, .ref Mh, .int 1, .int (nI rcx_5), .ref Ma, .ref Mas, .ref Msn, .ref Mac, .ref Mat])), (Mrh, .inl (g 0, 9, .inl frhx_279))] H := ⟨hP2, hD2⟩
                                      have hS := hS2; clear hP2 hD2 hS2; have hP := hPD.1; have hD := hPD.2; clear hPD
                                      rw [nI_clamp (show 201 + 9 * i_346 + i_380 < 2 ^ 31 by omega)] at hP hD
                                      have hPD : PD D A [(Mn, .inl (g 0, 1767, .inl (upd F_381 (201 + 9 * i_346 + i_380) (nI n_397)))), (Mr, .inl (g 0, 3, .inl F_296)), (Mh, .inl (g 0, 9, .inl F_312)), (Mt, .inl (g 0, 160, .inl fmt)), (Mrr, .inl (g 0, 3, .inl frrx_6)), (Mrc, .inl (g 0, 9, .inl frcx_8)), (Mm, .inr (7, [.int 0, .ref Mt, .int 0, .int zmax_2, .int (-1), .ref Mrr, .ref Mrh, .ref Mrc, .int 1, .int (nI rcx_5), .ref Mn, .ref Mf, .ref Mr, .ref Mh, .int 1, .int (nI rcx_5), .ref Ma, .ref Mas, .ref Msn, .ref Mac, .ref Mat])), (Mrh, .inl (g 0, 9, .inl frhx_279))] H := ⟨hP, hD⟩
                                      clear hP hD; have hP := hPD.1; have hD := hPD.2; clear hPD
                                      have hF_398 : mOK tb ub (upd F_381 (201 + 9 * i_346 + i_380) (nI n_397)) := mOK_free hF_381 (show mfree (201 + 9 * i_346 + i_380) by unfold mfree; omega)
                                      generalize upd F_381 (201 + 9 * i_346 + i_380) (nI n_397) = F_398 at hP hD hF_398
                                      refine lv_iinc (v := (nI (i_380 + 1))) (lv' := [(2, .int (nI (i_380 + 1))), (1, .int (nI i_346)), (0, .ref Mm)]) hx hb dX7_net_186 hl (k := 0) rfl (nI_1 (i_380)) (by decide) rfl (fun ls hl => ?_)
                                      refine lv_goto (tgt := 160) hx hb dX7_net_189 (by decide) ?_
                                      exact loop_390_ih (i_380 + 1) F_398 (hF_398) (show (i_380 + 1) ≤ 3 by omega) (show 3 - (i_380 + 1) < Nloop_390 by omega) _ _ _ hP hD hS hl
                                exact loop_390 _ 0 F_347 (hF_347) (show 0 ≤ 3 by omega) (Nat.lt_succ_self _) _ _ _ hP hD hS hl
                          exact loop_373 _ 0 F_311 (hF_311) (show 0 ≤ rcx_5 by omega) (Nat.lt_succ_self _) _ _ _ hP hD hS hl
                        · skip
                          have cn_399 : i_310 < 1 := Nat.lt_of_not_le (fun q9 => cb_322 ((nI_leI (show 1 < 2 ^ 31 by omega) (show i_310 < 2 ^ 31 by omega)).mpr q9))
                          refine lv_aload_n hx hb dX7_net_137 rfl (lv_at hl 1 rfl) ?_
                          refine lv_iload_n hx hb dX7_net_138 rfl (lv_at hl 0 rfl) ?_
                          refine ky_Vv (As := [.int (nI i_310)]) (rest := []) ⟨hx, hb, hml, hown, hts⟩ ⟨hK, hN⟩ hZ hP hD hS hA [6, 0, 2, 1, 7] [3, 4, 5] (wc := [(Mm, .inr (7, [.int 0, .ref Mt, .int 0, .int zmax_2, .int (-1), .ref Mrr, .ref Mrh, .ref Mrc, .int 1, .int (nI rcx_5), .ref Mn, .ref Mf, .ref Mr, .ref Mh, .int 1, .int (nI rcx_5), .ref Ma, .ref Mas, .ref Msn, .ref Mac, .ref Mat])), (Mn, .inl (g 0, 1767, .inl F_311)), (Mh, .inl (g 0, 9, .inl F_312)), (Mr, .inl (g 0, 3, .inl F_296)), (Mrh, .inl (g 0, 9, .inl frhx_279))]) (wr := [(Mt, .inl (g 0, 160, .inl fmt)), (Mrr, .inl (g 0, 3, .inl frrx_6)), (Mrc, .inl (g 0, 9, .inl frcx_8))]) rfl rfl rfl rfl (by decide) (k_X7_laysHop l D g H.size Mm i_310 0 Mt 0 zmax_2 (-1) Mrr Mrh Mrc 1 (nI rcx_5) Mn Mf Mr Mh 1 rcx_5 Ma Mas Msn Mac Mat F_311 F_312 F_296 frhx_279 tb ub (show tb < 2 ^ 29 by omega) (show ub < 2 ^ 29 by omega) (hF_311) (show 1 ≤ 1 by omega) (show 1 ≤ 3 by omega) (show 1 ≤ rcx_5 by omega) (show rcx_5 ≤ 3 by omega) (show i_310 < 3 by omega) (hF_312) (hf_280) (hF_296)) (cwV 1 hts gX7_net_X7_laysHop rfl rfl rfl (by decide +kernel) ⟨(Nat.le_of_ble_eq_true rfl), (Nat.le_of_ble_eq_true rfl)⟩) 6 7 rfl rfl rfl rfl hl.1 rfl (Nat.le_of_ble_eq_true rfl) dX7_net_139 ⟨(Nat.le_of_ble_eq_true rfl), (Nat.le_of_ble_eq_true rfl)⟩ (fun u H locs hw hP2 hD2 hS2 => ?_)
                          clear hP hD hS
                          obtain ⟨fnox_401, fmhx_402, rfl, hf_403, hf_404⟩ := hw
                          have hPD : PD D A [(Mt, .inl (g 0, 160, .inl fmt)), (Mrr, .inl (g 0, 3, .inl frrx_6)), (Mrc, .inl (g 0, 9, .inl frcx_8)), (Mm, .inr (7, [.int 0, .ref Mt, .int (nI 0), .int zmax_2, .int (-1), .ref Mrr, .ref Mrh, .ref Mrc, .int 1, .int (nI rcx_5), .ref Mn, .ref Mf, .ref Mr, .ref Mh, .int (nI 1), .int (nI rcx_5), .ref Ma, .ref Mas, .ref Msn, .ref Mac, .ref Mat])), (Mn, .inl (g 0, 1767, .inl fnox_401)), (Mh, .inl (g 0, 9, .inl fmhx_402)), (Mr, .inl (g 0, 3, .inl F_296)), (Mrh, .inl (g 0, 9, .inl frhx_279))] H := ⟨hP2, hD2⟩
                          have hS := hS2; clear hP2 hD2 hS2; have hP := hPD.1; have hD := hPD.2; clear hPD
                          refine W.widen (k := 0) (n := 0) (Nat.le_of_ble_eq_true rfl) (Nat.le_of_ble_eq_true rfl) ?_
                          refine lv_iinc (v := (nI (i_310 + 1))) (lv' := [(1, .int (nI (i_310 + 1))), (0, .ref Mm)]) hx hb dX7_net_142 hl (k := 0) rfl (nI_1 (i_310)) (by decide) rfl (fun ls hl => ?_)
                          refine lv_goto (tgt := 129) hx hb dX7_net_145 (by decide) ?_
                          exact loop_321_ih (i_310 + 1) fnox_401 fmhx_402 (hf_403) (hf_404) (show (i_310 + 1) ≤ 1 by omega) (show 1 - (i_310 + 1) < Nloop_321 by omega) _ _ _ (hP.sub [4, 6, 5, 0, 1, 2, 3, 7] rfl) (hD.sub [4, 6, 5, 0, 1, 2, 3, 7] (by decide) rfl) hS hl
                    exact loop_321 _ 0 F_285 fmh (hF_285) (h8) (show 0 ≤ 1 by omega) (Nat.lt_succ_self _) _ _ _ hP hD hS hl
                  · skip
                    have cn_405 : i_295 < 3 := Nat.lt_of_not_le (fun q9 => cb_303 ((nI_leI (show 3 < 2 ^ 31 by omega) (show i_295 < 2 ^ 31 by omega)).mpr q9))
                    refine lv_aload_n hx hb dX7_net_109 rfl (lv_at hl 1 rfl) ?_
                    refine va_get (D := D) (ci := 7) (v := .ref Mr) (C := RX7) (T := TX7) (N := 21) hx hb hts iX7 hown hK hP 6 rfl rfl 12 (by decide) f28 (fun _ h9 => h9) rfl dX7_net_110 ?_
                    refine lv_iload_n hx hb dX7_net_113 rfl (lv_at hl 0 rfl) ?_
                    refine lv_aload_n hx hb dX7_net_114 rfl (lv_at hl 1 rfl) ?_
                    refine va_get (D := D) (ci := 7) (v := .ref Mrr) (C := RX7) (T := TX7) (N := 21) hx hb hts iX7 hown hK hP 6 rfl rfl 5 (by decide) f13 (fun _ h9 => h9) rfl dX7_net_115 ?_
                    refine lv_iload_n hx hb dX7_net_118 rfl (lv_at hl 0 rfl) ?_
                    refine va_iald hx hb hK hP 4 0 rfl rfl (vp_in_nI (show i_295 < 3 by omega) (by decide)) dX7_net_119 ?_
                    refine lv_eqi (y := (frrx_6 (i_295))) (congrArg frrx_6 (nI_clamp (show i_295 < 2 ^ 31 by omega))) ?_
                    obtain ⟨n_406, hn_406, q9⟩ := hf_9.1 (i_295)
                    refine lv_eqi (y := nI n_406) q9 ?_
                    refine va_iast hx hb hK hP hD hS 1 0 rfl rfl (vp_in_nI (show i_295 < 3 by omega) (by decide)) dX7_net_120 (fun H locs hP2 hD2 hS2 => ?_)
                    clear hP hD hS
                    have hPD : PD D A [(Mn, .inl (g 0, 1767, .inl F_285)), (Mr, .inl (g 0, 3, .inl (upd F_296 (nI i_295).toNatClampNeg (nI n_406)))), (Mh, .inl (g 0, 9, .inl fmh)), (Mt, .inl (g 0, 160, .inl fmt)), (Mrr, .inl (g 0, 3, .inl frrx_6)), (Mrc, .inl (g 0, 9, .inl frcx_8)), (Mm, .inr (7, [.int 0, .ref Mt, .int 0, .int zmax_2, .int (-1), .ref Mrr, .ref Mrh, .ref Mrc, .int 1, .int (nI rcx_5), .ref Mn, .ref Mf, .ref Mr, .ref Mh, .int 1, .int (nI rcx_5), .ref Ma, .ref Mas, .ref Msn, .ref Mac, .ref Mat])), (Mrh, .inl (g 0, 9, .inl frhx_279))] H := ⟨hP2, hD2⟩
                    have hS := hS2; clear hP2 hD2 hS2; have hP := hPD.1; have hD := hPD.2; clear hPD
                    rw [nI_clamp (show i_295 < 2 ^ 31 by omega)] at hP hD
                    have hPD : PD D A [(Mn, .inl (g 0, 1767, .inl F_285)), (Mr, .inl (g 0, 3, .inl (upd F_296 (i_295) (nI n_406)))), (Mh, .inl (g 0, 9, .inl fmh)), (Mt, .inl (g 0, 160, .inl fmt)), (Mrr, .inl (g 0, 3, .inl frrx_6)), (Mrc, .inl (g 0, 9, .inl frcx_8)), (Mm, .inr (7, [.int 0, .ref Mt, .int 0, .int zmax_2, .int (-1), .ref Mrr, .ref Mrh, .ref Mrc, .int 1, .int (nI rcx_5), .ref Mn, .ref Mf, .ref Mr, .ref Mh, .int 1, .int (nI rcx_5), .ref Ma, .ref Mas, .ref Msn, .ref Mac, .ref Mat])), (Mrh, .inl (g 0, 9, .inl frhx_279))] H := ⟨hP, hD⟩
                    clear hP hD; have hP := hPD.1; have hD := hPD.2; clear hPD
                    have hF_407 : n1 (upd F_296 (i_295) (nI n_406)) := n1_upd (hF_296) (n := n_406) (show n_406 ≤ 99 by omega)
                    generalize upd F_296 (i_295) (nI n_406) = F_407 at hP hD hF_407
                    refine lv_iinc (v := (nI (i_295 + 1))) (lv' := [(1, .int (nI (i_295 + 1))), (0, .ref Mm)]) hx hb dX7_net_121 hl (k := 0) rfl (nI_1 (i_295)) (by decide) rfl (fun ls hl => ?_)
                    refine lv_goto (tgt := 104) hx hb dX7_net_124 (by decide) ?_
                    exact loop_302_ih (i_295 + 1) F_407 (hF_407) (show (i_295 + 1) ≤ 3 by omega) (show 3 - (i_295 + 1) < Nloop_302 by omega) _ _ _ hP hD hS hl
              exact loop_302 _ 0 fmr (h7) (show 0 ≤ 3 by omega) (Nat.lt_succ_self _) _ _ _ hP hD hS hl
            · skip
              have cn_408 : i_284 < 1767 := Nat.lt_of_not_le (fun q9 => cb_291 ((nI_leI (show 1767 < 2 ^ 31 by omega) (show i_284 < 2 ^ 31 by omega)).mpr q9))
              refine lv_aload_n hx hb dX7_net_89 rfl (lv_at hl 1 rfl) ?_
              refine va_get (D := D) (ci := 7) (v := .ref Mn) (C := RX7) (T := TX7) (N := 21) hx hb hts iX7 hown hK hP 6 rfl rfl 10 (by decide) f22 (fun _ h9 => h9) rfl dX7_net_90 ?_
              refine lv_iload_n hx hb dX7_net_93 rfl (lv_at hl 0 rfl) ?_
              refine lv_iconst (v := 0) hx hb dX7_net_94 (by decide) ?_
              refine va_iast hx hb hK hP hD hS 0 0 rfl rfl (vp_in_nI (show i_284 < 1767 by omega) (by decide)) dX7_net_95 (fun H locs hP2 hD2 hS2 => ?_)
              clear hP hD hS
              have hPD : PD D A [(Mn, .inl (g 0, 1767, .inl (upd F_285 (nI i_284).toNatClampNeg 0))), (Mr, .inl (g 0, 3, .inl fmr)), (Mh, .inl (g 0, 9, .inl fmh)), (Mt, .inl (g 0, 160, .inl fmt)), (Mrr, .inl (g 0, 3, .inl frrx_6)), (Mrc, .inl (g 0, 9, .inl frcx_8)), (Mm, .inr (7, [.int 0, .ref Mt, .int 0, .int zmax_2, .int (-1), .ref Mrr, .ref Mrh, .ref Mrc, .int 1, .int (nI rcx_5), .ref Mn, .ref Mf, .ref Mr, .ref Mh, .int 1, .int (nI rcx_5), .ref Ma, .ref Mas, .ref Msn, .ref Mac, .ref Mat])), (Mrh, .inl (g 0, 9, .inl frhx_279))] H := ⟨hP2, hD2⟩
              have hS := hS2; clear hP2 hD2 hS2; have hP := hPD.1; have hD := hPD.2; clear hPD
              rw [nI_clamp (show i_284 < 2 ^ 31 by omega)] at hP hD
              have hPD : PD D A [(Mn, .inl (g 0, 1767, .inl (upd F_285 (i_284) 0))), (Mr, .inl (g 0, 3, .inl fmr)), (Mh, .inl (g 0, 9, .inl fmh)), (Mt, .inl (g 0, 160, .inl fmt)), (Mrr, .inl (g 0, 3, .inl frrx_6)), (Mrc, .inl (g 0, 9, .inl frcx_8)), (Mm, .inr (7, [.int 0, .ref Mt, .int 0, .int zmax_2, .int (-1), .ref Mrr, .ref Mrh, .ref Mrc, .int 1, .int (nI rcx_5), .ref Mn, .ref Mf, .ref Mr, .ref Mh, .int 1, .int (nI rcx_5), .ref Ma, .ref Mas, .ref Msn, .ref Mac, .ref Mat])), (Mrh, .inl (g 0, 9, .inl frhx_279))] H := ⟨hP, hD⟩
              clear hP hD; have hP := hPD.1; have hD := hPD.2; clear hPD
              have hF_409 : mOK tb ub (upd F_285 (i_284) 0) := mOK_zero hF_285
              generalize upd F_285 (i_284) 0 = F_409 at hP hD hF_409
              refine lv_iinc (v := (nI (i_284 + 1))) (lv' := [(1, .int (nI (i_284 + 1))), (0, .ref Mm)]) hx hb dX7_net_96 hl (k := 0) rfl (nI_1 (i_284)) (by decide) rfl (fun ls hl => ?_)
              refine lv_goto (tgt := 82) hx hb dX7_net_99 (by decide) ?_
              exact loop_290_ih (i_284 + 1) F_409 (hF_409) (show (i_284 + 1) ≤ 1767 by omega) (show 1767 - (i_284 + 1) < Nloop_290 by omega) _ _ _ hP hD hS hl
        exact loop_290 _ 0 fno (h6) (show 0 ≤ 1767 by omega) (Nat.lt_succ_self _) _ _ _ hP hD hS hl
      · skip
        have cn_410 : rcx_5 = 0 := (nI_eq (show rcx_5 < 2 ^ 31 by omega) (show 0 < 2 ^ 31 by omega)).mp cb_281
        refine lv_aload_n hx hb dX7_net_49 rfl (lv_at hl 0 rfl) ?_
        refine lv_iconst (v := 2) hx hb dX7_net_50 (by decide) ?_
        refine lv_aload_n hx hb dX7_net_51 rfl (lv_at hl 0 rfl) ?_
        refine va_get (D := D) (ci := 7) (v := .ref Mrc) (C := RX7) (T := TX7) (N := 21) hx hb hts iX7 hown hK hP 6 rfl rfl 7 (by decide) f19 (fun _ h9 => h9) rfl dX7_net_52 ?_
        refine lv_iconst (v := 0) hx hb dX7_net_55 (by decide) ?_
        refine ky_Vv (As := [.int 2, .ref Mrc, .int 0]) (rest := []) ⟨hx, hb, hml, hown, hts⟩ ⟨hK, hN⟩ hZ hP hD hS hA [6, 5] [0, 1, 2, 3, 4, 7] (wc := [(Mm, .inr (7, [.int 0, .ref Mt, .int 0, .int zmax_2, .int (-1), .ref Mrr, .ref Mrh, .ref Mrc, .int 1, .int (nI rcx_5), .ref Mn, .ref Mf, .ref Mr, .ref Mh, .int (nI hp), .int (nI cc), .ref Ma, .ref Mas, .ref Msn, .ref Mac, .ref Mat])), (Mrc, .inl (g 0, 9, .inl frcx_8))]) (wr := [(Mn, .inl (g 0, 1767, .inl fno)), (Mr, .inl (g 0, 3, .inl fmr)), (Mh, .inl (g 0, 9, .inl fmh)), (Mt, .inl (g 0, 160, .inl fmt)), (Mrr, .inl (g 0, 3, .inl frrx_6)), (Mrh, .inl (g 0, 9, .inl frhx_279))]) rfl rfl rfl rfl (by decide) (k_X7_laysUsual_2 l D g H.size Mm Mrc 0 0 Mt 0 zmax_2 (-1) Mrr Mrh 1 (nI rcx_5) Mn Mf Mr Mh (nI hp) (nI cc) Ma Mas Msn Mac Mat frcx_8 (show 0 ≤ 6 by omega) (hf_9.2.2.1)) (cwV 3 hts gX7_net_X7_laysUsual rfl rfl rfl (by decide +kernel) ⟨(Nat.le_of_ble_eq_true rfl), (Nat.le_of_ble_eq_true rfl)⟩) 6 7 rfl rfl rfl rfl hl.1 rfl (Nat.le_of_ble_eq_true rfl) dX7_net_56 ⟨(Nat.le_of_ble_eq_true rfl), (Nat.le_of_ble_eq_true rfl)⟩ (fun u H locs hw hP2 hD2 hS2 => ?_)
        clear hP hD hS
        obtain ⟨frcx_412, rfl, hf_413⟩ := hw
        have hPD : PD D A [(Mn, .inl (g 0, 1767, .inl fno)), (Mr, .inl (g 0, 3, .inl fmr)), (Mh, .inl (g 0, 9, .inl fmh)), (Mt, .inl (g 0, 160, .inl fmt)), (Mrr, .inl (g 0, 3, .inl frrx_6)), (Mrh, .inl (g 0, 9, .inl frhx_279)), (Mm, .inr (7, [.int 0, .ref Mt, .int 0, .int zmax_2, .int (-1), .ref Mrr, .ref Mrh, .ref Mrc, .int 1, .int (nI rcx_5), .ref Mn, .ref Mf, .ref Mr, .ref Mh, .int (nI hp), .int (nI cc), .ref Ma, .ref Mas, .ref Msn, .ref Mac, .ref Mat])), (Mrc, .inl (g 0, 9, .inl frcx_412))] H := ⟨hP2, hD2⟩
        have hS := hS2; clear hP2 hD2 hS2; have hP := hPD.1; have hD := hPD.2; clear hPD
        refine W.widen (k := 0) (n := 0) (Nat.le_of_ble_eq_true rfl) (Nat.le_of_ble_eq_true rfl) ?_
        refine lv_aload_n hx hb dX7_net_59 rfl (lv_at hl 0 rfl) ?_
        refine lv_iconst (v := 1) hx hb dX7_net_60 (by decide) ?_
        refine va_put (D := D) (ci := 7) (v := .int 1) (ty := .int) (C := RX7) (T := TX7) (N := 21) hx hb hts iX7 tyX7 tyX7_ok nmX7 hown hK hP hD hS 6 rfl rfl 9 (by decide) f114 (fun _ h9 => h9) rfl (by decide +kernel) (rfl) (rfl) (Nat.le_of_ble_eq_true rfl) dX7_net_61 (fun H locs hP2 hD2 hS2 => ?_)
        clear hP hD hS
        have hPD : PD D A [(Mn, .inl (g 0, 1767, .inl fno)), (Mr, .inl (g 0, 3, .inl fmr)), (Mh, .inl (g 0, 9, .inl fmh)), (Mt, .inl (g 0, 160, .inl fmt)), (Mrr, .inl (g 0, 3, .inl frrx_6)), (Mrh, .inl (g 0, 9, .inl frhx_279)), (Mm, .inr (7, [.int 0, .ref Mt, .int 0, .int zmax_2, .int (-1), .ref Mrr, .ref Mrh, .ref Mrc, .int 1, .int 1, .ref Mn, .ref Mf, .ref Mr, .ref Mh, .int (nI hp), .int (nI cc), .ref Ma, .ref Mas, .ref Msn, .ref Mac, .ref Mat])), (Mrc, .inl (g 0, 9, .inl frcx_412))] H := ⟨hP2, hD2⟩
        have hS := hS2; clear hP2 hD2 hS2; have hP := hPD.1; have hD := hPD.2; clear hPD
        refine lv_aload_n hx hb dX7_net_64 rfl (lv_at hl 0 rfl) ?_
        refine lv_aload_n hx hb dX7_net_65 rfl (lv_at hl 0 rfl) ?_
        refine va_get (D := D) (ci := 7) (v := .int 1) (C := RX7) (T := TX7) (N := 21) hx hb hts iX7 hown hK hP 6 rfl rfl 8 (by decide) f111 (fun _ h9 => h9) rfl dX7_net_66 ?_
        refine va_put (D := D) (ci := 7) (v := .int 1) (ty := .int) (C := RX7) (T := TX7) (N := 21) hx hb hts iX7 tyX7 tyX7_ok nmX7 hown hK hP hD hS 6 rfl rfl 14 (by decide) f124 (fun _ h9 => h9) rfl (by decide +kernel) (rfl) (rfl) (Nat.le_of_ble_eq_true rfl) dX7_net_69 (fun H locs hP2 hD2 hS2 => ?_)
        clear hP hD hS
        have hPD : PD D A [(Mn, .inl (g 0, 1767, .inl fno)), (Mr, .inl (g 0, 3, .inl fmr)), (Mh, .inl (g 0, 9, .inl fmh)), (Mt, .inl (g 0, 160, .inl fmt)), (Mrr, .inl (g 0, 3, .inl frrx_6)), (Mrh, .inl (g 0, 9, .inl frhx_279)), (Mm, .inr (7, [.int 0, .ref Mt, .int 0, .int zmax_2, .int (-1), .ref Mrr, .ref Mrh, .ref Mrc, .int 1, .int 1, .ref Mn, .ref Mf, .ref Mr, .ref Mh, .int 1, .int (nI cc), .ref Ma, .ref Mas, .ref Msn, .ref Mac, .ref Mat])), (Mrc, .inl (g 0, 9, .inl frcx_412))] H := ⟨hP2, hD2⟩
        have hS := hS2; clear hP2 hD2 hS2; have hP := hPD.1; have hD := hPD.2; clear hPD
        refine lv_aload_n hx hb dX7_net_72 rfl (lv_at hl 0 rfl) ?_
        refine lv_aload_n hx hb dX7_net_73 rfl (lv_at hl 0 rfl) ?_
        refine va_get (D := D) (ci := 7) (v := .int 1) (C := RX7) (T := TX7) (N := 21) hx hb hts iX7 hown hK hP 6 rfl rfl 9 (by decide) f114 (fun _ h9 => h9) rfl dX7_net_74 ?_
        refine va_put (D := D) (ci := 7) (v := .int 1) (ty := .int) (C := RX7) (T := TX7) (N := 21) hx hb hts iX7 tyX7 tyX7_ok nmX7 hown hK hP hD hS 6 rfl rfl 15 (by decide) f127 (fun _ h9 => h9) rfl (by decide +kernel) (rfl) (rfl) (Nat.le_of_ble_eq_true rfl) dX7_net_77 (fun H locs hP2 hD2 hS2 => ?_)
        clear hP hD hS
        have hPD : PD D A [(Mn, .inl (g 0, 1767, .inl fno)), (Mr, .inl (g 0, 3, .inl fmr)), (Mh, .inl (g 0, 9, .inl fmh)), (Mt, .inl (g 0, 160, .inl fmt)), (Mrr, .inl (g 0, 3, .inl frrx_6)), (Mrh, .inl (g 0, 9, .inl frhx_279)), (Mm, .inr (7, [.int 0, .ref Mt, .int 0, .int zmax_2, .int (-1), .ref Mrr, .ref Mrh, .ref Mrc, .int 1, .int 1, .ref Mn, .ref Mf, .ref Mr, .ref Mh, .int 1, .int 1, .ref Ma, .ref Mas, .ref Msn, .ref Mac, .ref Mat])), (Mrc, .inl (g 0, 9, .inl frcx_412))] H := ⟨hP2, hD2⟩
        have hS := hS2; clear hP2 hD2 hS2; have hP := hPD.1; have hD := hPD.2; clear hPD
        refine lv_iconst (v := 0) hx hb dX7_net_80 (by decide) ?_
        refine lv_istore_n (lv' := [(1, .int 0), (0, .ref Mm)]) hx hb dX7_net_81 rfl hl (by decide) rfl (fun ls hl => ?_)
        have loop_421 : ∀ (Nloop_421 : Nat) (i_415 : Nat) (F_416 : Nat → Int32) (hF_416 : mOK tb ub F_416) (hbi_415 : i_415 ≤ 1767) (hmloop_421 : 1767 - i_415 < Nloop_421) (H : Heap) (locs : List Loc) (ls : Array Slot), va_P D vwCl [(Mn, .inl (g 0, 1767, .inl F_416)), (Mr, .inl (g 0, 3, .inl fmr)), (Mh, .inl (g 0, 9, .inl fmh)), (Mt, .inl (g 0, 160, .inl fmt)), (Mrr, .inl (g 0, 3, .inl frrx_6)), (Mrh, .inl (g 0, 9, .inl frhx_279)), (Mm, .inr (7, [.int 0, .ref Mt, .int 0, .int zmax_2, .int (-1), .ref Mrr, .ref Mrh, .ref Mrc, .int 1, .int 1, .ref Mn, .ref Mf, .ref Mr, .ref Mh, .int 1, .int 1, .ref Ma, .ref Mas, .ref Msn, .ref Mac, .ref Mat])), (Mrc, .inl (g 0, 9, .inl frcx_412))] H → va_D A [(Mn, .inl (g 0, 1767, .inl F_416)), (Mr, .inl (g 0, 3, .inl fmr)), (Mh, .inl (g 0, 9, .inl fmh)), (Mt, .inl (g 0, 160, .inl fmt)), (Mrr, .inl (g 0, 3, .inl frrx_6)), (Mrh, .inl (g 0, 9, .inl frhx_279)), (Mm, .inr (7, [.int 0, .ref Mt, .int 0, .int zmax_2, .int (-1), .ref Mrr, .ref Mrh, .ref Mrc, .int 1, .int 1, .ref Mn, .ref Mf, .ref Mr, .ref Mh, .int 1, .int 1, .ref Ma, .ref Mas, .ref Msn, .ref Mac, .ref Mat])), (Mrc, .inl (g 0, 9, .inl frcx_412))] → va_S A s.heap H locs → lv_has ls 3 [(1, .int (nI i_415)), (0, .ref Mm)] → W p l e (headSpec wsX7_net ({ frames := 6, cells := 0, slots := 0, locals := 133 })).room s m ([.ref Mm] : List Value).toArray below meth c H locs 0 0 Q (F0 m 82 ls []) := by
          clear hP hD hS hl
          intro Nloop_421
          induction Nloop_421 with
          | zero => intro i_415 F_416 hF_416 hbi_415 hm9; exact absurd hm9 (Nat.not_lt_zero _)
          | succ Nloop_421 loop_421_ih =>
            intro i_415 F_416 hF_416 hbi_415 hmloop_421 H locs ls hP hD hS hl
            refine lv_iload_n hx hb dX7_net_82 rfl (lv_at hl 0 rfl) ?_
            refine lv_sipush (v := 1767) hx hb dX7_net_83 (by decide) ?_
            refine lv_icmp_ge (tgt := 102) hx hb dX7_net_86 (by decide) (fun cb_422 => ?_) (fun cb_422 => ?_)
            · skip
              have cn_423 : 1767 ≤ i_415 := (nI_leI (show 1767 < 2 ^ 31 by omega) (show i_415 < 2 ^ 31 by omega)).mp cb_422
              refine lv_iconst (v := 0) hx hb dX7_net_102 (by decide) ?_
              refine lv_istore_n (lv' := [(1, .int 0), (0, .ref Mm)]) hx hb dX7_net_103 rfl hl (by decide) rfl (fun ls hl => ?_)
              have loop_433 : ∀ (Nloop_433 : Nat) (i_426 : Nat) (F_427 : Nat → Int32) (hF_427 : n1 F_427) (hbi_426 : i_426 ≤ 3) (hmloop_433 : 3 - i_426 < Nloop_433) (H : Heap) (locs : List Loc) (ls : Array Slot), va_P D vwCl [(Mn, .inl (g 0, 1767, .inl F_416)), (Mr, .inl (g 0, 3, .inl F_427)), (Mh, .inl (g 0, 9, .inl fmh)), (Mt, .inl (g 0, 160, .inl fmt)), (Mrr, .inl (g 0, 3, .inl frrx_6)), (Mrh, .inl (g 0, 9, .inl frhx_279)), (Mm, .inr (7, [.int 0, .ref Mt, .int 0, .int zmax_2, .int (-1), .ref Mrr, .ref Mrh, .ref Mrc, .int 1, .int 1, .ref Mn, .ref Mf, .ref Mr, .ref Mh, .int 1, .int 1, .ref Ma, .ref Mas, .ref Msn, .ref Mac, .ref Mat])), (Mrc, .inl (g 0, 9, .inl frcx_412))] H → va_D A [(Mn, .inl (g 0, 1767, .inl F_416)), (Mr, .inl (g 0, 3, .inl F_427)), (Mh, .inl (g 0, 9, .inl fmh)), (Mt, .inl (g 0, 160, .inl fmt)), (Mrr, .inl (g 0, 3, .inl frrx_6)), (Mrh, .inl (g 0, 9, .inl frhx_279)), (Mm, .inr (7, [.int 0, .ref Mt, .int 0, .int zmax_2, .int (-1), .ref Mrr, .ref Mrh, .ref Mrc, .int 1, .int 1, .ref Mn, .ref Mf, .ref Mr, .ref Mh, .int 1, .int 1, .ref Ma, .ref Mas, .ref Msn, .ref Mac, .ref Mat])), (Mrc, .inl (g 0, 9, .inl frcx_412))] → va_S A s.heap H locs → lv_has ls 3 [(1, .int (nI i_426)), (0, .ref Mm)] → W p l e (headSpec wsX7_net ({ frames := 6, cells := 0, slots := 0, locals := 133 })).room s m ([.ref Mm] : List Value).toArray below meth c H locs 0 0 Q (F0 m 104 ls []) := by
                clear hP hD hS hl
                intro Nloop_433
                induction Nloop_433 with
                | zero => intro i_426 F_427 hF_427 hbi_426 hm9; exact absurd hm9 (Nat.not_lt_zero _)
                | succ Nloop_433 loop_433_ih =>
                  intro i_426 F_427 hF_427 hbi_426 hmloop_433 H locs ls hP hD hS hl
                  refine lv_iload_n hx hb dX7_net_104 rfl (lv_at hl 0 rfl) ?_
                  refine lv_iconst (v := 3) hx hb dX7_net_105 (by decide) ?_
                  refine lv_icmp_ge (tgt := 127) hx hb dX7_net_106 (by decide) (fun cb_434 => ?_) (fun cb_434 => ?_)
                  · skip
                    have cn_435 : 3 ≤ i_426 := (nI_leI (show 3 < 2 ^ 31 by omega) (show i_426 < 2 ^ 31 by omega)).mp cb_434
                    refine lv_iconst (v := 0) hx hb dX7_net_127 (by decide) ?_
                    refine lv_istore_n (lv' := [(1, .int 0), (0, .ref Mm)]) hx hb dX7_net_128 rfl hl (by decide) rfl (fun ls hl => ?_)
                    have loop_452 : ∀ (Nloop_452 : Nat) (i_441 : Nat) (F_442 : Nat → Int32) (F_443 : Nat → Int32) (hF_442 : mOK tb ub F_442) (hF_443 : n3 F_443) (hbi_441 : i_441 ≤ 1) (hmloop_452 : 1 - i_441 < Nloop_452) (H : Heap) (locs : List Loc) (ls : Array Slot), va_P D vwCl [(Mn, .inl (g 0, 1767, .inl F_442)), (Mr, .inl (g 0, 3, .inl F_427)), (Mh, .inl (g 0, 9, .inl F_443)), (Mt, .inl (g 0, 160, .inl fmt)), (Mrr, .inl (g 0, 3, .inl frrx_6)), (Mrh, .inl (g 0, 9, .inl frhx_279)), (Mm, .inr (7, [.int 0, .ref Mt, .int 0, .int zmax_2, .int (-1), .ref Mrr, .ref Mrh, .ref Mrc, .int 1, .int 1, .ref Mn, .ref Mf, .ref Mr, .ref Mh, .int 1, .int 1, .ref Ma, .ref Mas, .ref Msn, .ref Mac, .ref Mat])), (Mrc, .inl (g 0, 9, .inl frcx_412))] H → va_D A [(Mn, .inl (g 0, 1767, .inl F_442)), (Mr, .inl (g 0, 3, .inl F_427)), (Mh, .inl (g 0, 9, .inl F_443)), (Mt, .inl (g 0, 160, .inl fmt)), (Mrr, .inl (g 0, 3, .inl frrx_6)), (Mrh, .inl (g 0, 9, .inl frhx_279)), (Mm, .inr (7, [.int 0, .ref Mt, .int 0, .int zmax_2, .int (-1), .ref Mrr, .ref Mrh, .ref Mrc, .int 1, .int 1, .ref Mn, .ref Mf, .ref Mr, .ref Mh, .int 1, .int 1, .ref Ma, .ref Mas, .ref Msn, .ref Mac, .ref Mat])), (Mrc, .inl (g 0, 9, .inl frcx_412))] → va_S A s.heap H locs → lv_has ls 3 [(1, .int (nI i_441)), (0, .ref Mm)] → W p l e (headSpec wsX7_net ({ frames := 6, cells := 0, slots := 0, locals := 133 })).room s m ([.ref Mm] : List Value).toArray below meth c H locs 0 0 Q (F0 m 129 ls []) := by
                      clear hP hD hS hl
                      intro Nloop_452
                      induction Nloop_452 with
                      | zero => intro i_441 F_442 F_443 hF_442 hF_443 hbi_441 hm9; exact absurd hm9 (Nat.not_lt_zero _)
                      | succ Nloop_452 loop_452_ih =>
                        intro i_441 F_442 F_443 hF_442 hF_443 hbi_441 hmloop_452 H locs ls hP hD hS hl
                        refine lv_iload_n hx hb dX7_net_129 rfl (lv_at hl 0 rfl) ?_
                        refine lv_aload_n hx hb dX7_net_130 rfl (lv_at hl 1 rfl) ?_
                        refine va_get (D := D) (ci := 7) (v := .int 1) (C := RX7) (T := TX7) (N := 21) hx hb hts iX7 hown hK hP 6 rfl rfl 14 (by decide) f124 (fun _ h9 => h9) rfl dX7_net_131 ?_
                        refine lv_icmp_ge (tgt := 148) hx hb dX7_net_134 (by decide) (fun cb_453 => ?_) (fun cb_453 => ?_)
                        · skip
                          have cn_454 : 1 ≤ i_441 := (nI_leI (show 1 < 2 ^ 31 by omega) (show i_441 < 2 ^ 31 by omega)).mp cb_453
                          refine lv_iconst (v := 0) hx hb dX7_net_148 (by decide) ?_
                          refine lv_istore_n (lv' := [(1, .int 0), (0, .ref Mm)]) hx hb dX7_net_149 rfl hl (by decide) rfl (fun ls hl => ?_)
                          have loop_504 : ∀ (Nloop_504 : Nat) (i_477 : Nat) (F_478 : Nat → Int32) (hF_478 : mOK tb ub F_478) (hbi_477 : i_477 ≤ 1) (hmloop_504 : 1 - i_477 < Nloop_504) (H : Heap) (locs : List Loc) (ls : Array Slot), va_P D vwCl [(Mn, .inl (g 0, 1767, .inl F_478)), (Mr, .inl (g 0, 3, .inl F_427)), (Mh, .inl (g 0, 9, .inl F_443)), (Mt, .inl (g 0, 160, .inl fmt)), (Mrr, .inl (g 0, 3, .inl frrx_6)), (Mrh, .inl (g 0, 9, .inl frhx_279)), (Mm, .inr (7, [.int 0, .ref Mt, .int 0, .int zmax_2, .int (-1), .ref Mrr, .ref Mrh, .ref Mrc, .int 1, .int 1, .ref Mn, .ref Mf, .ref Mr, .ref Mh, .int 1, .int 1, .ref Ma, .ref Mas, .ref Msn, .ref Mac, .ref Mat])), (Mrc, .inl (g 0, 9, .inl frcx_412))] H → va_D A [(Mn, .inl (g 0, 1767, .inl F_478)), (Mr, .inl (g 0, 3, .inl F_427)), (Mh, .inl (g 0, 9, .inl F_443)), (Mt, .inl (g 0, 160, .inl fmt)), (Mrr, .inl (g 0, 3, .inl frrx_6)), (Mrh, .inl (g 0, 9, .inl frhx_279)), (Mm, .inr (7, [.int 0, .ref Mt, .int 0, .int zmax_2, .int (-1), .ref Mrr, .ref Mrh, .ref Mrc, .int 1, .int 1, .ref Mn, .ref Mf, .ref Mr, .ref Mh, .int 1, .int 1, .ref Ma, .ref Mas, .ref Msn, .ref Mac, .ref Mat])), (Mrc, .inl (g 0, 9, .inl frcx_412))] → va_S A s.heap H locs → lv_has ls 3 [(1, .int (nI i_477)), (0, .ref Mm)] → W p l e (headSpec wsX7_net ({ frames := 6, cells := 0, slots := 0, locals := 133 })).room s m ([.ref Mm] : List Value).toArray below meth c H locs 0 0 Q (F0 m 150 ls []) := by
                            clear hP hD hS hl
                            intro Nloop_504
                            induction Nloop_504 with
                            | zero => intro i_477 F_478 hF_478 hbi_477 hm9; exact absurd hm9 (Nat.not_lt_zero _)
                            | succ Nloop_504 loop_504_ih =>
                              intro i_477 F_478 hF_478 hbi_477 hmloop_504 H locs ls hP hD hS hl
                              refine lv_iload_n hx hb dX7_net_150 rfl (lv_at hl 0 rfl) ?_
                              refine lv_aload_n hx hb dX7_net_151 rfl (lv_at hl 1 rfl) ?_
                              refine va_get (D := D) (ci := 7) (v := .int 1) (C := RX7) (T := TX7) (N := 21) hx hb hts iX7 hown hK hP 6 rfl rfl 15 (by decide) f127 (fun _ h9 => h9) rfl dX7_net_152 ?_
                              refine lv_icmp_ge (tgt := 211) hx hb dX7_net_155 (by decide) (fun cb_505 => ?_) (fun cb_505 => ?_)
                              · skip
                                have cn_506 : 1 ≤ i_477 := (nI_leI (show 1 < 2 ^ 31 by omega) (show i_477 < 2 ^ 31 by omega)).mp cb_505
                                refine lv_aload_n hx hb dX7_net_211 rfl (lv_at hl 1 rfl) ?_
                                refine va_get (D := D) (ci := 7) (v := .int 1) (C := RX7) (T := TX7) (N := 21) hx hb hts iX7 hown hK hP 6 rfl rfl 15 (by decide) f127 (fun _ h9 => h9) rfl dX7_net_212 ?_
                                have hPD9 : PD D A [(Mm, .inr (7, [.int 0, .ref Mt, .int 0, .int zmax_2, .int (-1), .ref Mrr, .ref Mrh, .ref Mrc, .int 1, .int 1, .ref Mn, .ref Mf, .ref Mr, .ref Mh, .int 1, .int 1, .ref Ma, .ref Mas, .ref Msn, .ref Mac, .ref Mat])), (Mt, .inl (g 0, 160, .inl fmt)), (Mrr, .inl (g 0, 3, .inl frrx_6)), (Mrh, .inl (g 0, 9, .inl frhx_279)), (Mrc, .inl (g 0, 9, .inl frcx_412)), (Mn, .inl (g 0, 1767, .inl F_478)), (Mr, .inl (g 0, 3, .inl F_427)), (Mh, .inl (g 0, 9, .inl F_443))] H := ⟨hP.sub [6, 3, 4, 5, 7, 0, 1, 2] rfl, hD.sub [6, 3, 4, 5, 7, 0, 1, 2] (by decide) rfl⟩
                                have hP9 := hPD9.1; have hD9 := hPD9.2
                                subst hQ
                                refine W.widen (k := 0) (n := 0) (Nat.le_of_ble_eq_true rfl) (Nat.le_of_ble_eq_true rfl) ?_
                                exact W.iret (v := 1) hx hb hr (fun tS htS _ => ⟨⟨_, _, rfl, ⟨(lf2 [frrx_6, frhx_279, frcx_412, F_478, F_427, F_443]), 0, 0, zmax_2, (-1), 1, 1, 1, 1, 1, rfl, rfl, ⟨(hf_9.1), (hf_280), (hf_413), (hF_478), (hF_427), (hF_443), (show 1 ≤ 3 by omega), (show 1 ≤ 3 by omega), (show (1 = 0 ∧ 1 = 0) ∨ (1 ≤ 1 ∧ 1 ≤ 1) by omega), (show 0 ≤ 160 by omega), nt_yes (cc := 1) hf_9.2.2.2.2.2 rfl (by omega)⟩⟩, by rw [htS]; exact hP9, hD9⟩, hS.F htS⟩) hS.2.2 dX7_net_215
                              · skip
                                have cn_507 : i_477 < 1 := Nat.lt_of_not_le (fun q9 => cb_505 ((nI_leI (show 1 < 2 ^ 31 by omega) (show i_477 < 2 ^ 31 by omega)).mpr q9))
                                refine lv_iconst (v := 0) hx hb dX7_net_158 (by decide) ?_
                                refine lv_istore_n (lv' := [(2, .int 0), (1, .int (nI i_477)), (0, .ref Mm)]) hx hb dX7_net_159 rfl hl (by decide) rfl (fun ls hl => ?_)
                                have loop_521 : ∀ (Nloop_521 : Nat) (i_511 : Nat) (F_512 : Nat → Int32) (hF_512 : mOK tb ub F_512) (hbi_511 : i_511 ≤ 3) (hmloop_521 : 3 - i_511 < Nloop_521) (H : Heap) (locs : List Loc) (ls : Array Slot), va_P D vwCl [(Mn, .inl (g 0, 1767, .inl F_512)), (Mr, .inl (g 0, 3, .inl F_427)), (Mh, .inl (g 0, 9, .inl F_443)), (Mt, .inl (g 0, 160, .inl fmt)), (Mrr, .inl (g 0, 3, .inl frrx_6)), (Mrh, .inl (g 0, 9, .inl frhx_279)), (Mm, .inr (7, [.int 0, .ref Mt, .int 0, .int zmax_2, .int (-1), .ref Mrr, .ref Mrh, .ref Mrc, .int 1, .int 1, .ref Mn, .ref Mf, .ref Mr, .ref Mh, .int 1, .int 1, .ref Ma, .ref Mas, .ref Msn, .ref Mac, .ref Mat])), (Mrc, .inl (g 0, 9, .inl frcx_412))] H → va_D A [(Mn, .inl (g 0, 1767, .inl F_512)), (Mr, .inl (g 0, 3, .inl F_427)), (Mh, .inl (g 0, 9, .inl F_443)), (Mt, .inl (g 0, 160, .inl fmt)), (Mrr, .inl (g 0, 3, .inl frrx_6)), (Mrh, .inl (g 0, 9, .inl frhx_279)), (Mm, .inr (7, [.int 0, .ref Mt, .int 0, .int zmax_2, .int (-1), .ref Mrr, .ref Mrh, .ref Mrc, .int 1, .int 1, .ref Mn, .ref Mf, .ref Mr, .ref Mh, .int 1, .int 1, .ref Ma, .ref Mas, .ref Msn, .ref Mac, .ref Mat])), (Mrc, .inl (g 0, 9, .inl frcx_412))] → va_S A s.heap H locs → lv_has ls 3 [(2, .int (nI i_511)), (1, .int (nI i_477)), (0, .ref Mm)] → W p l e (headSpec wsX7_net ({ frames := 6, cells := 0, slots := 0, locals := 133 })).room s m ([.ref Mm] : List Value).toArray below meth c H locs 0 0 Q (F0 m 160 ls []) := by
                                  clear hP hD hS hl
                                  intro Nloop_521
                                  induction Nloop_521 with
                                  | zero => intro i_511 F_512 hF_512 hbi_511 hm9; exact absurd hm9 (Nat.not_lt_zero _)
                                  | succ Nloop_521 loop_521_ih =>
                                    intro i_511 F_512 hF_512 hbi_511 hmloop_521 H locs ls hP hD hS hl
                                    refine lv_iload_n hx hb dX7_net_160 rfl (lv_at hl 0 rfl) ?_
                                    refine lv_iconst (v := 3) hx hb dX7_net_161 (by decide) ?_
                                    refine lv_icmp_ge (tgt := 192) hx hb dX7_net_162 (by decide) (fun cb_522 => ?_) (fun cb_522 => ?_)
                                    · skip
                                      have cn_523 : 3 ≤ i_511 := (nI_leI (show 3 < 2 ^ 31 by omega) (show i_511 < 2 ^ 31 by omega)).mp cb_522
                                      refine lv_aload_n hx hb dX7_net_192 rfl (lv_at hl 2 rfl) ?_
                                      refine va_get (D := D) (ci := 7) (v := .ref Mn) (C := RX7) (T := TX7) (N := 21) hx hb hts iX7 hown hK hP 6 rfl rfl 10 (by decide) f22 (fun _ h9 => h9) rfl dX7_net_193 ?_
                                      refine lv_iload_n hx hb dX7_net_196 rfl (lv_at hl 1 rfl) ?_
                                      refine ky_Si (As := [.int (nI i_477)]) (rest := [.ref Mn]) ⟨hx, hb, hml, hown, hts⟩ ⟨hK, hN⟩ hZ hP hD hS hA [] [0, 1, 2, 3, 4, 5, 6, 7] (wc := []) (wr := [(Mn, .inl (g 0, 1767, .inl F_512)), (Mr, .inl (g 0, 3, .inl F_427)), (Mh, .inl (g 0, 9, .inl F_443)), (Mt, .inl (g 0, 160, .inl fmt)), (Mrr, .inl (g 0, 3, .inl frrx_6)), (Mrh, .inl (g 0, 9, .inl frhx_279)), (Mm, .inr (7, [.int 0, .ref Mt, .int 0, .int zmax_2, .int (-1), .ref Mrr, .ref Mrh, .ref Mrc, .int 1, .int 1, .ref Mn, .ref Mf, .ref Mr, .ref Mh, .int 1, .int 1, .ref Ma, .ref Mas, .ref Msn, .ref Mac, .ref Mat])), (Mrc, .inl (g 0, 9, .inl frcx_412))]) rfl rfl rfl rfl (by decide) (k_X7_circuitAt l D g H.size i_477 (show i_477 < 3 by omega)) (va_cwS 1 hts gX7_net_X7_circuitAt rfl rfl rfl (by decide +kernel) ⟨(Nat.le_of_ble_eq_true rfl), (Nat.le_of_ble_eq_true rfl)⟩) rfl hl.1 rfl (Nat.le_of_ble_eq_true rfl) dX7_net_197 ⟨(Nat.le_of_ble_eq_true rfl), (Nat.le_of_ble_eq_true rfl)⟩ (fun r_524 u H locs hw hP2 hD2 hS2 => ?_)
                                      clear hP hD hS
                                      obtain ⟨rfl, rfl⟩ := hw
                                      have hPD : PD D A [(Mn, .inl (g 0, 1767, .inl F_512)), (Mr, .inl (g 0, 3, .inl F_427)), (Mh, .inl (g 0, 9, .inl F_443)), (Mt, .inl (g 0, 160, .inl fmt)), (Mrr, .inl (g 0, 3, .inl frrx_6)), (Mrh, .inl (g 0, 9, .inl frhx_279)), (Mm, .inr (7, [.int 0, .ref Mt, .int 0, .int zmax_2, .int (-1), .ref Mrr, .ref Mrh, .ref Mrc, .int 1, .int 1, .ref Mn, .ref Mf, .ref Mr, .ref Mh, .int 1, .int 1, .ref Ma, .ref Mas, .ref Msn, .ref Mac, .ref Mat])), (Mrc, .inl (g 0, 9, .inl frcx_412))] H := ⟨hP2, hD2⟩
                                      have hS := hS2; clear hP2 hD2 hS2; have hP := hPD.1; have hD := hPD.2; clear hPD
                                      refine W.widen (k := 0) (n := 0) (Nat.le_of_ble_eq_true rfl) (Nat.le_of_ble_eq_true rfl) ?_
                                      refine lv_bipush (v := 6) hx hb dX7_net_200 (by decide) ?_
                                      refine lv_iadd hx hb dX7_net_202 ?_
                                      refine lv_eqi (y := (nI (201 + 9 * i_477 + 6))) (nI_add (201 + 9 * i_477) (6)) ?_
                                      refine lv_iconst (v := (-1)) hx hb dX7_net_203 (by decide) ?_
                                      refine va_iast hx hb hK hP hD hS 0 0 rfl rfl (vp_in_nI (show 201 + 9 * i_477 + 6 < 1767 by omega) (by decide)) dX7_net_204 (fun H locs hP2 hD2 hS2 => ?_)
                                      clear hP hD hS
                                      have hPD : PD D A [(Mn, .inl (g 0, 1767, .inl (upd F_512 (nI (201 + 9 * i_477 + 6)).toNatClampNeg (-1)))), (Mr, .inl (g 0, 3, .inl F_427)), (Mh, .inl (g 0, 9, .inl F_443)), (Mt, .inl (g 0, 160, .inl fmt)), (Mrr, .inl (g 0, 3, .inl frrx_6)), (Mrh, .inl (g 0, 9, .inl frhx_279)), (Mm, .inr (7, [.int 0, .ref Mt, .int 0, .int zmax_2, .int (-1), .ref Mrr, .ref Mrh, .ref Mrc, .int 1, .int 1, .ref Mn, .ref Mf, .ref Mr, .ref Mh, .int 1, .int 1, .ref Ma, .ref Mas, .ref Msn, .ref Mac, .ref Mat])), (Mrc, .inl (g 0, 9, .inl frcx_412))] H := ⟨hP2, hD2⟩
                                      have hS := hS2; clear hP2 hD2 hS2; have hP := hPD.1; have hD := hPD.2; clear hPD
                                      rw [nI_clamp (show 201 + 9 * i_477 + 6 < 2 ^ 31 by omega)] at hP hD
                                      have hPD : PD D A [(Mn, .inl (g 0, 1767, .inl (upd F_512 (201 + 9 * i_477 + 6) (-1)))), (Mr, .inl (g 0, 3, .inl F_427)), (Mh, .inl (g 0, 9, .inl F_443)), (Mt, .inl (g 0, 160, .inl fmt)), (Mrr, .inl (g 0, 3, .inl frrx_6)), (Mrh, .inl (g 0, 9, .inl frhx_279)), (Mm, .inr (7, [.int 0, .ref Mt, .int 0, .int zmax_2, .int (-1), .ref Mrr, .ref Mrh, .ref Mrc, .int 1, .int 1, .ref Mn, .ref Mf, .ref Mr, .ref Mh, .int 1, .int 1, .ref Ma, .ref Mas, .ref Msn, .ref Mac, .ref Mat])), (Mrc, .inl (g 0, 9, .inl frcx_412))] H := ⟨hP, hD⟩
                                      clear hP hD; have hP := hPD.1; have hD := hPD.2; clear hPD
                                      have hF_525 : mOK tb ub (upd F_512 (201 + 9 * i_477 + 6) (-1)) := mOK_free hF_512 (show mfree (201 + 9 * i_477 + 6) by unfold mfree; omega)
                                      generalize upd F_512 (201 + 9 * i_477 + 6) (-1) = F_525 at hP hD hF_525
                                      refine lv_iinc (v := (nI (i_477 + 1))) (lv' := [(1, .int (nI (i_477 + 1))), (2, .int (nI i_511)), (0, .ref Mm)]) hx hb dX7_net_205 hl (k := 1) rfl (nI_1 (i_477)) (by decide) rfl (fun ls hl => ?_)
                                      refine lv_goto (tgt := 150) hx hb dX7_net_208 (by decide) ?_
                                      exact loop_504_ih (i_477 + 1) F_525 (hF_525) (show (i_477 + 1) ≤ 1 by omega) (show 1 - (i_477 + 1) < Nloop_504 by omega) _ _ _ hP hD hS (lv_sub hl [0, 2] rfl)
                                    · skip
                                      have cn_526 : i_511 < 3 := Nat.lt_of_not_le (fun q9 => cb_522 ((nI_leI (show 3 < 2 ^ 31 by omega) (show i_511 < 2 ^ 31 by omega)).mpr q9))
                                      refine lv_aload_n hx hb dX7_net_165 rfl (lv_at hl 2 rfl) ?_
                                      refine va_get (D := D) (ci := 7) (v := .ref Mn) (C := RX7) (T := TX7) (N := 21) hx hb hts iX7 hown hK hP 6 rfl rfl 10 (by decide) f22 (fun _ h9 => h9) rfl dX7_net_166 ?_
                                      refine lv_iload_n hx hb dX7_net_169 rfl (lv_at hl 1 rfl) ?_
                                      refine ky_Si (As := [.int (nI i_477)]) (rest := [.ref Mn]) ⟨hx, hb, hml, hown, hts⟩ ⟨hK, hN⟩ hZ hP hD hS hA [] [0, 1, 2, 3, 4, 5, 6, 7] (wc := []) (wr := [(Mn, .inl (g 0, 1767, .inl F_512)), (Mr, .inl (g 0, 3, .inl F_427)), (Mh, .inl (g 0, 9, .inl F_443)), (Mt, .inl (g 0, 160, .inl fmt)), (Mrr, .inl (g 0, 3, .inl frrx_6)), (Mrh, .inl (g 0, 9, .inl frhx_279)), (Mm, .inr (7, [.int 0, .ref Mt, .int 0, .int zmax_2, .int (-1), .ref Mrr, .ref Mrh, .ref Mrc, .int 1, .int 1, .ref Mn, .ref Mf, .ref Mr, .ref Mh, .int 1, .int 1, .ref Ma, .ref Mas, .ref Msn, .ref Mac, .ref Mat])), (Mrc, .inl (g 0, 9, .inl frcx_412))]) rfl rfl rfl rfl (by decide) (k_X7_circuitAt l D g H.size i_477 (show i_477 < 3 by omega)) (va_cwS 1 hts gX7_net_X7_circuitAt rfl rfl rfl (by decide +kernel) ⟨(Nat.le_of_ble_eq_true rfl), (Nat.le_of_ble_eq_true rfl)⟩) rfl hl.1 rfl (Nat.le_of_ble_eq_true rfl) dX7_net_170 ⟨(Nat.le_of_ble_eq_true rfl), (Nat.le_of_ble_eq_true rfl)⟩ (fun r_527 u H locs hw hP2 hD2 hS2 => ?_)
                                      clear hP hD hS
                                      obtain ⟨rfl, rfl⟩ := hw
                                      have hPD : PD D A [(Mn, .inl (g 0, 1767, .inl F_512)), (Mr, .inl (g 0, 3, .inl F_427)), (Mh, .inl (g 0, 9, .inl F_443)), (Mt, .inl (g 0, 160, .inl fmt)), (Mrr, .inl (g 0, 3, .inl frrx_6)), (Mrh, .inl (g 0, 9, .inl frhx_279)), (Mm, .inr (7, [.int 0, .ref Mt, .int 0, .int zmax_2, .int (-1), .ref Mrr, .ref Mrh, .ref Mrc, .int 1, .int 1, .ref Mn, .ref Mf, .ref Mr, .ref Mh, .int 1, .int 1, .ref Ma, .ref Mas, .ref Msn, .ref Mac, .ref Mat])), (Mrc, .inl (g 0, 9, .inl frcx_412))] H := ⟨hP2, hD2⟩
                                      have hS := hS2; clear hP2 hD2 hS2; have hP := hPD.1; have hD := hPD.2; clear hPD
                                      refine W.widen (k := 0) (n := 0) (Nat.le_of_ble_eq_true rfl) (Nat.le_of_ble_eq_true rfl) ?_
                                      refine lv_iload_n hx hb dX7_net_173 rfl (lv_at hl 0 rfl) ?_
                                      refine lv_iadd hx hb dX7_net_174 ?_
                                      refine lv_eqi (y := (nI (201 + 9 * i_477 + i_511))) (nI_add (201 + 9 * i_477) (i_511)) ?_
                                      refine lv_aload_n hx hb dX7_net_175 rfl (lv_at hl 2 rfl) ?_
                                      refine va_get (D := D) (ci := 7) (v := .ref Mrc) (C := RX7) (T := TX7) (N := 21) hx hb hts iX7 hown hK hP 6 rfl rfl 7 (by decide) f19 (fun _ h9 => h9) rfl dX7_net_176 ?_
                                      refine lv_iconst (v := 3) hx hb dX7_net_179 (by decide) ?_
                                      refine lv_iload_n hx hb dX7_net_180 rfl (lv_at hl 1 rfl) ?_
                                      refine lv_imul hx hb dX7_net_181 ?_
                                      refine lv_eqi (y := (nI (3 * i_477))) (pk_mul (3) (i_477)) ?_
                                      refine lv_iload_n hx hb dX7_net_182 rfl (lv_at hl 0 rfl) ?_
                                      refine lv_iadd hx hb dX7_net_183 ?_
                                      refine lv_eqi (y := (nI (3 * i_477 + i_511))) (nI_add (3 * i_477) (i_511)) ?_
                                      refine va_iald hx hb hK hP 7 0 rfl rfl (vp_in_nI (show 3 * i_477 + i_511 < 9 by omega) (by decide)) dX7_net_184 ?_
                                      refine lv_eqi (y := (frcx_412 (3 * i_477 + i_511))) (congrArg frcx_412 (nI_clamp (show 3 * i_477 + i_511 < 2 ^ 31 by omega))) ?_
                                      obtain ⟨n_528, hn_528, q9⟩ := hf_413 (3 * i_477 + i_511)
                                      refine lv_eqi (y := nI n_528) q9 ?_
                                      refine va_iast hx hb hK hP hD hS 0 0 rfl rfl (vp_in_nI (show 201 + 9 * i_477 + i_511 < 1767 by omega) (by decide)) dX7_net_185 (fun H locs hP2 hD2 hS2 => ?_)
                                      clear hP hD hS
                                      have hPD : PD D A [(Mn, .inl (g 0, 1767, .inl (upd F_512 (nI (201 + 9 * i_477 + i_511)).toNatClampNeg (nI n_528)))), (Mr, .inl (g 0, 3, .inl F_427)), (Mh, .inl (g 0, 9, .inl F_443)), (Mt, .inl (g 0, 160, .inl fmt)), (Mrr, .inl (g 0, 3, .inl frrx_6)), (Mrh, .inl (g 0, 9, .inl frhx_279)), (Mm, .inr (7, [.int 0, .ref Mt, .int 0, .int zmax_2, .int (-1), .ref Mrr, .ref Mrh, .ref Mrc, .int 1, .int 1, .ref Mn, .ref Mf, .ref Mr, .ref Mh, .int 1, .int 1, .ref Ma, .ref Mas, .ref Msn, .ref Mac, .ref Mat])), (Mrc, .inl (g 0, 9, .inl frcx_412))] H := ⟨hP2, hD2⟩
                                      have hS := hS2; clear hP2 hD2 hS2; have hP := hPD.1; have hD := hPD.2; clear hPD
                                      rw [nI_clamp (show 201 + 9 * i_477 + i_511 < 2 ^ 31 by omega)] at hP hD
                                      have hPD : PD D A [(Mn, .inl (g 0, 1767, .inl (upd F_512 (201 + 9 * i_477 + i_511) (nI n_528)))), (Mr, .inl (g 0, 3, .inl F_427)), (Mh, .inl (g 0, 9, .inl F_443)), (Mt, .inl (g 0, 160, .inl fmt)), (Mrr, .inl (g 0, 3, .inl frrx_6)), (Mrh, .inl (g 0, 9, .inl frhx_279)), (Mm, .inr (7, [.int 0, .ref Mt, .int 0, .int zmax_2, .int (-1), .ref Mrr, .ref Mrh, .ref Mrc, .int 1, .int 1, .ref Mn, .ref Mf, .ref Mr, .ref Mh, .int 1, .int 1, .ref Ma, .ref Mas, .ref Msn, .ref Mac, .ref Mat])), (Mrc, .inl (g 0, 9, .inl frcx_412))] H := ⟨hP, hD⟩
                                      clear hP hD; have hP := hPD.1; have hD := hPD.2; clear hPD
                                      have hF_529 : mOK tb ub (upd F_512 (201 + 9 * i_477 + i_511) (nI n_528)) := mOK_free hF_512 (show mfree (201 + 9 * i_477 + i_511) by unfold mfree; omega)
                                      generalize upd F_512 (201 + 9 * i_477 + i_511) (nI n_528) = F_529 at hP hD hF_529
                                      refine lv_iinc (v := (nI (i_511 + 1))) (lv' := [(2, .int (nI (i_511 + 1))), (1, .int (nI i_477)), (0, .ref Mm)]) hx hb dX7_net_186 hl (k := 0) rfl (nI_1 (i_511)) (by decide) rfl (fun ls hl => ?_)
                                      refine lv_goto (tgt := 160) hx hb dX7_net_189 (by decide) ?_
                                      exact loop_521_ih (i_511 + 1) F_529 (hF_529) (show (i_511 + 1) ≤ 3 by omega) (show 3 - (i_511 + 1) < Nloop_521 by omega) _ _ _ hP hD hS hl
                                exact loop_521 _ 0 F_478 (hF_478) (show 0 ≤ 3 by omega) (Nat.lt_succ_self _) _ _ _ hP hD hS hl
                          exact loop_504 _ 0 F_442 (hF_442) (show 0 ≤ 1 by omega) (Nat.lt_succ_self _) _ _ _ hP hD hS hl
                        · skip
                          have cn_530 : i_441 < 1 := Nat.lt_of_not_le (fun q9 => cb_453 ((nI_leI (show 1 < 2 ^ 31 by omega) (show i_441 < 2 ^ 31 by omega)).mpr q9))
                          refine lv_aload_n hx hb dX7_net_137 rfl (lv_at hl 1 rfl) ?_
                          refine lv_iload_n hx hb dX7_net_138 rfl (lv_at hl 0 rfl) ?_
                          refine ky_Vv (As := [.int (nI i_441)]) (rest := []) ⟨hx, hb, hml, hown, hts⟩ ⟨hK, hN⟩ hZ hP hD hS hA [6, 0, 2, 1, 5] [3, 4, 7] (wc := [(Mm, .inr (7, [.int 0, .ref Mt, .int 0, .int zmax_2, .int (-1), .ref Mrr, .ref Mrh, .ref Mrc, .int 1, .int 1, .ref Mn, .ref Mf, .ref Mr, .ref Mh, .int 1, .int 1, .ref Ma, .ref Mas, .ref Msn, .ref Mac, .ref Mat])), (Mn, .inl (g 0, 1767, .inl F_442)), (Mh, .inl (g 0, 9, .inl F_443)), (Mr, .inl (g 0, 3, .inl F_427)), (Mrh, .inl (g 0, 9, .inl frhx_279))]) (wr := [(Mt, .inl (g 0, 160, .inl fmt)), (Mrr, .inl (g 0, 3, .inl frrx_6)), (Mrc, .inl (g 0, 9, .inl frcx_412))]) rfl rfl rfl rfl (by decide) (k_X7_laysHop l D g H.size Mm i_441 0 Mt 0 zmax_2 (-1) Mrr Mrh Mrc 1 1 Mn Mf Mr Mh 1 1 Ma Mas Msn Mac Mat F_442 F_443 F_427 frhx_279 tb ub (show tb < 2 ^ 29 by omega) (show ub < 2 ^ 29 by omega) (hF_442) (show 1 ≤ 1 by omega) (show 1 ≤ 3 by omega) (show 1 ≤ 1 by omega) (show 1 ≤ 3 by omega) (show i_441 < 3 by omega) (hF_443) (hf_280) (hF_427)) (cwV 1 hts gX7_net_X7_laysHop rfl rfl rfl (by decide +kernel) ⟨(Nat.le_of_ble_eq_true rfl), (Nat.le_of_ble_eq_true rfl)⟩) 6 7 rfl rfl rfl rfl hl.1 rfl (Nat.le_of_ble_eq_true rfl) dX7_net_139 ⟨(Nat.le_of_ble_eq_true rfl), (Nat.le_of_ble_eq_true rfl)⟩ (fun u H locs hw hP2 hD2 hS2 => ?_)
                          clear hP hD hS
                          obtain ⟨fnox_532, fmhx_533, rfl, hf_534, hf_535⟩ := hw
                          have hPD : PD D A [(Mt, .inl (g 0, 160, .inl fmt)), (Mrr, .inl (g 0, 3, .inl frrx_6)), (Mrc, .inl (g 0, 9, .inl frcx_412)), (Mm, .inr (7, [.int 0, .ref Mt, .int (nI 0), .int zmax_2, .int (-1), .ref Mrr, .ref Mrh, .ref Mrc, .int 1, .int 1, .ref Mn, .ref Mf, .ref Mr, .ref Mh, .int (nI 1), .int (nI 1), .ref Ma, .ref Mas, .ref Msn, .ref Mac, .ref Mat])), (Mn, .inl (g 0, 1767, .inl fnox_532)), (Mh, .inl (g 0, 9, .inl fmhx_533)), (Mr, .inl (g 0, 3, .inl F_427)), (Mrh, .inl (g 0, 9, .inl frhx_279))] H := ⟨hP2, hD2⟩
                          have hS := hS2; clear hP2 hD2 hS2; have hP := hPD.1; have hD := hPD.2; clear hPD
                          refine W.widen (k := 0) (n := 0) (Nat.le_of_ble_eq_true rfl) (Nat.le_of_ble_eq_true rfl) ?_
                          refine lv_iinc (v := (nI (i_441 + 1))) (lv' := [(1, .int (nI (i_441 + 1))), (0, .ref Mm)]) hx hb dX7_net_142 hl (k := 0) rfl (nI_1 (i_441)) (by decide) rfl (fun ls hl => ?_)
                          refine lv_goto (tgt := 129) hx hb dX7_net_145 (by decide) ?_
                          exact loop_452_ih (i_441 + 1) fnox_532 fmhx_533 (hf_534) (hf_535) (show (i_441 + 1) ≤ 1 by omega) (show 1 - (i_441 + 1) < Nloop_452 by omega) _ _ _ (hP.sub [4, 6, 5, 0, 1, 7, 3, 2] rfl) (hD.sub [4, 6, 5, 0, 1, 7, 3, 2] (by decide) rfl) hS hl
                    exact loop_452 _ 0 F_416 fmh (hF_416) (h8) (show 0 ≤ 1 by omega) (Nat.lt_succ_self _) _ _ _ hP hD hS hl
                  · skip
                    have cn_536 : i_426 < 3 := Nat.lt_of_not_le (fun q9 => cb_434 ((nI_leI (show 3 < 2 ^ 31 by omega) (show i_426 < 2 ^ 31 by omega)).mpr q9))
                    refine lv_aload_n hx hb dX7_net_109 rfl (lv_at hl 1 rfl) ?_
                    refine va_get (D := D) (ci := 7) (v := .ref Mr) (C := RX7) (T := TX7) (N := 21) hx hb hts iX7 hown hK hP 6 rfl rfl 12 (by decide) f28 (fun _ h9 => h9) rfl dX7_net_110 ?_
                    refine lv_iload_n hx hb dX7_net_113 rfl (lv_at hl 0 rfl) ?_
                    refine lv_aload_n hx hb dX7_net_114 rfl (lv_at hl 1 rfl) ?_
                    refine va_get (D := D) (ci := 7) (v := .ref Mrr) (C := RX7) (T := TX7) (N := 21) hx hb hts iX7 hown hK hP 6 rfl rfl 5 (by decide) f13 (fun _ h9 => h9) rfl dX7_net_115 ?_
                    refine lv_iload_n hx hb dX7_net_118 rfl (lv_at hl 0 rfl) ?_
                    refine va_iald hx hb hK hP 4 0 rfl rfl (vp_in_nI (show i_426 < 3 by omega) (by decide)) dX7_net_119 ?_
                    refine lv_eqi (y := (frrx_6 (i_426))) (congrArg frrx_6 (nI_clamp (show i_426 < 2 ^ 31 by omega))) ?_
                    obtain ⟨n_537, hn_537, q9⟩ := hf_9.1 (i_426)
                    refine lv_eqi (y := nI n_537) q9 ?_
                    refine va_iast hx hb hK hP hD hS 1 0 rfl rfl (vp_in_nI (show i_426 < 3 by omega) (by decide)) dX7_net_120 (fun H locs hP2 hD2 hS2 => ?_)
                    clear hP hD hS
                    have hPD : PD D A [(Mn, .inl (g 0, 1767, .inl F_416)), (Mr, .inl (g 0, 3, .inl (upd F_427 (nI i_426).toNatClampNeg (nI n_537)))), (Mh, .inl (g 0, 9, .inl fmh)), (Mt, .inl (g 0, 160, .inl fmt)), (Mrr, .inl (g 0, 3, .inl frrx_6)), (Mrh, .inl (g 0, 9, .inl frhx_279)), (Mm, .inr (7, [.int 0, .ref Mt, .int 0, .int zmax_2, .int (-1), .ref Mrr, .ref Mrh, .ref Mrc, .int 1, .int 1, .ref Mn, .ref Mf, .ref Mr, .ref Mh, .int 1, .int 1, .ref Ma, .ref Mas, .ref Msn, .ref Mac, .ref Mat])), (Mrc, .inl (g 0, 9, .inl frcx_412))] H := ⟨hP2, hD2⟩
                    have hS := hS2; clear hP2 hD2 hS2; have hP := hPD.1; have hD := hPD.2; clear hPD
                    rw [nI_clamp (show i_426 < 2 ^ 31 by omega)] at hP hD
                    have hPD : PD D A [(Mn, .inl (g 0, 1767, .inl F_416)), (Mr, .inl (g 0, 3, .inl (upd F_427 (i_426) (nI n_537)))), (Mh, .inl (g 0, 9, .inl fmh)), (Mt, .inl (g 0, 160, .inl fmt)), (Mrr, .inl (g 0, 3, .inl frrx_6)), (Mrh, .inl (g 0, 9, .inl frhx_279)), (Mm, .inr (7, [.int 0, .ref Mt, .int 0, .int zmax_2, .int (-1), .ref Mrr, .ref Mrh, .ref Mrc, .int 1, .int 1, .ref Mn, .ref Mf, .ref Mr, .ref Mh, .int 1, .int 1, .ref Ma, .ref Mas, .ref Msn, .ref Mac, .ref Mat])), (Mrc, .inl (g 0, 9, .inl frcx_412))] H := ⟨hP, hD⟩
                    clear hP hD; have hP := hPD.1; have hD := hPD.2; clear hPD
                    have hF_538 : n1 (upd F_427 (i_426) (nI n_537)) := n1_upd (hF_427) (n := n_537) (show n_537 ≤ 99 by omega)
                    generalize upd F_427 (i_426) (nI n_537) = F_538 at hP hD hF_538
                    refine lv_iinc (v := (nI (i_426 + 1))) (lv' := [(1, .int (nI (i_426 + 1))), (0, .ref Mm)]) hx hb dX7_net_121 hl (k := 0) rfl (nI_1 (i_426)) (by decide) rfl (fun ls hl => ?_)
                    refine lv_goto (tgt := 104) hx hb dX7_net_124 (by decide) ?_
                    exact loop_433_ih (i_426 + 1) F_538 (hF_538) (show (i_426 + 1) ≤ 3 by omega) (show 3 - (i_426 + 1) < Nloop_433 by omega) _ _ _ hP hD hS hl
              exact loop_433 _ 0 fmr (h7) (show 0 ≤ 3 by omega) (Nat.lt_succ_self _) _ _ _ hP hD hS hl
            · skip
              have cn_539 : i_415 < 1767 := Nat.lt_of_not_le (fun q9 => cb_422 ((nI_leI (show 1767 < 2 ^ 31 by omega) (show i_415 < 2 ^ 31 by omega)).mpr q9))
              refine lv_aload_n hx hb dX7_net_89 rfl (lv_at hl 1 rfl) ?_
              refine va_get (D := D) (ci := 7) (v := .ref Mn) (C := RX7) (T := TX7) (N := 21) hx hb hts iX7 hown hK hP 6 rfl rfl 10 (by decide) f22 (fun _ h9 => h9) rfl dX7_net_90 ?_
              refine lv_iload_n hx hb dX7_net_93 rfl (lv_at hl 0 rfl) ?_
              refine lv_iconst (v := 0) hx hb dX7_net_94 (by decide) ?_
              refine va_iast hx hb hK hP hD hS 0 0 rfl rfl (vp_in_nI (show i_415 < 1767 by omega) (by decide)) dX7_net_95 (fun H locs hP2 hD2 hS2 => ?_)
              clear hP hD hS
              have hPD : PD D A [(Mn, .inl (g 0, 1767, .inl (upd F_416 (nI i_415).toNatClampNeg 0))), (Mr, .inl (g 0, 3, .inl fmr)), (Mh, .inl (g 0, 9, .inl fmh)), (Mt, .inl (g 0, 160, .inl fmt)), (Mrr, .inl (g 0, 3, .inl frrx_6)), (Mrh, .inl (g 0, 9, .inl frhx_279)), (Mm, .inr (7, [.int 0, .ref Mt, .int 0, .int zmax_2, .int (-1), .ref Mrr, .ref Mrh, .ref Mrc, .int 1, .int 1, .ref Mn, .ref Mf, .ref Mr, .ref Mh, .int 1, .int 1, .ref Ma, .ref Mas, .ref Msn, .ref Mac, .ref Mat])), (Mrc, .inl (g 0, 9, .inl frcx_412))] H := ⟨hP2, hD2⟩
              have hS := hS2; clear hP2 hD2 hS2; have hP := hPD.1; have hD := hPD.2; clear hPD
              rw [nI_clamp (show i_415 < 2 ^ 31 by omega)] at hP hD
              have hPD : PD D A [(Mn, .inl (g 0, 1767, .inl (upd F_416 (i_415) 0))), (Mr, .inl (g 0, 3, .inl fmr)), (Mh, .inl (g 0, 9, .inl fmh)), (Mt, .inl (g 0, 160, .inl fmt)), (Mrr, .inl (g 0, 3, .inl frrx_6)), (Mrh, .inl (g 0, 9, .inl frhx_279)), (Mm, .inr (7, [.int 0, .ref Mt, .int 0, .int zmax_2, .int (-1), .ref Mrr, .ref Mrh, .ref Mrc, .int 1, .int 1, .ref Mn, .ref Mf, .ref Mr, .ref Mh, .int 1, .int 1, .ref Ma, .ref Mas, .ref Msn, .ref Mac, .ref Mat])), (Mrc, .inl (g 0, 9, .inl frcx_412))] H := ⟨hP, hD⟩
              clear hP hD; have hP := hPD.1; have hD := hPD.2; clear hPD
              have hF_540 : mOK tb ub (upd F_416 (i_415) 0) := mOK_zero hF_416
              generalize upd F_416 (i_415) 0 = F_540 at hP hD hF_540
              refine lv_iinc (v := (nI (i_415 + 1))) (lv' := [(1, .int (nI (i_415 + 1))), (0, .ref Mm)]) hx hb dX7_net_96 hl (k := 0) rfl (nI_1 (i_415)) (by decide) rfl (fun ls hl => ?_)
              refine lv_goto (tgt := 82) hx hb dX7_net_99 (by decide) ?_
              exact loop_421_ih (i_415 + 1) F_540 (hF_540) (show (i_415 + 1) ≤ 1767 by omega) (show 1767 - (i_415 + 1) < Nloop_421 by omega) _ _ _ hP hD hS hl
        exact loop_421 _ 0 fno (h6) (show 0 ≤ 1767 by omega) (Nat.lt_succ_self _) _ _ _ hP hD hS hl
  · skip
    refine lv_iconst (v := (-1)) hx hb dX7_net_13 (by decide) ?_
    have hPD9 : PD D A [(Mm, .inr (7, [.int 0, .ref Mt, .int (nI tp), .int zmax_2, .int r_1, .ref Mrr, .ref Mrh, .ref Mrc, .int (nI rhx_4), .int (nI rcx_5), .ref Mn, .ref Mf, .ref Mr, .ref Mh, .int (nI hp), .int (nI cc), .ref Ma, .ref Mas, .ref Msn, .ref Mac, .ref Mat])), (Mt, .inl (g 0, 160, .inl fmt)), (Mrr, .inl (g 0, 3, .inl frrx_6)), (Mrh, .inl (g 0, 9, .inl frhx_7)), (Mrc, .inl (g 0, 9, .inl frcx_8)), (Mn, .inl (g 0, 1767, .inl fno)), (Mr, .inl (g 0, 3, .inl fmr)), (Mh, .inl (g 0, 9, .inl fmh))] H := ⟨hP.sub [3, 4, 5, 6, 7, 0, 1, 2] rfl, hD.sub [3, 4, 5, 6, 7, 0, 1, 2] (by decide) rfl⟩
    have hP9 := hPD9.1; have hD9 := hPD9.2
    subst hQ
    refine W.widen (k := 0) (n := 0) (Nat.le_of_ble_eq_true rfl) (Nat.le_of_ble_eq_true rfl) ?_
    exact W.iret (v := (-1)) hx hb hr (fun tS htS _ => ⟨⟨_, _, rfl, ⟨(lf2 [frrx_6, frhx_7, frcx_8, fno, fmr, fmh]), 0, tp, zmax_2, r_1, (nI rhx_4), (nI rcx_5), hp, cc, (-1), rfl, rfl, ⟨(hf_9.1), (hf_9.2.1), (hf_9.2.2.1), (h6), (h7), (h8), (show hp ≤ 3 by omega), (show cc ≤ 3 by omega), (show (hp = 0 ∧ cc = 0) ∨ (1 ≤ hp ∧ 1 ≤ cc) by omega), (show tp ≤ 160 by omega), nt_no hf_9.2.2.2.2.2 cb_13⟩⟩, by rw [htS]; exact hP9, hD9⟩, hS.F htS⟩) hS.2.2 dX7_net_14
