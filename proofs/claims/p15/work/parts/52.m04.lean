set_option maxHeartbeats 4000000 in
set_option maxRecDepth 100000 in
theorem k_X7_cellsOn (l : Launch) (D : va_G) (g : Nat → ClassId) (sz : Nat) (Mm : Nat) (hix : Nat) (zc : Int32) (zth : Int32) (Mt : Nat) (tp : Nat) (zma : Int32) (zwr : Int32) (Mrr : Nat) (Mrh : Nat) (Mrc : Nat) (zrh : Int32) (zrc : Int32) (Mn : Nat) (Mf : Nat) (Mr : Nat) (Mh : Nat) (hp : Nat) (cc : Nat) (Ma : Nat) (Mas : Nat) (Msn : Nat) (Mac : Nat) (Mat : Nat) (fno : Nat → Int32) (h0 : hix < 3) : Met l yX7_cellsOn wsX7_cellsOn ({ frames := 1, cells := 0, slots := 0, locals := 21 }) (va_Pc [.ref Mm, .int (nI hix), .int zc] (pre D g sz [(Mm, .inr (7, [.int zth, .ref Mt, .int (nI tp), .int zma, .int zwr, .ref Mrr, .ref Mrh, .ref Mrc, .int zrh, .int zrc, .ref Mn, .ref Mf, .ref Mr, .ref Mh, .int (nI hp), .int (nI cc), .ref Ma, .ref Mas, .ref Msn, .ref Mac, .ref Mat])), (Mn, .inl (g 0, 1767, .inl fno))])) (va_Qi (fun (r : Int32) (u : va_W) => u = [(Mm, .inr (7, [.int zth, .ref Mt, .int (nI tp), .int zma, .int zwr, .ref Mrr, .ref Mrh, .ref Mrc, .int zrh, .int zrc, .ref Mn, .ref Mf, .ref Mr, .ref Mh, .int (nI hp), .int (nI cc), .ref Ma, .ref Mas, .ref Msn, .ref Mac, .ref Mat])), (Mn, .inl (g 0, 1767, .inl fno))]) (wd D (va_A [(Mm, .inr (7, [.int zth, .ref Mt, .int (nI tp), .int zma, .int zwr, .ref Mrr, .ref Mrh, .ref Mrc, .int zrh, .int zrc, .ref Mn, .ref Mf, .ref Mr, .ref Mh, .int (nI hp), .int (nI cc), .ref Ma, .ref Mas, .ref Msn, .ref Mac, .ref Mat])), (Mn, .inl (g 0, 1767, .inl fno))] sz)) (va_A [(Mm, .inr (7, [.int zth, .ref Mt, .int (nI tp), .int zma, .int zwr, .ref Mrr, .ref Mrh, .ref Mrc, .int zrh, .int zrc, .ref Mn, .ref Mf, .ref Mr, .ref Mh, .int (nI hp), .int (nI cc), .ref Ma, .ref Mas, .ref Msn, .ref Mac, .ref Mat])), (Mn, .inl (g 0, 1767, .inl fno))] sz)) 0 0 (va_A [(Mm, .inr (7, [.int zth, .ref Mt, .int (nI tp), .int zma, .int zwr, .ref Mrr, .ref Mrh, .ref Mrc, .int zrh, .int zrc, .ref Mn, .ref Mf, .ref Mr, .ref Mh, .int (nI hp), .int (nI cc), .ref Ma, .ref Mas, .ref Msn, .ref Mac, .ref Mat])), (Mn, .inl (g 0, 1767, .inl fno))] sz) := by
  refine Met.ofW (cc := cX7_cellsOn) (maxL := 6) (ret := (some .int)) (by decide) rfl ?_
  intro p e s m args below meth c s₁ B hml hv
  obtain ⟨rfl, hsz, hP, ⟨hK, hN⟩, hD0, hZ⟩ := hv
  have hx := B.exec
  have hb := B.bytes
  have hr := B.returns
  have hts := atoms_spec (ws := wsX7_cellsOn) B.pre
  have hown : s.vm.findClass RX7 = some m.cls := findClass_of_methodNamed B.named
  have hlocks := B.notSynchronized
  clear B
  subst hsz
  have hD := hD0.self (sz := s.heap.size)
  clear hD0
  generalize hAe : va_A [(Mm, .inr (7, [.int zth, .ref Mt, .int (nI tp), .int zma, .int zwr, .ref Mrr, .ref Mrh, .ref Mrc, .int zrh, .int zrc, .ref Mn, .ref Mf, .ref Mr, .ref Mh, .int (nI hp), .int (nI cc), .ref Ma, .ref Mas, .ref Msn, .ref Mac, .ref Mat])), (Mn, .inl (g 0, 1767, .inl fno))] s.heap.size = A at hD hZ ⊢
  have hA : ∀ q : Nat, s.heap.size ≤ q → A q := fun q h => by rw [← hAe]; exact Or.inr h
  have hS : va_S A s.heap s.heap [] := va_S.rf
  have f22 := hts (.fieldLink RX7 22 "HopCreditsModel" "now" "[I") (List.mem_of_getElem? (i := 1) rfl)
  have iX7 : ∀ w ∈ u_ws RX7 TX7 21, w ∈ wsX7_cellsOn := fun w h => List.mem_cons_of_mem _ (List.mem_append_right _ (h))
  have hl := lv_entry ([.ref Mm, .int (nI hix), .int zc]) (n := 6) (Nat.le_of_ble_eq_true rfl)
  rw [lg_entry_eq]
  generalize (lg_sl ([.ref Mm, .int (nI hix), .int zc]) ++ List.replicate (6 - (lg_sl ([.ref Mm, .int (nI hix), .int zc])).length) Slot.unset).toArray = ls at hl ⊢
  have hl : lv_has ls 6 [(0, .ref Mm), (1, .int (nI hix)), (2, .int zc)] := hl
  generalize hQ : MQ below _ _ s _ _ _ = Q
  generalize hH : s.heap = H at hP ⊢
  have hS : va_S A s.heap H [] := by rw [← hH]; exact hS
  clear hH
  refine lv_iconst (v := 0) hx hb dX7_cellsOn_0 (by decide) ?_
  refine lv_istore_n (lv' := [(3, .int 0), (0, .ref Mm), (1, .int (nI hix)), (2, .int zc)]) hx hb dX7_cellsOn_1 rfl hl (by decide) rfl (fun ls hl => ?_)
  refine lv_iconst (v := 0) hx hb dX7_cellsOn_2 (by decide) ?_
  refine lv_istore (lv' := [(4, .int 0), (3, .int 0), (0, .ref Mm), (1, .int (nI hix)), (2, .int zc)]) hx hb dX7_cellsOn_3 hl (by decide) rfl (fun ls hl => ?_)
  have loop_38 : ∀ (Nloop_38 : Nat) (i_8 : Nat) (i_9 : Int32) (hbi_8 : i_8 ≤ 8) (hmloop_38 : 8 - i_8 < Nloop_38) (H : Heap) (locs : List Loc) (ls : Array Slot), va_P D vwCl [(Mm, .inr (7, [.int zth, .ref Mt, .int (nI tp), .int zma, .int zwr, .ref Mrr, .ref Mrh, .ref Mrc, .int zrh, .int zrc, .ref Mn, .ref Mf, .ref Mr, .ref Mh, .int (nI hp), .int (nI cc), .ref Ma, .ref Mas, .ref Msn, .ref Mac, .ref Mat])), (Mn, .inl (g 0, 1767, .inl fno))] H → va_D A [(Mm, .inr (7, [.int zth, .ref Mt, .int (nI tp), .int zma, .int zwr, .ref Mrr, .ref Mrh, .ref Mrc, .int zrh, .int zrc, .ref Mn, .ref Mf, .ref Mr, .ref Mh, .int (nI hp), .int (nI cc), .ref Ma, .ref Mas, .ref Msn, .ref Mac, .ref Mat])), (Mn, .inl (g 0, 1767, .inl fno))] → va_S A s.heap H locs → lv_has ls 6 [(4, .int (nI i_8)), (3, .int i_9), (0, .ref Mm), (1, .int (nI hix)), (2, .int zc)] → W p l e (headSpec wsX7_cellsOn ({ frames := 1, cells := 0, slots := 0, locals := 21 })).room s m ([.ref Mm, .int (nI hix), .int zc] : List Value).toArray below meth c H locs 0 0 Q (F0 m 5 ls []) := by
    clear hP hD hS hl
    intro Nloop_38
    induction Nloop_38 with
    | zero => intro i_8 i_9 hbi_8 hm9; exact absurd hm9 (Nat.not_lt_zero _)
    | succ Nloop_38 loop_38_ih =>
      intro i_8 i_9 hbi_8 hmloop_38 H locs ls hP hD hS hl
      refine lv_iload hx hb dX7_cellsOn_5 (lv_at hl 0 rfl) ?_
      refine lv_bipush (v := 8) hx hb dX7_cellsOn_7 (by decide) ?_
      refine lv_icmp_ge (tgt := 58) hx hb dX7_cellsOn_9 (by decide) (fun cb_39 => ?_) (fun cb_39 => ?_)
      · skip
        have cn_40 : 8 ≤ i_8 := (nI_leI (show 8 < 2 ^ 31 by omega) (show i_8 < 2 ^ 31 by omega)).mp cb_39
        refine lv_iload_n hx hb dX7_cellsOn_58 rfl (lv_at hl 1 rfl) ?_
        have hP9 := hP; have hD9 := hD
        subst hQ
        refine W.widen (k := 0) (n := 0) (Nat.le_of_ble_eq_true rfl) (Nat.le_of_ble_eq_true rfl) ?_
        exact W.iret (v := i_9) hx hb hr (fun tS htS _ => ⟨⟨_, _, rfl, rfl, by rw [htS]; exact hP9, hD9⟩, hS.F htS⟩) hS.2.2 dX7_cellsOn_59
      · skip
        have cn_41 : i_8 < 8 := Nat.lt_of_not_le (fun q9 => cb_39 ((nI_leI (show 8 < 2 ^ 31 by omega) (show i_8 < 2 ^ 31 by omega)).mpr q9))
        refine lv_aload_n hx hb dX7_cellsOn_12 rfl (lv_at hl 2 rfl) ?_
        refine va_get (D := D) (ci := 7) (v := .ref Mn) (C := RX7) (T := TX7) (N := 21) hx hb hts iX7 hown hK hP 0 rfl rfl 10 (by decide) f22 (fun _ h9 => h9) rfl dX7_cellsOn_13 ?_
        refine lv_iload_n hx hb dX7_cellsOn_16 rfl (lv_at hl 3 rfl) ?_
        refine lv_iload hx hb dX7_cellsOn_17 (lv_at hl 0 rfl) ?_
        refine ky_Si (As := [.int (nI hix), .int (nI i_8)]) (rest := [.ref Mn]) ⟨hx, hb, hml, hown, hts⟩ ⟨hK, hN⟩ hZ hP hD hS hA [] [0, 1] (wc := []) (wr := [(Mm, .inr (7, [.int zth, .ref Mt, .int (nI tp), .int zma, .int zwr, .ref Mrr, .ref Mrh, .ref Mrc, .int zrh, .int zrc, .ref Mn, .ref Mf, .ref Mr, .ref Mh, .int (nI hp), .int (nI cc), .ref Ma, .ref Mas, .ref Msn, .ref Mac, .ref Mat])), (Mn, .inl (g 0, 1767, .inl fno))]) rfl rfl rfl rfl (by decide) (k_X7_wayAt l D g H.size hix i_8 (show hix < 3 by omega) (show i_8 < 2 ^ 30 by omega)) (va_cwS 2 hts gX7_cellsOn_X7_wayAt rfl rfl rfl (by decide +kernel) ⟨(Nat.le_of_ble_eq_true rfl), (Nat.le_of_ble_eq_true rfl)⟩) rfl hl.1 rfl (Nat.le_of_ble_eq_true rfl) dX7_cellsOn_19 ⟨(Nat.le_of_ble_eq_true rfl), (Nat.le_of_ble_eq_true rfl)⟩ (fun r_42 u H locs hw hP2 hD2 hS2 => ?_)
        clear hP hD hS
        obtain ⟨rfl, rfl⟩ := hw
        have hPD : PD D A [(Mm, .inr (7, [.int zth, .ref Mt, .int (nI tp), .int zma, .int zwr, .ref Mrr, .ref Mrh, .ref Mrc, .int zrh, .int zrc, .ref Mn, .ref Mf, .ref Mr, .ref Mh, .int (nI hp), .int (nI cc), .ref Ma, .ref Mas, .ref Msn, .ref Mac, .ref Mat])), (Mn, .inl (g 0, 1767, .inl fno))] H := ⟨hP2, hD2⟩
        have hS := hS2; clear hP2 hD2 hS2; have hP := hPD.1; have hD := hPD.2; clear hPD
        refine W.widen (k := 0) (n := 0) (Nat.le_of_ble_eq_true rfl) (Nat.le_of_ble_eq_true rfl) ?_
        refine lv_iconst (v := 0) hx hb dX7_cellsOn_22 (by decide) ?_
        refine lv_iadd hx hb dX7_cellsOn_23 ?_
        refine lv_eqi (y := (nI (69 + 5 * (8 * hix + i_8 % 8) + 0))) (nI_add (69 + 5 * (8 * hix + i_8 % 8)) (0)) ?_
        refine va_iald hx hb hK hP 1 0 rfl rfl (vp_in_nI (show 69 + 5 * (8 * hix + i_8 % 8) + 0 < 1767 by omega) (by decide)) dX7_cellsOn_24 ?_
        refine lv_eqi (y := (fno (69 + 5 * (8 * hix + i_8 % 8) + 0))) (congrArg fno (nI_clamp (show 69 + 5 * (8 * hix + i_8 % 8) + 0 < 2 ^ 31 by omega))) ?_
        refine lv_topi (fun y_43 _ => ?_)
        refine lv_istore (lv' := [(5, .int y_43), (4, .int (nI i_8)), (3, .int i_9), (0, .ref Mm), (1, .int (nI hix)), (2, .int zc)]) hx hb dX7_cellsOn_25 hl (by decide) rfl (fun ls hl => ?_)
        refine lv_iload_n hx hb dX7_cellsOn_27 rfl (lv_at hl 2 rfl) ?_
        refine lv_iload hx hb dX7_cellsOn_28 (lv_at hl 0 rfl) ?_
        refine lv_iconst (v := (-1)) hx hb dX7_cellsOn_30 (by decide) ?_
        refine lv_icmp_eq (tgt := 49) hx hb dX7_cellsOn_31 (by decide) (fun cb_44 => ?_) (fun cb_44 => ?_)
        · skip
          have hPq_45 := hP; have hDq_45 := hD; have hSq_45 := hS; have hlq_45 := hl; clear hP hD hS hl
          subst cb_44
          have hP := hPq_45; have hD := hDq_45; have hS := hSq_45; have hl := hlq_45; clear hPq_45 hDq_45 hSq_45 hlq_45
          refine lv_iconst (v := 0) hx hb dX7_cellsOn_49 (by decide) ?_
          refine lv_iadd hx hb dX7_cellsOn_50 ?_
          refine lv_topi (fun y_46 _ => ?_)
          refine lv_istore_n (lv' := [(3, .int y_46), (5, .int (-1)), (4, .int (nI i_8)), (0, .ref Mm), (1, .int (nI hix)), (2, .int zc)]) hx hb dX7_cellsOn_51 rfl hl (by decide) rfl (fun ls hl => ?_)
          refine lv_iinc (v := (nI (i_8 + 1))) (lv' := [(4, .int (nI (i_8 + 1))), (3, .int y_46), (5, .int (-1)), (0, .ref Mm), (1, .int (nI hix)), (2, .int zc)]) hx hb dX7_cellsOn_52 hl (k := 2) rfl (nI_1 (i_8)) (by decide) rfl (fun ls hl => ?_)
          refine lv_goto (tgt := 5) hx hb dX7_cellsOn_55 (by decide) ?_
          exact loop_38_ih (i_8 + 1) y_46 (show (i_8 + 1) ≤ 8 by omega) (show 8 - (i_8 + 1) < Nloop_38 by omega) _ _ _ hP hD hS (lv_sub hl [0, 1, 3, 4, 5] rfl)
        · skip
          refine lv_iload_n hx hb dX7_cellsOn_34 rfl (lv_at hl 5 rfl) ?_
          refine lv_iconst (v := (-1)) hx hb dX7_cellsOn_35 (by decide) ?_
          refine lv_icmp_eq (tgt := 45) hx hb dX7_cellsOn_36 (by decide) (fun cb_47 => ?_) (fun cb_47 => ?_)
          · skip
            have hPq_48 := hP; have hDq_48 := hD; have hSq_48 := hS; have hlq_48 := hl; clear hP hD hS hl
            subst cb_47
            have hP := hPq_48; have hD := hDq_48; have hS := hSq_48; have hl := hlq_48; clear hPq_48 hDq_48 hSq_48 hlq_48
            refine lv_iconst (v := 1) hx hb dX7_cellsOn_45 (by decide) ?_
            refine lv_goto (tgt := 50) hx hb dX7_cellsOn_46 (by decide) ?_
            refine lv_iadd hx hb dX7_cellsOn_50 ?_
            refine lv_topi (fun y_49 _ => ?_)
            refine lv_istore_n (lv' := [(3, .int y_49), (5, .int y_43), (4, .int (nI i_8)), (0, .ref Mm), (1, .int (nI hix)), (2, .int (-1))]) hx hb dX7_cellsOn_51 rfl hl (by decide) rfl (fun ls hl => ?_)
            refine lv_iinc (v := (nI (i_8 + 1))) (lv' := [(4, .int (nI (i_8 + 1))), (3, .int y_49), (5, .int y_43), (0, .ref Mm), (1, .int (nI hix)), (2, .int (-1))]) hx hb dX7_cellsOn_52 hl (k := 2) rfl (nI_1 (i_8)) (by decide) rfl (fun ls hl => ?_)
            refine lv_goto (tgt := 5) hx hb dX7_cellsOn_55 (by decide) ?_
            exact loop_38_ih (i_8 + 1) y_49 (show (i_8 + 1) ≤ 8 by omega) (show 8 - (i_8 + 1) < Nloop_38 by omega) _ _ _ hP hD hS (lv_sub hl [0, 1, 3, 4, 5] rfl)
          · skip
            refine lv_iload hx hb dX7_cellsOn_39 (lv_at hl 0 rfl) ?_
            refine lv_iload_n hx hb dX7_cellsOn_41 rfl (lv_at hl 5 rfl) ?_
            refine lv_icmp_ne (tgt := 49) hx hb dX7_cellsOn_42 (by decide) (fun cb_50 => ?_) (fun cb_50 => ?_)
            · skip
              refine lv_iconst (v := 0) hx hb dX7_cellsOn_49 (by decide) ?_
              refine lv_iadd hx hb dX7_cellsOn_50 ?_
              refine lv_topi (fun y_51 _ => ?_)
              refine lv_istore_n (lv' := [(3, .int y_51), (5, .int y_43), (4, .int (nI i_8)), (0, .ref Mm), (1, .int (nI hix)), (2, .int zc)]) hx hb dX7_cellsOn_51 rfl hl (by decide) rfl (fun ls hl => ?_)
              refine lv_iinc (v := (nI (i_8 + 1))) (lv' := [(4, .int (nI (i_8 + 1))), (3, .int y_51), (5, .int y_43), (0, .ref Mm), (1, .int (nI hix)), (2, .int zc)]) hx hb dX7_cellsOn_52 hl (k := 2) rfl (nI_1 (i_8)) (by decide) rfl (fun ls hl => ?_)
              refine lv_goto (tgt := 5) hx hb dX7_cellsOn_55 (by decide) ?_
              exact loop_38_ih (i_8 + 1) y_51 (show (i_8 + 1) ≤ 8 by omega) (show 8 - (i_8 + 1) < Nloop_38 by omega) _ _ _ hP hD hS (lv_sub hl [0, 1, 3, 4, 5] rfl)
            · skip
              refine lv_iconst (v := 1) hx hb dX7_cellsOn_45 (by decide) ?_
              refine lv_goto (tgt := 50) hx hb dX7_cellsOn_46 (by decide) ?_
              refine lv_iadd hx hb dX7_cellsOn_50 ?_
              refine lv_topi (fun y_52 _ => ?_)
              refine lv_istore_n (lv' := [(3, .int y_52), (5, .int y_43), (4, .int (nI i_8)), (0, .ref Mm), (1, .int (nI hix)), (2, .int zc)]) hx hb dX7_cellsOn_51 rfl hl (by decide) rfl (fun ls hl => ?_)
              refine lv_iinc (v := (nI (i_8 + 1))) (lv' := [(4, .int (nI (i_8 + 1))), (3, .int y_52), (5, .int y_43), (0, .ref Mm), (1, .int (nI hix)), (2, .int zc)]) hx hb dX7_cellsOn_52 hl (k := 2) rfl (nI_1 (i_8)) (by decide) rfl (fun ls hl => ?_)
              refine lv_goto (tgt := 5) hx hb dX7_cellsOn_55 (by decide) ?_
              exact loop_38_ih (i_8 + 1) y_52 (show (i_8 + 1) ≤ 8 by omega) (show 8 - (i_8 + 1) < Nloop_38 by omega) _ _ _ hP hD hS (lv_sub hl [0, 1, 3, 4, 5] rfl)
  exact loop_38 _ 0 0 (show 0 ≤ 8 by omega) (Nat.lt_succ_self _) _ _ _ hP hD hS hl

set_option maxHeartbeats 4000000 in
set_option maxRecDepth 100000 in
theorem k_X7_toldOn (l : Launch) (D : va_G) (g : Nat → ClassId) (sz : Nat) (Mm : Nat) (hix : Nat) (zo : Int32) (zth : Int32) (Mt : Nat) (tp : Nat) (zma : Int32) (zwr : Int32) (Mrr : Nat) (Mrh : Nat) (Mrc : Nat) (zrh : Int32) (zrc : Int32) (Mn : Nat) (Mf : Nat) (Mr : Nat) (Mh : Nat) (hp : Nat) (cc : Nat) (Ma : Nat) (Mas : Nat) (Msn : Nat) (Mac : Nat) (Mat : Nat) (fno : Nat → Int32) (h0 : hix < 3) (h1 : 1 ≤ cc) (h2 : cc ≤ 3) : Met l yX7_toldOn wsX7_toldOn ({ frames := 1, cells := 0, slots := 0, locals := 21 }) (va_Pc [.ref Mm, .int (nI hix), .int zo] (pre D g sz [(Mm, .inr (7, [.int zth, .ref Mt, .int (nI tp), .int zma, .int zwr, .ref Mrr, .ref Mrh, .ref Mrc, .int zrh, .int zrc, .ref Mn, .ref Mf, .ref Mr, .ref Mh, .int (nI hp), .int (nI cc), .ref Ma, .ref Mas, .ref Msn, .ref Mac, .ref Mat])), (Mn, .inl (g 0, 1767, .inl fno))])) (va_Qi (fun (r : Int32) (u : va_W) => u = [(Mm, .inr (7, [.int zth, .ref Mt, .int (nI tp), .int zma, .int zwr, .ref Mrr, .ref Mrh, .ref Mrc, .int zrh, .int zrc, .ref Mn, .ref Mf, .ref Mr, .ref Mh, .int (nI hp), .int (nI cc), .ref Ma, .ref Mas, .ref Msn, .ref Mac, .ref Mat])), (Mn, .inl (g 0, 1767, .inl fno))]) (wd D (va_A [(Mm, .inr (7, [.int zth, .ref Mt, .int (nI tp), .int zma, .int zwr, .ref Mrr, .ref Mrh, .ref Mrc, .int zrh, .int zrc, .ref Mn, .ref Mf, .ref Mr, .ref Mh, .int (nI hp), .int (nI cc), .ref Ma, .ref Mas, .ref Msn, .ref Mac, .ref Mat])), (Mn, .inl (g 0, 1767, .inl fno))] sz)) (va_A [(Mm, .inr (7, [.int zth, .ref Mt, .int (nI tp), .int zma, .int zwr, .ref Mrr, .ref Mrh, .ref Mrc, .int zrh, .int zrc, .ref Mn, .ref Mf, .ref Mr, .ref Mh, .int (nI hp), .int (nI cc), .ref Ma, .ref Mas, .ref Msn, .ref Mac, .ref Mat])), (Mn, .inl (g 0, 1767, .inl fno))] sz)) 0 0 (va_A [(Mm, .inr (7, [.int zth, .ref Mt, .int (nI tp), .int zma, .int zwr, .ref Mrr, .ref Mrh, .ref Mrc, .int zrh, .int zrc, .ref Mn, .ref Mf, .ref Mr, .ref Mh, .int (nI hp), .int (nI cc), .ref Ma, .ref Mas, .ref Msn, .ref Mac, .ref Mat])), (Mn, .inl (g 0, 1767, .inl fno))] sz) := by
  refine Met.ofW (cc := cX7_toldOn) (maxL := 7) (ret := (some .int)) (by decide) rfl ?_
  intro p e s m args below meth c s₁ B hml hv
  obtain ⟨rfl, hsz, hP, ⟨hK, hN⟩, hD0, hZ⟩ := hv
  have hx := B.exec
  have hb := B.bytes
  have hr := B.returns
  have hts := atoms_spec (ws := wsX7_toldOn) B.pre
  have hown : s.vm.findClass RX7 = some m.cls := findClass_of_methodNamed B.named
  have hlocks := B.notSynchronized
  clear B
  subst hsz
  have hD := hD0.self (sz := s.heap.size)
  clear hD0
  generalize hAe : va_A [(Mm, .inr (7, [.int zth, .ref Mt, .int (nI tp), .int zma, .int zwr, .ref Mrr, .ref Mrh, .ref Mrc, .int zrh, .int zrc, .ref Mn, .ref Mf, .ref Mr, .ref Mh, .int (nI hp), .int (nI cc), .ref Ma, .ref Mas, .ref Msn, .ref Mac, .ref Mat])), (Mn, .inl (g 0, 1767, .inl fno))] s.heap.size = A at hD hZ ⊢
  have hA : ∀ q : Nat, s.heap.size ≤ q → A q := fun q h => by rw [← hAe]; exact Or.inr h
  have hS : va_S A s.heap s.heap [] := va_S.rf
  have f127 := hts (.fieldLink RX7 127 "HopCreditsModel" "circuits" "I") (List.mem_of_getElem? (i := 1) rfl)
  have f22 := hts (.fieldLink RX7 22 "HopCreditsModel" "now" "[I") (List.mem_of_getElem? (i := 2) rfl)
  have iX7 : ∀ w ∈ u_ws RX7 TX7 21, w ∈ wsX7_toldOn := fun w h => List.mem_cons_of_mem _ (List.mem_append_right _ (h))
  have hl := lv_entry ([.ref Mm, .int (nI hix), .int zo]) (n := 7) (Nat.le_of_ble_eq_true rfl)
  rw [lg_entry_eq]
  generalize (lg_sl ([.ref Mm, .int (nI hix), .int zo]) ++ List.replicate (7 - (lg_sl ([.ref Mm, .int (nI hix), .int zo])).length) Slot.unset).toArray = ls at hl ⊢
  have hl : lv_has ls 7 [(0, .ref Mm), (1, .int (nI hix)), (2, .int zo)] := hl
  generalize hQ : MQ below _ _ s _ _ _ = Q
  generalize hH : s.heap = H at hP ⊢
  have hS : va_S A s.heap H [] := by rw [← hH]; exact hS
  clear hH
  refine lv_iconst (v := 0) hx hb dX7_toldOn_0 (by decide) ?_
  refine lv_istore_n (lv' := [(3, .int 0), (0, .ref Mm), (1, .int (nI hix)), (2, .int zo)]) hx hb dX7_toldOn_1 rfl hl (by decide) rfl (fun ls hl => ?_)
  refine lv_iconst (v := 0) hx hb dX7_toldOn_2 (by decide) ?_
  refine lv_istore (lv' := [(4, .int 0), (3, .int 0), (0, .ref Mm), (1, .int (nI hix)), (2, .int zo)]) hx hb dX7_toldOn_3 hl (by decide) rfl (fun ls hl => ?_)
  have loop_94 : ∀ (Nloop_94 : Nat) (i_44 : Nat) (i_45 : Int32) (hbi_44 : i_44 ≤ 8) (hmloop_94 : 8 - i_44 < Nloop_94) (H : Heap) (locs : List Loc) (ls : Array Slot), va_P D vwCl [(Mm, .inr (7, [.int zth, .ref Mt, .int (nI tp), .int zma, .int zwr, .ref Mrr, .ref Mrh, .ref Mrc, .int zrh, .int zrc, .ref Mn, .ref Mf, .ref Mr, .ref Mh, .int (nI hp), .int (nI cc), .ref Ma, .ref Mas, .ref Msn, .ref Mac, .ref Mat])), (Mn, .inl (g 0, 1767, .inl fno))] H → va_D A [(Mm, .inr (7, [.int zth, .ref Mt, .int (nI tp), .int zma, .int zwr, .ref Mrr, .ref Mrh, .ref Mrc, .int zrh, .int zrc, .ref Mn, .ref Mf, .ref Mr, .ref Mh, .int (nI hp), .int (nI cc), .ref Ma, .ref Mas, .ref Msn, .ref Mac, .ref Mat])), (Mn, .inl (g 0, 1767, .inl fno))] → va_S A s.heap H locs → lv_has ls 7 [(4, .int (nI i_44)), (3, .int i_45), (0, .ref Mm), (1, .int (nI hix)), (2, .int zo)] → W p l e (headSpec wsX7_toldOn ({ frames := 1, cells := 0, slots := 0, locals := 21 })).room s m ([.ref Mm, .int (nI hix), .int zo] : List Value).toArray below meth c H locs 0 0 Q (F0 m 5 ls []) := by
    clear hP hD hS hl
    intro Nloop_94
    induction Nloop_94 with
    | zero => intro i_44 i_45 hbi_44 hm9; exact absurd hm9 (Nat.not_lt_zero _)
    | succ Nloop_94 loop_94_ih =>
      intro i_44 i_45 hbi_44 hmloop_94 H locs ls hP hD hS hl
      refine lv_iload hx hb dX7_toldOn_5 (lv_at hl 0 rfl) ?_
      refine lv_bipush (v := 8) hx hb dX7_toldOn_7 (by decide) ?_
      refine lv_icmp_ge (tgt := 89) hx hb dX7_toldOn_9 (by decide) (fun cb_95 => ?_) (fun cb_95 => ?_)
      · skip
        have cn_96 : 8 ≤ i_44 := (nI_leI (show 8 < 2 ^ 31 by omega) (show i_44 < 2 ^ 31 by omega)).mp cb_95
        refine lv_iload_n hx hb dX7_toldOn_89 rfl (lv_at hl 1 rfl) ?_
        have hP9 := hP; have hD9 := hD
        subst hQ
        refine W.widen (k := 0) (n := 0) (Nat.le_of_ble_eq_true rfl) (Nat.le_of_ble_eq_true rfl) ?_
        exact W.iret (v := i_45) hx hb hr (fun tS htS _ => ⟨⟨_, _, rfl, rfl, by rw [htS]; exact hP9, hD9⟩, hS.F htS⟩) hS.2.2 dX7_toldOn_90
      · skip
        have cn_97 : i_44 < 8 := Nat.lt_of_not_le (fun q9 => cb_95 ((nI_leI (show 8 < 2 ^ 31 by omega) (show i_44 < 2 ^ 31 by omega)).mpr q9))
        refine lv_iconst (v := 0) hx hb dX7_toldOn_12 (by decide) ?_
        refine lv_istore (lv' := [(5, .int 0), (4, .int (nI i_44)), (3, .int i_45), (0, .ref Mm), (1, .int (nI hix)), (2, .int zo)]) hx hb dX7_toldOn_13 hl (by decide) rfl (fun ls hl => ?_)
        have loop_127 : ∀ (Nloop_127 : Nat) (i_110 : Nat) (i_111 : Int32) (hbi_110 : i_110 ≤ cc) (hmloop_127 : cc - i_110 < Nloop_127) (H : Heap) (locs : List Loc) (ls : Array Slot), va_P D vwCl [(Mm, .inr (7, [.int zth, .ref Mt, .int (nI tp), .int zma, .int zwr, .ref Mrr, .ref Mrh, .ref Mrc, .int zrh, .int zrc, .ref Mn, .ref Mf, .ref Mr, .ref Mh, .int (nI hp), .int (nI cc), .ref Ma, .ref Mas, .ref Msn, .ref Mac, .ref Mat])), (Mn, .inl (g 0, 1767, .inl fno))] H → va_D A [(Mm, .inr (7, [.int zth, .ref Mt, .int (nI tp), .int zma, .int zwr, .ref Mrr, .ref Mrh, .ref Mrc, .int zrh, .int zrc, .ref Mn, .ref Mf, .ref Mr, .ref Mh, .int (nI hp), .int (nI cc), .ref Ma, .ref Mas, .ref Msn, .ref Mac, .ref Mat])), (Mn, .inl (g 0, 1767, .inl fno))] → va_S A s.heap H locs → lv_has ls 7 [(5, .int (nI i_110)), (4, .int (nI i_44)), (3, .int i_111), (0, .ref Mm), (1, .int (nI hix)), (2, .int zo)] → W p l e (headSpec wsX7_toldOn ({ frames := 1, cells := 0, slots := 0, locals := 21 })).room s m ([.ref Mm, .int (nI hix), .int zo] : List Value).toArray below meth c H locs 0 0 Q (F0 m 15 ls []) := by
          clear hP hD hS hl
          intro Nloop_127
          induction Nloop_127 with
          | zero => intro i_110 i_111 hbi_110 hm9; exact absurd hm9 (Nat.not_lt_zero _)
          | succ Nloop_127 loop_127_ih =>
            intro i_110 i_111 hbi_110 hmloop_127 H locs ls hP hD hS hl
            refine lv_iload hx hb dX7_toldOn_15 (lv_at hl 0 rfl) ?_
            refine lv_aload_n hx hb dX7_toldOn_17 rfl (lv_at hl 3 rfl) ?_
            refine va_get (D := D) (ci := 7) (v := .int (nI cc)) (C := RX7) (T := TX7) (N := 21) hx hb hts iX7 hown hK hP 0 rfl rfl 15 (by decide) f127 (fun _ h9 => h9) rfl dX7_toldOn_18 ?_
            refine lv_icmp_ge (tgt := 83) hx hb dX7_toldOn_21 (by decide) (fun cb_128 => ?_) (fun cb_128 => ?_)
            · skip
              have cn_129 : cc ≤ i_110 := (nI_leI (show cc < 2 ^ 31 by omega) (show i_110 < 2 ^ 31 by omega)).mp cb_128
              refine lv_iinc (v := (nI (i_44 + 1))) (lv' := [(4, .int (nI (i_44 + 1))), (5, .int (nI i_110)), (3, .int i_111), (0, .ref Mm), (1, .int (nI hix)), (2, .int zo)]) hx hb dX7_toldOn_83 hl (k := 1) rfl (nI_1 (i_44)) (by decide) rfl (fun ls hl => ?_)
              refine lv_goto (tgt := 5) hx hb dX7_toldOn_86 (by decide) ?_
              exact loop_94_ih (i_44 + 1) i_111 (show (i_44 + 1) ≤ 8 by omega) (show 8 - (i_44 + 1) < Nloop_94 by omega) _ _ _ hP hD hS (lv_sub hl [0, 2, 3, 4, 5] rfl)
            · skip
              have cn_130 : i_110 < cc := Nat.lt_of_not_le (fun q9 => cb_128 ((nI_leI (show cc < 2 ^ 31 by omega) (show i_110 < 2 ^ 31 by omega)).mpr q9))
              refine lv_iload_n hx hb dX7_toldOn_24 rfl (lv_at hl 4 rfl) ?_
              refine lv_iload hx hb dX7_toldOn_25 (lv_at hl 1 rfl) ?_
              refine ky_Si (As := [.int (nI hix), .int (nI i_44)]) (rest := []) ⟨hx, hb, hml, hown, hts⟩ ⟨hK, hN⟩ hZ hP hD hS hA [] [0, 1] (wc := []) (wr := [(Mm, .inr (7, [.int zth, .ref Mt, .int (nI tp), .int zma, .int zwr, .ref Mrr, .ref Mrh, .ref Mrc, .int zrh, .int zrc, .ref Mn, .ref Mf, .ref Mr, .ref Mh, .int (nI hp), .int (nI cc), .ref Ma, .ref Mas, .ref Msn, .ref Mac, .ref Mat])), (Mn, .inl (g 0, 1767, .inl fno))]) rfl rfl rfl rfl (by decide) (k_X7_wayAt l D g H.size hix i_44 (show hix < 3 by omega) (show i_44 < 2 ^ 30 by omega)) (va_cwS 2 hts gX7_toldOn_X7_wayAt rfl rfl rfl (by decide +kernel) ⟨(Nat.le_of_ble_eq_true rfl), (Nat.le_of_ble_eq_true rfl)⟩) rfl hl.1 rfl (Nat.le_of_ble_eq_true rfl) dX7_toldOn_27 ⟨(Nat.le_of_ble_eq_true rfl), (Nat.le_of_ble_eq_true rfl)⟩ (fun r_131 u H locs hw hP2 hD2 hS2 => ?_)
              clear hP hD hS
              obtain ⟨rfl, rfl⟩ := hw
              have hPD : PD D A [(Mm, .inr (7, [.int zth, .ref Mt, .int (nI tp), .int zma, .int zwr, .ref Mrr, .ref Mrh, .ref Mrc, .int zrh, .int zrc, .ref Mn, .ref Mf, .ref Mr, .ref Mh, .int (nI hp), .int (nI cc), .ref Ma, .ref Mas, .ref Msn, .ref Mac, .ref Mat])), (Mn, .inl (g 0, 1767, .inl fno))] H := ⟨hP2, hD2⟩
              have hS := hS2; clear hP2 hD2 hS2; have hP := hPD.1; have hD := hPD.2; clear hPD
              refine W.widen (k := 0) (n := 0) (Nat.le_of_ble_eq_true rfl) (Nat.le_of_ble_eq_true rfl) ?_
              refine lv_istore (lv' := [(6, .int (nI (69 + 5 * (8 * hix + i_44 % 8)))), (5, .int (nI i_110)), (4, .int (nI i_44)), (3, .int i_111), (0, .ref Mm), (1, .int (nI hix)), (2, .int zo)]) hx hb dX7_toldOn_30 hl (by decide) rfl (fun ls hl => ?_)
              refine lv_iload_n hx hb dX7_toldOn_32 rfl (lv_at hl 3 rfl) ?_
              refine lv_iload_n hx hb dX7_toldOn_33 rfl (lv_at hl 6 rfl) ?_
              refine lv_if_eq (tgt := 54) hx hb dX7_toldOn_34 (by decide) (fun cb_132 => ?_) (fun cb_132 => ?_)
              · skip
                have hPq_133 := hP; have hDq_133 := hD; have hSq_133 := hS; have hlq_133 := hl; clear hP hD hS hl
                subst cb_132
                have hP := hPq_133; have hD := hDq_133; have hS := hSq_133; have hl := hlq_133; clear hPq_133 hDq_133 hSq_133 hlq_133
                refine lv_aload_n hx hb dX7_toldOn_54 rfl (lv_at hl 4 rfl) ?_
                refine va_get (D := D) (ci := 7) (v := .ref Mn) (C := RX7) (T := TX7) (N := 21) hx hb hts iX7 hown hK hP 0 rfl rfl 10 (by decide) f22 (fun _ h9 => h9) rfl dX7_toldOn_55 ?_
                refine lv_iload hx hb dX7_toldOn_58 (lv_at hl 0 rfl) ?_
                refine lv_iconst (v := 1) hx hb dX7_toldOn_60 (by decide) ?_
                refine lv_iadd hx hb dX7_toldOn_61 ?_
                refine lv_eqi (y := (nI (69 + 5 * (8 * hix + i_44 % 8) + 1))) (nI_add (69 + 5 * (8 * hix + i_44 % 8)) (1)) ?_
                refine lv_iload hx hb dX7_toldOn_62 (lv_at hl 1 rfl) ?_
                refine lv_iadd hx hb dX7_toldOn_64 ?_
                refine lv_eqi (y := (nI (69 + 5 * (8 * hix + i_44 % 8) + 1 + i_110))) (nI_add (69 + 5 * (8 * hix + i_44 % 8) + 1) (i_110)) ?_
                refine va_iald hx hb hK hP 1 0 rfl rfl (vp_in_nI (show 69 + 5 * (8 * hix + i_44 % 8) + 1 + i_110 < 1767 by omega) (by decide)) dX7_toldOn_65 ?_
                refine lv_eqi (y := (fno (69 + 5 * (8 * hix + i_44 % 8) + 1 + i_110))) (congrArg fno (nI_clamp (show 69 + 5 * (8 * hix + i_44 % 8) + 1 + i_110 < 2 ^ 31 by omega))) ?_
                refine lv_topi (fun y_134 _ => ?_)
                refine lv_iconst (v := (-1)) hx hb dX7_toldOn_66 (by decide) ?_
                refine lv_icmp_eq (tgt := 74) hx hb dX7_toldOn_67 (by decide) (fun cb_135 => ?_) (fun cb_135 => ?_)
                · skip
                  have hPq_136 := hP; have hDq_136 := hD; have hSq_136 := hS; have hlq_136 := hl; clear hP hD hS hl
                  subst cb_135
                  have hP := hPq_136; have hD := hDq_136; have hS := hSq_136; have hl := hlq_136; clear hPq_136 hDq_136 hSq_136 hlq_136
                  refine lv_iconst (v := 0) hx hb dX7_toldOn_74 (by decide) ?_
                  refine lv_iadd hx hb dX7_toldOn_75 ?_
                  refine lv_topi (fun y_137 _ => ?_)
                  refine lv_istore_n (lv' := [(3, .int y_137), (6, .int (nI (69 + 5 * (8 * hix + i_44 % 8)))), (5, .int (nI i_110)), (4, .int (nI i_44)), (0, .ref Mm), (1, .int (nI hix)), (2, .int 0)]) hx hb dX7_toldOn_76 rfl hl (by decide) rfl (fun ls hl => ?_)
                  refine lv_iinc (v := (nI (i_110 + 1))) (lv' := [(5, .int (nI (i_110 + 1))), (3, .int y_137), (6, .int (nI (69 + 5 * (8 * hix + i_44 % 8)))), (4, .int (nI i_44)), (0, .ref Mm), (1, .int (nI hix)), (2, .int 0)]) hx hb dX7_toldOn_77 hl (k := 2) rfl (nI_1 (i_110)) (by decide) rfl (fun ls hl => ?_)
                  refine lv_goto (tgt := 15) hx hb dX7_toldOn_80 (by decide) ?_
                  exact loop_127_ih (i_110 + 1) y_137 (show (i_110 + 1) ≤ cc by omega) (show cc - (i_110 + 1) < Nloop_127 by omega) _ _ _ hP hD hS (lv_sub hl [0, 3, 1, 4, 5, 6] rfl)
                · skip
                  refine lv_iconst (v := 1) hx hb dX7_toldOn_70 (by decide) ?_
                  refine lv_goto (tgt := 75) hx hb dX7_toldOn_71 (by decide) ?_
                  refine lv_iadd hx hb dX7_toldOn_75 ?_
                  refine lv_topi (fun y_138 _ => ?_)
                  refine lv_istore_n (lv' := [(3, .int y_138), (6, .int (nI (69 + 5 * (8 * hix + i_44 % 8)))), (5, .int (nI i_110)), (4, .int (nI i_44)), (0, .ref Mm), (1, .int (nI hix)), (2, .int 0)]) hx hb dX7_toldOn_76 rfl hl (by decide) rfl (fun ls hl => ?_)
                  refine lv_iinc (v := (nI (i_110 + 1))) (lv' := [(5, .int (nI (i_110 + 1))), (3, .int y_138), (6, .int (nI (69 + 5 * (8 * hix + i_44 % 8)))), (4, .int (nI i_44)), (0, .ref Mm), (1, .int (nI hix)), (2, .int 0)]) hx hb dX7_toldOn_77 hl (k := 2) rfl (nI_1 (i_110)) (by decide) rfl (fun ls hl => ?_)
                  refine lv_goto (tgt := 15) hx hb dX7_toldOn_80 (by decide) ?_
                  exact loop_127_ih (i_110 + 1) y_138 (show (i_110 + 1) ≤ cc by omega) (show cc - (i_110 + 1) < Nloop_127 by omega) _ _ _ hP hD hS (lv_sub hl [0, 3, 1, 4, 5, 6] rfl)
              · skip
                refine lv_aload_n hx hb dX7_toldOn_37 rfl (lv_at hl 4 rfl) ?_
                refine va_get (D := D) (ci := 7) (v := .ref Mn) (C := RX7) (T := TX7) (N := 21) hx hb hts iX7 hown hK hP 0 rfl rfl 10 (by decide) f22 (fun _ h9 => h9) rfl dX7_toldOn_38 ?_
                refine lv_iload hx hb dX7_toldOn_41 (lv_at hl 0 rfl) ?_
                refine lv_iconst (v := 4) hx hb dX7_toldOn_43 (by decide) ?_
                refine lv_iadd hx hb dX7_toldOn_44 ?_
                refine lv_eqi (y := (nI (69 + 5 * (8 * hix + i_44 % 8) + 4))) (nI_add (69 + 5 * (8 * hix + i_44 % 8)) (4)) ?_
                refine va_iald hx hb hK hP 1 0 rfl rfl (vp_in_nI (show 69 + 5 * (8 * hix + i_44 % 8) + 4 < 1767 by omega) (by decide)) dX7_toldOn_45 ?_
                refine lv_eqi (y := (fno (69 + 5 * (8 * hix + i_44 % 8) + 4))) (congrArg fno (nI_clamp (show 69 + 5 * (8 * hix + i_44 % 8) + 4 < 2 ^ 31 by omega))) ?_
                refine lv_topi (fun y_139 _ => ?_)
                refine lv_iload hx hb dX7_toldOn_46 (lv_at hl 1 rfl) ?_
                refine lv_ishr hx hb dX7_toldOn_48 ?_
                refine lv_topi (fun y_140 _ => ?_)
                refine lv_iconst (v := 1) hx hb dX7_toldOn_49 (by decide) ?_
                refine lv_iand hx hb dX7_toldOn_50 ?_
                refine lv_topi (fun y_141 _ => ?_)
                refine lv_goto (tgt := 75) hx hb dX7_toldOn_51 (by decide) ?_
                refine lv_iadd hx hb dX7_toldOn_75 ?_
                refine lv_topi (fun y_142 _ => ?_)
                refine lv_istore_n (lv' := [(3, .int y_142), (6, .int (nI (69 + 5 * (8 * hix + i_44 % 8)))), (5, .int (nI i_110)), (4, .int (nI i_44)), (0, .ref Mm), (1, .int (nI hix)), (2, .int zo)]) hx hb dX7_toldOn_76 rfl hl (by decide) rfl (fun ls hl => ?_)
                refine lv_iinc (v := (nI (i_110 + 1))) (lv' := [(5, .int (nI (i_110 + 1))), (3, .int y_142), (6, .int (nI (69 + 5 * (8 * hix + i_44 % 8)))), (4, .int (nI i_44)), (0, .ref Mm), (1, .int (nI hix)), (2, .int zo)]) hx hb dX7_toldOn_77 hl (k := 2) rfl (nI_1 (i_110)) (by decide) rfl (fun ls hl => ?_)
                refine lv_goto (tgt := 15) hx hb dX7_toldOn_80 (by decide) ?_
                exact loop_127_ih (i_110 + 1) y_142 (show (i_110 + 1) ≤ cc by omega) (show cc - (i_110 + 1) < Nloop_127 by omega) _ _ _ hP hD hS (lv_sub hl [0, 3, 1, 4, 5, 6] rfl)
        exact loop_127 _ 0 i_45 (show 0 ≤ cc by omega) (Nat.lt_succ_self _) _ _ _ hP hD hS hl
  exact loop_94 _ 0 0 (show 0 ≤ 8 by omega) (Nat.lt_succ_self _) _ _ _ hP hD hS hl

set_option maxHeartbeats 4000000 in
set_option maxRecDepth 100000 in
theorem k_X7_anywhere (l : Launch) (D : va_G) (g : Nat → ClassId) (sz : Nat) (Mm : Nat) (cx : Nat) (zth : Int32) (Mt : Nat) (tp : Nat) (zma : Int32) (zwr : Int32) (Mrr : Nat) (Mrh : Nat) (Mrc : Nat) (zrh : Int32) (zrc : Int32) (Mn : Nat) (Mf : Nat) (Mr : Nat) (Mh : Nat) (hp : Nat) (cc : Nat) (Ma : Nat) (Mas : Nat) (Msn : Nat) (Mac : Nat) (Mat : Nat) (fno : Nat → Int32) (h0 : cx < 3) : Met l yX7_anywhere wsX7_anywhere ({ frames := 1, cells := 0, slots := 0, locals := 20 }) (va_Pc [.ref Mm, .int (nI cx)] (pre D g sz [(Mm, .inr (7, [.int zth, .ref Mt, .int (nI tp), .int zma, .int zwr, .ref Mrr, .ref Mrh, .ref Mrc, .int zrh, .int zrc, .ref Mn, .ref Mf, .ref Mr, .ref Mh, .int (nI hp), .int (nI cc), .ref Ma, .ref Mas, .ref Msn, .ref Mac, .ref Mat])), (Mn, .inl (g 0, 1767, .inl fno))])) (va_Qi (fun (r : Int32) (u : va_W) => u = [(Mm, .inr (7, [.int zth, .ref Mt, .int (nI tp), .int zma, .int zwr, .ref Mrr, .ref Mrh, .ref Mrc, .int zrh, .int zrc, .ref Mn, .ref Mf, .ref Mr, .ref Mh, .int (nI hp), .int (nI cc), .ref Ma, .ref Mas, .ref Msn, .ref Mac, .ref Mat])), (Mn, .inl (g 0, 1767, .inl fno))]) (wd D (va_A [(Mm, .inr (7, [.int zth, .ref Mt, .int (nI tp), .int zma, .int zwr, .ref Mrr, .ref Mrh, .ref Mrc, .int zrh, .int zrc, .ref Mn, .ref Mf, .ref Mr, .ref Mh, .int (nI hp), .int (nI cc), .ref Ma, .ref Mas, .ref Msn, .ref Mac, .ref Mat])), (Mn, .inl (g 0, 1767, .inl fno))] sz)) (va_A [(Mm, .inr (7, [.int zth, .ref Mt, .int (nI tp), .int zma, .int zwr, .ref Mrr, .ref Mrh, .ref Mrc, .int zrh, .int zrc, .ref Mn, .ref Mf, .ref Mr, .ref Mh, .int (nI hp), .int (nI cc), .ref Ma, .ref Mas, .ref Msn, .ref Mac, .ref Mat])), (Mn, .inl (g 0, 1767, .inl fno))] sz)) 0 0 (va_A [(Mm, .inr (7, [.int zth, .ref Mt, .int (nI tp), .int zma, .int zwr, .ref Mrr, .ref Mrh, .ref Mrc, .int zrh, .int zrc, .ref Mn, .ref Mf, .ref Mr, .ref Mh, .int (nI hp), .int (nI cc), .ref Ma, .ref Mas, .ref Msn, .ref Mac, .ref Mat])), (Mn, .inl (g 0, 1767, .inl fno))] sz) := by
  refine Met.ofW (cc := cX7_anywhere) (maxL := 2) (ret := (some .int)) (by decide) rfl ?_
  intro p e s m args below meth c s₁ B hml hv
  obtain ⟨rfl, hsz, hP, ⟨hK, hN⟩, hD0, hZ⟩ := hv
  have hx := B.exec
  have hb := B.bytes
  have hr := B.returns
  have hts := atoms_spec (ws := wsX7_anywhere) B.pre
  have hown : s.vm.findClass RX7 = some m.cls := findClass_of_methodNamed B.named
  have hlocks := B.notSynchronized
  clear B
  subst hsz
  have hD := hD0.self (sz := s.heap.size)
  clear hD0
  generalize hAe : va_A [(Mm, .inr (7, [.int zth, .ref Mt, .int (nI tp), .int zma, .int zwr, .ref Mrr, .ref Mrh, .ref Mrc, .int zrh, .int zrc, .ref Mn, .ref Mf, .ref Mr, .ref Mh, .int (nI hp), .int (nI cc), .ref Ma, .ref Mas, .ref Msn, .ref Mac, .ref Mat])), (Mn, .inl (g 0, 1767, .inl fno))] s.heap.size = A at hD hZ ⊢
  have hA : ∀ q : Nat, s.heap.size ≤ q → A q := fun q h => by rw [← hAe]; exact Or.inr h
  have hS : va_S A s.heap s.heap [] := va_S.rf
  have f22 := hts (.fieldLink RX7 22 "HopCreditsModel" "now" "[I") (List.mem_of_getElem? (i := 1) rfl)
  have iX7 : ∀ w ∈ u_ws RX7 TX7 21, w ∈ wsX7_anywhere := fun w h => List.mem_cons_of_mem _ (List.mem_append_right _ (h))
  have hl := lv_entry ([.ref Mm, .int (nI cx)]) (n := 2) (Nat.le_of_ble_eq_true rfl)
  rw [lg_entry_eq]
  generalize (lg_sl ([.ref Mm, .int (nI cx)]) ++ List.replicate (2 - (lg_sl ([.ref Mm, .int (nI cx)])).length) Slot.unset).toArray = ls at hl ⊢
  have hl : lv_has ls 2 [(0, .ref Mm), (1, .int (nI cx))] := hl
  generalize hQ : MQ below _ _ s _ _ _ = Q
  generalize hH : s.heap = H at hP ⊢
  have hS : va_S A s.heap H [] := by rw [← hH]; exact hS
  clear hH
  refine lv_aload_n hx hb dX7_anywhere_0 rfl (lv_at hl 0 rfl) ?_
  refine va_get (D := D) (ci := 7) (v := .ref Mn) (C := RX7) (T := TX7) (N := 21) hx hb hts iX7 hown hK hP 0 rfl rfl 10 (by decide) f22 (fun _ h9 => h9) rfl dX7_anywhere_1 ?_
  refine lv_iload_n hx hb dX7_anywhere_4 rfl (lv_at hl 1 rfl) ?_
  refine ky_Si (As := [.int (nI cx)]) (rest := [.ref Mn]) ⟨hx, hb, hml, hown, hts⟩ ⟨hK, hN⟩ hZ hP hD hS hA [] [0, 1] (wc := []) (wr := [(Mm, .inr (7, [.int zth, .ref Mt, .int (nI tp), .int zma, .int zwr, .ref Mrr, .ref Mrh, .ref Mrc, .int zrh, .int zrc, .ref Mn, .ref Mf, .ref Mr, .ref Mh, .int (nI hp), .int (nI cc), .ref Ma, .ref Mas, .ref Msn, .ref Mac, .ref Mat])), (Mn, .inl (g 0, 1767, .inl fno))]) rfl rfl rfl rfl (by decide) (k_X7_circuitAt l D g H.size cx (show cx < 3 by omega)) (va_cwS 1 hts gX7_anywhere_X7_circuitAt rfl rfl rfl (by decide +kernel) ⟨(Nat.le_of_ble_eq_true rfl), (Nat.le_of_ble_eq_true rfl)⟩) rfl hl.1 rfl (Nat.le_of_ble_eq_true rfl) dX7_anywhere_5 ⟨(Nat.le_of_ble_eq_true rfl), (Nat.le_of_ble_eq_true rfl)⟩ (fun r_1 u H locs hw hP2 hD2 hS2 => ?_)
  clear hP hD hS
  obtain ⟨rfl, rfl⟩ := hw
  have hPD : PD D A [(Mm, .inr (7, [.int zth, .ref Mt, .int (nI tp), .int zma, .int zwr, .ref Mrr, .ref Mrh, .ref Mrc, .int zrh, .int zrc, .ref Mn, .ref Mf, .ref Mr, .ref Mh, .int (nI hp), .int (nI cc), .ref Ma, .ref Mas, .ref Msn, .ref Mac, .ref Mat])), (Mn, .inl (g 0, 1767, .inl fno))] H := ⟨hP2, hD2⟩
  have hS := hS2; clear hP2 hD2 hS2; have hP := hPD.1; have hD := hPD.2; clear hPD
  refine W.widen (k := 0) (n := 0) (Nat.le_of_ble_eq_true rfl) (Nat.le_of_ble_eq_true rfl) ?_
  refine lv_iconst (v := 3) hx hb dX7_anywhere_8 (by decide) ?_
  refine lv_iadd hx hb dX7_anywhere_9 ?_
  refine lv_eqi (y := (nI (201 + 9 * cx + 3))) (nI_add (201 + 9 * cx) (3)) ?_
  refine va_iald hx hb hK hP 1 0 rfl rfl (vp_in_nI (show 201 + 9 * cx + 3 < 1767 by omega) (by decide)) dX7_anywhere_10 ?_
  refine lv_eqi (y := (fno (201 + 9 * cx + 3))) (congrArg fno (nI_clamp (show 201 + 9 * cx + 3 < 2 ^ 31 by omega))) ?_
  refine lv_topi (fun y_2 _ => ?_)
  refine lv_aload_n hx hb dX7_anywhere_11 rfl (lv_at hl 0 rfl) ?_
  refine va_get (D := D) (ci := 7) (v := .ref Mn) (C := RX7) (T := TX7) (N := 21) hx hb hts iX7 hown hK hP 0 rfl rfl 10 (by decide) f22 (fun _ h9 => h9) rfl dX7_anywhere_12 ?_
  refine lv_iload_n hx hb dX7_anywhere_15 rfl (lv_at hl 1 rfl) ?_
  refine ky_Si (As := [.int (nI cx)]) (rest := [.ref Mn, .int y_2]) ⟨hx, hb, hml, hown, hts⟩ ⟨hK, hN⟩ hZ hP hD hS hA [] [0, 1] (wc := []) (wr := [(Mm, .inr (7, [.int zth, .ref Mt, .int (nI tp), .int zma, .int zwr, .ref Mrr, .ref Mrh, .ref Mrc, .int zrh, .int zrc, .ref Mn, .ref Mf, .ref Mr, .ref Mh, .int (nI hp), .int (nI cc), .ref Ma, .ref Mas, .ref Msn, .ref Mac, .ref Mat])), (Mn, .inl (g 0, 1767, .inl fno))]) rfl rfl rfl rfl (by decide) (k_X7_circuitAt l D g H.size cx (show cx < 3 by omega)) (va_cwS 1 hts gX7_anywhere_X7_circuitAt rfl rfl rfl (by decide +kernel) ⟨(Nat.le_of_ble_eq_true rfl), (Nat.le_of_ble_eq_true rfl)⟩) rfl hl.1 rfl (Nat.le_of_ble_eq_true rfl) dX7_anywhere_16 ⟨(Nat.le_of_ble_eq_true rfl), (Nat.le_of_ble_eq_true rfl)⟩ (fun r_3 u H locs hw hP2 hD2 hS2 => ?_)
  clear hP hD hS
  obtain ⟨rfl, rfl⟩ := hw
  have hPD : PD D A [(Mm, .inr (7, [.int zth, .ref Mt, .int (nI tp), .int zma, .int zwr, .ref Mrr, .ref Mrh, .ref Mrc, .int zrh, .int zrc, .ref Mn, .ref Mf, .ref Mr, .ref Mh, .int (nI hp), .int (nI cc), .ref Ma, .ref Mas, .ref Msn, .ref Mac, .ref Mat])), (Mn, .inl (g 0, 1767, .inl fno))] H := ⟨hP2, hD2⟩
  have hS := hS2; clear hP2 hD2 hS2; have hP := hPD.1; have hD := hPD.2; clear hPD
  refine W.widen (k := 0) (n := 0) (Nat.le_of_ble_eq_true rfl) (Nat.le_of_ble_eq_true rfl) ?_
  refine lv_iconst (v := 5) hx hb dX7_anywhere_19 (by decide) ?_
  refine lv_iadd hx hb dX7_anywhere_20 ?_
  refine lv_eqi (y := (nI (201 + 9 * cx + 5))) (nI_add (201 + 9 * cx) (5)) ?_
  refine va_iald hx hb hK hP 1 0 rfl rfl (vp_in_nI (show 201 + 9 * cx + 5 < 1767 by omega) (by decide)) dX7_anywhere_21 ?_
  refine lv_eqi (y := (fno (201 + 9 * cx + 5))) (congrArg fno (nI_clamp (show 201 + 9 * cx + 5 < 2 ^ 31 by omega))) ?_
  refine lv_topi (fun y_4 _ => ?_)
  refine lv_isub hx hb dX7_anywhere_22 ?_
  refine lv_topi (fun y_5 _ => ?_)
  have hP9 := hP; have hD9 := hD
  subst hQ
  refine W.widen (k := 0) (n := 0) (Nat.le_of_ble_eq_true rfl) (Nat.le_of_ble_eq_true rfl) ?_
  exact W.iret (v := y_5) hx hb hr (fun tS htS _ => ⟨⟨_, _, rfl, rfl, by rw [htS]; exact hP9, hD9⟩, hS.F htS⟩) hS.2.2 dX7_anywhere_23

set_option maxHeartbeats 4000000 in
set_option maxRecDepth 100000 in
theorem k_X7_rule (l : Launch) (D : va_G) (g : Nat → ClassId) (sz : Nat) (Mm : Nat) (zw : Int32) (zth : Int32) (Mt : Nat) (tp : Nat) (zma : Int32) (zwr : Int32) (Mrr : Nat) (Mrh : Nat) (Mrc : Nat) (zrh : Int32) (zrc : Int32) (Mn : Nat) (Mf : Nat) (Mr : Nat) (Mh : Nat) (hp : Nat) (cc : Nat) (Ma : Nat) (Mas : Nat) (Msn : Nat) (Mac : Nat) (Mat : Nat) (fno : Nat → Int32) (fmr : Nat → Int32) (h0 : 1 ≤ hp) (h1 : hp ≤ 3) : Met l yX7_rule wsX7_rule ({ frames := 1, cells := 0, slots := 0, locals := 22 }) (va_Pc [.ref Mm, .int zw] (pre D g sz [(Mm, .inr (7, [.int zth, .ref Mt, .int (nI tp), .int zma, .int zwr, .ref Mrr, .ref Mrh, .ref Mrc, .int zrh, .int zrc, .ref Mn, .ref Mf, .ref Mr, .ref Mh, .int (nI hp), .int (nI cc), .ref Ma, .ref Mas, .ref Msn, .ref Mac, .ref Mat])), (Mn, .inl (g 0, 1767, .inl fno)), (Mr, .inl (g 0, 3, .inl fmr))])) (va_Qi (fun (r : Int32) (u : va_W) => ∃ (zthx : Int32), u = [(Mm, .inr (7, [.int zthx, .ref Mt, .int (nI tp), .int zma, .int zwr, .ref Mrr, .ref Mrh, .ref Mrc, .int zrh, .int zrc, .ref Mn, .ref Mf, .ref Mr, .ref Mh, .int (nI hp), .int (nI cc), .ref Ma, .ref Mas, .ref Msn, .ref Mac, .ref Mat])), (Mn, .inl (g 0, 1767, .inl fno)), (Mr, .inl (g 0, 3, .inl fmr))]) (wd D (va_A [(Mm, .inr (7, [.int zth, .ref Mt, .int (nI tp), .int zma, .int zwr, .ref Mrr, .ref Mrh, .ref Mrc, .int zrh, .int zrc, .ref Mn, .ref Mf, .ref Mr, .ref Mh, .int (nI hp), .int (nI cc), .ref Ma, .ref Mas, .ref Msn, .ref Mac, .ref Mat])), (Mn, .inl (g 0, 1767, .inl fno)), (Mr, .inl (g 0, 3, .inl fmr))] sz)) (va_A [(Mm, .inr (7, [.int zth, .ref Mt, .int (nI tp), .int zma, .int zwr, .ref Mrr, .ref Mrh, .ref Mrc, .int zrh, .int zrc, .ref Mn, .ref Mf, .ref Mr, .ref Mh, .int (nI hp), .int (nI cc), .ref Ma, .ref Mas, .ref Msn, .ref Mac, .ref Mat])), (Mn, .inl (g 0, 1767, .inl fno)), (Mr, .inl (g 0, 3, .inl fmr))] sz)) 0 0 (va_A [(Mm, .inr (7, [.int zth, .ref Mt, .int (nI tp), .int zma, .int zwr, .ref Mrr, .ref Mrh, .ref Mrc, .int zrh, .int zrc, .ref Mn, .ref Mf, .ref Mr, .ref Mh, .int (nI hp), .int (nI cc), .ref Ma, .ref Mas, .ref Msn, .ref Mac, .ref Mat])), (Mn, .inl (g 0, 1767, .inl fno)), (Mr, .inl (g 0, 3, .inl fmr))] sz) := by
  refine Met.ofW (cc := cX7_rule) (maxL := 2) (ret := (some .int)) (by decide) rfl ?_
  intro p e s m args below meth c s₁ B hml hv
  obtain ⟨rfl, hsz, hP, ⟨hK, hN⟩, hD0, hZ⟩ := hv
  have hx := B.exec
  have hb := B.bytes
  have hr := B.returns
  have hts := atoms_spec (ws := wsX7_rule) B.pre
  have hown : s.vm.findClass RX7 = some m.cls := findClass_of_methodNamed B.named
  have hlocks := B.notSynchronized
  clear B
  subst hsz
  have hD := hD0.self (sz := s.heap.size)
  clear hD0
  generalize hAe : va_A [(Mm, .inr (7, [.int zth, .ref Mt, .int (nI tp), .int zma, .int zwr, .ref Mrr, .ref Mrh, .ref Mrc, .int zrh, .int zrc, .ref Mn, .ref Mf, .ref Mr, .ref Mh, .int (nI hp), .int (nI cc), .ref Ma, .ref Mas, .ref Msn, .ref Mac, .ref Mat])), (Mn, .inl (g 0, 1767, .inl fno)), (Mr, .inl (g 0, 3, .inl fmr))] s.heap.size = A at hD hZ ⊢
  have hA : ∀ q : Nat, s.heap.size ≤ q → A q := fun q h => by rw [← hAe]; exact Or.inr h
  have hS : va_S A s.heap s.heap [] := va_S.rf
  have f124 := hts (.fieldLink RX7 124 "HopCreditsModel" "hops" "I") (List.mem_of_getElem? (i := 3) rfl)
  have f127 := hts (.fieldLink RX7 127 "HopCreditsModel" "circuits" "I") (List.mem_of_getElem? (i := 4) rfl)
  have f22 := hts (.fieldLink RX7 22 "HopCreditsModel" "now" "[I") (List.mem_of_getElem? (i := 5) rfl)
  have f28 := hts (.fieldLink RX7 28 "HopCreditsModel" "rule" "[I") (List.mem_of_getElem? (i := 6) rfl)
  have f49 := hts (.fieldLink RX7 49 "HopCreditsModel" "thrown" "I") (List.mem_of_getElem? (i := 1) rfl)
  have k236 := hts (.constant RX7 236 (-1000000)) (List.mem_of_getElem? (i := 2) rfl)
  have iX7 : ∀ w ∈ u_ws RX7 TX7 21, w ∈ wsX7_rule := fun w h => List.mem_cons_of_mem _ (List.mem_append_right _ (h))
  have hl := lv_entry ([.ref Mm, .int zw]) (n := 2) (Nat.le_of_ble_eq_true rfl)
  rw [lg_entry_eq]
  generalize (lg_sl ([.ref Mm, .int zw]) ++ List.replicate (2 - (lg_sl ([.ref Mm, .int zw])).length) Slot.unset).toArray = ls at hl ⊢
  have hl : lv_has ls 2 [(0, .ref Mm), (1, .int zw)] := hl
  generalize hQ : MQ below _ _ s _ _ _ = Q
  generalize hH : s.heap = H at hP ⊢
  have hS : va_S A s.heap H [] := by rw [← hH]; exact hS
  clear hH
  refine lv_aload_n hx hb dX7_rule_0 rfl (lv_at hl 0 rfl) ?_
  refine lv_iconst (v := 0) hx hb dX7_rule_1 (by decide) ?_
  refine va_put (D := D) (ci := 7) (v := .int 0) (ty := .int) (C := RX7) (T := TX7) (N := 21) hx hb hts iX7 tyX7 tyX7_ok nmX7 hown hK hP hD hS 0 rfl rfl 0 (by decide) f49 (fun _ h9 => h9) rfl (by decide +kernel) (rfl) (rfl) (Nat.le_of_ble_eq_true rfl) dX7_rule_2 (fun H locs hP2 hD2 hS2 => ?_)
  clear hP hD hS
  have hPD : PD D A [(Mm, .inr (7, [.int 0, .ref Mt, .int (nI tp), .int zma, .int zwr, .ref Mrr, .ref Mrh, .ref Mrc, .int zrh, .int zrc, .ref Mn, .ref Mf, .ref Mr, .ref Mh, .int (nI hp), .int (nI cc), .ref Ma, .ref Mas, .ref Msn, .ref Mac, .ref Mat])), (Mn, .inl (g 0, 1767, .inl fno)), (Mr, .inl (g 0, 3, .inl fmr))] H := ⟨hP2, hD2⟩
  have hS := hS2; clear hP2 hD2 hS2; have hP := hPD.1; have hD := hPD.2; clear hPD
  refine lv_aload_n hx hb dX7_rule_5 rfl (lv_at hl 0 rfl) ?_
  refine ky_Vi (As := []) (rest := []) ⟨hx, hb, hml, hown, hts⟩ ⟨hK, hN⟩ hZ hP hD hS hA [0] [1, 2] (wc := [(Mm, .inr (7, [.int 0, .ref Mt, .int (nI tp), .int zma, .int zwr, .ref Mrr, .ref Mrh, .ref Mrc, .int zrh, .int zrc, .ref Mn, .ref Mf, .ref Mr, .ref Mh, .int (nI hp), .int (nI cc), .ref Ma, .ref Mas, .ref Msn, .ref Mac, .ref Mat]))]) (wr := [(Mn, .inl (g 0, 1767, .inl fno)), (Mr, .inl (g 0, 3, .inl fmr))]) rfl rfl rfl rfl (by decide) (k_X7_isNet l D g H.size Mm 0 Mt tp zma zwr Mrr Mrh Mrc zrh zrc Mn Mf Mr Mh hp cc Ma Mas Msn Mac Mat (show 1 ≤ hp by omega) (show hp ≤ 3 by omega)) (cwV 0 hts gX7_rule_X7_isNet rfl rfl rfl (by decide +kernel) ⟨(Nat.le_of_ble_eq_true rfl), (Nat.le_of_ble_eq_true rfl)⟩) 0 7 rfl rfl rfl rfl hl.1 rfl (Nat.le_of_ble_eq_true rfl) dX7_rule_6 ⟨(Nat.le_of_ble_eq_true rfl), (Nat.le_of_ble_eq_true rfl)⟩ (fun r_1 u H locs hw hP2 hD2 hS2 => ?_)
  clear hP hD hS
  obtain ⟨rfl, rfl⟩ := hw
  have hPD : PD D A [(Mn, .inl (g 0, 1767, .inl fno)), (Mr, .inl (g 0, 3, .inl fmr)), (Mm, .inr (7, [.int 0, .ref Mt, .int (nI tp), .int zma, .int zwr, .ref Mrr, .ref Mrh, .ref Mrc, .int zrh, .int zrc, .ref Mn, .ref Mf, .ref Mr, .ref Mh, .int (nI hp), .int (nI cc), .ref Ma, .ref Mas, .ref Msn, .ref Mac, .ref Mat]))] H := ⟨hP2, hD2⟩
  have hS := hS2; clear hP2 hD2 hS2; have hP := hPD.1; have hD := hPD.2; clear hPD
  refine W.widen (k := 0) (n := 0) (Nat.le_of_ble_eq_true rfl) (Nat.le_of_ble_eq_true rfl) ?_
  refine lv_if_eq (tgt := 21) hx hb dX7_rule_9 (by decide) (fun cb => absurd cb (by decide)) (fun _ => ?_)
  refine lv_iload_n hx hb dX7_rule_12 rfl (lv_at hl 1 rfl) ?_
  refine lv_iconst (v := 0) hx hb dX7_rule_13 (by decide) ?_
  refine lv_iconst (v := 5) hx hb dX7_rule_14 (by decide) ?_
  refine ky_Si (As := [.int zw, .int 0, .int 5]) (rest := []) ⟨hx, hb, hml, hown, hts⟩ ⟨hK, hN⟩ hZ hP hD hS hA [] [0, 1, 2] (wc := []) (wr := [(Mn, .inl (g 0, 1767, .inl fno)), (Mr, .inl (g 0, 3, .inl fmr)), (Mm, .inr (7, [.int 0, .ref Mt, .int (nI tp), .int zma, .int zwr, .ref Mrr, .ref Mrh, .ref Mrc, .int zrh, .int zrc, .ref Mn, .ref Mf, .ref Mr, .ref Mh, .int (nI hp), .int (nI cc), .ref Ma, .ref Mas, .ref Msn, .ref Mac, .ref Mat]))]) rfl rfl rfl rfl (by decide) (k_X7_in l D g H.size zw 0 5) (va_cwS 3 hts gX7_rule_X7_in rfl rfl rfl (by decide +kernel) ⟨(Nat.le_of_ble_eq_true rfl), (Nat.le_of_ble_eq_true rfl)⟩) rfl hl.1 rfl (Nat.le_of_ble_eq_true rfl) dX7_rule_15 ⟨(Nat.le_of_ble_eq_true rfl), (Nat.le_of_ble_eq_true rfl)⟩ (fun r_2 u H locs hw hP2 hD2 hS2 => ?_)
  clear hP hD hS
  obtain ⟨rfl, rfl⟩ := hw
  have hPD : PD D A [(Mn, .inl (g 0, 1767, .inl fno)), (Mr, .inl (g 0, 3, .inl fmr)), (Mm, .inr (7, [.int 0, .ref Mt, .int (nI tp), .int zma, .int zwr, .ref Mrr, .ref Mrh, .ref Mrc, .int zrh, .int zrc, .ref Mn, .ref Mf, .ref Mr, .ref Mh, .int (nI hp), .int (nI cc), .ref Ma, .ref Mas, .ref Msn, .ref Mac, .ref Mat]))] H := ⟨hP2, hD2⟩
  have hS := hS2; clear hP2 hD2 hS2; have hP := hPD.1; have hD := hPD.2; clear hPD
  refine W.widen (k := 0) (n := 0) (Nat.le_of_ble_eq_true rfl) (Nat.le_of_ble_eq_true rfl) ?_
  refine lv_if_ne (tgt := 24) hx hb dX7_rule_18 (by decide) (fun cb_3 => ?_) (fun cb_3 => ?_)
  · skip
    have hq_4 : 0 ≤ zw ∧ zw ≤ 5 := b01_1.mp cb_3
    have hPq_8 := hP; have hDq_8 := hD; have hSq_8 := hS; have hlq_8 := hl; clear hP hD hS hl
    obtain ⟨j_5, hl_6, hu_7, rfl⟩ := rg (L := 0) (U := 5) rfl rfl (show 0 < 2 ^ 31 by omega) (show 5 < 2 ^ 31 by omega) hq_4
    have hP := hPq_8; have hD := hDq_8; have hS := hSq_8; have hl := hlq_8; clear hPq_8 hDq_8 hSq_8 hlq_8
    refine lv_iload_n hx hb dX7_rule_24 rfl (lv_at hl 1 rfl) ?_
    refine lv_if_ne (tgt := 35) hx hb dX7_rule_25 (by decide) (fun cb_9 => ?_) (fun cb_9 => ?_)
    · skip
      have cn_10 : ¬ j_5 = 0 := fun q9 => cb_9 (congrArg nI q9)
      refine lv_iload_n hx hb dX7_rule_35 rfl (lv_at hl 1 rfl) ?_
      refine lv_iconst (v := 1) hx hb dX7_rule_36 (by decide) ?_
      refine lv_icmp_ne (tgt := 47) hx hb dX7_rule_37 (by decide) (fun cb_11 => ?_) (fun cb_11 => ?_)
      · skip
        have cn_12 : ¬ j_5 = 1 := fun q9 => cb_11 (congrArg nI q9)
        refine lv_iload_n hx hb dX7_rule_47 rfl (lv_at hl 1 rfl) ?_
        refine lv_iconst (v := 5) hx hb dX7_rule_48 (by decide) ?_
        refine lv_icmp_ne (tgt := 63) hx hb dX7_rule_49 (by decide) (fun cb_13 => ?_) (fun cb_13 => ?_)
        · skip
          have cn_14 : ¬ j_5 = 5 := fun q9 => cb_13 (congrArg nI q9)
          refine lv_aload_n hx hb dX7_rule_63 rfl (lv_at hl 0 rfl) ?_
          refine va_get (D := D) (ci := 7) (v := .ref Mr) (C := RX7) (T := TX7) (N := 21) hx hb hts iX7 hown hK hP 2 rfl rfl 12 (by decide) f28 (fun _ h9 => h9) rfl dX7_rule_64 ?_
          refine lv_iload_n hx hb dX7_rule_67 rfl (lv_at hl 1 rfl) ?_
          refine lv_iconst (v := 2) hx hb dX7_rule_68 (by decide) ?_
          refine lv_isub hx hb dX7_rule_69 ?_
          refine lv_eqi (y := (nI (j_5 - 2))) (pk_sub (show 2 ≤ j_5 by omega)) ?_
          refine va_iald hx hb hK hP 1 0 rfl rfl (vp_in_nI (show j_5 - 2 < 3 by omega) (by decide)) dX7_rule_70 ?_
          refine lv_eqi (y := (fmr (j_5 - 2))) (congrArg fmr (nI_clamp (show j_5 - 2 < 2 ^ 31 by omega))) ?_
          refine lv_topi (fun y_15 _ => ?_)
          have hPD9 : PD D A [(Mm, .inr (7, [.int 0, .ref Mt, .int (nI tp), .int zma, .int zwr, .ref Mrr, .ref Mrh, .ref Mrc, .int zrh, .int zrc, .ref Mn, .ref Mf, .ref Mr, .ref Mh, .int (nI hp), .int (nI cc), .ref Ma, .ref Mas, .ref Msn, .ref Mac, .ref Mat])), (Mn, .inl (g 0, 1767, .inl fno)), (Mr, .inl (g 0, 3, .inl fmr))] H := ⟨hP.sub [2, 0, 1] rfl, hD.sub [2, 0, 1] (by decide) rfl⟩
          have hP9 := hPD9.1; have hD9 := hPD9.2
          subst hQ
          refine W.widen (k := 0) (n := 0) (Nat.le_of_ble_eq_true rfl) (Nat.le_of_ble_eq_true rfl) ?_
          exact W.iret (v := y_15) hx hb hr (fun tS htS _ => ⟨⟨_, _, rfl, ⟨0, rfl⟩, by rw [htS]; exact hP9, hD9⟩, hS.F htS⟩) hS.2.2 dX7_rule_71
        · skip
          have cn_16 : j_5 = 5 := (nI_eq (show j_5 < 2 ^ 31 by omega) (show 5 < 2 ^ 31 by omega)).mp cb_13
          refine lv_aload_n hx hb dX7_rule_52 rfl (lv_at hl 0 rfl) ?_
          refine va_get (D := D) (ci := 7) (v := .ref Mn) (C := RX7) (T := TX7) (N := 21) hx hb hts iX7 hown hK hP 2 rfl rfl 10 (by decide) f22 (fun _ h9 => h9) rfl dX7_rule_53 ?_
          refine lv_sipush (v := 1764) hx hb dX7_rule_56 (by decide) ?_
          refine va_iald hx hb hK hP 0 0 rfl rfl (by unfold vp_in; decide) dX7_rule_59 ?_
          refine lv_eqi (y := (fno 1764)) (rfl) ?_
          refine lv_topi (fun y_17 _ => ?_)
          refine lv_goto (tgt := 71) hx hb dX7_rule_60 (by decide) ?_
          have hPD9 : PD D A [(Mm, .inr (7, [.int 0, .ref Mt, .int (nI tp), .int zma, .int zwr, .ref Mrr, .ref Mrh, .ref Mrc, .int zrh, .int zrc, .ref Mn, .ref Mf, .ref Mr, .ref Mh, .int (nI hp), .int (nI cc), .ref Ma, .ref Mas, .ref Msn, .ref Mac, .ref Mat])), (Mn, .inl (g 0, 1767, .inl fno)), (Mr, .inl (g 0, 3, .inl fmr))] H := ⟨hP.sub [2, 0, 1] rfl, hD.sub [2, 0, 1] (by decide) rfl⟩
          have hP9 := hPD9.1; have hD9 := hPD9.2
          subst hQ
          refine W.widen (k := 0) (n := 0) (Nat.le_of_ble_eq_true rfl) (Nat.le_of_ble_eq_true rfl) ?_
          exact W.iret (v := y_17) hx hb hr (fun tS htS _ => ⟨⟨_, _, rfl, ⟨0, rfl⟩, by rw [htS]; exact hP9, hD9⟩, hS.F htS⟩) hS.2.2 dX7_rule_71
      · skip
        have cn_18 : j_5 = 1 := (nI_eq (show j_5 < 2 ^ 31 by omega) (show 1 < 2 ^ 31 by omega)).mp cb_11
        refine lv_aload_n hx hb dX7_rule_40 rfl (lv_at hl 0 rfl) ?_
        refine va_get (D := D) (ci := 7) (v := .int (nI cc)) (C := RX7) (T := TX7) (N := 21) hx hb hts iX7 hown hK hP 2 rfl rfl 15 (by decide) f127 (fun _ h9 => h9) rfl dX7_rule_41 ?_
        refine lv_goto (tgt := 71) hx hb dX7_rule_44 (by decide) ?_
        have hPD9 : PD D A [(Mm, .inr (7, [.int 0, .ref Mt, .int (nI tp), .int zma, .int zwr, .ref Mrr, .ref Mrh, .ref Mrc, .int zrh, .int zrc, .ref Mn, .ref Mf, .ref Mr, .ref Mh, .int (nI hp), .int (nI cc), .ref Ma, .ref Mas, .ref Msn, .ref Mac, .ref Mat])), (Mn, .inl (g 0, 1767, .inl fno)), (Mr, .inl (g 0, 3, .inl fmr))] H := ⟨hP.sub [2, 0, 1] rfl, hD.sub [2, 0, 1] (by decide) rfl⟩
        have hP9 := hPD9.1; have hD9 := hPD9.2
        subst hQ
        refine W.widen (k := 0) (n := 0) (Nat.le_of_ble_eq_true rfl) (Nat.le_of_ble_eq_true rfl) ?_
        exact W.iret (v := (nI cc)) hx hb hr (fun tS htS _ => ⟨⟨_, _, rfl, ⟨0, rfl⟩, by rw [htS]; exact hP9, hD9⟩, hS.F htS⟩) hS.2.2 dX7_rule_71
    · skip
      have cn_19 : j_5 = 0 := (nI_eq (show j_5 < 2 ^ 31 by omega) (show 0 < 2 ^ 31 by omega)).mp cb_9
      refine lv_aload_n hx hb dX7_rule_28 rfl (lv_at hl 0 rfl) ?_
      refine va_get (D := D) (ci := 7) (v := .int (nI hp)) (C := RX7) (T := TX7) (N := 21) hx hb hts iX7 hown hK hP 2 rfl rfl 14 (by decide) f124 (fun _ h9 => h9) rfl dX7_rule_29 ?_
      refine lv_goto (tgt := 71) hx hb dX7_rule_32 (by decide) ?_
      have hPD9 : PD D A [(Mm, .inr (7, [.int 0, .ref Mt, .int (nI tp), .int zma, .int zwr, .ref Mrr, .ref Mrh, .ref Mrc, .int zrh, .int zrc, .ref Mn, .ref Mf, .ref Mr, .ref Mh, .int (nI hp), .int (nI cc), .ref Ma, .ref Mas, .ref Msn, .ref Mac, .ref Mat])), (Mn, .inl (g 0, 1767, .inl fno)), (Mr, .inl (g 0, 3, .inl fmr))] H := ⟨hP.sub [2, 0, 1] rfl, hD.sub [2, 0, 1] (by decide) rfl⟩
      have hP9 := hPD9.1; have hD9 := hPD9.2
      subst hQ
      refine W.widen (k := 0) (n := 0) (Nat.le_of_ble_eq_true rfl) (Nat.le_of_ble_eq_true rfl) ?_
      exact W.iret (v := (nI hp)) hx hb hr (fun tS htS _ => ⟨⟨_, _, rfl, ⟨0, rfl⟩, by rw [htS]; exact hP9, hD9⟩, hS.F htS⟩) hS.2.2 dX7_rule_71
  · skip
    have hq_20 : ¬ (0 ≤ zw ∧ zw ≤ 5) := b01_0.mp cb_3
    refine lv_ldc (v := (-1000000)) hx hb hown k236 dX7_rule_21 ?_
    have hPD9 : PD D A [(Mm, .inr (7, [.int 0, .ref Mt, .int (nI tp), .int zma, .int zwr, .ref Mrr, .ref Mrh, .ref Mrc, .int zrh, .int zrc, .ref Mn, .ref Mf, .ref Mr, .ref Mh, .int (nI hp), .int (nI cc), .ref Ma, .ref Mas, .ref Msn, .ref Mac, .ref Mat])), (Mn, .inl (g 0, 1767, .inl fno)), (Mr, .inl (g 0, 3, .inl fmr))] H := ⟨hP.sub [2, 0, 1] rfl, hD.sub [2, 0, 1] (by decide) rfl⟩
    have hP9 := hPD9.1; have hD9 := hPD9.2
    subst hQ
    refine W.widen (k := 0) (n := 0) (Nat.le_of_ble_eq_true rfl) (Nat.le_of_ble_eq_true rfl) ?_
    exact W.iret (v := (-1000000)) hx hb hr (fun tS htS _ => ⟨⟨_, _, rfl, ⟨0, rfl⟩, by rw [htS]; exact hP9, hD9⟩, hS.F htS⟩) hS.2.2 dX7_rule_23

set_option maxHeartbeats 4000000 in
set_option maxRecDepth 100000 in
theorem k_X7_hop (l : Launch) (D : va_G) (g : Nat → ClassId) (sz : Nat) (Mm : Nat) (zh : Int32) (zw : Int32) (zth : Int32) (Mt : Nat) (tp : Nat) (zma : Int32) (zwr : Int32) (Mrr : Nat) (Mrh : Nat) (Mrc : Nat) (zrh : Int32) (zrc : Int32) (Mn : Nat) (Mf : Nat) (Mr : Nat) (Mh : Nat) (hp : Nat) (cc : Nat) (Ma : Nat) (Mas : Nat) (Msn : Nat) (Mac : Nat) (Mat : Nat) (fno : Nat → Int32) (fmh : Nat → Int32) (h0 : 1 ≤ hp) (h1 : hp ≤ 3) (h2 : 1 ≤ cc) (h3 : cc ≤ 3) : Met l yX7_hop wsX7_hop ({ frames := 2, cells := 0, slots := 0, locals := 47 }) (va_Pc [.ref Mm, .int zh, .int zw] (pre D g sz [(Mm, .inr (7, [.int zth, .ref Mt, .int (nI tp), .int zma, .int zwr, .ref Mrr, .ref Mrh, .ref Mrc, .int zrh, .int zrc, .ref Mn, .ref Mf, .ref Mr, .ref Mh, .int (nI hp), .int (nI cc), .ref Ma, .ref Mas, .ref Msn, .ref Mac, .ref Mat])), (Mn, .inl (g 0, 1767, .inl fno)), (Mh, .inl (g 0, 9, .inl fmh))])) (va_Qi (fun (r : Int32) (u : va_W) => ∃ (zthx : Int32), u = [(Mm, .inr (7, [.int zthx, .ref Mt, .int (nI tp), .int zma, .int zwr, .ref Mrr, .ref Mrh, .ref Mrc, .int zrh, .int zrc, .ref Mn, .ref Mf, .ref Mr, .ref Mh, .int (nI hp), .int (nI cc), .ref Ma, .ref Mas, .ref Msn, .ref Mac, .ref Mat])), (Mn, .inl (g 0, 1767, .inl fno)), (Mh, .inl (g 0, 9, .inl fmh))]) (wd D (va_A [(Mm, .inr (7, [.int zth, .ref Mt, .int (nI tp), .int zma, .int zwr, .ref Mrr, .ref Mrh, .ref Mrc, .int zrh, .int zrc, .ref Mn, .ref Mf, .ref Mr, .ref Mh, .int (nI hp), .int (nI cc), .ref Ma, .ref Mas, .ref Msn, .ref Mac, .ref Mat])), (Mn, .inl (g 0, 1767, .inl fno)), (Mh, .inl (g 0, 9, .inl fmh))] sz)) (va_A [(Mm, .inr (7, [.int zth, .ref Mt, .int (nI tp), .int zma, .int zwr, .ref Mrr, .ref Mrh, .ref Mrc, .int zrh, .int zrc, .ref Mn, .ref Mf, .ref Mr, .ref Mh, .int (nI hp), .int (nI cc), .ref Ma, .ref Mas, .ref Msn, .ref Mac, .ref Mat])), (Mn, .inl (g 0, 1767, .inl fno)), (Mh, .inl (g 0, 9, .inl fmh))] sz)) 0 0 (va_A [(Mm, .inr (7, [.int zth, .ref Mt, .int (nI tp), .int zma, .int zwr, .ref Mrr, .ref Mrh, .ref Mrc, .int zrh, .int zrc, .ref Mn, .ref Mf, .ref Mr, .ref Mh, .int (nI hp), .int (nI cc), .ref Ma, .ref Mas, .ref Msn, .ref Mac, .ref Mat])), (Mn, .inl (g 0, 1767, .inl fno)), (Mh, .inl (g 0, 9, .inl fmh))] sz) := by
  refine Met.ofW (cc := cX7_hop) (maxL := 3) (ret := (some .int)) (by decide) rfl ?_
  intro p e s m args below meth c s₁ B hml hv
  obtain ⟨rfl, hsz, hP, ⟨hK, hN⟩, hD0, hZ⟩ := hv
  have hx := B.exec
  have hb := B.bytes
  have hr := B.returns
  have hts := atoms_spec (ws := wsX7_hop) B.pre
  have hown : s.vm.findClass RX7 = some m.cls := findClass_of_methodNamed B.named
  have hlocks := B.notSynchronized
  clear B
  subst hsz
  have hD := hD0.self (sz := s.heap.size)
  clear hD0
  generalize hAe : va_A [(Mm, .inr (7, [.int zth, .ref Mt, .int (nI tp), .int zma, .int zwr, .ref Mrr, .ref Mrh, .ref Mrc, .int zrh, .int zrc, .ref Mn, .ref Mf, .ref Mr, .ref Mh, .int (nI hp), .int (nI cc), .ref Ma, .ref Mas, .ref Msn, .ref Mac, .ref Mat])), (Mn, .inl (g 0, 1767, .inl fno)), (Mh, .inl (g 0, 9, .inl fmh))] s.heap.size = A at hD hZ ⊢
  have hA : ∀ q : Nat, s.heap.size ≤ q → A q := fun q h => by rw [← hAe]; exact Or.inr h
  have hS : va_S A s.heap s.heap [] := va_S.rf
  have f22 := hts (.fieldLink RX7 22 "HopCreditsModel" "now" "[I") (List.mem_of_getElem? (i := 2) rfl)
  have f31 := hts (.fieldLink RX7 31 "HopCreditsModel" "hop" "[I") (List.mem_of_getElem? (i := 3) rfl)
  have f49 := hts (.fieldLink RX7 49 "HopCreditsModel" "thrown" "I") (List.mem_of_getElem? (i := 1) rfl)
  have iX7 : ∀ w ∈ u_ws RX7 TX7 21, w ∈ wsX7_hop := fun w h => List.mem_cons_of_mem _ (List.mem_append_right _ (h))
  have hl := lv_entry ([.ref Mm, .int zh, .int zw]) (n := 3) (Nat.le_of_ble_eq_true rfl)
  rw [lg_entry_eq]
  generalize (lg_sl ([.ref Mm, .int zh, .int zw]) ++ List.replicate (3 - (lg_sl ([.ref Mm, .int zh, .int zw])).length) Slot.unset).toArray = ls at hl ⊢
  have hl : lv_has ls 3 [(0, .ref Mm), (1, .int zh), (2, .int zw)] := hl
  generalize hQ : MQ below _ _ s _ _ _ = Q
  generalize hH : s.heap = H at hP ⊢
  have hS : va_S A s.heap H [] := by rw [← hH]; exact hS
  clear hH
  refine lv_aload_n hx hb dX7_hop_0 rfl (lv_at hl 0 rfl) ?_
  refine lv_aload_n hx hb dX7_hop_1 rfl (lv_at hl 0 rfl) ?_
  refine lv_iload_n hx hb dX7_hop_2 rfl (lv_at hl 1 rfl) ?_
  refine ky_Vi (As := [.int zh]) (rest := [.ref Mm]) ⟨hx, hb, hml, hown, hts⟩ ⟨hK, hN⟩ hZ hP hD hS hA [0] [1, 2] (wc := [(Mm, .inr (7, [.int zth, .ref Mt, .int (nI tp), .int zma, .int zwr, .ref Mrr, .ref Mrh, .ref Mrc, .int zrh, .int zrc, .ref Mn, .ref Mf, .ref Mr, .ref Mh, .int (nI hp), .int (nI cc), .ref Ma, .ref Mas, .ref Msn, .ref Mac, .ref Mat]))]) (wr := [(Mn, .inl (g 0, 1767, .inl fno)), (Mh, .inl (g 0, 9, .inl fmh))]) rfl rfl rfl rfl (by decide) (k_X7_isHop l D g H.size Mm zh zth Mt tp zma zwr Mrr Mrh Mrc zrh zrc Mn Mf Mr Mh hp cc Ma Mas Msn Mac Mat (show 1 ≤ hp by omega) (show hp ≤ 3 by omega)) (cwV 1 hts gX7_hop_X7_isHop rfl rfl rfl (by decide +kernel) ⟨(Nat.le_of_ble_eq_true rfl), (Nat.le_of_ble_eq_true rfl)⟩) 0 7 rfl rfl rfl rfl hl.1 rfl (Nat.le_of_ble_eq_true rfl) dX7_hop_3 ⟨(Nat.le_of_ble_eq_true rfl), (Nat.le_of_ble_eq_true rfl)⟩ (fun r_1 u H locs hw hP2 hD2 hS2 => ?_)
  clear hP hD hS
  obtain ⟨rfl, rfl⟩ := hw
  have hPD : PD D A [(Mn, .inl (g 0, 1767, .inl fno)), (Mh, .inl (g 0, 9, .inl fmh)), (Mm, .inr (7, [.int zth, .ref Mt, .int (nI tp), .int zma, .int zwr, .ref Mrr, .ref Mrh, .ref Mrc, .int zrh, .int zrc, .ref Mn, .ref Mf, .ref Mr, .ref Mh, .int (nI hp), .int (nI cc), .ref Ma, .ref Mas, .ref Msn, .ref Mac, .ref Mat]))] H := ⟨hP2, hD2⟩
  have hS := hS2; clear hP2 hD2 hS2; have hP := hPD.1; have hD := hPD.2; clear hPD
  refine W.widen (k := 0) (n := 0) (Nat.le_of_ble_eq_true rfl) (Nat.le_of_ble_eq_true rfl) ?_
  refine lv_if_eq (tgt := 23) hx hb dX7_hop_6 (by decide) (fun cb_2 => ?_) (fun cb_2 => ?_)
  · skip
    have hq_3 : ¬ (0 ≤ zh ∧ zh ≤ (nI (hp - 1))) := b01_0.mp cb_2
    refine lv_iconst (v := 1) hx hb dX7_hop_23 (by decide) ?_
    refine va_put (D := D) (ci := 7) (v := .int 1) (ty := .int) (C := RX7) (T := TX7) (N := 21) hx hb hts iX7 tyX7 tyX7_ok nmX7 hown hK hP hD hS 2 rfl rfl 0 (by decide) f49 (fun _ h9 => h9) rfl (by decide +kernel) (rfl) (rfl) (Nat.le_of_ble_eq_true rfl) dX7_hop_24 (fun H locs hP2 hD2 hS2 => ?_)
    clear hP hD hS
    have hPD : PD D A [(Mn, .inl (g 0, 1767, .inl fno)), (Mh, .inl (g 0, 9, .inl fmh)), (Mm, .inr (7, [.int 1, .ref Mt, .int (nI tp), .int zma, .int zwr, .ref Mrr, .ref Mrh, .ref Mrc, .int zrh, .int zrc, .ref Mn, .ref Mf, .ref Mr, .ref Mh, .int (nI hp), .int (nI cc), .ref Ma, .ref Mas, .ref Msn, .ref Mac, .ref Mat]))] H := ⟨hP2, hD2⟩
    have hS := hS2; clear hP2 hD2 hS2; have hP := hPD.1; have hD := hPD.2; clear hPD
    refine lv_aload_n hx hb dX7_hop_27 rfl (lv_at hl 0 rfl) ?_
    refine va_get (D := D) (ci := 7) (v := .int 1) (C := RX7) (T := TX7) (N := 21) hx hb hts iX7 hown hK hP 2 rfl rfl 0 (by decide) f49 (fun _ h9 => h9) rfl dX7_hop_28 ?_
    refine lv_iconst (v := 1) hx hb dX7_hop_31 (by decide) ?_
    refine lv_icmp_ne (tgt := 37) hx hb dX7_hop_32 (by decide) (fun cb => absurd (by decide) cb) (fun _ => ?_)
    refine lv_iconst (v := 0) hx hb dX7_hop_35 (by decide) ?_
    have hPD9 : PD D A [(Mm, .inr (7, [.int 1, .ref Mt, .int (nI tp), .int zma, .int zwr, .ref Mrr, .ref Mrh, .ref Mrc, .int zrh, .int zrc, .ref Mn, .ref Mf, .ref Mr, .ref Mh, .int (nI hp), .int (nI cc), .ref Ma, .ref Mas, .ref Msn, .ref Mac, .ref Mat])), (Mn, .inl (g 0, 1767, .inl fno)), (Mh, .inl (g 0, 9, .inl fmh))] H := ⟨hP.sub [2, 0, 1] rfl, hD.sub [2, 0, 1] (by decide) rfl⟩
    have hP9 := hPD9.1; have hD9 := hPD9.2
    subst hQ
    refine W.widen (k := 0) (n := 0) (Nat.le_of_ble_eq_true rfl) (Nat.le_of_ble_eq_true rfl) ?_
    exact W.iret (v := 0) hx hb hr (fun tS htS _ => ⟨⟨_, _, rfl, ⟨1, rfl⟩, by rw [htS]; exact hP9, hD9⟩, hS.F htS⟩) hS.2.2 dX7_hop_36
  · skip
    have hq_4 : 0 ≤ zh ∧ zh ≤ (nI (hp - 1)) := b01_1.mp cb_2
    have hPq_8 := hP; have hDq_8 := hD; have hSq_8 := hS; have hlq_8 := hl; clear hP hD hS hl
    obtain ⟨j_5, hl_6, hu_7, rfl⟩ := rg (L := 0) (U := hp - 1) rfl rfl (show 0 < 2 ^ 31 by omega) (show hp - 1 < 2 ^ 31 by omega) hq_4
    have hP := hPq_8; have hD := hDq_8; have hS := hSq_8; have hl := hlq_8; clear hPq_8 hDq_8 hSq_8 hlq_8
    refine lv_iload_n hx hb dX7_hop_9 rfl (lv_at hl 2 rfl) ?_
    refine lv_iconst (v := 0) hx hb dX7_hop_10 (by decide) ?_
    refine lv_bipush (v := 7) hx hb dX7_hop_11 (by decide) ?_
    refine ky_Si (As := [.int zw, .int 0, .int 7]) (rest := [.ref Mm]) ⟨hx, hb, hml, hown, hts⟩ ⟨hK, hN⟩ hZ hP hD hS hA [] [0, 1, 2] (wc := []) (wr := [(Mn, .inl (g 0, 1767, .inl fno)), (Mh, .inl (g 0, 9, .inl fmh)), (Mm, .inr (7, [.int zth, .ref Mt, .int (nI tp), .int zma, .int zwr, .ref Mrr, .ref Mrh, .ref Mrc, .int zrh, .int zrc, .ref Mn, .ref Mf, .ref Mr, .ref Mh, .int (nI hp), .int (nI cc), .ref Ma, .ref Mas, .ref Msn, .ref Mac, .ref Mat]))]) rfl rfl rfl rfl (by decide) (k_X7_in l D g H.size zw 0 7) (va_cwS 3 hts gX7_hop_X7_in rfl rfl rfl (by decide +kernel) ⟨(Nat.le_of_ble_eq_true rfl), (Nat.le_of_ble_eq_true rfl)⟩) rfl hl.1 rfl (Nat.le_of_ble_eq_true rfl) dX7_hop_13 ⟨(Nat.le_of_ble_eq_true rfl), (Nat.le_of_ble_eq_true rfl)⟩ (fun r_9 u H locs hw hP2 hD2 hS2 => ?_)
    clear hP hD hS
    obtain ⟨rfl, rfl⟩ := hw
    have hPD : PD D A [(Mn, .inl (g 0, 1767, .inl fno)), (Mh, .inl (g 0, 9, .inl fmh)), (Mm, .inr (7, [.int zth, .ref Mt, .int (nI tp), .int zma, .int zwr, .ref Mrr, .ref Mrh, .ref Mrc, .int zrh, .int zrc, .ref Mn, .ref Mf, .ref Mr, .ref Mh, .int (nI hp), .int (nI cc), .ref Ma, .ref Mas, .ref Msn, .ref Mac, .ref Mat]))] H := ⟨hP2, hD2⟩
    have hS := hS2; clear hP2 hD2 hS2; have hP := hPD.1; have hD := hPD.2; clear hPD
    refine W.widen (k := 0) (n := 0) (Nat.le_of_ble_eq_true rfl) (Nat.le_of_ble_eq_true rfl) ?_
    refine lv_if_eq (tgt := 23) hx hb dX7_hop_16 (by decide) (fun cb_10 => ?_) (fun cb_10 => ?_)
    · skip
      have hq_11 : ¬ (0 ≤ zw ∧ zw ≤ 7) := b01_0.mp cb_10
      refine lv_iconst (v := 1) hx hb dX7_hop_23 (by decide) ?_
      refine va_put (D := D) (ci := 7) (v := .int 1) (ty := .int) (C := RX7) (T := TX7) (N := 21) hx hb hts iX7 tyX7 tyX7_ok nmX7 hown hK hP hD hS 2 rfl rfl 0 (by decide) f49 (fun _ h9 => h9) rfl (by decide +kernel) (rfl) (rfl) (Nat.le_of_ble_eq_true rfl) dX7_hop_24 (fun H locs hP2 hD2 hS2 => ?_)
      clear hP hD hS
      have hPD : PD D A [(Mn, .inl (g 0, 1767, .inl fno)), (Mh, .inl (g 0, 9, .inl fmh)), (Mm, .inr (7, [.int 1, .ref Mt, .int (nI tp), .int zma, .int zwr, .ref Mrr, .ref Mrh, .ref Mrc, .int zrh, .int zrc, .ref Mn, .ref Mf, .ref Mr, .ref Mh, .int (nI hp), .int (nI cc), .ref Ma, .ref Mas, .ref Msn, .ref Mac, .ref Mat]))] H := ⟨hP2, hD2⟩
      have hS := hS2; clear hP2 hD2 hS2; have hP := hPD.1; have hD := hPD.2; clear hPD
      refine lv_aload_n hx hb dX7_hop_27 rfl (lv_at hl 0 rfl) ?_
      refine va_get (D := D) (ci := 7) (v := .int 1) (C := RX7) (T := TX7) (N := 21) hx hb hts iX7 hown hK hP 2 rfl rfl 0 (by decide) f49 (fun _ h9 => h9) rfl dX7_hop_28 ?_
      refine lv_iconst (v := 1) hx hb dX7_hop_31 (by decide) ?_
      refine lv_icmp_ne (tgt := 37) hx hb dX7_hop_32 (by decide) (fun cb => absurd (by decide) cb) (fun _ => ?_)
      refine lv_iconst (v := 0) hx hb dX7_hop_35 (by decide) ?_
      have hPD9 : PD D A [(Mm, .inr (7, [.int 1, .ref Mt, .int (nI tp), .int zma, .int zwr, .ref Mrr, .ref Mrh, .ref Mrc, .int zrh, .int zrc, .ref Mn, .ref Mf, .ref Mr, .ref Mh, .int (nI hp), .int (nI cc), .ref Ma, .ref Mas, .ref Msn, .ref Mac, .ref Mat])), (Mn, .inl (g 0, 1767, .inl fno)), (Mh, .inl (g 0, 9, .inl fmh))] H := ⟨hP.sub [2, 0, 1] rfl, hD.sub [2, 0, 1] (by decide) rfl⟩
      have hP9 := hPD9.1; have hD9 := hPD9.2
      subst hQ
      refine W.widen (k := 0) (n := 0) (Nat.le_of_ble_eq_true rfl) (Nat.le_of_ble_eq_true rfl) ?_
      exact W.iret (v := 0) hx hb hr (fun tS htS _ => ⟨⟨_, _, rfl, ⟨1, rfl⟩, by rw [htS]; exact hP9, hD9⟩, hS.F htS⟩) hS.2.2 dX7_hop_36
    · skip
      have hq_12 : 0 ≤ zw ∧ zw ≤ 7 := b01_1.mp cb_10
      have hPq_16 := hP; have hDq_16 := hD; have hSq_16 := hS; have hlq_16 := hl; clear hP hD hS hl
      obtain ⟨j_13, hl_14, hu_15, rfl⟩ := rg (L := 0) (U := 7) rfl rfl (show 0 < 2 ^ 31 by omega) (show 7 < 2 ^ 31 by omega) hq_12
      have hP := hPq_16; have hD := hDq_16; have hS := hSq_16; have hl := hlq_16; clear hPq_16 hDq_16 hSq_16 hlq_16
      refine lv_iconst (v := 0) hx hb dX7_hop_19 (by decide) ?_
      refine lv_goto (tgt := 24) hx hb dX7_hop_20 (by decide) ?_
      refine va_put (D := D) (ci := 7) (v := .int 0) (ty := .int) (C := RX7) (T := TX7) (N := 21) hx hb hts iX7 tyX7 tyX7_ok nmX7 hown hK hP hD hS 2 rfl rfl 0 (by decide) f49 (fun _ h9 => h9) rfl (by decide +kernel) (rfl) (rfl) (Nat.le_of_ble_eq_true rfl) dX7_hop_24 (fun H locs hP2 hD2 hS2 => ?_)
      clear hP hD hS
      have hPD : PD D A [(Mn, .inl (g 0, 1767, .inl fno)), (Mh, .inl (g 0, 9, .inl fmh)), (Mm, .inr (7, [.int 0, .ref Mt, .int (nI tp), .int zma, .int zwr, .ref Mrr, .ref Mrh, .ref Mrc, .int zrh, .int zrc, .ref Mn, .ref Mf, .ref Mr, .ref Mh, .int (nI hp), .int (nI cc), .ref Ma, .ref Mas, .ref Msn, .ref Mac, .ref Mat]))] H := ⟨hP2, hD2⟩
      have hS := hS2; clear hP2 hD2 hS2; have hP := hPD.1; have hD := hPD.2; clear hPD
      refine lv_aload_n hx hb dX7_hop_27 rfl (lv_at hl 0 rfl) ?_
      refine va_get (D := D) (ci := 7) (v := .int 0) (C := RX7) (T := TX7) (N := 21) hx hb hts iX7 hown hK hP 2 rfl rfl 0 (by decide) f49 (fun _ h9 => h9) rfl dX7_hop_28 ?_
      refine lv_iconst (v := 1) hx hb dX7_hop_31 (by decide) ?_
      refine lv_icmp_ne (tgt := 37) hx hb dX7_hop_32 (by decide) (fun _ => ?_) (fun cb => absurd cb (by decide))
      refine lv_iload_n hx hb dX7_hop_37 rfl (lv_at hl 2 rfl) ?_
      have hPq_17 := hP; have hDq_17 := hD; have hSq_17 := hS; have hlq_17 := hl; clear hP hD hS hl
      rcases (show j_13 = 0 ∨ j_13 = 1 ∨ j_13 = 2 ∨ j_13 = 3 ∨ j_13 = 4 ∨ j_13 = 5 ∨ j_13 = 6 ∨ j_13 = 7 by omega) with rfl | rfl | rfl | rfl | rfl | rfl | rfl | rfl
      · skip
        have hP := hPq_17; have hD := hDq_17; have hS := hSq_17; have hl := hlq_17; clear hPq_17 hDq_17 hSq_17 hlq_17
        refine lv_tableOut (tgt := 113) hx hb dX7_hop_38 (by decide) (by decide) ?_
        refine lv_aload_n hx hb dX7_hop_113 rfl (lv_at hl 0 rfl) ?_
        refine va_get (D := D) (ci := 7) (v := .ref Mh) (C := RX7) (T := TX7) (N := 21) hx hb hts iX7 hown hK hP 2 rfl rfl 13 (by decide) f31 (fun _ h9 => h9) rfl dX7_hop_114 ?_
        refine lv_iconst (v := 3) hx hb dX7_hop_117 (by decide) ?_
        refine lv_iload_n hx hb dX7_hop_118 rfl (lv_at hl 1 rfl) ?_
        refine lv_imul hx hb dX7_hop_119 ?_
        refine lv_eqi (y := (nI (3 * j_5))) (pk_mul (3) (j_5)) ?_
        refine lv_iload_n hx hb dX7_hop_120 rfl (lv_at hl 2 rfl) ?_
        refine lv_iadd hx hb dX7_hop_121 ?_
        refine lv_eqi (y := (nI (3 * j_5 + 0))) (nI_add (3 * j_5) (0)) ?_
        refine va_iald hx hb hK hP 1 0 rfl rfl (vp_in_nI (show 3 * j_5 + 0 < 9 by omega) (by decide)) dX7_hop_122 ?_
        refine lv_eqi (y := (fmh (3 * j_5 + 0))) (congrArg fmh (nI_clamp (show 3 * j_5 + 0 < 2 ^ 31 by omega))) ?_
        refine lv_topi (fun y_18 _ => ?_)
        have hPD9 : PD D A [(Mm, .inr (7, [.int 0, .ref Mt, .int (nI tp), .int zma, .int zwr, .ref Mrr, .ref Mrh, .ref Mrc, .int zrh, .int zrc, .ref Mn, .ref Mf, .ref Mr, .ref Mh, .int (nI hp), .int (nI cc), .ref Ma, .ref Mas, .ref Msn, .ref Mac, .ref Mat])), (Mn, .inl (g 0, 1767, .inl fno)), (Mh, .inl (g 0, 9, .inl fmh))] H := ⟨hP.sub [2, 0, 1] rfl, hD.sub [2, 0, 1] (by decide) rfl⟩
        have hP9 := hPD9.1; have hD9 := hPD9.2
        subst hQ
        refine W.widen (k := 0) (n := 0) (Nat.le_of_ble_eq_true rfl) (Nat.le_of_ble_eq_true rfl) ?_
        exact W.iret (v := y_18) hx hb hr (fun tS htS _ => ⟨⟨_, _, rfl, ⟨0, rfl⟩, by rw [htS]; exact hP9, hD9⟩, hS.F htS⟩) hS.2.2 dX7_hop_123
      · skip
        have hP := hPq_17; have hD := hDq_17; have hS := hSq_17; have hl := hlq_17; clear hPq_17 hDq_17 hSq_17 hlq_17
        refine lv_tableOut (tgt := 113) hx hb dX7_hop_38 (by decide) (by decide) ?_
        refine lv_aload_n hx hb dX7_hop_113 rfl (lv_at hl 0 rfl) ?_
        refine va_get (D := D) (ci := 7) (v := .ref Mh) (C := RX7) (T := TX7) (N := 21) hx hb hts iX7 hown hK hP 2 rfl rfl 13 (by decide) f31 (fun _ h9 => h9) rfl dX7_hop_114 ?_
        refine lv_iconst (v := 3) hx hb dX7_hop_117 (by decide) ?_
        refine lv_iload_n hx hb dX7_hop_118 rfl (lv_at hl 1 rfl) ?_
        refine lv_imul hx hb dX7_hop_119 ?_
        refine lv_eqi (y := (nI (3 * j_5))) (pk_mul (3) (j_5)) ?_
        refine lv_iload_n hx hb dX7_hop_120 rfl (lv_at hl 2 rfl) ?_
        refine lv_iadd hx hb dX7_hop_121 ?_
        refine lv_eqi (y := (nI (3 * j_5 + 1))) (nI_add (3 * j_5) (1)) ?_
        refine va_iald hx hb hK hP 1 0 rfl rfl (vp_in_nI (show 3 * j_5 + 1 < 9 by omega) (by decide)) dX7_hop_122 ?_
        refine lv_eqi (y := (fmh (3 * j_5 + 1))) (congrArg fmh (nI_clamp (show 3 * j_5 + 1 < 2 ^ 31 by omega))) ?_
        refine lv_topi (fun y_19 _ => ?_)
        have hPD9 : PD D A [(Mm, .inr (7, [.int 0, .ref Mt, .int (nI tp), .int zma, .int zwr, .ref Mrr, .ref Mrh, .ref Mrc, .int zrh, .int zrc, .ref Mn, .ref Mf, .ref Mr, .ref Mh, .int (nI hp), .int (nI cc), .ref Ma, .ref Mas, .ref Msn, .ref Mac, .ref Mat])), (Mn, .inl (g 0, 1767, .inl fno)), (Mh, .inl (g 0, 9, .inl fmh))] H := ⟨hP.sub [2, 0, 1] rfl, hD.sub [2, 0, 1] (by decide) rfl⟩
        have hP9 := hPD9.1; have hD9 := hPD9.2
        subst hQ
        refine W.widen (k := 0) (n := 0) (Nat.le_of_ble_eq_true rfl) (Nat.le_of_ble_eq_true rfl) ?_
        exact W.iret (v := y_19) hx hb hr (fun tS htS _ => ⟨⟨_, _, rfl, ⟨0, rfl⟩, by rw [htS]; exact hP9, hD9⟩, hS.F htS⟩) hS.2.2 dX7_hop_123
      · skip
        have hP := hPq_17; have hD := hDq_17; have hS := hSq_17; have hl := hlq_17; clear hPq_17 hDq_17 hSq_17 hlq_17
        refine lv_tableOut (tgt := 113) hx hb dX7_hop_38 (by decide) (by decide) ?_
        refine lv_aload_n hx hb dX7_hop_113 rfl (lv_at hl 0 rfl) ?_
        refine va_get (D := D) (ci := 7) (v := .ref Mh) (C := RX7) (T := TX7) (N := 21) hx hb hts iX7 hown hK hP 2 rfl rfl 13 (by decide) f31 (fun _ h9 => h9) rfl dX7_hop_114 ?_
        refine lv_iconst (v := 3) hx hb dX7_hop_117 (by decide) ?_
        refine lv_iload_n hx hb dX7_hop_118 rfl (lv_at hl 1 rfl) ?_
        refine lv_imul hx hb dX7_hop_119 ?_
        refine lv_eqi (y := (nI (3 * j_5))) (pk_mul (3) (j_5)) ?_
        refine lv_iload_n hx hb dX7_hop_120 rfl (lv_at hl 2 rfl) ?_
        refine lv_iadd hx hb dX7_hop_121 ?_
        refine lv_eqi (y := (nI (3 * j_5 + 2))) (nI_add (3 * j_5) (2)) ?_
        refine va_iald hx hb hK hP 1 0 rfl rfl (vp_in_nI (show 3 * j_5 + 2 < 9 by omega) (by decide)) dX7_hop_122 ?_
        refine lv_eqi (y := (fmh (3 * j_5 + 2))) (congrArg fmh (nI_clamp (show 3 * j_5 + 2 < 2 ^ 31 by omega))) ?_
        refine lv_topi (fun y_20 _ => ?_)
        have hPD9 : PD D A [(Mm, .inr (7, [.int 0, .ref Mt, .int (nI tp), .int zma, .int zwr, .ref Mrr, .ref Mrh, .ref Mrc, .int zrh, .int zrc, .ref Mn, .ref Mf, .ref Mr, .ref Mh, .int (nI hp), .int (nI cc), .ref Ma, .ref Mas, .ref Msn, .ref Mac, .ref Mat])), (Mn, .inl (g 0, 1767, .inl fno)), (Mh, .inl (g 0, 9, .inl fmh))] H := ⟨hP.sub [2, 0, 1] rfl, hD.sub [2, 0, 1] (by decide) rfl⟩
        have hP9 := hPD9.1; have hD9 := hPD9.2
        subst hQ
        refine W.widen (k := 0) (n := 0) (Nat.le_of_ble_eq_true rfl) (Nat.le_of_ble_eq_true rfl) ?_
        exact W.iret (v := y_20) hx hb hr (fun tS htS _ => ⟨⟨_, _, rfl, ⟨0, rfl⟩, by rw [htS]; exact hP9, hD9⟩, hS.F htS⟩) hS.2.2 dX7_hop_123
      · skip
        have hP := hPq_17; have hD := hDq_17; have hS := hSq_17; have hl := hlq_17; clear hPq_17 hDq_17 hSq_17 hlq_17
        refine lv_tableIn (off := 34) (tgt := 72) hx hb dX7_hop_38 (by decide) (by decide) (by decide) (by decide) ?_
        refine lv_aload_n hx hb dX7_hop_72 rfl (lv_at hl 0 rfl) ?_
        refine va_get (D := D) (ci := 7) (v := .ref Mn) (C := RX7) (T := TX7) (N := 21) hx hb hts iX7 hown hK hP 2 rfl rfl 10 (by decide) f22 (fun _ h9 => h9) rfl dX7_hop_73 ?_
        refine lv_bipush (v := 63) hx hb dX7_hop_76 (by decide) ?_
        refine lv_iload_n hx hb dX7_hop_78 rfl (lv_at hl 1 rfl) ?_
        refine lv_iadd hx hb dX7_hop_79 ?_
        refine lv_eqi (y := (nI (63 + j_5))) (nI_add (63) (j_5)) ?_
        refine va_iald hx hb hK hP 0 0 rfl rfl (vp_in_nI (show 63 + j_5 < 1767 by omega) (by decide)) dX7_hop_80 ?_
        refine lv_eqi (y := (fno (63 + j_5))) (congrArg fno (nI_clamp (show 63 + j_5 < 2 ^ 31 by omega))) ?_
        refine lv_topi (fun y_21 _ => ?_)
        have hPD9 : PD D A [(Mm, .inr (7, [.int 0, .ref Mt, .int (nI tp), .int zma, .int zwr, .ref Mrr, .ref Mrh, .ref Mrc, .int zrh, .int zrc, .ref Mn, .ref Mf, .ref Mr, .ref Mh, .int (nI hp), .int (nI cc), .ref Ma, .ref Mas, .ref Msn, .ref Mac, .ref Mat])), (Mn, .inl (g 0, 1767, .inl fno)), (Mh, .inl (g 0, 9, .inl fmh))] H := ⟨hP.sub [2, 0, 1] rfl, hD.sub [2, 0, 1] (by decide) rfl⟩
        have hP9 := hPD9.1; have hD9 := hPD9.2
        subst hQ
        refine W.widen (k := 0) (n := 0) (Nat.le_of_ble_eq_true rfl) (Nat.le_of_ble_eq_true rfl) ?_
        exact W.iret (v := y_21) hx hb hr (fun tS htS _ => ⟨⟨_, _, rfl, ⟨0, rfl⟩, by rw [htS]; exact hP9, hD9⟩, hS.F htS⟩) hS.2.2 dX7_hop_81
      · skip
        have hP := hPq_17; have hD := hDq_17; have hS := hSq_17; have hl := hlq_17; clear hPq_17 hDq_17 hSq_17 hlq_17
        refine lv_tableIn (off := 44) (tgt := 82) hx hb dX7_hop_38 (by decide) (by decide) (by decide) (by decide) ?_
        refine lv_aload_n hx hb dX7_hop_82 rfl (lv_at hl 0 rfl) ?_
        refine lv_iload_n hx hb dX7_hop_83 rfl (lv_at hl 1 rfl) ?_
        refine lv_iconst (v := (-1)) hx hb dX7_hop_84 (by decide) ?_
        refine ky_Vi (As := [.int (nI j_5), .int (-1)]) (rest := []) ⟨hx, hb, hml, hown, hts⟩ ⟨hK, hN⟩ hZ hP hD hS hA [2, 0] [1] (wc := [(Mm, .inr (7, [.int 0, .ref Mt, .int (nI tp), .int zma, .int zwr, .ref Mrr, .ref Mrh, .ref Mrc, .int zrh, .int zrc, .ref Mn, .ref Mf, .ref Mr, .ref Mh, .int (nI hp), .int (nI cc), .ref Ma, .ref Mas, .ref Msn, .ref Mac, .ref Mat])), (Mn, .inl (g 0, 1767, .inl fno))]) (wr := [(Mh, .inl (g 0, 9, .inl fmh))]) rfl rfl rfl rfl (by decide) (k_X7_cellsOn l D g H.size Mm j_5 (-1) 0 Mt tp zma zwr Mrr Mrh Mrc zrh zrc Mn Mf Mr Mh hp cc Ma Mas Msn Mac Mat fno (show j_5 < 3 by omega)) (cwV 2 hts gX7_hop_X7_cellsOn rfl rfl rfl (by decide +kernel) ⟨(Nat.le_of_ble_eq_true rfl), (Nat.le_of_ble_eq_true rfl)⟩) 2 7 rfl rfl rfl rfl hl.1 rfl (Nat.le_of_ble_eq_true rfl) dX7_hop_85 ⟨(Nat.le_of_ble_eq_true rfl), (Nat.le_of_ble_eq_true rfl)⟩ (fun r_22 u H locs hw hP2 hD2 hS2 => ?_)
        clear hP hD hS
        obtain rfl := hw
        have hPD : PD D A [(Mh, .inl (g 0, 9, .inl fmh)), (Mm, .inr (7, [.int 0, .ref Mt, .int (nI tp), .int zma, .int zwr, .ref Mrr, .ref Mrh, .ref Mrc, .int zrh, .int zrc, .ref Mn, .ref Mf, .ref Mr, .ref Mh, .int (nI hp), .int (nI cc), .ref Ma, .ref Mas, .ref Msn, .ref Mac, .ref Mat])), (Mn, .inl (g 0, 1767, .inl fno))] H := ⟨hP2, hD2⟩
        have hS := hS2; clear hP2 hD2 hS2; have hP := hPD.1; have hD := hPD.2; clear hPD
        refine W.widen (k := 0) (n := 0) (Nat.le_of_ble_eq_true rfl) (Nat.le_of_ble_eq_true rfl) ?_
        have hPD9 : PD D A [(Mm, .inr (7, [.int 0, .ref Mt, .int (nI tp), .int zma, .int zwr, .ref Mrr, .ref Mrh, .ref Mrc, .int zrh, .int zrc, .ref Mn, .ref Mf, .ref Mr, .ref Mh, .int (nI hp), .int (nI cc), .ref Ma, .ref Mas, .ref Msn, .ref Mac, .ref Mat])), (Mn, .inl (g 0, 1767, .inl fno)), (Mh, .inl (g 0, 9, .inl fmh))] H := ⟨hP.sub [1, 2, 0] rfl, hD.sub [1, 2, 0] (by decide) rfl⟩
        have hP9 := hPD9.1; have hD9 := hPD9.2
        subst hQ
        refine W.widen (k := 0) (n := 0) (Nat.le_of_ble_eq_true rfl) (Nat.le_of_ble_eq_true rfl) ?_
        exact W.iret (v := r_22) hx hb hr (fun tS htS _ => ⟨⟨_, _, rfl, ⟨0, rfl⟩, by rw [htS]; exact hP9, hD9⟩, hS.F htS⟩) hS.2.2 dX7_hop_88
      · skip
        have hP := hPq_17; have hD := hDq_17; have hS := hSq_17; have hl := hlq_17; clear hPq_17 hDq_17 hSq_17 hlq_17
        refine lv_tableIn (off := 51) (tgt := 89) hx hb dX7_hop_38 (by decide) (by decide) (by decide) (by decide) ?_
        refine lv_aload_n hx hb dX7_hop_89 rfl (lv_at hl 0 rfl) ?_
        refine va_get (D := D) (ci := 7) (v := .ref Mn) (C := RX7) (T := TX7) (N := 21) hx hb hts iX7 hown hK hP 2 rfl rfl 10 (by decide) f22 (fun _ h9 => h9) rfl dX7_hop_90 ?_
        refine lv_bipush (v := 66) hx hb dX7_hop_93 (by decide) ?_
        refine lv_iload_n hx hb dX7_hop_95 rfl (lv_at hl 1 rfl) ?_
        refine lv_iadd hx hb dX7_hop_96 ?_
        refine lv_eqi (y := (nI (66 + j_5))) (nI_add (66) (j_5)) ?_
        refine va_iald hx hb hK hP 0 0 rfl rfl (vp_in_nI (show 66 + j_5 < 1767 by omega) (by decide)) dX7_hop_97 ?_
        refine lv_eqi (y := (fno (66 + j_5))) (congrArg fno (nI_clamp (show 66 + j_5 < 2 ^ 31 by omega))) ?_
        refine lv_topi (fun y_23 _ => ?_)
        have hPD9 : PD D A [(Mm, .inr (7, [.int 0, .ref Mt, .int (nI tp), .int zma, .int zwr, .ref Mrr, .ref Mrh, .ref Mrc, .int zrh, .int zrc, .ref Mn, .ref Mf, .ref Mr, .ref Mh, .int (nI hp), .int (nI cc), .ref Ma, .ref Mas, .ref Msn, .ref Mac, .ref Mat])), (Mn, .inl (g 0, 1767, .inl fno)), (Mh, .inl (g 0, 9, .inl fmh))] H := ⟨hP.sub [2, 0, 1] rfl, hD.sub [2, 0, 1] (by decide) rfl⟩
        have hP9 := hPD9.1; have hD9 := hPD9.2
        subst hQ
        refine W.widen (k := 0) (n := 0) (Nat.le_of_ble_eq_true rfl) (Nat.le_of_ble_eq_true rfl) ?_
        exact W.iret (v := y_23) hx hb hr (fun tS htS _ => ⟨⟨_, _, rfl, ⟨0, rfl⟩, by rw [htS]; exact hP9, hD9⟩, hS.F htS⟩) hS.2.2 dX7_hop_98
      · skip
        have hP := hPq_17; have hD := hDq_17; have hS := hSq_17; have hl := hlq_17; clear hPq_17 hDq_17 hSq_17 hlq_17
        refine lv_tableIn (off := 61) (tgt := 99) hx hb dX7_hop_38 (by decide) (by decide) (by decide) (by decide) ?_
        refine lv_aload_n hx hb dX7_hop_99 rfl (lv_at hl 0 rfl) ?_
        refine lv_iload_n hx hb dX7_hop_100 rfl (lv_at hl 1 rfl) ?_
        refine lv_iconst (v := 0) hx hb dX7_hop_101 (by decide) ?_
        refine ky_Vi (As := [.int (nI j_5), .int 0]) (rest := []) ⟨hx, hb, hml, hown, hts⟩ ⟨hK, hN⟩ hZ hP hD hS hA [2, 0] [1] (wc := [(Mm, .inr (7, [.int 0, .ref Mt, .int (nI tp), .int zma, .int zwr, .ref Mrr, .ref Mrh, .ref Mrc, .int zrh, .int zrc, .ref Mn, .ref Mf, .ref Mr, .ref Mh, .int (nI hp), .int (nI cc), .ref Ma, .ref Mas, .ref Msn, .ref Mac, .ref Mat])), (Mn, .inl (g 0, 1767, .inl fno))]) (wr := [(Mh, .inl (g 0, 9, .inl fmh))]) rfl rfl rfl rfl (by decide) (k_X7_toldOn l D g H.size Mm j_5 0 0 Mt tp zma zwr Mrr Mrh Mrc zrh zrc Mn Mf Mr Mh hp cc Ma Mas Msn Mac Mat fno (show j_5 < 3 by omega) (show 1 ≤ cc by omega) (show cc ≤ 3 by omega)) (cwV 2 hts gX7_hop_X7_toldOn rfl rfl rfl (by decide +kernel) ⟨(Nat.le_of_ble_eq_true rfl), (Nat.le_of_ble_eq_true rfl)⟩) 2 7 rfl rfl rfl rfl hl.1 rfl (Nat.le_of_ble_eq_true rfl) dX7_hop_102 ⟨(Nat.le_of_ble_eq_true rfl), (Nat.le_of_ble_eq_true rfl)⟩ (fun r_24 u H locs hw hP2 hD2 hS2 => ?_)
        clear hP hD hS
        obtain rfl := hw
        have hPD : PD D A [(Mh, .inl (g 0, 9, .inl fmh)), (Mm, .inr (7, [.int 0, .ref Mt, .int (nI tp), .int zma, .int zwr, .ref Mrr, .ref Mrh, .ref Mrc, .int zrh, .int zrc, .ref Mn, .ref Mf, .ref Mr, .ref Mh, .int (nI hp), .int (nI cc), .ref Ma, .ref Mas, .ref Msn, .ref Mac, .ref Mat])), (Mn, .inl (g 0, 1767, .inl fno))] H := ⟨hP2, hD2⟩
        have hS := hS2; clear hP2 hD2 hS2; have hP := hPD.1; have hD := hPD.2; clear hPD
        refine W.widen (k := 0) (n := 0) (Nat.le_of_ble_eq_true rfl) (Nat.le_of_ble_eq_true rfl) ?_
        have hPD9 : PD D A [(Mm, .inr (7, [.int 0, .ref Mt, .int (nI tp), .int zma, .int zwr, .ref Mrr, .ref Mrh, .ref Mrc, .int zrh, .int zrc, .ref Mn, .ref Mf, .ref Mr, .ref Mh, .int (nI hp), .int (nI cc), .ref Ma, .ref Mas, .ref Msn, .ref Mac, .ref Mat])), (Mn, .inl (g 0, 1767, .inl fno)), (Mh, .inl (g 0, 9, .inl fmh))] H := ⟨hP.sub [1, 2, 0] rfl, hD.sub [1, 2, 0] (by decide) rfl⟩
        have hP9 := hPD9.1; have hD9 := hPD9.2
        subst hQ
        refine W.widen (k := 0) (n := 0) (Nat.le_of_ble_eq_true rfl) (Nat.le_of_ble_eq_true rfl) ?_
        exact W.iret (v := r_24) hx hb hr (fun tS htS _ => ⟨⟨_, _, rfl, ⟨0, rfl⟩, by rw [htS]; exact hP9, hD9⟩, hS.F htS⟩) hS.2.2 dX7_hop_105
      · skip
        have hP := hPq_17; have hD := hDq_17; have hS := hSq_17; have hl := hlq_17; clear hPq_17 hDq_17 hSq_17 hlq_17
        refine lv_tableIn (off := 68) (tgt := 106) hx hb dX7_hop_38 (by decide) (by decide) (by decide) (by decide) ?_
        refine lv_aload_n hx hb dX7_hop_106 rfl (lv_at hl 0 rfl) ?_
        refine lv_iload_n hx hb dX7_hop_107 rfl (lv_at hl 1 rfl) ?_
        refine lv_iconst (v := 1) hx hb dX7_hop_108 (by decide) ?_
        refine ky_Vi (As := [.int (nI j_5), .int 1]) (rest := []) ⟨hx, hb, hml, hown, hts⟩ ⟨hK, hN⟩ hZ hP hD hS hA [2, 0] [1] (wc := [(Mm, .inr (7, [.int 0, .ref Mt, .int (nI tp), .int zma, .int zwr, .ref Mrr, .ref Mrh, .ref Mrc, .int zrh, .int zrc, .ref Mn, .ref Mf, .ref Mr, .ref Mh, .int (nI hp), .int (nI cc), .ref Ma, .ref Mas, .ref Msn, .ref Mac, .ref Mat])), (Mn, .inl (g 0, 1767, .inl fno))]) (wr := [(Mh, .inl (g 0, 9, .inl fmh))]) rfl rfl rfl rfl (by decide) (k_X7_toldOn l D g H.size Mm j_5 1 0 Mt tp zma zwr Mrr Mrh Mrc zrh zrc Mn Mf Mr Mh hp cc Ma Mas Msn Mac Mat fno (show j_5 < 3 by omega) (show 1 ≤ cc by omega) (show cc ≤ 3 by omega)) (cwV 2 hts gX7_hop_X7_toldOn rfl rfl rfl (by decide +kernel) ⟨(Nat.le_of_ble_eq_true rfl), (Nat.le_of_ble_eq_true rfl)⟩) 2 7 rfl rfl rfl rfl hl.1 rfl (Nat.le_of_ble_eq_true rfl) dX7_hop_109 ⟨(Nat.le_of_ble_eq_true rfl), (Nat.le_of_ble_eq_true rfl)⟩ (fun r_25 u H locs hw hP2 hD2 hS2 => ?_)
        clear hP hD hS
        obtain rfl := hw
        have hPD : PD D A [(Mh, .inl (g 0, 9, .inl fmh)), (Mm, .inr (7, [.int 0, .ref Mt, .int (nI tp), .int zma, .int zwr, .ref Mrr, .ref Mrh, .ref Mrc, .int zrh, .int zrc, .ref Mn, .ref Mf, .ref Mr, .ref Mh, .int (nI hp), .int (nI cc), .ref Ma, .ref Mas, .ref Msn, .ref Mac, .ref Mat])), (Mn, .inl (g 0, 1767, .inl fno))] H := ⟨hP2, hD2⟩
        have hS := hS2; clear hP2 hD2 hS2; have hP := hPD.1; have hD := hPD.2; clear hPD
        refine W.widen (k := 0) (n := 0) (Nat.le_of_ble_eq_true rfl) (Nat.le_of_ble_eq_true rfl) ?_
        have hPD9 : PD D A [(Mm, .inr (7, [.int 0, .ref Mt, .int (nI tp), .int zma, .int zwr, .ref Mrr, .ref Mrh, .ref Mrc, .int zrh, .int zrc, .ref Mn, .ref Mf, .ref Mr, .ref Mh, .int (nI hp), .int (nI cc), .ref Ma, .ref Mas, .ref Msn, .ref Mac, .ref Mat])), (Mn, .inl (g 0, 1767, .inl fno)), (Mh, .inl (g 0, 9, .inl fmh))] H := ⟨hP.sub [1, 2, 0] rfl, hD.sub [1, 2, 0] (by decide) rfl⟩
        have hP9 := hPD9.1; have hD9 := hPD9.2
        subst hQ
        refine W.widen (k := 0) (n := 0) (Nat.le_of_ble_eq_true rfl) (Nat.le_of_ble_eq_true rfl) ?_
        exact W.iret (v := r_25) hx hb hr (fun tS htS _ => ⟨⟨_, _, rfl, ⟨0, rfl⟩, by rw [htS]; exact hP9, hD9⟩, hS.F htS⟩) hS.2.2 dX7_hop_112

set_option maxHeartbeats 4000000 in
set_option maxRecDepth 100000 in
theorem k_X7_circuit (l : Launch) (D : va_G) (g : Nat → ClassId) (sz : Nat) (Mm : Nat) (zc : Int32) (zw : Int32) (zth : Int32) (Mt : Nat) (tp : Nat) (zma : Int32) (zwr : Int32) (Mrr : Nat) (Mrh : Nat) (Mrc : Nat) (zrh : Int32) (zrc : Int32) (Mn : Nat) (Mf : Nat) (Mr : Nat) (Mh : Nat) (hp : Nat) (cc : Nat) (Ma : Nat) (Mas : Nat) (Msn : Nat) (Mac : Nat) (Mat : Nat) (fno : Nat → Int32) (h0 : 1 ≤ cc) (h1 : cc ≤ 3) : Met l yX7_circuit wsX7_circuit ({ frames := 2, cells := 0, slots := 0, locals := 43 }) (va_Pc [.ref Mm, .int zc, .int zw] (pre D g sz [(Mm, .inr (7, [.int zth, .ref Mt, .int (nI tp), .int zma, .int zwr, .ref Mrr, .ref Mrh, .ref Mrc, .int zrh, .int zrc, .ref Mn, .ref Mf, .ref Mr, .ref Mh, .int (nI hp), .int (nI cc), .ref Ma, .ref Mas, .ref Msn, .ref Mac, .ref Mat])), (Mn, .inl (g 0, 1767, .inl fno))])) (va_Qi (fun (r : Int32) (u : va_W) => ∃ (zthx : Int32), u = [(Mm, .inr (7, [.int zthx, .ref Mt, .int (nI tp), .int zma, .int zwr, .ref Mrr, .ref Mrh, .ref Mrc, .int zrh, .int zrc, .ref Mn, .ref Mf, .ref Mr, .ref Mh, .int (nI hp), .int (nI cc), .ref Ma, .ref Mas, .ref Msn, .ref Mac, .ref Mat])), (Mn, .inl (g 0, 1767, .inl fno))]) (wd D (va_A [(Mm, .inr (7, [.int zth, .ref Mt, .int (nI tp), .int zma, .int zwr, .ref Mrr, .ref Mrh, .ref Mrc, .int zrh, .int zrc, .ref Mn, .ref Mf, .ref Mr, .ref Mh, .int (nI hp), .int (nI cc), .ref Ma, .ref Mas, .ref Msn, .ref Mac, .ref Mat])), (Mn, .inl (g 0, 1767, .inl fno))] sz)) (va_A [(Mm, .inr (7, [.int zth, .ref Mt, .int (nI tp), .int zma, .int zwr, .ref Mrr, .ref Mrh, .ref Mrc, .int zrh, .int zrc, .ref Mn, .ref Mf, .ref Mr, .ref Mh, .int (nI hp), .int (nI cc), .ref Ma, .ref Mas, .ref Msn, .ref Mac, .ref Mat])), (Mn, .inl (g 0, 1767, .inl fno))] sz)) 0 0 (va_A [(Mm, .inr (7, [.int zth, .ref Mt, .int (nI tp), .int zma, .int zwr, .ref Mrr, .ref Mrh, .ref Mrc, .int zrh, .int zrc, .ref Mn, .ref Mf, .ref Mr, .ref Mh, .int (nI hp), .int (nI cc), .ref Ma, .ref Mas, .ref Msn, .ref Mac, .ref Mat])), (Mn, .inl (g 0, 1767, .inl fno))] sz) := by
  refine Met.ofW (cc := cX7_circuit) (maxL := 3) (ret := (some .int)) (by decide) rfl ?_
  intro p e s m args below meth c s₁ B hml hv
  obtain ⟨rfl, hsz, hP, ⟨hK, hN⟩, hD0, hZ⟩ := hv
  have hx := B.exec
  have hb := B.bytes
  have hr := B.returns
  have hts := atoms_spec (ws := wsX7_circuit) B.pre
  have hown : s.vm.findClass RX7 = some m.cls := findClass_of_methodNamed B.named
  have hlocks := B.notSynchronized
  clear B
  subst hsz
  have hD := hD0.self (sz := s.heap.size)
  clear hD0
  generalize hAe : va_A [(Mm, .inr (7, [.int zth, .ref Mt, .int (nI tp), .int zma, .int zwr, .ref Mrr, .ref Mrh, .ref Mrc, .int zrh, .int zrc, .ref Mn, .ref Mf, .ref Mr, .ref Mh, .int (nI hp), .int (nI cc), .ref Ma, .ref Mas, .ref Msn, .ref Mac, .ref Mat])), (Mn, .inl (g 0, 1767, .inl fno))] s.heap.size = A at hD hZ ⊢
  have hA : ∀ q : Nat, s.heap.size ≤ q → A q := fun q h => by rw [← hAe]; exact Or.inr h
  have hS : va_S A s.heap s.heap [] := va_S.rf
  have f22 := hts (.fieldLink RX7 22 "HopCreditsModel" "now" "[I") (List.mem_of_getElem? (i := 2) rfl)
  have f49 := hts (.fieldLink RX7 49 "HopCreditsModel" "thrown" "I") (List.mem_of_getElem? (i := 1) rfl)
  have iX7 : ∀ w ∈ u_ws RX7 TX7 21, w ∈ wsX7_circuit := fun w h => List.mem_cons_of_mem _ (List.mem_append_right _ (h))
  have hl := lv_entry ([.ref Mm, .int zc, .int zw]) (n := 3) (Nat.le_of_ble_eq_true rfl)
  rw [lg_entry_eq]
  generalize (lg_sl ([.ref Mm, .int zc, .int zw]) ++ List.replicate (3 - (lg_sl ([.ref Mm, .int zc, .int zw])).length) Slot.unset).toArray = ls at hl ⊢
  have hl : lv_has ls 3 [(0, .ref Mm), (1, .int zc), (2, .int zw)] := hl
  generalize hQ : MQ below _ _ s _ _ _ = Q
  generalize hH : s.heap = H at hP ⊢
  have hS : va_S A s.heap H [] := by rw [← hH]; exact hS
  clear hH
  refine lv_aload_n hx hb dX7_circuit_0 rfl (lv_at hl 0 rfl) ?_
  refine lv_aload_n hx hb dX7_circuit_1 rfl (lv_at hl 0 rfl) ?_
  refine lv_iload_n hx hb dX7_circuit_2 rfl (lv_at hl 1 rfl) ?_
  refine ky_Vi (As := [.int zc]) (rest := [.ref Mm]) ⟨hx, hb, hml, hown, hts⟩ ⟨hK, hN⟩ hZ hP hD hS hA [0] [1] (wc := [(Mm, .inr (7, [.int zth, .ref Mt, .int (nI tp), .int zma, .int zwr, .ref Mrr, .ref Mrh, .ref Mrc, .int zrh, .int zrc, .ref Mn, .ref Mf, .ref Mr, .ref Mh, .int (nI hp), .int (nI cc), .ref Ma, .ref Mas, .ref Msn, .ref Mac, .ref Mat]))]) (wr := [(Mn, .inl (g 0, 1767, .inl fno))]) rfl rfl rfl rfl (by decide) (k_X7_isCircuit l D g H.size Mm zc zth Mt tp zma zwr Mrr Mrh Mrc zrh zrc Mn Mf Mr Mh hp cc Ma Mas Msn Mac Mat (show 1 ≤ cc by omega) (show cc ≤ 3 by omega)) (cwV 1 hts gX7_circuit_X7_isCircuit rfl rfl rfl (by decide +kernel) ⟨(Nat.le_of_ble_eq_true rfl), (Nat.le_of_ble_eq_true rfl)⟩) 0 7 rfl rfl rfl rfl hl.1 rfl (Nat.le_of_ble_eq_true rfl) dX7_circuit_3 ⟨(Nat.le_of_ble_eq_true rfl), (Nat.le_of_ble_eq_true rfl)⟩ (fun r_1 u H locs hw hP2 hD2 hS2 => ?_)
  clear hP hD hS
  obtain ⟨rfl, rfl⟩ := hw
  have hPD : PD D A [(Mn, .inl (g 0, 1767, .inl fno)), (Mm, .inr (7, [.int zth, .ref Mt, .int (nI tp), .int zma, .int zwr, .ref Mrr, .ref Mrh, .ref Mrc, .int zrh, .int zrc, .ref Mn, .ref Mf, .ref Mr, .ref Mh, .int (nI hp), .int (nI cc), .ref Ma, .ref Mas, .ref Msn, .ref Mac, .ref Mat]))] H := ⟨hP2, hD2⟩
  have hS := hS2; clear hP2 hD2 hS2; have hP := hPD.1; have hD := hPD.2; clear hPD
  refine W.widen (k := 0) (n := 0) (Nat.le_of_ble_eq_true rfl) (Nat.le_of_ble_eq_true rfl) ?_
  refine lv_if_eq (tgt := 23) hx hb dX7_circuit_6 (by decide) (fun cb_2 => ?_) (fun cb_2 => ?_)
  · skip
    have hq_3 : ¬ (0 ≤ zc ∧ zc ≤ (nI (cc - 1))) := b01_0.mp cb_2
    refine lv_iconst (v := 1) hx hb dX7_circuit_23 (by decide) ?_
    refine va_put (D := D) (ci := 7) (v := .int 1) (ty := .int) (C := RX7) (T := TX7) (N := 21) hx hb hts iX7 tyX7 tyX7_ok nmX7 hown hK hP hD hS 1 rfl rfl 0 (by decide) f49 (fun _ h9 => h9) rfl (by decide +kernel) (rfl) (rfl) (Nat.le_of_ble_eq_true rfl) dX7_circuit_24 (fun H locs hP2 hD2 hS2 => ?_)
    clear hP hD hS
    have hPD : PD D A [(Mn, .inl (g 0, 1767, .inl fno)), (Mm, .inr (7, [.int 1, .ref Mt, .int (nI tp), .int zma, .int zwr, .ref Mrr, .ref Mrh, .ref Mrc, .int zrh, .int zrc, .ref Mn, .ref Mf, .ref Mr, .ref Mh, .int (nI hp), .int (nI cc), .ref Ma, .ref Mas, .ref Msn, .ref Mac, .ref Mat]))] H := ⟨hP2, hD2⟩
    have hS := hS2; clear hP2 hD2 hS2; have hP := hPD.1; have hD := hPD.2; clear hPD
    refine lv_aload_n hx hb dX7_circuit_27 rfl (lv_at hl 0 rfl) ?_
    refine va_get (D := D) (ci := 7) (v := .int 1) (C := RX7) (T := TX7) (N := 21) hx hb hts iX7 hown hK hP 1 rfl rfl 0 (by decide) f49 (fun _ h9 => h9) rfl dX7_circuit_28 ?_
    refine lv_iconst (v := 1) hx hb dX7_circuit_31 (by decide) ?_
    refine lv_icmp_ne (tgt := 37) hx hb dX7_circuit_32 (by decide) (fun cb => absurd (by decide) cb) (fun _ => ?_)
    refine lv_iconst (v := 0) hx hb dX7_circuit_35 (by decide) ?_
    have hPD9 : PD D A [(Mm, .inr (7, [.int 1, .ref Mt, .int (nI tp), .int zma, .int zwr, .ref Mrr, .ref Mrh, .ref Mrc, .int zrh, .int zrc, .ref Mn, .ref Mf, .ref Mr, .ref Mh, .int (nI hp), .int (nI cc), .ref Ma, .ref Mas, .ref Msn, .ref Mac, .ref Mat])), (Mn, .inl (g 0, 1767, .inl fno))] H := ⟨hP.sub [1, 0] rfl, hD.sub [1, 0] (by decide) rfl⟩
    have hP9 := hPD9.1; have hD9 := hPD9.2
    subst hQ
    refine W.widen (k := 0) (n := 0) (Nat.le_of_ble_eq_true rfl) (Nat.le_of_ble_eq_true rfl) ?_
    exact W.iret (v := 0) hx hb hr (fun tS htS _ => ⟨⟨_, _, rfl, ⟨1, rfl⟩, by rw [htS]; exact hP9, hD9⟩, hS.F htS⟩) hS.2.2 dX7_circuit_36
  · skip
    have hq_4 : 0 ≤ zc ∧ zc ≤ (nI (cc - 1)) := b01_1.mp cb_2
    have hPq_8 := hP; have hDq_8 := hD; have hSq_8 := hS; have hlq_8 := hl; clear hP hD hS hl
    obtain ⟨j_5, hl_6, hu_7, rfl⟩ := rg (L := 0) (U := cc - 1) rfl rfl (show 0 < 2 ^ 31 by omega) (show cc - 1 < 2 ^ 31 by omega) hq_4
    have hP := hPq_8; have hD := hDq_8; have hS := hSq_8; have hl := hlq_8; clear hPq_8 hDq_8 hSq_8 hlq_8
    refine lv_iload_n hx hb dX7_circuit_9 rfl (lv_at hl 2 rfl) ?_
    refine lv_iconst (v := 0) hx hb dX7_circuit_10 (by decide) ?_
    refine lv_bipush (v := 6) hx hb dX7_circuit_11 (by decide) ?_
    refine ky_Si (As := [.int zw, .int 0, .int 6]) (rest := [.ref Mm]) ⟨hx, hb, hml, hown, hts⟩ ⟨hK, hN⟩ hZ hP hD hS hA [] [0, 1] (wc := []) (wr := [(Mn, .inl (g 0, 1767, .inl fno)), (Mm, .inr (7, [.int zth, .ref Mt, .int (nI tp), .int zma, .int zwr, .ref Mrr, .ref Mrh, .ref Mrc, .int zrh, .int zrc, .ref Mn, .ref Mf, .ref Mr, .ref Mh, .int (nI hp), .int (nI cc), .ref Ma, .ref Mas, .ref Msn, .ref Mac, .ref Mat]))]) rfl rfl rfl rfl (by decide) (k_X7_in l D g H.size zw 0 6) (va_cwS 3 hts gX7_circuit_X7_in rfl rfl rfl (by decide +kernel) ⟨(Nat.le_of_ble_eq_true rfl), (Nat.le_of_ble_eq_true rfl)⟩) rfl hl.1 rfl (Nat.le_of_ble_eq_true rfl) dX7_circuit_13 ⟨(Nat.le_of_ble_eq_true rfl), (Nat.le_of_ble_eq_true rfl)⟩ (fun r_9 u H locs hw hP2 hD2 hS2 => ?_)
    clear hP hD hS
    obtain ⟨rfl, rfl⟩ := hw
    have hPD : PD D A [(Mn, .inl (g 0, 1767, .inl fno)), (Mm, .inr (7, [.int zth, .ref Mt, .int (nI tp), .int zma, .int zwr, .ref Mrr, .ref Mrh, .ref Mrc, .int zrh, .int zrc, .ref Mn, .ref Mf, .ref Mr, .ref Mh, .int (nI hp), .int (nI cc), .ref Ma, .ref Mas, .ref Msn, .ref Mac, .ref Mat]))] H := ⟨hP2, hD2⟩
    have hS := hS2; clear hP2 hD2 hS2; have hP := hPD.1; have hD := hPD.2; clear hPD
    refine W.widen (k := 0) (n := 0) (Nat.le_of_ble_eq_true rfl) (Nat.le_of_ble_eq_true rfl) ?_
    refine lv_if_eq (tgt := 23) hx hb dX7_circuit_16 (by decide) (fun cb_10 => ?_) (fun cb_10 => ?_)
    · skip
      have hq_11 : ¬ (0 ≤ zw ∧ zw ≤ 6) := b01_0.mp cb_10
      refine lv_iconst (v := 1) hx hb dX7_circuit_23 (by decide) ?_
      refine va_put (D := D) (ci := 7) (v := .int 1) (ty := .int) (C := RX7) (T := TX7) (N := 21) hx hb hts iX7 tyX7 tyX7_ok nmX7 hown hK hP hD hS 1 rfl rfl 0 (by decide) f49 (fun _ h9 => h9) rfl (by decide +kernel) (rfl) (rfl) (Nat.le_of_ble_eq_true rfl) dX7_circuit_24 (fun H locs hP2 hD2 hS2 => ?_)
      clear hP hD hS
      have hPD : PD D A [(Mn, .inl (g 0, 1767, .inl fno)), (Mm, .inr (7, [.int 1, .ref Mt, .int (nI tp), .int zma, .int zwr, .ref Mrr, .ref Mrh, .ref Mrc, .int zrh, .int zrc, .ref Mn, .ref Mf, .ref Mr, .ref Mh, .int (nI hp), .int (nI cc), .ref Ma, .ref Mas, .ref Msn, .ref Mac, .ref Mat]))] H := ⟨hP2, hD2⟩
      have hS := hS2; clear hP2 hD2 hS2; have hP := hPD.1; have hD := hPD.2; clear hPD
      refine lv_aload_n hx hb dX7_circuit_27 rfl (lv_at hl 0 rfl) ?_
      refine va_get (D := D) (ci := 7) (v := .int 1) (C := RX7) (T := TX7) (N := 21) hx hb hts iX7 hown hK hP 1 rfl rfl 0 (by decide) f49 (fun _ h9 => h9) rfl dX7_circuit_28 ?_
      refine lv_iconst (v := 1) hx hb dX7_circuit_31 (by decide) ?_
      refine lv_icmp_ne (tgt := 37) hx hb dX7_circuit_32 (by decide) (fun cb => absurd (by decide) cb) (fun _ => ?_)
      refine lv_iconst (v := 0) hx hb dX7_circuit_35 (by decide) ?_
      have hPD9 : PD D A [(Mm, .inr (7, [.int 1, .ref Mt, .int (nI tp), .int zma, .int zwr, .ref Mrr, .ref Mrh, .ref Mrc, .int zrh, .int zrc, .ref Mn, .ref Mf, .ref Mr, .ref Mh, .int (nI hp), .int (nI cc), .ref Ma, .ref Mas, .ref Msn, .ref Mac, .ref Mat])), (Mn, .inl (g 0, 1767, .inl fno))] H := ⟨hP.sub [1, 0] rfl, hD.sub [1, 0] (by decide) rfl⟩
      have hP9 := hPD9.1; have hD9 := hPD9.2
      subst hQ
      refine W.widen (k := 0) (n := 0) (Nat.le_of_ble_eq_true rfl) (Nat.le_of_ble_eq_true rfl) ?_
      exact W.iret (v := 0) hx hb hr (fun tS htS _ => ⟨⟨_, _, rfl, ⟨1, rfl⟩, by rw [htS]; exact hP9, hD9⟩, hS.F htS⟩) hS.2.2 dX7_circuit_36
    · skip
      have hq_12 : 0 ≤ zw ∧ zw ≤ 6 := b01_1.mp cb_10
      have hPq_16 := hP; have hDq_16 := hD; have hSq_16 := hS; have hlq_16 := hl; clear hP hD hS hl
      obtain ⟨j_13, hl_14, hu_15, rfl⟩ := rg (L := 0) (U := 6) rfl rfl (show 0 < 2 ^ 31 by omega) (show 6 < 2 ^ 31 by omega) hq_12
      have hP := hPq_16; have hD := hDq_16; have hS := hSq_16; have hl := hlq_16; clear hPq_16 hDq_16 hSq_16 hlq_16
      refine lv_iconst (v := 0) hx hb dX7_circuit_19 (by decide) ?_
      refine lv_goto (tgt := 24) hx hb dX7_circuit_20 (by decide) ?_
      refine va_put (D := D) (ci := 7) (v := .int 0) (ty := .int) (C := RX7) (T := TX7) (N := 21) hx hb hts iX7 tyX7 tyX7_ok nmX7 hown hK hP hD hS 1 rfl rfl 0 (by decide) f49 (fun _ h9 => h9) rfl (by decide +kernel) (rfl) (rfl) (Nat.le_of_ble_eq_true rfl) dX7_circuit_24 (fun H locs hP2 hD2 hS2 => ?_)
      clear hP hD hS
      have hPD : PD D A [(Mn, .inl (g 0, 1767, .inl fno)), (Mm, .inr (7, [.int 0, .ref Mt, .int (nI tp), .int zma, .int zwr, .ref Mrr, .ref Mrh, .ref Mrc, .int zrh, .int zrc, .ref Mn, .ref Mf, .ref Mr, .ref Mh, .int (nI hp), .int (nI cc), .ref Ma, .ref Mas, .ref Msn, .ref Mac, .ref Mat]))] H := ⟨hP2, hD2⟩
      have hS := hS2; clear hP2 hD2 hS2; have hP := hPD.1; have hD := hPD.2; clear hPD
      refine lv_aload_n hx hb dX7_circuit_27 rfl (lv_at hl 0 rfl) ?_
      refine va_get (D := D) (ci := 7) (v := .int 0) (C := RX7) (T := TX7) (N := 21) hx hb hts iX7 hown hK hP 1 rfl rfl 0 (by decide) f49 (fun _ h9 => h9) rfl dX7_circuit_28 ?_
      refine lv_iconst (v := 1) hx hb dX7_circuit_31 (by decide) ?_
      refine lv_icmp_ne (tgt := 37) hx hb dX7_circuit_32 (by decide) (fun _ => ?_) (fun cb => absurd cb (by decide))
      refine lv_iload_n hx hb dX7_circuit_37 rfl (lv_at hl 2 rfl) ?_
      refine lv_bipush (v := 6) hx hb dX7_circuit_38 (by decide) ?_
      refine lv_icmp_ne (tgt := 51) hx hb dX7_circuit_40 (by decide) (fun cb_17 => ?_) (fun cb_17 => ?_)
      · skip
        have cn_18 : ¬ j_13 = 6 := fun q9 => cb_17 (congrArg nI q9)
        refine lv_aload_n hx hb dX7_circuit_51 rfl (lv_at hl 0 rfl) ?_
        refine va_get (D := D) (ci := 7) (v := .ref Mn) (C := RX7) (T := TX7) (N := 21) hx hb hts iX7 hown hK hP 1 rfl rfl 10 (by decide) f22 (fun _ h9 => h9) rfl dX7_circuit_52 ?_
        refine lv_iload_n hx hb dX7_circuit_55 rfl (lv_at hl 1 rfl) ?_
        refine ky_Si (As := [.int (nI j_5)]) (rest := [.ref Mn]) ⟨hx, hb, hml, hown, hts⟩ ⟨hK, hN⟩ hZ hP hD hS hA [] [0, 1] (wc := []) (wr := [(Mn, .inl (g 0, 1767, .inl fno)), (Mm, .inr (7, [.int 0, .ref Mt, .int (nI tp), .int zma, .int zwr, .ref Mrr, .ref Mrh, .ref Mrc, .int zrh, .int zrc, .ref Mn, .ref Mf, .ref Mr, .ref Mh, .int (nI hp), .int (nI cc), .ref Ma, .ref Mas, .ref Msn, .ref Mac, .ref Mat]))]) rfl rfl rfl rfl (by decide) (k_X7_circuitAt l D g H.size j_5 (show j_5 < 3 by omega)) (va_cwS 1 hts gX7_circuit_X7_circuitAt rfl rfl rfl (by decide +kernel) ⟨(Nat.le_of_ble_eq_true rfl), (Nat.le_of_ble_eq_true rfl)⟩) rfl hl.1 rfl (Nat.le_of_ble_eq_true rfl) dX7_circuit_56 ⟨(Nat.le_of_ble_eq_true rfl), (Nat.le_of_ble_eq_true rfl)⟩ (fun r_19 u H locs hw hP2 hD2 hS2 => ?_)
        clear hP hD hS
        obtain ⟨rfl, rfl⟩ := hw
        have hPD : PD D A [(Mn, .inl (g 0, 1767, .inl fno)), (Mm, .inr (7, [.int 0, .ref Mt, .int (nI tp), .int zma, .int zwr, .ref Mrr, .ref Mrh, .ref Mrc, .int zrh, .int zrc, .ref Mn, .ref Mf, .ref Mr, .ref Mh, .int (nI hp), .int (nI cc), .ref Ma, .ref Mas, .ref Msn, .ref Mac, .ref Mat]))] H := ⟨hP2, hD2⟩
        have hS := hS2; clear hP2 hD2 hS2; have hP := hPD.1; have hD := hPD.2; clear hPD
        refine W.widen (k := 0) (n := 0) (Nat.le_of_ble_eq_true rfl) (Nat.le_of_ble_eq_true rfl) ?_
        refine lv_iload_n hx hb dX7_circuit_59 rfl (lv_at hl 2 rfl) ?_
        refine lv_iadd hx hb dX7_circuit_60 ?_
        refine lv_eqi (y := (nI (201 + 9 * j_5 + j_13))) (nI_add (201 + 9 * j_5) (j_13)) ?_
        refine va_iald hx hb hK hP 0 0 rfl rfl (vp_in_nI (show 201 + 9 * j_5 + j_13 < 1767 by omega) (by decide)) dX7_circuit_61 ?_
        refine lv_eqi (y := (fno (201 + 9 * j_5 + j_13))) (congrArg fno (nI_clamp (show 201 + 9 * j_5 + j_13 < 2 ^ 31 by omega))) ?_
        refine lv_topi (fun y_20 _ => ?_)
        have hPD9 : PD D A [(Mm, .inr (7, [.int 0, .ref Mt, .int (nI tp), .int zma, .int zwr, .ref Mrr, .ref Mrh, .ref Mrc, .int zrh, .int zrc, .ref Mn, .ref Mf, .ref Mr, .ref Mh, .int (nI hp), .int (nI cc), .ref Ma, .ref Mas, .ref Msn, .ref Mac, .ref Mat])), (Mn, .inl (g 0, 1767, .inl fno))] H := ⟨hP.sub [1, 0] rfl, hD.sub [1, 0] (by decide) rfl⟩
        have hP9 := hPD9.1; have hD9 := hPD9.2
        subst hQ
        refine W.widen (k := 0) (n := 0) (Nat.le_of_ble_eq_true rfl) (Nat.le_of_ble_eq_true rfl) ?_
        exact W.iret (v := y_20) hx hb hr (fun tS htS _ => ⟨⟨_, _, rfl, ⟨0, rfl⟩, by rw [htS]; exact hP9, hD9⟩, hS.F htS⟩) hS.2.2 dX7_circuit_62
      · skip
        have cn_21 : j_13 = 6 := (nI_eq (show j_13 < 2 ^ 31 by omega) (show 6 < 2 ^ 31 by omega)).mp cb_17
        refine lv_aload_n hx hb dX7_circuit_43 rfl (lv_at hl 0 rfl) ?_
        refine lv_iload_n hx hb dX7_circuit_44 rfl (lv_at hl 1 rfl) ?_
        refine ky_Vi (As := [.int (nI j_5)]) (rest := []) ⟨hx, hb, hml, hown, hts⟩ ⟨hK, hN⟩ hZ hP hD hS hA [1, 0] [] (wc := [(Mm, .inr (7, [.int 0, .ref Mt, .int (nI tp), .int zma, .int zwr, .ref Mrr, .ref Mrh, .ref Mrc, .int zrh, .int zrc, .ref Mn, .ref Mf, .ref Mr, .ref Mh, .int (nI hp), .int (nI cc), .ref Ma, .ref Mas, .ref Msn, .ref Mac, .ref Mat])), (Mn, .inl (g 0, 1767, .inl fno))]) (wr := []) rfl rfl rfl rfl (by decide) (k_X7_anywhere l D g H.size Mm j_5 0 Mt tp zma zwr Mrr Mrh Mrc zrh zrc Mn Mf Mr Mh hp cc Ma Mas Msn Mac Mat fno (show j_5 < 3 by omega)) (cwV 1 hts gX7_circuit_X7_anywhere rfl rfl rfl (by decide +kernel) ⟨(Nat.le_of_ble_eq_true rfl), (Nat.le_of_ble_eq_true rfl)⟩) 1 7 rfl rfl rfl rfl hl.1 rfl (Nat.le_of_ble_eq_true rfl) dX7_circuit_45 ⟨(Nat.le_of_ble_eq_true rfl), (Nat.le_of_ble_eq_true rfl)⟩ (fun r_22 u H locs hw hP2 hD2 hS2 => ?_)
        clear hP hD hS
        obtain rfl := hw
        have hPD : PD D A [(Mm, .inr (7, [.int 0, .ref Mt, .int (nI tp), .int zma, .int zwr, .ref Mrr, .ref Mrh, .ref Mrc, .int zrh, .int zrc, .ref Mn, .ref Mf, .ref Mr, .ref Mh, .int (nI hp), .int (nI cc), .ref Ma, .ref Mas, .ref Msn, .ref Mac, .ref Mat])), (Mn, .inl (g 0, 1767, .inl fno))] H := ⟨hP2, hD2⟩
        have hS := hS2; clear hP2 hD2 hS2; have hP := hPD.1; have hD := hPD.2; clear hPD
        refine W.widen (k := 0) (n := 0) (Nat.le_of_ble_eq_true rfl) (Nat.le_of_ble_eq_true rfl) ?_
        refine lv_goto (tgt := 62) hx hb dX7_circuit_48 (by decide) ?_
        have hP9 := hP; have hD9 := hD
        subst hQ
        refine W.widen (k := 0) (n := 0) (Nat.le_of_ble_eq_true rfl) (Nat.le_of_ble_eq_true rfl) ?_
        exact W.iret (v := r_22) hx hb hr (fun tS htS _ => ⟨⟨_, _, rfl, ⟨0, rfl⟩, by rw [htS]; exact hP9, hD9⟩, hS.F htS⟩) hS.2.2 dX7_circuit_62

set_option maxHeartbeats 4000000 in
set_option maxRecDepth 100000 in
theorem k_X7_laneNow (l : Launch) (D : va_G) (g : Nat → ClassId) (sz : Nat) (Mm : Nat) (hix : Nat) (cx : Nat) (wx : Nat) (zth : Int32) (Mt : Nat) (tp : Nat) (zma : Int32) (zwr : Int32) (Mrr : Nat) (Mrh : Nat) (Mrc : Nat) (zrh : Int32) (zrc : Int32) (Mn : Nat) (Mf : Nat) (Mr : Nat) (Mh : Nat) (hp : Nat) (cc : Nat) (Ma : Nat) (Mas : Nat) (Msn : Nat) (Mac : Nat) (Mat : Nat) (fno : Nat → Int32) (h0 : hix < 3) (h1 : cx < 3) (h2 : wx ≤ 9) : Met l yX7_laneNow wsX7_laneNow ({ frames := 3, cells := 0, slots := 0, locals := 65 }) (va_Pc [.ref Mm, .int (nI hix), .int (nI cx), .int (nI wx)] (pre D g sz [(Mm, .inr (7, [.int zth, .ref Mt, .int (nI tp), .int zma, .int zwr, .ref Mrr, .ref Mrh, .ref Mrc, .int zrh, .int zrc, .ref Mn, .ref Mf, .ref Mr, .ref Mh, .int (nI hp), .int (nI cc), .ref Ma, .ref Mas, .ref Msn, .ref Mac, .ref Mat])), (Mn, .inl (g 0, 1767, .inl fno))])) (va_Qi (fun (r : Int32) (u : va_W) => u = [(Mm, .inr (7, [.int zth, .ref Mt, .int (nI tp), .int zma, .int zwr, .ref Mrr, .ref Mrh, .ref Mrc, .int zrh, .int zrc, .ref Mn, .ref Mf, .ref Mr, .ref Mh, .int (nI hp), .int (nI cc), .ref Ma, .ref Mas, .ref Msn, .ref Mac, .ref Mat])), (Mn, .inl (g 0, 1767, .inl fno))]) (wd D (va_A [(Mm, .inr (7, [.int zth, .ref Mt, .int (nI tp), .int zma, .int zwr, .ref Mrr, .ref Mrh, .ref Mrc, .int zrh, .int zrc, .ref Mn, .ref Mf, .ref Mr, .ref Mh, .int (nI hp), .int (nI cc), .ref Ma, .ref Mas, .ref Msn, .ref Mac, .ref Mat])), (Mn, .inl (g 0, 1767, .inl fno))] sz)) (va_A [(Mm, .inr (7, [.int zth, .ref Mt, .int (nI tp), .int zma, .int zwr, .ref Mrr, .ref Mrh, .ref Mrc, .int zrh, .int zrc, .ref Mn, .ref Mf, .ref Mr, .ref Mh, .int (nI hp), .int (nI cc), .ref Ma, .ref Mas, .ref Msn, .ref Mac, .ref Mat])), (Mn, .inl (g 0, 1767, .inl fno))] sz)) 0 0 (va_A [(Mm, .inr (7, [.int zth, .ref Mt, .int (nI tp), .int zma, .int zwr, .ref Mrr, .ref Mrh, .ref Mrc, .int zrh, .int zrc, .ref Mn, .ref Mf, .ref Mr, .ref Mh, .int (nI hp), .int (nI cc), .ref Ma, .ref Mas, .ref Msn, .ref Mac, .ref Mat])), (Mn, .inl (g 0, 1767, .inl fno))] sz) := by
  refine Met.ofW (cc := cX7_laneNow) (maxL := 4) (ret := (some .int)) (by decide) rfl ?_
  intro p e s m args below meth c s₁ B hml hv
  obtain ⟨rfl, hsz, hP, ⟨hK, hN⟩, hD0, hZ⟩ := hv
  have hx := B.exec
  have hb := B.bytes
  have hr := B.returns
  have hts := atoms_spec (ws := wsX7_laneNow) B.pre
  have hown : s.vm.findClass RX7 = some m.cls := findClass_of_methodNamed B.named
  have hlocks := B.notSynchronized
  clear B
  subst hsz
  have hD := hD0.self (sz := s.heap.size)
  clear hD0
  generalize hAe : va_A [(Mm, .inr (7, [.int zth, .ref Mt, .int (nI tp), .int zma, .int zwr, .ref Mrr, .ref Mrh, .ref Mrc, .int zrh, .int zrc, .ref Mn, .ref Mf, .ref Mr, .ref Mh, .int (nI hp), .int (nI cc), .ref Ma, .ref Mas, .ref Msn, .ref Mac, .ref Mat])), (Mn, .inl (g 0, 1767, .inl fno))] s.heap.size = A at hD hZ ⊢
  have hA : ∀ q : Nat, s.heap.size ≤ q → A q := fun q h => by rw [← hAe]; exact Or.inr h
  have hS : va_S A s.heap s.heap [] := va_S.rf
  have f22 := hts (.fieldLink RX7 22 "HopCreditsModel" "now" "[I") (List.mem_of_getElem? (i := 1) rfl)
  have iX7 : ∀ w ∈ u_ws RX7 TX7 21, w ∈ wsX7_laneNow := fun w h => List.mem_cons_of_mem _ (List.mem_append_right _ (h))
  have hl := lv_entry ([.ref Mm, .int (nI hix), .int (nI cx), .int (nI wx)]) (n := 4) (Nat.le_of_ble_eq_true rfl)
  rw [lg_entry_eq]
  generalize (lg_sl ([.ref Mm, .int (nI hix), .int (nI cx), .int (nI wx)]) ++ List.replicate (4 - (lg_sl ([.ref Mm, .int (nI hix), .int (nI cx), .int (nI wx)])).length) Slot.unset).toArray = ls at hl ⊢
  have hl : lv_has ls 4 [(0, .ref Mm), (1, .int (nI hix)), (2, .int (nI cx)), (3, .int (nI wx))] := hl
  generalize hQ : MQ below _ _ s _ _ _ = Q
  generalize hH : s.heap = H at hP ⊢
  have hS : va_S A s.heap H [] := by rw [← hH]; exact hS
  clear hH
  refine lv_iload_n hx hb dX7_laneNow_0 rfl (lv_at hl 3 rfl) ?_
  have hPq_1 := hP; have hDq_1 := hD; have hSq_1 := hS; have hlq_1 := hl; clear hP hD hS hl
  rcases (show wx = 0 ∨ wx = 1 ∨ wx = 2 ∨ wx = 3 ∨ wx = 4 ∨ wx = 5 ∨ wx = 6 ∨ wx = 7 ∨ wx = 8 ∨ wx = 9 by omega) with rfl | rfl | rfl | rfl | rfl | rfl | rfl | rfl | rfl | rfl
  · skip
    have hP := hPq_1; have hD := hDq_1; have hS := hSq_1; have hl := hlq_1; clear hPq_1 hDq_1 hSq_1 hlq_1
    refine lv_tableOut (tgt := 101) hx hb dX7_laneNow_1 (by decide) (by decide) ?_
    refine lv_aload_n hx hb dX7_laneNow_101 rfl (lv_at hl 0 rfl) ?_
    refine va_get (D := D) (ci := 7) (v := .ref Mn) (C := RX7) (T := TX7) (N := 21) hx hb hts iX7 hown hK hP 0 rfl rfl 10 (by decide) f22 (fun _ h9 => h9) rfl dX7_laneNow_102 ?_
    refine lv_iload_n hx hb dX7_laneNow_105 rfl (lv_at hl 1 rfl) ?_
    refine lv_iload_n hx hb dX7_laneNow_106 rfl (lv_at hl 2 rfl) ?_
    refine ky_Si (As := [.int (nI hix), .int (nI cx)]) (rest := [.ref Mn]) ⟨hx, hb, hml, hown, hts⟩ ⟨hK, hN⟩ hZ hP hD hS hA [] [0, 1] (wc := []) (wr := [(Mm, .inr (7, [.int zth, .ref Mt, .int (nI tp), .int zma, .int zwr, .ref Mrr, .ref Mrh, .ref Mrc, .int zrh, .int zrc, .ref Mn, .ref Mf, .ref Mr, .ref Mh, .int (nI hp), .int (nI cc), .ref Ma, .ref Mas, .ref Msn, .ref Mac, .ref Mat])), (Mn, .inl (g 0, 1767, .inl fno))]) rfl rfl rfl rfl (by decide) (k_X7_lane l D g H.size hix cx (show hix < 3 by omega) (show cx < 3 by omega)) (va_cwS 2 hts gX7_laneNow_X7_lane rfl rfl rfl (by decide +kernel) ⟨(Nat.le_of_ble_eq_true rfl), (Nat.le_of_ble_eq_true rfl)⟩) rfl hl.1 rfl (Nat.le_of_ble_eq_true rfl) dX7_laneNow_107 ⟨(Nat.le_of_ble_eq_true rfl), (Nat.le_of_ble_eq_true rfl)⟩ (fun r_2 u H locs hw hP2 hD2 hS2 => ?_)
    clear hP hD hS
    obtain ⟨rfl, rfl⟩ := hw
    have hPD : PD D A [(Mm, .inr (7, [.int zth, .ref Mt, .int (nI tp), .int zma, .int zwr, .ref Mrr, .ref Mrh, .ref Mrc, .int zrh, .int zrc, .ref Mn, .ref Mf, .ref Mr, .ref Mh, .int (nI hp), .int (nI cc), .ref Ma, .ref Mas, .ref Msn, .ref Mac, .ref Mat])), (Mn, .inl (g 0, 1767, .inl fno))] H := ⟨hP2, hD2⟩
    have hS := hS2; clear hP2 hD2 hS2; have hP := hPD.1; have hD := hPD.2; clear hPD
    refine W.widen (k := 0) (n := 0) (Nat.le_of_ble_eq_true rfl) (Nat.le_of_ble_eq_true rfl) ?_
    refine lv_iload_n hx hb dX7_laneNow_110 rfl (lv_at hl 3 rfl) ?_
    refine lv_iadd hx hb dX7_laneNow_111 ?_
    refine lv_eqi (y := (nI (7 * (3 * hix + cx) + 0))) (nI_add (7 * (3 * hix + cx)) (0)) ?_
    refine va_iald hx hb hK hP 1 0 rfl rfl (vp_in_nI (show 7 * (3 * hix + cx) + 0 < 1767 by omega) (by decide)) dX7_laneNow_112 ?_
    refine lv_eqi (y := (fno (7 * (3 * hix + cx) + 0))) (congrArg fno (nI_clamp (show 7 * (3 * hix + cx) + 0 < 2 ^ 31 by omega))) ?_
    refine lv_topi (fun y_3 _ => ?_)
    have hP9 := hP; have hD9 := hD
    subst hQ
    refine W.widen (k := 0) (n := 0) (Nat.le_of_ble_eq_true rfl) (Nat.le_of_ble_eq_true rfl) ?_
    exact W.iret (v := y_3) hx hb hr (fun tS htS _ => ⟨⟨_, _, rfl, rfl, by rw [htS]; exact hP9, hD9⟩, hS.F htS⟩) hS.2.2 dX7_laneNow_113
  · skip
    have hP := hPq_1; have hD := hDq_1; have hS := hSq_1; have hl := hlq_1; clear hPq_1 hDq_1 hSq_1 hlq_1
    refine lv_tableOut (tgt := 101) hx hb dX7_laneNow_1 (by decide) (by decide) ?_
    refine lv_aload_n hx hb dX7_laneNow_101 rfl (lv_at hl 0 rfl) ?_
    refine va_get (D := D) (ci := 7) (v := .ref Mn) (C := RX7) (T := TX7) (N := 21) hx hb hts iX7 hown hK hP 0 rfl rfl 10 (by decide) f22 (fun _ h9 => h9) rfl dX7_laneNow_102 ?_
    refine lv_iload_n hx hb dX7_laneNow_105 rfl (lv_at hl 1 rfl) ?_
    refine lv_iload_n hx hb dX7_laneNow_106 rfl (lv_at hl 2 rfl) ?_
    refine ky_Si (As := [.int (nI hix), .int (nI cx)]) (rest := [.ref Mn]) ⟨hx, hb, hml, hown, hts⟩ ⟨hK, hN⟩ hZ hP hD hS hA [] [0, 1] (wc := []) (wr := [(Mm, .inr (7, [.int zth, .ref Mt, .int (nI tp), .int zma, .int zwr, .ref Mrr, .ref Mrh, .ref Mrc, .int zrh, .int zrc, .ref Mn, .ref Mf, .ref Mr, .ref Mh, .int (nI hp), .int (nI cc), .ref Ma, .ref Mas, .ref Msn, .ref Mac, .ref Mat])), (Mn, .inl (g 0, 1767, .inl fno))]) rfl rfl rfl rfl (by decide) (k_X7_lane l D g H.size hix cx (show hix < 3 by omega) (show cx < 3 by omega)) (va_cwS 2 hts gX7_laneNow_X7_lane rfl rfl rfl (by decide +kernel) ⟨(Nat.le_of_ble_eq_true rfl), (Nat.le_of_ble_eq_true rfl)⟩) rfl hl.1 rfl (Nat.le_of_ble_eq_true rfl) dX7_laneNow_107 ⟨(Nat.le_of_ble_eq_true rfl), (Nat.le_of_ble_eq_true rfl)⟩ (fun r_4 u H locs hw hP2 hD2 hS2 => ?_)
    clear hP hD hS
    obtain ⟨rfl, rfl⟩ := hw
    have hPD : PD D A [(Mm, .inr (7, [.int zth, .ref Mt, .int (nI tp), .int zma, .int zwr, .ref Mrr, .ref Mrh, .ref Mrc, .int zrh, .int zrc, .ref Mn, .ref Mf, .ref Mr, .ref Mh, .int (nI hp), .int (nI cc), .ref Ma, .ref Mas, .ref Msn, .ref Mac, .ref Mat])), (Mn, .inl (g 0, 1767, .inl fno))] H := ⟨hP2, hD2⟩
    have hS := hS2; clear hP2 hD2 hS2; have hP := hPD.1; have hD := hPD.2; clear hPD
    refine W.widen (k := 0) (n := 0) (Nat.le_of_ble_eq_true rfl) (Nat.le_of_ble_eq_true rfl) ?_
    refine lv_iload_n hx hb dX7_laneNow_110 rfl (lv_at hl 3 rfl) ?_
    refine lv_iadd hx hb dX7_laneNow_111 ?_
    refine lv_eqi (y := (nI (7 * (3 * hix + cx) + 1))) (nI_add (7 * (3 * hix + cx)) (1)) ?_
    refine va_iald hx hb hK hP 1 0 rfl rfl (vp_in_nI (show 7 * (3 * hix + cx) + 1 < 1767 by omega) (by decide)) dX7_laneNow_112 ?_
    refine lv_eqi (y := (fno (7 * (3 * hix + cx) + 1))) (congrArg fno (nI_clamp (show 7 * (3 * hix + cx) + 1 < 2 ^ 31 by omega))) ?_
    refine lv_topi (fun y_5 _ => ?_)
    have hP9 := hP; have hD9 := hD
    subst hQ
    refine W.widen (k := 0) (n := 0) (Nat.le_of_ble_eq_true rfl) (Nat.le_of_ble_eq_true rfl) ?_
    exact W.iret (v := y_5) hx hb hr (fun tS htS _ => ⟨⟨_, _, rfl, rfl, by rw [htS]; exact hP9, hD9⟩, hS.F htS⟩) hS.2.2 dX7_laneNow_113
  · skip
    have hP := hPq_1; have hD := hDq_1; have hS := hSq_1; have hl := hlq_1; clear hPq_1 hDq_1 hSq_1 hlq_1
    refine lv_tableOut (tgt := 101) hx hb dX7_laneNow_1 (by decide) (by decide) ?_
    refine lv_aload_n hx hb dX7_laneNow_101 rfl (lv_at hl 0 rfl) ?_
    refine va_get (D := D) (ci := 7) (v := .ref Mn) (C := RX7) (T := TX7) (N := 21) hx hb hts iX7 hown hK hP 0 rfl rfl 10 (by decide) f22 (fun _ h9 => h9) rfl dX7_laneNow_102 ?_
    refine lv_iload_n hx hb dX7_laneNow_105 rfl (lv_at hl 1 rfl) ?_
    refine lv_iload_n hx hb dX7_laneNow_106 rfl (lv_at hl 2 rfl) ?_
    refine ky_Si (As := [.int (nI hix), .int (nI cx)]) (rest := [.ref Mn]) ⟨hx, hb, hml, hown, hts⟩ ⟨hK, hN⟩ hZ hP hD hS hA [] [0, 1] (wc := []) (wr := [(Mm, .inr (7, [.int zth, .ref Mt, .int (nI tp), .int zma, .int zwr, .ref Mrr, .ref Mrh, .ref Mrc, .int zrh, .int zrc, .ref Mn, .ref Mf, .ref Mr, .ref Mh, .int (nI hp), .int (nI cc), .ref Ma, .ref Mas, .ref Msn, .ref Mac, .ref Mat])), (Mn, .inl (g 0, 1767, .inl fno))]) rfl rfl rfl rfl (by decide) (k_X7_lane l D g H.size hix cx (show hix < 3 by omega) (show cx < 3 by omega)) (va_cwS 2 hts gX7_laneNow_X7_lane rfl rfl rfl (by decide +kernel) ⟨(Nat.le_of_ble_eq_true rfl), (Nat.le_of_ble_eq_true rfl)⟩) rfl hl.1 rfl (Nat.le_of_ble_eq_true rfl) dX7_laneNow_107 ⟨(Nat.le_of_ble_eq_true rfl), (Nat.le_of_ble_eq_true rfl)⟩ (fun r_6 u H locs hw hP2 hD2 hS2 => ?_)
    clear hP hD hS
    obtain ⟨rfl, rfl⟩ := hw
    have hPD : PD D A [(Mm, .inr (7, [.int zth, .ref Mt, .int (nI tp), .int zma, .int zwr, .ref Mrr, .ref Mrh, .ref Mrc, .int zrh, .int zrc, .ref Mn, .ref Mf, .ref Mr, .ref Mh, .int (nI hp), .int (nI cc), .ref Ma, .ref Mas, .ref Msn, .ref Mac, .ref Mat])), (Mn, .inl (g 0, 1767, .inl fno))] H := ⟨hP2, hD2⟩
    have hS := hS2; clear hP2 hD2 hS2; have hP := hPD.1; have hD := hPD.2; clear hPD
    refine W.widen (k := 0) (n := 0) (Nat.le_of_ble_eq_true rfl) (Nat.le_of_ble_eq_true rfl) ?_
    refine lv_iload_n hx hb dX7_laneNow_110 rfl (lv_at hl 3 rfl) ?_
    refine lv_iadd hx hb dX7_laneNow_111 ?_
    refine lv_eqi (y := (nI (7 * (3 * hix + cx) + 2))) (nI_add (7 * (3 * hix + cx)) (2)) ?_
    refine va_iald hx hb hK hP 1 0 rfl rfl (vp_in_nI (show 7 * (3 * hix + cx) + 2 < 1767 by omega) (by decide)) dX7_laneNow_112 ?_
    refine lv_eqi (y := (fno (7 * (3 * hix + cx) + 2))) (congrArg fno (nI_clamp (show 7 * (3 * hix + cx) + 2 < 2 ^ 31 by omega))) ?_
    refine lv_topi (fun y_7 _ => ?_)
    have hP9 := hP; have hD9 := hD
    subst hQ
    refine W.widen (k := 0) (n := 0) (Nat.le_of_ble_eq_true rfl) (Nat.le_of_ble_eq_true rfl) ?_
    exact W.iret (v := y_7) hx hb hr (fun tS htS _ => ⟨⟨_, _, rfl, rfl, by rw [htS]; exact hP9, hD9⟩, hS.F htS⟩) hS.2.2 dX7_laneNow_113
  · skip
    have hP := hPq_1; have hD := hDq_1; have hS := hSq_1; have hl := hlq_1; clear hPq_1 hDq_1 hSq_1 hlq_1
    refine lv_tableOut (tgt := 101) hx hb dX7_laneNow_1 (by decide) (by decide) ?_
    refine lv_aload_n hx hb dX7_laneNow_101 rfl (lv_at hl 0 rfl) ?_
    refine va_get (D := D) (ci := 7) (v := .ref Mn) (C := RX7) (T := TX7) (N := 21) hx hb hts iX7 hown hK hP 0 rfl rfl 10 (by decide) f22 (fun _ h9 => h9) rfl dX7_laneNow_102 ?_
    refine lv_iload_n hx hb dX7_laneNow_105 rfl (lv_at hl 1 rfl) ?_
    refine lv_iload_n hx hb dX7_laneNow_106 rfl (lv_at hl 2 rfl) ?_
    refine ky_Si (As := [.int (nI hix), .int (nI cx)]) (rest := [.ref Mn]) ⟨hx, hb, hml, hown, hts⟩ ⟨hK, hN⟩ hZ hP hD hS hA [] [0, 1] (wc := []) (wr := [(Mm, .inr (7, [.int zth, .ref Mt, .int (nI tp), .int zma, .int zwr, .ref Mrr, .ref Mrh, .ref Mrc, .int zrh, .int zrc, .ref Mn, .ref Mf, .ref Mr, .ref Mh, .int (nI hp), .int (nI cc), .ref Ma, .ref Mas, .ref Msn, .ref Mac, .ref Mat])), (Mn, .inl (g 0, 1767, .inl fno))]) rfl rfl rfl rfl (by decide) (k_X7_lane l D g H.size hix cx (show hix < 3 by omega) (show cx < 3 by omega)) (va_cwS 2 hts gX7_laneNow_X7_lane rfl rfl rfl (by decide +kernel) ⟨(Nat.le_of_ble_eq_true rfl), (Nat.le_of_ble_eq_true rfl)⟩) rfl hl.1 rfl (Nat.le_of_ble_eq_true rfl) dX7_laneNow_107 ⟨(Nat.le_of_ble_eq_true rfl), (Nat.le_of_ble_eq_true rfl)⟩ (fun r_8 u H locs hw hP2 hD2 hS2 => ?_)
    clear hP hD hS
    obtain ⟨rfl, rfl⟩ := hw
    have hPD : PD D A [(Mm, .inr (7, [.int zth, .ref Mt, .int (nI tp), .int zma, .int zwr, .ref Mrr, .ref Mrh, .ref Mrc, .int zrh, .int zrc, .ref Mn, .ref Mf, .ref Mr, .ref Mh, .int (nI hp), .int (nI cc), .ref Ma, .ref Mas, .ref Msn, .ref Mac, .ref Mat])), (Mn, .inl (g 0, 1767, .inl fno))] H := ⟨hP2, hD2⟩
    have hS := hS2; clear hP2 hD2 hS2; have hP := hPD.1; have hD := hPD.2; clear hPD
    refine W.widen (k := 0) (n := 0) (Nat.le_of_ble_eq_true rfl) (Nat.le_of_ble_eq_true rfl) ?_
    refine lv_iload_n hx hb dX7_laneNow_110 rfl (lv_at hl 3 rfl) ?_
    refine lv_iadd hx hb dX7_laneNow_111 ?_
    refine lv_eqi (y := (nI (7 * (3 * hix + cx) + 3))) (nI_add (7 * (3 * hix + cx)) (3)) ?_
    refine va_iald hx hb hK hP 1 0 rfl rfl (vp_in_nI (show 7 * (3 * hix + cx) + 3 < 1767 by omega) (by decide)) dX7_laneNow_112 ?_
    refine lv_eqi (y := (fno (7 * (3 * hix + cx) + 3))) (congrArg fno (nI_clamp (show 7 * (3 * hix + cx) + 3 < 2 ^ 31 by omega))) ?_
    refine lv_topi (fun y_9 _ => ?_)
    have hP9 := hP; have hD9 := hD
    subst hQ
    refine W.widen (k := 0) (n := 0) (Nat.le_of_ble_eq_true rfl) (Nat.le_of_ble_eq_true rfl) ?_
    exact W.iret (v := y_9) hx hb hr (fun tS htS _ => ⟨⟨_, _, rfl, rfl, by rw [htS]; exact hP9, hD9⟩, hS.F htS⟩) hS.2.2 dX7_laneNow_113
  · skip
    have hP := hPq_1; have hD := hDq_1; have hS := hSq_1; have hl := hlq_1; clear hPq_1 hDq_1 hSq_1 hlq_1
    refine lv_tableIn (off := 39) (tgt := 40) hx hb dX7_laneNow_1 (by decide) (by decide) (by decide) (by decide) ?_
    refine lv_aload_n hx hb dX7_laneNow_40 rfl (lv_at hl 0 rfl) ?_
    refine lv_iload_n hx hb dX7_laneNow_41 rfl (lv_at hl 1 rfl) ?_
    refine lv_iload_n hx hb dX7_laneNow_42 rfl (lv_at hl 2 rfl) ?_
    refine ky_Vi (As := [.int (nI hix), .int (nI cx)]) (rest := []) ⟨hx, hb, hml, hown, hts⟩ ⟨hK, hN⟩ hZ hP hD hS hA [0, 1] [] (wc := [(Mm, .inr (7, [.int zth, .ref Mt, .int (nI tp), .int zma, .int zwr, .ref Mrr, .ref Mrh, .ref Mrc, .int zrh, .int zrc, .ref Mn, .ref Mf, .ref Mr, .ref Mh, .int (nI hp), .int (nI cc), .ref Ma, .ref Mas, .ref Msn, .ref Mac, .ref Mat])), (Mn, .inl (g 0, 1767, .inl fno))]) (wr := []) rfl rfl rfl rfl (by decide) (k_X7_outOf l D g H.size Mm hix cx zth Mt tp zma zwr Mrr Mrh Mrc zrh zrc Mn Mf Mr Mh hp cc Ma Mas Msn Mac Mat fno (show hix < 3 by omega) (show cx < 3 by omega)) (cwV 2 hts gX7_laneNow_X7_outOf rfl rfl rfl (by decide +kernel) ⟨(Nat.le_of_ble_eq_true rfl), (Nat.le_of_ble_eq_true rfl)⟩) 0 7 rfl rfl rfl rfl hl.1 rfl (Nat.le_of_ble_eq_true rfl) dX7_laneNow_43 ⟨(Nat.le_of_ble_eq_true rfl), (Nat.le_of_ble_eq_true rfl)⟩ (fun r_10 u H locs hw hP2 hD2 hS2 => ?_)
    clear hP hD hS
    obtain rfl := hw
    have hPD : PD D A [(Mm, .inr (7, [.int zth, .ref Mt, .int (nI tp), .int zma, .int zwr, .ref Mrr, .ref Mrh, .ref Mrc, .int zrh, .int zrc, .ref Mn, .ref Mf, .ref Mr, .ref Mh, .int (nI hp), .int (nI cc), .ref Ma, .ref Mas, .ref Msn, .ref Mac, .ref Mat])), (Mn, .inl (g 0, 1767, .inl fno))] H := ⟨hP2, hD2⟩
    have hS := hS2; clear hP2 hD2 hS2; have hP := hPD.1; have hD := hPD.2; clear hPD
    refine W.widen (k := 0) (n := 0) (Nat.le_of_ble_eq_true rfl) (Nat.le_of_ble_eq_true rfl) ?_
    have hP9 := hP; have hD9 := hD
    subst hQ
    refine W.widen (k := 0) (n := 0) (Nat.le_of_ble_eq_true rfl) (Nat.le_of_ble_eq_true rfl) ?_
    exact W.iret (v := r_10) hx hb hr (fun tS htS _ => ⟨⟨_, _, rfl, rfl, by rw [htS]; exact hP9, hD9⟩, hS.F htS⟩) hS.2.2 dX7_laneNow_46
  · skip
    have hP := hPq_1; have hD := hDq_1; have hS := hSq_1; have hl := hlq_1; clear hPq_1 hDq_1 hSq_1 hlq_1
    refine lv_tableIn (off := 46) (tgt := 47) hx hb dX7_laneNow_1 (by decide) (by decide) (by decide) (by decide) ?_
    refine lv_aload_n hx hb dX7_laneNow_47 rfl (lv_at hl 0 rfl) ?_
    refine lv_iload_n hx hb dX7_laneNow_48 rfl (lv_at hl 1 rfl) ?_
    refine lv_iload_n hx hb dX7_laneNow_49 rfl (lv_at hl 2 rfl) ?_
    refine ky_Vi (As := [.int (nI hix), .int (nI cx)]) (rest := []) ⟨hx, hb, hml, hown, hts⟩ ⟨hK, hN⟩ hZ hP hD hS hA [0, 1] [] (wc := [(Mm, .inr (7, [.int zth, .ref Mt, .int (nI tp), .int zma, .int zwr, .ref Mrr, .ref Mrh, .ref Mrc, .int zrh, .int zrc, .ref Mn, .ref Mf, .ref Mr, .ref Mh, .int (nI hp), .int (nI cc), .ref Ma, .ref Mas, .ref Msn, .ref Mac, .ref Mat])), (Mn, .inl (g 0, 1767, .inl fno))]) (wr := []) rfl rfl rfl rfl (by decide) (k_X7_credit l D g H.size Mm hix cx zth Mt tp zma zwr Mrr Mrh Mrc zrh zrc Mn Mf Mr Mh hp cc Ma Mas Msn Mac Mat fno (show hix < 3 by omega) (show cx < 3 by omega)) (cwV 2 hts gX7_laneNow_X7_credit rfl rfl rfl (by decide +kernel) ⟨(Nat.le_of_ble_eq_true rfl), (Nat.le_of_ble_eq_true rfl)⟩) 0 7 rfl rfl rfl rfl hl.1 rfl (Nat.le_of_ble_eq_true rfl) dX7_laneNow_50 ⟨(Nat.le_of_ble_eq_true rfl), (Nat.le_of_ble_eq_true rfl)⟩ (fun r_11 u H locs hw hP2 hD2 hS2 => ?_)
    clear hP hD hS
    obtain rfl := hw
    have hPD : PD D A [(Mm, .inr (7, [.int zth, .ref Mt, .int (nI tp), .int zma, .int zwr, .ref Mrr, .ref Mrh, .ref Mrc, .int zrh, .int zrc, .ref Mn, .ref Mf, .ref Mr, .ref Mh, .int (nI hp), .int (nI cc), .ref Ma, .ref Mas, .ref Msn, .ref Mac, .ref Mat])), (Mn, .inl (g 0, 1767, .inl fno))] H := ⟨hP2, hD2⟩
    have hS := hS2; clear hP2 hD2 hS2; have hP := hPD.1; have hD := hPD.2; clear hPD
    refine W.widen (k := 0) (n := 0) (Nat.le_of_ble_eq_true rfl) (Nat.le_of_ble_eq_true rfl) ?_
    have hP9 := hP; have hD9 := hD
    subst hQ
    refine W.widen (k := 0) (n := 0) (Nat.le_of_ble_eq_true rfl) (Nat.le_of_ble_eq_true rfl) ?_
    exact W.iret (v := r_11) hx hb hr (fun tS htS _ => ⟨⟨_, _, rfl, rfl, by rw [htS]; exact hP9, hD9⟩, hS.F htS⟩) hS.2.2 dX7_laneNow_53
  · skip
    have hP := hPq_1; have hD := hDq_1; have hS := hSq_1; have hl := hlq_1; clear hPq_1 hDq_1 hSq_1 hlq_1
    refine lv_tableIn (off := 53) (tgt := 54) hx hb dX7_laneNow_1 (by decide) (by decide) (by decide) (by decide) ?_
    refine lv_aload_n hx hb dX7_laneNow_54 rfl (lv_at hl 0 rfl) ?_
    refine va_get (D := D) (ci := 7) (v := .ref Mn) (C := RX7) (T := TX7) (N := 21) hx hb hts iX7 hown hK hP 0 rfl rfl 10 (by decide) f22 (fun _ h9 => h9) rfl dX7_laneNow_55 ?_
    refine lv_iload_n hx hb dX7_laneNow_58 rfl (lv_at hl 1 rfl) ?_
    refine lv_iload_n hx hb dX7_laneNow_59 rfl (lv_at hl 2 rfl) ?_
    refine ky_Si (As := [.int (nI hix), .int (nI cx)]) (rest := [.ref Mn]) ⟨hx, hb, hml, hown, hts⟩ ⟨hK, hN⟩ hZ hP hD hS hA [] [0, 1] (wc := []) (wr := [(Mm, .inr (7, [.int zth, .ref Mt, .int (nI tp), .int zma, .int zwr, .ref Mrr, .ref Mrh, .ref Mrc, .int zrh, .int zrc, .ref Mn, .ref Mf, .ref Mr, .ref Mh, .int (nI hp), .int (nI cc), .ref Ma, .ref Mas, .ref Msn, .ref Mac, .ref Mat])), (Mn, .inl (g 0, 1767, .inl fno))]) rfl rfl rfl rfl (by decide) (k_X7_lane l D g H.size hix cx (show hix < 3 by omega) (show cx < 3 by omega)) (va_cwS 2 hts gX7_laneNow_X7_lane rfl rfl rfl (by decide +kernel) ⟨(Nat.le_of_ble_eq_true rfl), (Nat.le_of_ble_eq_true rfl)⟩) rfl hl.1 rfl (Nat.le_of_ble_eq_true rfl) dX7_laneNow_60 ⟨(Nat.le_of_ble_eq_true rfl), (Nat.le_of_ble_eq_true rfl)⟩ (fun r_12 u H locs hw hP2 hD2 hS2 => ?_)
    clear hP hD hS
    obtain ⟨rfl, rfl⟩ := hw
    have hPD : PD D A [(Mm, .inr (7, [.int zth, .ref Mt, .int (nI tp), .int zma, .int zwr, .ref Mrr, .ref Mrh, .ref Mrc, .int zrh, .int zrc, .ref Mn, .ref Mf, .ref Mr, .ref Mh, .int (nI hp), .int (nI cc), .ref Ma, .ref Mas, .ref Msn, .ref Mac, .ref Mat])), (Mn, .inl (g 0, 1767, .inl fno))] H := ⟨hP2, hD2⟩
    have hS := hS2; clear hP2 hD2 hS2; have hP := hPD.1; have hD := hPD.2; clear hPD
    refine W.widen (k := 0) (n := 0) (Nat.le_of_ble_eq_true rfl) (Nat.le_of_ble_eq_true rfl) ?_
    refine lv_iconst (v := 4) hx hb dX7_laneNow_63 (by decide) ?_
    refine lv_iadd hx hb dX7_laneNow_64 ?_
    refine lv_eqi (y := (nI (7 * (3 * hix + cx) + 4))) (nI_add (7 * (3 * hix + cx)) (4)) ?_
    refine va_iald hx hb hK hP 1 0 rfl rfl (vp_in_nI (show 7 * (3 * hix + cx) + 4 < 1767 by omega) (by decide)) dX7_laneNow_65 ?_
    refine lv_eqi (y := (fno (7 * (3 * hix + cx) + 4))) (congrArg fno (nI_clamp (show 7 * (3 * hix + cx) + 4 < 2 ^ 31 by omega))) ?_
    refine lv_topi (fun y_13 _ => ?_)
    have hP9 := hP; have hD9 := hD
    subst hQ
    refine W.widen (k := 0) (n := 0) (Nat.le_of_ble_eq_true rfl) (Nat.le_of_ble_eq_true rfl) ?_
    exact W.iret (v := y_13) hx hb hr (fun tS htS _ => ⟨⟨_, _, rfl, rfl, by rw [htS]; exact hP9, hD9⟩, hS.F htS⟩) hS.2.2 dX7_laneNow_66
  · skip
    have hP := hPq_1; have hD := hDq_1; have hS := hSq_1; have hl := hlq_1; clear hPq_1 hDq_1 hSq_1 hlq_1
    refine lv_tableIn (off := 66) (tgt := 67) hx hb dX7_laneNow_1 (by decide) (by decide) (by decide) (by decide) ?_
    refine lv_aload_n hx hb dX7_laneNow_67 rfl (lv_at hl 0 rfl) ?_
    refine va_get (D := D) (ci := 7) (v := .ref Mn) (C := RX7) (T := TX7) (N := 21) hx hb hts iX7 hown hK hP 0 rfl rfl 10 (by decide) f22 (fun _ h9 => h9) rfl dX7_laneNow_68 ?_
    refine lv_iload_n hx hb dX7_laneNow_71 rfl (lv_at hl 1 rfl) ?_
    refine lv_iload_n hx hb dX7_laneNow_72 rfl (lv_at hl 2 rfl) ?_
    refine ky_Si (As := [.int (nI hix), .int (nI cx)]) (rest := [.ref Mn]) ⟨hx, hb, hml, hown, hts⟩ ⟨hK, hN⟩ hZ hP hD hS hA [] [0, 1] (wc := []) (wr := [(Mm, .inr (7, [.int zth, .ref Mt, .int (nI tp), .int zma, .int zwr, .ref Mrr, .ref Mrh, .ref Mrc, .int zrh, .int zrc, .ref Mn, .ref Mf, .ref Mr, .ref Mh, .int (nI hp), .int (nI cc), .ref Ma, .ref Mas, .ref Msn, .ref Mac, .ref Mat])), (Mn, .inl (g 0, 1767, .inl fno))]) rfl rfl rfl rfl (by decide) (k_X7_lane l D g H.size hix cx (show hix < 3 by omega) (show cx < 3 by omega)) (va_cwS 2 hts gX7_laneNow_X7_lane rfl rfl rfl (by decide +kernel) ⟨(Nat.le_of_ble_eq_true rfl), (Nat.le_of_ble_eq_true rfl)⟩) rfl hl.1 rfl (Nat.le_of_ble_eq_true rfl) dX7_laneNow_73 ⟨(Nat.le_of_ble_eq_true rfl), (Nat.le_of_ble_eq_true rfl)⟩ (fun r_14 u H locs hw hP2 hD2 hS2 => ?_)
    clear hP hD hS
    obtain ⟨rfl, rfl⟩ := hw
    have hPD : PD D A [(Mm, .inr (7, [.int zth, .ref Mt, .int (nI tp), .int zma, .int zwr, .ref Mrr, .ref Mrh, .ref Mrc, .int zrh, .int zrc, .ref Mn, .ref Mf, .ref Mr, .ref Mh, .int (nI hp), .int (nI cc), .ref Ma, .ref Mas, .ref Msn, .ref Mac, .ref Mat])), (Mn, .inl (g 0, 1767, .inl fno))] H := ⟨hP2, hD2⟩
    have hS := hS2; clear hP2 hD2 hS2; have hP := hPD.1; have hD := hPD.2; clear hPD
    refine W.widen (k := 0) (n := 0) (Nat.le_of_ble_eq_true rfl) (Nat.le_of_ble_eq_true rfl) ?_
    refine lv_iconst (v := 5) hx hb dX7_laneNow_76 (by decide) ?_
    refine lv_iadd hx hb dX7_laneNow_77 ?_
    refine lv_eqi (y := (nI (7 * (3 * hix + cx) + 5))) (nI_add (7 * (3 * hix + cx)) (5)) ?_
    refine va_iald hx hb hK hP 1 0 rfl rfl (vp_in_nI (show 7 * (3 * hix + cx) + 5 < 1767 by omega) (by decide)) dX7_laneNow_78 ?_
    refine lv_eqi (y := (fno (7 * (3 * hix + cx) + 5))) (congrArg fno (nI_clamp (show 7 * (3 * hix + cx) + 5 < 2 ^ 31 by omega))) ?_
    refine lv_topi (fun y_15 _ => ?_)
    have hP9 := hP; have hD9 := hD
    subst hQ
    refine W.widen (k := 0) (n := 0) (Nat.le_of_ble_eq_true rfl) (Nat.le_of_ble_eq_true rfl) ?_
    exact W.iret (v := y_15) hx hb hr (fun tS htS _ => ⟨⟨_, _, rfl, rfl, by rw [htS]; exact hP9, hD9⟩, hS.F htS⟩) hS.2.2 dX7_laneNow_79
  · skip
    have hP := hPq_1; have hD := hDq_1; have hS := hSq_1; have hl := hlq_1; clear hPq_1 hDq_1 hSq_1 hlq_1
    refine lv_tableIn (off := 79) (tgt := 80) hx hb dX7_laneNow_1 (by decide) (by decide) (by decide) (by decide) ?_
    refine lv_aload_n hx hb dX7_laneNow_80 rfl (lv_at hl 0 rfl) ?_
    refine va_get (D := D) (ci := 7) (v := .ref Mn) (C := RX7) (T := TX7) (N := 21) hx hb hts iX7 hown hK hP 0 rfl rfl 10 (by decide) f22 (fun _ h9 => h9) rfl dX7_laneNow_81 ?_
    refine lv_iload_n hx hb dX7_laneNow_84 rfl (lv_at hl 1 rfl) ?_
    refine lv_iload_n hx hb dX7_laneNow_85 rfl (lv_at hl 2 rfl) ?_
    refine ky_Si (As := [.int (nI hix), .int (nI cx)]) (rest := [.ref Mn]) ⟨hx, hb, hml, hown, hts⟩ ⟨hK, hN⟩ hZ hP hD hS hA [] [0, 1] (wc := []) (wr := [(Mm, .inr (7, [.int zth, .ref Mt, .int (nI tp), .int zma, .int zwr, .ref Mrr, .ref Mrh, .ref Mrc, .int zrh, .int zrc, .ref Mn, .ref Mf, .ref Mr, .ref Mh, .int (nI hp), .int (nI cc), .ref Ma, .ref Mas, .ref Msn, .ref Mac, .ref Mat])), (Mn, .inl (g 0, 1767, .inl fno))]) rfl rfl rfl rfl (by decide) (k_X7_lane l D g H.size hix cx (show hix < 3 by omega) (show cx < 3 by omega)) (va_cwS 2 hts gX7_laneNow_X7_lane rfl rfl rfl (by decide +kernel) ⟨(Nat.le_of_ble_eq_true rfl), (Nat.le_of_ble_eq_true rfl)⟩) rfl hl.1 rfl (Nat.le_of_ble_eq_true rfl) dX7_laneNow_86 ⟨(Nat.le_of_ble_eq_true rfl), (Nat.le_of_ble_eq_true rfl)⟩ (fun r_16 u H locs hw hP2 hD2 hS2 => ?_)
    clear hP hD hS
    obtain ⟨rfl, rfl⟩ := hw
    have hPD : PD D A [(Mm, .inr (7, [.int zth, .ref Mt, .int (nI tp), .int zma, .int zwr, .ref Mrr, .ref Mrh, .ref Mrc, .int zrh, .int zrc, .ref Mn, .ref Mf, .ref Mr, .ref Mh, .int (nI hp), .int (nI cc), .ref Ma, .ref Mas, .ref Msn, .ref Mac, .ref Mat])), (Mn, .inl (g 0, 1767, .inl fno))] H := ⟨hP2, hD2⟩
    have hS := hS2; clear hP2 hD2 hS2; have hP := hPD.1; have hD := hPD.2; clear hPD
    refine W.widen (k := 0) (n := 0) (Nat.le_of_ble_eq_true rfl) (Nat.le_of_ble_eq_true rfl) ?_
    refine lv_bipush (v := 6) hx hb dX7_laneNow_89 (by decide) ?_
    refine lv_iadd hx hb dX7_laneNow_91 ?_
    refine lv_eqi (y := (nI (7 * (3 * hix + cx) + 6))) (nI_add (7 * (3 * hix + cx)) (6)) ?_
    refine va_iald hx hb hK hP 1 0 rfl rfl (vp_in_nI (show 7 * (3 * hix + cx) + 6 < 1767 by omega) (by decide)) dX7_laneNow_92 ?_
    refine lv_eqi (y := (fno (7 * (3 * hix + cx) + 6))) (congrArg fno (nI_clamp (show 7 * (3 * hix + cx) + 6 < 2 ^ 31 by omega))) ?_
    refine lv_topi (fun y_17 _ => ?_)
    have hP9 := hP; have hD9 := hD
    subst hQ
    refine W.widen (k := 0) (n := 0) (Nat.le_of_ble_eq_true rfl) (Nat.le_of_ble_eq_true rfl) ?_
    exact W.iret (v := y_17) hx hb hr (fun tS htS _ => ⟨⟨_, _, rfl, rfl, by rw [htS]; exact hP9, hD9⟩, hS.F htS⟩) hS.2.2 dX7_laneNow_93
  · skip
    have hP := hPq_1; have hD := hDq_1; have hS := hSq_1; have hl := hlq_1; clear hPq_1 hDq_1 hSq_1 hlq_1
    refine lv_tableIn (off := 93) (tgt := 94) hx hb dX7_laneNow_1 (by decide) (by decide) (by decide) (by decide) ?_
    refine lv_aload_n hx hb dX7_laneNow_94 rfl (lv_at hl 0 rfl) ?_
    refine lv_iload_n hx hb dX7_laneNow_95 rfl (lv_at hl 1 rfl) ?_
    refine lv_iload_n hx hb dX7_laneNow_96 rfl (lv_at hl 2 rfl) ?_
    refine ky_Vi (As := [.int (nI hix), .int (nI cx)]) (rest := []) ⟨hx, hb, hml, hown, hts⟩ ⟨hK, hN⟩ hZ hP hD hS hA [0, 1] [] (wc := [(Mm, .inr (7, [.int zth, .ref Mt, .int (nI tp), .int zma, .int zwr, .ref Mrr, .ref Mrh, .ref Mrc, .int zrh, .int zrc, .ref Mn, .ref Mf, .ref Mr, .ref Mh, .int (nI hp), .int (nI cc), .ref Ma, .ref Mas, .ref Msn, .ref Mac, .ref Mat])), (Mn, .inl (g 0, 1767, .inl fno))]) (wr := []) rfl rfl rfl rfl (by decide) (k_X7_cellsOn l D g H.size Mm hix (nI cx) zth Mt tp zma zwr Mrr Mrh Mrc zrh zrc Mn Mf Mr Mh hp cc Ma Mas Msn Mac Mat fno (show hix < 3 by omega)) (cwV 2 hts gX7_laneNow_X7_cellsOn rfl rfl rfl (by decide +kernel) ⟨(Nat.le_of_ble_eq_true rfl), (Nat.le_of_ble_eq_true rfl)⟩) 0 7 rfl rfl rfl rfl hl.1 rfl (Nat.le_of_ble_eq_true rfl) dX7_laneNow_97 ⟨(Nat.le_of_ble_eq_true rfl), (Nat.le_of_ble_eq_true rfl)⟩ (fun r_18 u H locs hw hP2 hD2 hS2 => ?_)
    clear hP hD hS
    obtain rfl := hw
    have hPD : PD D A [(Mm, .inr (7, [.int zth, .ref Mt, .int (nI tp), .int zma, .int zwr, .ref Mrr, .ref Mrh, .ref Mrc, .int zrh, .int zrc, .ref Mn, .ref Mf, .ref Mr, .ref Mh, .int (nI hp), .int (nI cc), .ref Ma, .ref Mas, .ref Msn, .ref Mac, .ref Mat])), (Mn, .inl (g 0, 1767, .inl fno))] H := ⟨hP2, hD2⟩
    have hS := hS2; clear hP2 hD2 hS2; have hP := hPD.1; have hD := hPD.2; clear hPD
    refine W.widen (k := 0) (n := 0) (Nat.le_of_ble_eq_true rfl) (Nat.le_of_ble_eq_true rfl) ?_
    have hP9 := hP; have hD9 := hD
    subst hQ
    refine W.widen (k := 0) (n := 0) (Nat.le_of_ble_eq_true rfl) (Nat.le_of_ble_eq_true rfl) ?_
    exact W.iret (v := r_18) hx hb hr (fun tS htS _ => ⟨⟨_, _, rfl, rfl, by rw [htS]; exact hP9, hD9⟩, hS.F htS⟩) hS.2.2 dX7_laneNow_100

set_option maxHeartbeats 4000000 in
set_option maxRecDepth 100000 in
theorem k_X7_lane_ (l : Launch) (D : va_G) (g : Nat → ClassId) (sz : Nat) (Mm : Nat) (zh : Int32) (zc : Int32) (zw : Int32) (zth : Int32) (Mt : Nat) (tp : Nat) (zma : Int32) (zwr : Int32) (Mrr : Nat) (Mrh : Nat) (Mrc : Nat) (zrh : Int32) (zrc : Int32) (Mn : Nat) (Mf : Nat) (Mr : Nat) (Mh : Nat) (hp : Nat) (cc : Nat) (Ma : Nat) (Mas : Nat) (Msn : Nat) (Mac : Nat) (Mat : Nat) (fno : Nat → Int32) (h0 : 1 ≤ hp) (h1 : hp ≤ 3) (h2 : 1 ≤ cc) (h3 : cc ≤ 3) : Met l yX7_lane_ wsX7_lane_ ({ frames := 4, cells := 0, slots := 0, locals := 88 }) (va_Pc [.ref Mm, .int zh, .int zc, .int zw] (pre D g sz [(Mm, .inr (7, [.int zth, .ref Mt, .int (nI tp), .int zma, .int zwr, .ref Mrr, .ref Mrh, .ref Mrc, .int zrh, .int zrc, .ref Mn, .ref Mf, .ref Mr, .ref Mh, .int (nI hp), .int (nI cc), .ref Ma, .ref Mas, .ref Msn, .ref Mac, .ref Mat])), (Mn, .inl (g 0, 1767, .inl fno))])) (va_Qi (fun (r : Int32) (u : va_W) => ∃ (zthx : Int32), u = [(Mm, .inr (7, [.int zthx, .ref Mt, .int (nI tp), .int zma, .int zwr, .ref Mrr, .ref Mrh, .ref Mrc, .int zrh, .int zrc, .ref Mn, .ref Mf, .ref Mr, .ref Mh, .int (nI hp), .int (nI cc), .ref Ma, .ref Mas, .ref Msn, .ref Mac, .ref Mat])), (Mn, .inl (g 0, 1767, .inl fno))]) (wd D (va_A [(Mm, .inr (7, [.int zth, .ref Mt, .int (nI tp), .int zma, .int zwr, .ref Mrr, .ref Mrh, .ref Mrc, .int zrh, .int zrc, .ref Mn, .ref Mf, .ref Mr, .ref Mh, .int (nI hp), .int (nI cc), .ref Ma, .ref Mas, .ref Msn, .ref Mac, .ref Mat])), (Mn, .inl (g 0, 1767, .inl fno))] sz)) (va_A [(Mm, .inr (7, [.int zth, .ref Mt, .int (nI tp), .int zma, .int zwr, .ref Mrr, .ref Mrh, .ref Mrc, .int zrh, .int zrc, .ref Mn, .ref Mf, .ref Mr, .ref Mh, .int (nI hp), .int (nI cc), .ref Ma, .ref Mas, .ref Msn, .ref Mac, .ref Mat])), (Mn, .inl (g 0, 1767, .inl fno))] sz)) 0 0 (va_A [(Mm, .inr (7, [.int zth, .ref Mt, .int (nI tp), .int zma, .int zwr, .ref Mrr, .ref Mrh, .ref Mrc, .int zrh, .int zrc, .ref Mn, .ref Mf, .ref Mr, .ref Mh, .int (nI hp), .int (nI cc), .ref Ma, .ref Mas, .ref Msn, .ref Mac, .ref Mat])), (Mn, .inl (g 0, 1767, .inl fno))] sz) := by
  refine Met.ofW (cc := cX7_lane_) (maxL := 4) (ret := (some .int)) (by decide) rfl ?_
  intro p e s m args below meth c s₁ B hml hv
  obtain ⟨rfl, hsz, hP, ⟨hK, hN⟩, hD0, hZ⟩ := hv
  have hx := B.exec
  have hb := B.bytes
  have hr := B.returns
  have hts := atoms_spec (ws := wsX7_lane_) B.pre
  have hown : s.vm.findClass RX7 = some m.cls := findClass_of_methodNamed B.named
  have hlocks := B.notSynchronized
  clear B
  subst hsz
  have hD := hD0.self (sz := s.heap.size)
  clear hD0
  generalize hAe : va_A [(Mm, .inr (7, [.int zth, .ref Mt, .int (nI tp), .int zma, .int zwr, .ref Mrr, .ref Mrh, .ref Mrc, .int zrh, .int zrc, .ref Mn, .ref Mf, .ref Mr, .ref Mh, .int (nI hp), .int (nI cc), .ref Ma, .ref Mas, .ref Msn, .ref Mac, .ref Mat])), (Mn, .inl (g 0, 1767, .inl fno))] s.heap.size = A at hD hZ ⊢
  have hA : ∀ q : Nat, s.heap.size ≤ q → A q := fun q h => by rw [← hAe]; exact Or.inr h
  have hS : va_S A s.heap s.heap [] := va_S.rf
  have f49 := hts (.fieldLink RX7 49 "HopCreditsModel" "thrown" "I") (List.mem_of_getElem? (i := 1) rfl)
  have iX7 : ∀ w ∈ u_ws RX7 TX7 21, w ∈ wsX7_lane_ := fun w h => List.mem_cons_of_mem _ (List.mem_append_right _ (h))
  have hl := lv_entry ([.ref Mm, .int zh, .int zc, .int zw]) (n := 4) (Nat.le_of_ble_eq_true rfl)
  rw [lg_entry_eq]
  generalize (lg_sl ([.ref Mm, .int zh, .int zc, .int zw]) ++ List.replicate (4 - (lg_sl ([.ref Mm, .int zh, .int zc, .int zw])).length) Slot.unset).toArray = ls at hl ⊢
  have hl : lv_has ls 4 [(0, .ref Mm), (1, .int zh), (2, .int zc), (3, .int zw)] := hl
  generalize hQ : MQ below _ _ s _ _ _ = Q
  generalize hH : s.heap = H at hP ⊢
  have hS : va_S A s.heap H [] := by rw [← hH]; exact hS
  clear hH
  refine lv_aload_n hx hb dX7_lane__0 rfl (lv_at hl 0 rfl) ?_
  refine lv_iconst (v := 0) hx hb dX7_lane__1 (by decide) ?_
  refine va_put (D := D) (ci := 7) (v := .int 0) (ty := .int) (C := RX7) (T := TX7) (N := 21) hx hb hts iX7 tyX7 tyX7_ok nmX7 hown hK hP hD hS 0 rfl rfl 0 (by decide) f49 (fun _ h9 => h9) rfl (by decide +kernel) (rfl) (rfl) (Nat.le_of_ble_eq_true rfl) dX7_lane__2 (fun H locs hP2 hD2 hS2 => ?_)
  clear hP hD hS
  have hPD : PD D A [(Mm, .inr (7, [.int 0, .ref Mt, .int (nI tp), .int zma, .int zwr, .ref Mrr, .ref Mrh, .ref Mrc, .int zrh, .int zrc, .ref Mn, .ref Mf, .ref Mr, .ref Mh, .int (nI hp), .int (nI cc), .ref Ma, .ref Mas, .ref Msn, .ref Mac, .ref Mat])), (Mn, .inl (g 0, 1767, .inl fno))] H := ⟨hP2, hD2⟩
  have hS := hS2; clear hP2 hD2 hS2; have hP := hPD.1; have hD := hPD.2; clear hPD
  refine lv_aload_n hx hb dX7_lane__5 rfl (lv_at hl 0 rfl) ?_
  refine lv_iload_n hx hb dX7_lane__6 rfl (lv_at hl 1 rfl) ?_
  refine lv_iload_n hx hb dX7_lane__7 rfl (lv_at hl 2 rfl) ?_
  refine ky_Vi (As := [.int zh, .int zc]) (rest := []) ⟨hx, hb, hml, hown, hts⟩ ⟨hK, hN⟩ hZ hP hD hS hA [0] [1] (wc := [(Mm, .inr (7, [.int 0, .ref Mt, .int (nI tp), .int zma, .int zwr, .ref Mrr, .ref Mrh, .ref Mrc, .int zrh, .int zrc, .ref Mn, .ref Mf, .ref Mr, .ref Mh, .int (nI hp), .int (nI cc), .ref Ma, .ref Mas, .ref Msn, .ref Mac, .ref Mat]))]) (wr := [(Mn, .inl (g 0, 1767, .inl fno))]) rfl rfl rfl rfl (by decide) (k_X7_isLane l D g H.size Mm zh zc 0 Mt tp zma zwr Mrr Mrh Mrc zrh zrc Mn Mf Mr Mh hp cc Ma Mas Msn Mac Mat (show 1 ≤ hp by omega) (show hp ≤ 3 by omega) (show 1 ≤ cc by omega) (show cc ≤ 3 by omega)) (cwV 2 hts gX7_lane__X7_isLane rfl rfl rfl (by decide +kernel) ⟨(Nat.le_of_ble_eq_true rfl), (Nat.le_of_ble_eq_true rfl)⟩) 0 7 rfl rfl rfl rfl hl.1 rfl (Nat.le_of_ble_eq_true rfl) dX7_lane__8 ⟨(Nat.le_of_ble_eq_true rfl), (Nat.le_of_ble_eq_true rfl)⟩ (fun r_1 u H locs hw hP2 hD2 hS2 => ?_)
  clear hP hD hS
  obtain ⟨rfl, rfl⟩ := hw
  have hPD : PD D A [(Mn, .inl (g 0, 1767, .inl fno)), (Mm, .inr (7, [.int 0, .ref Mt, .int (nI tp), .int zma, .int zwr, .ref Mrr, .ref Mrh, .ref Mrc, .int zrh, .int zrc, .ref Mn, .ref Mf, .ref Mr, .ref Mh, .int (nI hp), .int (nI cc), .ref Ma, .ref Mas, .ref Msn, .ref Mac, .ref Mat]))] H := ⟨hP2, hD2⟩
  have hS := hS2; clear hP2 hD2 hS2; have hP := hPD.1; have hD := hPD.2; clear hPD
  refine W.widen (k := 0) (n := 0) (Nat.le_of_ble_eq_true rfl) (Nat.le_of_ble_eq_true rfl) ?_
  refine lv_if_eq (tgt := 34) hx hb dX7_lane__11 (by decide) (fun cb_2 => ?_) (fun cb_2 => ?_)
  · skip
    have hq_3 : ¬ ((0 ≤ zh ∧ zh ≤ (nI (hp - 1))) ∧ (0 ≤ zc ∧ zc ≤ (nI (cc - 1)))) := b01_0.mp cb_2
    refine lv_iconst (v := (-1)) hx hb dX7_lane__34 (by decide) ?_
    have hPD9 : PD D A [(Mm, .inr (7, [.int 0, .ref Mt, .int (nI tp), .int zma, .int zwr, .ref Mrr, .ref Mrh, .ref Mrc, .int zrh, .int zrc, .ref Mn, .ref Mf, .ref Mr, .ref Mh, .int (nI hp), .int (nI cc), .ref Ma, .ref Mas, .ref Msn, .ref Mac, .ref Mat])), (Mn, .inl (g 0, 1767, .inl fno))] H := ⟨hP.sub [1, 0] rfl, hD.sub [1, 0] (by decide) rfl⟩
    have hP9 := hPD9.1; have hD9 := hPD9.2
    subst hQ
    refine W.widen (k := 0) (n := 0) (Nat.le_of_ble_eq_true rfl) (Nat.le_of_ble_eq_true rfl) ?_
    exact W.iret (v := (-1)) hx hb hr (fun tS htS _ => ⟨⟨_, _, rfl, ⟨0, rfl⟩, by rw [htS]; exact hP9, hD9⟩, hS.F htS⟩) hS.2.2 dX7_lane__35
  · skip
    have hq_4 : (0 ≤ zh ∧ zh ≤ (nI (hp - 1))) ∧ (0 ≤ zc ∧ zc ≤ (nI (cc - 1))) := b01_1.mp cb_2
    have hq_5 := hq_4.1; have hq_6 := hq_4.2
    have hPq_10 := hP; have hDq_10 := hD; have hSq_10 := hS; have hlq_10 := hl; clear hP hD hS hl
    obtain ⟨j_7, hl_8, hu_9, rfl⟩ := rg (L := 0) (U := hp - 1) rfl rfl (show 0 < 2 ^ 31 by omega) (show hp - 1 < 2 ^ 31 by omega) hq_5
    have hP := hPq_10; have hD := hDq_10; have hS := hSq_10; have hl := hlq_10; clear hPq_10 hDq_10 hSq_10 hlq_10
    have hPq_14 := hP; have hDq_14 := hD; have hSq_14 := hS; have hlq_14 := hl; clear hP hD hS hl
    obtain ⟨j_11, hl_12, hu_13, rfl⟩ := rg (L := 0) (U := cc - 1) rfl rfl (show 0 < 2 ^ 31 by omega) (show cc - 1 < 2 ^ 31 by omega) hq_6
    have hP := hPq_14; have hD := hDq_14; have hS := hSq_14; have hl := hlq_14; clear hPq_14 hDq_14 hSq_14 hlq_14
    refine lv_iload_n hx hb dX7_lane__14 rfl (lv_at hl 3 rfl) ?_
    refine lv_iconst (v := 0) hx hb dX7_lane__15 (by decide) ?_
    refine lv_bipush (v := 9) hx hb dX7_lane__16 (by decide) ?_
    refine ky_Si (As := [.int zw, .int 0, .int 9]) (rest := []) ⟨hx, hb, hml, hown, hts⟩ ⟨hK, hN⟩ hZ hP hD hS hA [] [0, 1] (wc := []) (wr := [(Mn, .inl (g 0, 1767, .inl fno)), (Mm, .inr (7, [.int 0, .ref Mt, .int (nI tp), .int zma, .int zwr, .ref Mrr, .ref Mrh, .ref Mrc, .int zrh, .int zrc, .ref Mn, .ref Mf, .ref Mr, .ref Mh, .int (nI hp), .int (nI cc), .ref Ma, .ref Mas, .ref Msn, .ref Mac, .ref Mat]))]) rfl rfl rfl rfl (by decide) (k_X7_in l D g H.size zw 0 9) (va_cwS 3 hts gX7_lane__X7_in rfl rfl rfl (by decide +kernel) ⟨(Nat.le_of_ble_eq_true rfl), (Nat.le_of_ble_eq_true rfl)⟩) rfl hl.1 rfl (Nat.le_of_ble_eq_true rfl) dX7_lane__18 ⟨(Nat.le_of_ble_eq_true rfl), (Nat.le_of_ble_eq_true rfl)⟩ (fun r_15 u H locs hw hP2 hD2 hS2 => ?_)
    clear hP hD hS
    obtain ⟨rfl, rfl⟩ := hw
    have hPD : PD D A [(Mn, .inl (g 0, 1767, .inl fno)), (Mm, .inr (7, [.int 0, .ref Mt, .int (nI tp), .int zma, .int zwr, .ref Mrr, .ref Mrh, .ref Mrc, .int zrh, .int zrc, .ref Mn, .ref Mf, .ref Mr, .ref Mh, .int (nI hp), .int (nI cc), .ref Ma, .ref Mas, .ref Msn, .ref Mac, .ref Mat]))] H := ⟨hP2, hD2⟩
    have hS := hS2; clear hP2 hD2 hS2; have hP := hPD.1; have hD := hPD.2; clear hPD
    refine W.widen (k := 0) (n := 0) (Nat.le_of_ble_eq_true rfl) (Nat.le_of_ble_eq_true rfl) ?_
    refine lv_if_eq (tgt := 34) hx hb dX7_lane__21 (by decide) (fun cb_16 => ?_) (fun cb_16 => ?_)
    · skip
      have hq_17 : ¬ (0 ≤ zw ∧ zw ≤ 9) := b01_0.mp cb_16
      refine lv_iconst (v := (-1)) hx hb dX7_lane__34 (by decide) ?_
      have hPD9 : PD D A [(Mm, .inr (7, [.int 0, .ref Mt, .int (nI tp), .int zma, .int zwr, .ref Mrr, .ref Mrh, .ref Mrc, .int zrh, .int zrc, .ref Mn, .ref Mf, .ref Mr, .ref Mh, .int (nI hp), .int (nI cc), .ref Ma, .ref Mas, .ref Msn, .ref Mac, .ref Mat])), (Mn, .inl (g 0, 1767, .inl fno))] H := ⟨hP.sub [1, 0] rfl, hD.sub [1, 0] (by decide) rfl⟩
      have hP9 := hPD9.1; have hD9 := hPD9.2
      subst hQ
      refine W.widen (k := 0) (n := 0) (Nat.le_of_ble_eq_true rfl) (Nat.le_of_ble_eq_true rfl) ?_
      exact W.iret (v := (-1)) hx hb hr (fun tS htS _ => ⟨⟨_, _, rfl, ⟨0, rfl⟩, by rw [htS]; exact hP9, hD9⟩, hS.F htS⟩) hS.2.2 dX7_lane__35
    · skip
      have hq_18 : 0 ≤ zw ∧ zw ≤ 9 := b01_1.mp cb_16
      have hPq_22 := hP; have hDq_22 := hD; have hSq_22 := hS; have hlq_22 := hl; clear hP hD hS hl
      obtain ⟨j_19, hl_20, hu_21, rfl⟩ := rg (L := 0) (U := 9) rfl rfl (show 0 < 2 ^ 31 by omega) (show 9 < 2 ^ 31 by omega) hq_18
      have hP := hPq_22; have hD := hDq_22; have hS := hSq_22; have hl := hlq_22; clear hPq_22 hDq_22 hSq_22 hlq_22
      refine lv_aload_n hx hb dX7_lane__24 rfl (lv_at hl 0 rfl) ?_
      refine lv_iload_n hx hb dX7_lane__25 rfl (lv_at hl 1 rfl) ?_
      refine lv_iload_n hx hb dX7_lane__26 rfl (lv_at hl 2 rfl) ?_
      refine lv_iload_n hx hb dX7_lane__27 rfl (lv_at hl 3 rfl) ?_
      refine ky_Vi (As := [.int (nI j_7), .int (nI j_11), .int (nI j_19)]) (rest := []) ⟨hx, hb, hml, hown, hts⟩ ⟨hK, hN⟩ hZ hP hD hS hA [1, 0] [] (wc := [(Mm, .inr (7, [.int 0, .ref Mt, .int (nI tp), .int zma, .int zwr, .ref Mrr, .ref Mrh, .ref Mrc, .int zrh, .int zrc, .ref Mn, .ref Mf, .ref Mr, .ref Mh, .int (nI hp), .int (nI cc), .ref Ma, .ref Mas, .ref Msn, .ref Mac, .ref Mat])), (Mn, .inl (g 0, 1767, .inl fno))]) (wr := []) rfl rfl rfl rfl (by decide) (k_X7_laneNow l D g H.size Mm j_7 j_11 j_19 0 Mt tp zma zwr Mrr Mrh Mrc zrh zrc Mn Mf Mr Mh hp cc Ma Mas Msn Mac Mat fno (show j_7 < 3 by omega) (show j_11 < 3 by omega) (show j_19 ≤ 9 by omega)) (cwV 3 hts gX7_lane__X7_laneNow rfl rfl rfl (by decide +kernel) ⟨(Nat.le_of_ble_eq_true rfl), (Nat.le_of_ble_eq_true rfl)⟩) 1 7 rfl rfl rfl rfl hl.1 rfl (Nat.le_of_ble_eq_true rfl) dX7_lane__28 ⟨(Nat.le_of_ble_eq_true rfl), (Nat.le_of_ble_eq_true rfl)⟩ (fun r_23 u H locs hw hP2 hD2 hS2 => ?_)
      clear hP hD hS
      obtain rfl := hw
      have hPD : PD D A [(Mm, .inr (7, [.int 0, .ref Mt, .int (nI tp), .int zma, .int zwr, .ref Mrr, .ref Mrh, .ref Mrc, .int zrh, .int zrc, .ref Mn, .ref Mf, .ref Mr, .ref Mh, .int (nI hp), .int (nI cc), .ref Ma, .ref Mas, .ref Msn, .ref Mac, .ref Mat])), (Mn, .inl (g 0, 1767, .inl fno))] H := ⟨hP2, hD2⟩
      have hS := hS2; clear hP2 hD2 hS2; have hP := hPD.1; have hD := hPD.2; clear hPD
      refine W.widen (k := 0) (n := 0) (Nat.le_of_ble_eq_true rfl) (Nat.le_of_ble_eq_true rfl) ?_
      refine lv_goto (tgt := 35) hx hb dX7_lane__31 (by decide) ?_
      have hP9 := hP; have hD9 := hD
      subst hQ
      refine W.widen (k := 0) (n := 0) (Nat.le_of_ble_eq_true rfl) (Nat.le_of_ble_eq_true rfl) ?_
      exact W.iret (v := r_23) hx hb hr (fun tS htS _ => ⟨⟨_, _, rfl, ⟨0, rfl⟩, by rw [htS]; exact hP9, hD9⟩, hS.F htS⟩) hS.2.2 dX7_lane__35

set_option maxHeartbeats 4000000 in
set_option maxRecDepth 100000 in
theorem k_X7_buffer (l : Launch) (D : va_G) (g : Nat → ClassId) (sz : Nat) (Mm : Nat) (zn : Int32) (zc : Int32) (zth : Int32) (Mt : Nat) (tp : Nat) (zma : Int32) (zwr : Int32) (Mrr : Nat) (Mrh : Nat) (Mrc : Nat) (zrh : Int32) (zrc : Int32) (Mn : Nat) (Mf : Nat) (Mr : Nat) (Mh : Nat) (hp : Nat) (cc : Nat) (Ma : Nat) (Mas : Nat) (Msn : Nat) (Mac : Nat) (Mat : Nat) (fno : Nat → Int32) (h0 : 1 ≤ hp) (h1 : hp ≤ 3) (h2 : 1 ≤ cc) (h3 : cc ≤ 3) : Met l yX7_buffer wsX7_buffer ({ frames := 2, cells := 0, slots := 0, locals := 43 }) (va_Pc [.ref Mm, .int zn, .int zc] (pre D g sz [(Mm, .inr (7, [.int zth, .ref Mt, .int (nI tp), .int zma, .int zwr, .ref Mrr, .ref Mrh, .ref Mrc, .int zrh, .int zrc, .ref Mn, .ref Mf, .ref Mr, .ref Mh, .int (nI hp), .int (nI cc), .ref Ma, .ref Mas, .ref Msn, .ref Mac, .ref Mat])), (Mn, .inl (g 0, 1767, .inl fno))])) (va_Qi (fun (r : Int32) (u : va_W) => ∃ (zthx : Int32), u = [(Mm, .inr (7, [.int zthx, .ref Mt, .int (nI tp), .int zma, .int zwr, .ref Mrr, .ref Mrh, .ref Mrc, .int zrh, .int zrc, .ref Mn, .ref Mf, .ref Mr, .ref Mh, .int (nI hp), .int (nI cc), .ref Ma, .ref Mas, .ref Msn, .ref Mac, .ref Mat])), (Mn, .inl (g 0, 1767, .inl fno))]) (wd D (va_A [(Mm, .inr (7, [.int zth, .ref Mt, .int (nI tp), .int zma, .int zwr, .ref Mrr, .ref Mrh, .ref Mrc, .int zrh, .int zrc, .ref Mn, .ref Mf, .ref Mr, .ref Mh, .int (nI hp), .int (nI cc), .ref Ma, .ref Mas, .ref Msn, .ref Mac, .ref Mat])), (Mn, .inl (g 0, 1767, .inl fno))] sz)) (va_A [(Mm, .inr (7, [.int zth, .ref Mt, .int (nI tp), .int zma, .int zwr, .ref Mrr, .ref Mrh, .ref Mrc, .int zrh, .int zrc, .ref Mn, .ref Mf, .ref Mr, .ref Mh, .int (nI hp), .int (nI cc), .ref Ma, .ref Mas, .ref Msn, .ref Mac, .ref Mat])), (Mn, .inl (g 0, 1767, .inl fno))] sz)) 0 0 (va_A [(Mm, .inr (7, [.int zth, .ref Mt, .int (nI tp), .int zma, .int zwr, .ref Mrr, .ref Mrh, .ref Mrc, .int zrh, .int zrc, .ref Mn, .ref Mf, .ref Mr, .ref Mh, .int (nI hp), .int (nI cc), .ref Ma, .ref Mas, .ref Msn, .ref Mac, .ref Mat])), (Mn, .inl (g 0, 1767, .inl fno))] sz) := by
  refine Met.ofW (cc := cX7_buffer) (maxL := 3) (ret := (some .int)) (by decide) rfl ?_
  intro p e s m args below meth c s₁ B hml hv
  obtain ⟨rfl, hsz, hP, ⟨hK, hN⟩, hD0, hZ⟩ := hv
  have hx := B.exec
  have hb := B.bytes
  have hr := B.returns
  have hts := atoms_spec (ws := wsX7_buffer) B.pre
  have hown : s.vm.findClass RX7 = some m.cls := findClass_of_methodNamed B.named
  have hlocks := B.notSynchronized
  clear B
  subst hsz
  have hD := hD0.self (sz := s.heap.size)
  clear hD0
  generalize hAe : va_A [(Mm, .inr (7, [.int zth, .ref Mt, .int (nI tp), .int zma, .int zwr, .ref Mrr, .ref Mrh, .ref Mrc, .int zrh, .int zrc, .ref Mn, .ref Mf, .ref Mr, .ref Mh, .int (nI hp), .int (nI cc), .ref Ma, .ref Mas, .ref Msn, .ref Mac, .ref Mat])), (Mn, .inl (g 0, 1767, .inl fno))] s.heap.size = A at hD hZ ⊢
  have hA : ∀ q : Nat, s.heap.size ≤ q → A q := fun q h => by rw [← hAe]; exact Or.inr h
  have hS : va_S A s.heap s.heap [] := va_S.rf
  have f22 := hts (.fieldLink RX7 22 "HopCreditsModel" "now" "[I") (List.mem_of_getElem? (i := 2) rfl)
  have f49 := hts (.fieldLink RX7 49 "HopCreditsModel" "thrown" "I") (List.mem_of_getElem? (i := 1) rfl)
  have iX7 : ∀ w ∈ u_ws RX7 TX7 21, w ∈ wsX7_buffer := fun w h => List.mem_cons_of_mem _ (List.mem_append_right _ (h))
  have hl := lv_entry ([.ref Mm, .int zn, .int zc]) (n := 3) (Nat.le_of_ble_eq_true rfl)
  rw [lg_entry_eq]
  generalize (lg_sl ([.ref Mm, .int zn, .int zc]) ++ List.replicate (3 - (lg_sl ([.ref Mm, .int zn, .int zc])).length) Slot.unset).toArray = ls at hl ⊢
  have hl : lv_has ls 3 [(0, .ref Mm), (1, .int zn), (2, .int zc)] := hl
  generalize hQ : MQ below _ _ s _ _ _ = Q
  generalize hH : s.heap = H at hP ⊢
  have hS : va_S A s.heap H [] := by rw [← hH]; exact hS
  clear hH
  refine lv_aload_n hx hb dX7_buffer_0 rfl (lv_at hl 0 rfl) ?_
  refine lv_iconst (v := 0) hx hb dX7_buffer_1 (by decide) ?_
  refine va_put (D := D) (ci := 7) (v := .int 0) (ty := .int) (C := RX7) (T := TX7) (N := 21) hx hb hts iX7 tyX7 tyX7_ok nmX7 hown hK hP hD hS 0 rfl rfl 0 (by decide) f49 (fun _ h9 => h9) rfl (by decide +kernel) (rfl) (rfl) (Nat.le_of_ble_eq_true rfl) dX7_buffer_2 (fun H locs hP2 hD2 hS2 => ?_)
  clear hP hD hS
  have hPD : PD D A [(Mm, .inr (7, [.int 0, .ref Mt, .int (nI tp), .int zma, .int zwr, .ref Mrr, .ref Mrh, .ref Mrc, .int zrh, .int zrc, .ref Mn, .ref Mf, .ref Mr, .ref Mh, .int (nI hp), .int (nI cc), .ref Ma, .ref Mas, .ref Msn, .ref Mac, .ref Mat])), (Mn, .inl (g 0, 1767, .inl fno))] H := ⟨hP2, hD2⟩
  have hS := hS2; clear hP2 hD2 hS2; have hP := hPD.1; have hD := hPD.2; clear hPD
  refine lv_aload_n hx hb dX7_buffer_5 rfl (lv_at hl 0 rfl) ?_
  refine lv_iload_n hx hb dX7_buffer_6 rfl (lv_at hl 1 rfl) ?_
  refine ky_Vi (As := [.int zn]) (rest := []) ⟨hx, hb, hml, hown, hts⟩ ⟨hK, hN⟩ hZ hP hD hS hA [0] [1] (wc := [(Mm, .inr (7, [.int 0, .ref Mt, .int (nI tp), .int zma, .int zwr, .ref Mrr, .ref Mrh, .ref Mrc, .int zrh, .int zrc, .ref Mn, .ref Mf, .ref Mr, .ref Mh, .int (nI hp), .int (nI cc), .ref Ma, .ref Mas, .ref Msn, .ref Mac, .ref Mat]))]) (wr := [(Mn, .inl (g 0, 1767, .inl fno))]) rfl rfl rfl rfl (by decide) (k_X7_isNode l D g H.size Mm zn 0 Mt tp zma zwr Mrr Mrh Mrc zrh zrc Mn Mf Mr Mh hp cc Ma Mas Msn Mac Mat (show 1 ≤ hp by omega) (show hp ≤ 3 by omega)) (cwV 1 hts gX7_buffer_X7_isNode rfl rfl rfl (by decide +kernel) ⟨(Nat.le_of_ble_eq_true rfl), (Nat.le_of_ble_eq_true rfl)⟩) 0 7 rfl rfl rfl rfl hl.1 rfl (Nat.le_of_ble_eq_true rfl) dX7_buffer_7 ⟨(Nat.le_of_ble_eq_true rfl), (Nat.le_of_ble_eq_true rfl)⟩ (fun r_1 u H locs hw hP2 hD2 hS2 => ?_)
  clear hP hD hS
  obtain ⟨rfl, rfl⟩ := hw
  have hPD : PD D A [(Mn, .inl (g 0, 1767, .inl fno)), (Mm, .inr (7, [.int 0, .ref Mt, .int (nI tp), .int zma, .int zwr, .ref Mrr, .ref Mrh, .ref Mrc, .int zrh, .int zrc, .ref Mn, .ref Mf, .ref Mr, .ref Mh, .int (nI hp), .int (nI cc), .ref Ma, .ref Mas, .ref Msn, .ref Mac, .ref Mat]))] H := ⟨hP2, hD2⟩
  have hS := hS2; clear hP2 hD2 hS2; have hP := hPD.1; have hD := hPD.2; clear hPD
  refine W.widen (k := 0) (n := 0) (Nat.le_of_ble_eq_true rfl) (Nat.le_of_ble_eq_true rfl) ?_
  refine lv_if_eq (tgt := 34) hx hb dX7_buffer_10 (by decide) (fun cb_2 => ?_) (fun cb_2 => ?_)
  · skip
    have hq_3 : ¬ (0 ≤ zn ∧ zn ≤ (nI hp)) := b01_0.mp cb_2
    refine lv_iconst (v := (-1)) hx hb dX7_buffer_34 (by decide) ?_
    have hPD9 : PD D A [(Mm, .inr (7, [.int 0, .ref Mt, .int (nI tp), .int zma, .int zwr, .ref Mrr, .ref Mrh, .ref Mrc, .int zrh, .int zrc, .ref Mn, .ref Mf, .ref Mr, .ref Mh, .int (nI hp), .int (nI cc), .ref Ma, .ref Mas, .ref Msn, .ref Mac, .ref Mat])), (Mn, .inl (g 0, 1767, .inl fno))] H := ⟨hP.sub [1, 0] rfl, hD.sub [1, 0] (by decide) rfl⟩
    have hP9 := hPD9.1; have hD9 := hPD9.2
    subst hQ
    refine W.widen (k := 0) (n := 0) (Nat.le_of_ble_eq_true rfl) (Nat.le_of_ble_eq_true rfl) ?_
    exact W.iret (v := (-1)) hx hb hr (fun tS htS _ => ⟨⟨_, _, rfl, ⟨0, rfl⟩, by rw [htS]; exact hP9, hD9⟩, hS.F htS⟩) hS.2.2 dX7_buffer_35
  · skip
    have hq_4 : 0 ≤ zn ∧ zn ≤ (nI hp) := b01_1.mp cb_2
    have hPq_8 := hP; have hDq_8 := hD; have hSq_8 := hS; have hlq_8 := hl; clear hP hD hS hl
    obtain ⟨j_5, hl_6, hu_7, rfl⟩ := rg (L := 0) (U := hp) rfl rfl (show 0 < 2 ^ 31 by omega) (show hp < 2 ^ 31 by omega) hq_4
    have hP := hPq_8; have hD := hDq_8; have hS := hSq_8; have hl := hlq_8; clear hPq_8 hDq_8 hSq_8 hlq_8
    refine lv_aload_n hx hb dX7_buffer_13 rfl (lv_at hl 0 rfl) ?_
    refine lv_iload_n hx hb dX7_buffer_14 rfl (lv_at hl 2 rfl) ?_
    refine ky_Vi (As := [.int zc]) (rest := []) ⟨hx, hb, hml, hown, hts⟩ ⟨hK, hN⟩ hZ hP hD hS hA [1] [0] (wc := [(Mm, .inr (7, [.int 0, .ref Mt, .int (nI tp), .int zma, .int zwr, .ref Mrr, .ref Mrh, .ref Mrc, .int zrh, .int zrc, .ref Mn, .ref Mf, .ref Mr, .ref Mh, .int (nI hp), .int (nI cc), .ref Ma, .ref Mas, .ref Msn, .ref Mac, .ref Mat]))]) (wr := [(Mn, .inl (g 0, 1767, .inl fno))]) rfl rfl rfl rfl (by decide) (k_X7_isCircuit l D g H.size Mm zc 0 Mt tp zma zwr Mrr Mrh Mrc zrh zrc Mn Mf Mr Mh hp cc Ma Mas Msn Mac Mat (show 1 ≤ cc by omega) (show cc ≤ 3 by omega)) (cwV 1 hts gX7_buffer_X7_isCircuit rfl rfl rfl (by decide +kernel) ⟨(Nat.le_of_ble_eq_true rfl), (Nat.le_of_ble_eq_true rfl)⟩) 1 7 rfl rfl rfl rfl hl.1 rfl (Nat.le_of_ble_eq_true rfl) dX7_buffer_15 ⟨(Nat.le_of_ble_eq_true rfl), (Nat.le_of_ble_eq_true rfl)⟩ (fun r_9 u H locs hw hP2 hD2 hS2 => ?_)
    clear hP hD hS
    obtain ⟨rfl, rfl⟩ := hw
    have hPD : PD D A [(Mn, .inl (g 0, 1767, .inl fno)), (Mm, .inr (7, [.int 0, .ref Mt, .int (nI tp), .int zma, .int zwr, .ref Mrr, .ref Mrh, .ref Mrc, .int zrh, .int zrc, .ref Mn, .ref Mf, .ref Mr, .ref Mh, .int (nI hp), .int (nI cc), .ref Ma, .ref Mas, .ref Msn, .ref Mac, .ref Mat]))] H := ⟨hP2, hD2⟩
    have hS := hS2; clear hP2 hD2 hS2; have hP := hPD.1; have hD := hPD.2; clear hPD
    refine W.widen (k := 0) (n := 0) (Nat.le_of_ble_eq_true rfl) (Nat.le_of_ble_eq_true rfl) ?_
    refine lv_if_eq (tgt := 34) hx hb dX7_buffer_18 (by decide) (fun cb_10 => ?_) (fun cb_10 => ?_)
    · skip
      have hq_11 : ¬ (0 ≤ zc ∧ zc ≤ (nI (cc - 1))) := b01_0.mp cb_10
      refine lv_iconst (v := (-1)) hx hb dX7_buffer_34 (by decide) ?_
      have hPD9 : PD D A [(Mm, .inr (7, [.int 0, .ref Mt, .int (nI tp), .int zma, .int zwr, .ref Mrr, .ref Mrh, .ref Mrc, .int zrh, .int zrc, .ref Mn, .ref Mf, .ref Mr, .ref Mh, .int (nI hp), .int (nI cc), .ref Ma, .ref Mas, .ref Msn, .ref Mac, .ref Mat])), (Mn, .inl (g 0, 1767, .inl fno))] H := ⟨hP.sub [1, 0] rfl, hD.sub [1, 0] (by decide) rfl⟩
      have hP9 := hPD9.1; have hD9 := hPD9.2
      subst hQ
      refine W.widen (k := 0) (n := 0) (Nat.le_of_ble_eq_true rfl) (Nat.le_of_ble_eq_true rfl) ?_
      exact W.iret (v := (-1)) hx hb hr (fun tS htS _ => ⟨⟨_, _, rfl, ⟨0, rfl⟩, by rw [htS]; exact hP9, hD9⟩, hS.F htS⟩) hS.2.2 dX7_buffer_35
    · skip
      have hq_12 : 0 ≤ zc ∧ zc ≤ (nI (cc - 1)) := b01_1.mp cb_10
      have hPq_16 := hP; have hDq_16 := hD; have hSq_16 := hS; have hlq_16 := hl; clear hP hD hS hl
      obtain ⟨j_13, hl_14, hu_15, rfl⟩ := rg (L := 0) (U := cc - 1) rfl rfl (show 0 < 2 ^ 31 by omega) (show cc - 1 < 2 ^ 31 by omega) hq_12
      have hP := hPq_16; have hD := hDq_16; have hS := hSq_16; have hl := hlq_16; clear hPq_16 hDq_16 hSq_16 hlq_16
      refine lv_aload_n hx hb dX7_buffer_21 rfl (lv_at hl 0 rfl) ?_
      refine va_get (D := D) (ci := 7) (v := .ref Mn) (C := RX7) (T := TX7) (N := 21) hx hb hts iX7 hown hK hP 1 rfl rfl 10 (by decide) f22 (fun _ h9 => h9) rfl dX7_buffer_22 ?_
      refine lv_iload_n hx hb dX7_buffer_25 rfl (lv_at hl 1 rfl) ?_
      refine lv_iload_n hx hb dX7_buffer_26 rfl (lv_at hl 2 rfl) ?_
      refine ky_Si (As := [.int (nI j_5), .int (nI j_13)]) (rest := [.ref Mn]) ⟨hx, hb, hml, hown, hts⟩ ⟨hK, hN⟩ hZ hP hD hS hA [] [0, 1] (wc := []) (wr := [(Mn, .inl (g 0, 1767, .inl fno)), (Mm, .inr (7, [.int 0, .ref Mt, .int (nI tp), .int zma, .int zwr, .ref Mrr, .ref Mrh, .ref Mrc, .int zrh, .int zrc, .ref Mn, .ref Mf, .ref Mr, .ref Mh, .int (nI hp), .int (nI cc), .ref Ma, .ref Mas, .ref Msn, .ref Mac, .ref Mat]))]) rfl rfl rfl rfl (by decide) (k_X7_bufferAt l D g H.size j_5 j_13 (show j_5 ≤ 3 by omega) (show j_13 < 3 by omega)) (va_cwS 2 hts gX7_buffer_X7_bufferAt rfl rfl rfl (by decide +kernel) ⟨(Nat.le_of_ble_eq_true rfl), (Nat.le_of_ble_eq_true rfl)⟩) rfl hl.1 rfl (Nat.le_of_ble_eq_true rfl) dX7_buffer_27 ⟨(Nat.le_of_ble_eq_true rfl), (Nat.le_of_ble_eq_true rfl)⟩ (fun r_17 u H locs hw hP2 hD2 hS2 => ?_)
      clear hP hD hS
      obtain ⟨rfl, rfl⟩ := hw
      have hPD : PD D A [(Mn, .inl (g 0, 1767, .inl fno)), (Mm, .inr (7, [.int 0, .ref Mt, .int (nI tp), .int zma, .int zwr, .ref Mrr, .ref Mrh, .ref Mrc, .int zrh, .int zrc, .ref Mn, .ref Mf, .ref Mr, .ref Mh, .int (nI hp), .int (nI cc), .ref Ma, .ref Mas, .ref Msn, .ref Mac, .ref Mat]))] H := ⟨hP2, hD2⟩
      have hS := hS2; clear hP2 hD2 hS2; have hP := hPD.1; have hD := hPD.2; clear hPD
      refine W.widen (k := 0) (n := 0) (Nat.le_of_ble_eq_true rfl) (Nat.le_of_ble_eq_true rfl) ?_
      refine va_iald hx hb hK hP 0 0 rfl rfl (vp_in_nI (show 189 + 3 * j_5 + j_13 < 1767 by omega) (by decide)) dX7_buffer_30 ?_
      refine lv_eqi (y := (fno (189 + 3 * j_5 + j_13))) (congrArg fno (nI_clamp (show 189 + 3 * j_5 + j_13 < 2 ^ 31 by omega))) ?_
      refine lv_topi (fun y_18 _ => ?_)
      refine lv_goto (tgt := 35) hx hb dX7_buffer_31 (by decide) ?_
      have hPD9 : PD D A [(Mm, .inr (7, [.int 0, .ref Mt, .int (nI tp), .int zma, .int zwr, .ref Mrr, .ref Mrh, .ref Mrc, .int zrh, .int zrc, .ref Mn, .ref Mf, .ref Mr, .ref Mh, .int (nI hp), .int (nI cc), .ref Ma, .ref Mas, .ref Msn, .ref Mac, .ref Mat])), (Mn, .inl (g 0, 1767, .inl fno))] H := ⟨hP.sub [1, 0] rfl, hD.sub [1, 0] (by decide) rfl⟩
      have hP9 := hPD9.1; have hD9 := hPD9.2
      subst hQ
      refine W.widen (k := 0) (n := 0) (Nat.le_of_ble_eq_true rfl) (Nat.le_of_ble_eq_true rfl) ?_
      exact W.iret (v := y_18) hx hb hr (fun tS htS _ => ⟨⟨_, _, rfl, ⟨0, rfl⟩, by rw [htS]; exact hP9, hD9⟩, hS.F htS⟩) hS.2.2 dX7_buffer_35
