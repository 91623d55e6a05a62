set_option maxHeartbeats 4000000 in
set_option maxRecDepth 100000 in
theorem k_X2_cellsOnOf (l : Launch) (D : va_G) (g : Nat → ClassId) (sz : Nat) (L : Nat) (zq : Int32) (fv : Nat → Int32) (Ac : Nat) (Au : Nat) (Ap : Nat) (Al : Nat) (fc : Nat → Int32) : Met l yX2_cellsOnOf wsX2_cellsOnOf ({ frames := 0, cells := 0, slots := 0, locals := 0 }) (va_Pc [.ref L, .int zq] (pre D g sz [(L, .inr (2, [.int (fv 0), .int (fv 1), .int (fv 2), .int (fv 3), .int (fv 4), .int (fv 5), .ref Ac, .ref Au, .ref Ap, .ref Al])), (Ac, .inl (g 0, 5, .inl fc))])) (va_Qi (fun (r : Int32) (u : va_W) => u = [(L, .inr (2, [.int (fv 0), .int (fv 1), .int (fv 2), .int (fv 3), .int (fv 4), .int (fv 5), .ref Ac, .ref Au, .ref Ap, .ref Al])), (Ac, .inl (g 0, 5, .inl fc))]) (wd D (va_A [(L, .inr (2, [.int (fv 0), .int (fv 1), .int (fv 2), .int (fv 3), .int (fv 4), .int (fv 5), .ref Ac, .ref Au, .ref Ap, .ref Al])), (Ac, .inl (g 0, 5, .inl fc))] sz)) (va_A [(L, .inr (2, [.int (fv 0), .int (fv 1), .int (fv 2), .int (fv 3), .int (fv 4), .int (fv 5), .ref Ac, .ref Au, .ref Ap, .ref Al])), (Ac, .inl (g 0, 5, .inl fc))] sz)) 0 0 (va_A [(L, .inr (2, [.int (fv 0), .int (fv 1), .int (fv 2), .int (fv 3), .int (fv 4), .int (fv 5), .ref Ac, .ref Au, .ref Ap, .ref Al])), (Ac, .inl (g 0, 5, .inl fc))] sz) := by
  refine Met.ofW (cc := cX2_cellsOnOf) (maxL := 4) (ret := (some .int)) (by decide) rfl ?_
  intro p e s m args below meth c s₁ B hml hv
  obtain ⟨rfl, hsz, hP, ⟨hK, hN⟩, hD0, hZ⟩ := hv
  have hx := B.exec
  have hb := B.bytes
  have hr := B.returns
  have hts := atoms_spec (ws := wsX2_cellsOnOf) B.pre
  have hown : s.vm.findClass RX2 = some m.cls := findClass_of_methodNamed B.named
  have hlocks := B.notSynchronized
  clear B
  subst hsz
  have hD := hD0.self (sz := s.heap.size)
  clear hD0
  generalize hAe : va_A [(L, .inr (2, [.int (fv 0), .int (fv 1), .int (fv 2), .int (fv 3), .int (fv 4), .int (fv 5), .ref Ac, .ref Au, .ref Ap, .ref Al])), (Ac, .inl (g 0, 5, .inl fc))] s.heap.size = A at hD hZ ⊢
  have hA : ∀ q : Nat, s.heap.size ≤ q → A q := fun q h => by rw [← hAe]; exact Or.inr h
  have hS : va_S A s.heap s.heap [] := va_S.rf
  have f9 := hts (.fieldLink RX2 9 "HopCredits$Link" "cellAt" "[I") (List.mem_of_getElem? (i := 1) rfl)
  have iX2 : ∀ w ∈ u_ws RX2 TX2 10, w ∈ wsX2_cellsOnOf := fun w h => List.mem_cons_of_mem _ (List.mem_append_right _ (h))
  have hl := lv_entry ([.ref L, .int zq]) (n := 4) (Nat.le_of_ble_eq_true rfl)
  rw [lg_entry_eq]
  generalize (lg_sl ([.ref L, .int zq]) ++ List.replicate (4 - (lg_sl ([.ref L, .int zq])).length) Slot.unset).toArray = ls at hl ⊢
  have hl : lv_has ls 4 [(0, .ref L), (1, .int zq)] := hl
  generalize hQ : MQ below _ _ s _ _ _ = Q
  generalize hH : s.heap = H at hP ⊢
  have hS : va_S A s.heap H [] := by rw [← hH]; exact hS
  clear hH
  refine lv_iconst (v := 0) hx hb dX2_cellsOnOf_0 (by decide) ?_
  refine lv_istore_n (lv' := [(2, .int 0), (0, .ref L), (1, .int zq)]) hx hb dX2_cellsOnOf_1 rfl hl (by decide) rfl (fun ls hl => ?_)
  refine lv_iconst (v := 0) hx hb dX2_cellsOnOf_2 (by decide) ?_
  refine lv_istore_n (lv' := [(3, .int 0), (2, .int 0), (0, .ref L), (1, .int zq)]) hx hb dX2_cellsOnOf_3 rfl hl (by decide) rfl (fun ls hl => ?_)
  have loop_10 : ∀ (Nloop_10 : Nat) (i_3 : Nat) (i_4 : Nat) (hbi_3 : i_3 ≤ 5) (hmloop_10 : 5 - i_3 < Nloop_10) (H : Heap) (locs : List Loc) (ls : Array Slot), va_P D vwCl [(L, .inr (2, [.int (fv 0), .int (fv 1), .int (fv 2), .int (fv 3), .int (fv 4), .int (fv 5), .ref Ac, .ref Au, .ref Ap, .ref Al])), (Ac, .inl (g 0, 5, .inl fc))] H → va_D A [(L, .inr (2, [.int (fv 0), .int (fv 1), .int (fv 2), .int (fv 3), .int (fv 4), .int (fv 5), .ref Ac, .ref Au, .ref Ap, .ref Al])), (Ac, .inl (g 0, 5, .inl fc))] → va_S A s.heap H locs → lv_has ls 4 [(3, .int (nI i_3)), (2, .int (nI i_4)), (0, .ref L), (1, .int zq)] → W p l e (headSpec wsX2_cellsOnOf ({ frames := 0, cells := 0, slots := 0, locals := 0 })).room s m ([.ref L, .int zq] : List Value).toArray below meth c H locs 0 0 Q (F0 m 4 ls []) := by
    clear hP hD hS hl
    intro Nloop_10
    induction Nloop_10 with
    | zero => intro i_3 i_4 hbi_3 hm9; exact absurd hm9 (Nat.not_lt_zero _)
    | succ Nloop_10 loop_10_ih =>
      intro i_3 i_4 hbi_3 hmloop_10 H locs ls hP hD hS hl
      refine lv_iload_n hx hb dX2_cellsOnOf_4 rfl (lv_at hl 0 rfl) ?_
      refine lv_iconst (v := 5) hx hb dX2_cellsOnOf_5 (by decide) ?_
      refine lv_icmp_ge (tgt := 28) hx hb dX2_cellsOnOf_6 (by decide) (fun cb_11 => ?_) (fun cb_11 => ?_)
      · skip
        have cn_12 : 5 ≤ i_3 := (nI_leI (show 5 < 2 ^ 31 by omega) (show i_3 < 2 ^ 31 by omega)).mp cb_11
        refine lv_iload_n hx hb dX2_cellsOnOf_28 rfl (lv_at hl 1 rfl) ?_
        have hP9 := hP; have hD9 := hD
        subst hQ
        refine W.widen (k := 0) (n := 0) (Nat.le_of_ble_eq_true rfl) (Nat.le_of_ble_eq_true rfl) ?_
        exact W.iret (v := (nI i_4)) hx hb hr (fun tS htS _ => ⟨⟨_, _, rfl, rfl, by rw [htS]; exact hP9, hD9⟩, hS.F htS⟩) hS.2.2 dX2_cellsOnOf_29
      · skip
        have cn_13 : i_3 < 5 := Nat.lt_of_not_le (fun q9 => cb_11 ((nI_leI (show 5 < 2 ^ 31 by omega) (show i_3 < 2 ^ 31 by omega)).mpr q9))
        refine lv_aload_n hx hb dX2_cellsOnOf_9 rfl (lv_at hl 2 rfl) ?_
        refine va_get (D := D) (ci := 2) (v := .ref Ac) (C := RX2) (T := TX2) (N := 10) hx hb hts iX2 hown hK hP 0 rfl rfl 6 (by decide) f9 (fun _ h9 => h9) rfl dX2_cellsOnOf_10 ?_
        refine lv_iload_n hx hb dX2_cellsOnOf_13 rfl (lv_at hl 0 rfl) ?_
        refine va_iald hx hb hK hP 1 0 rfl rfl (vp_in_nI (show i_3 < 5 by omega) (by decide)) dX2_cellsOnOf_14 ?_
        refine lv_eqi (y := (fc (i_3))) (congrArg fc (nI_clamp (show i_3 < 2 ^ 31 by omega))) ?_
        refine lv_topi (fun y_14 _ => ?_)
        refine lv_iload_n hx hb dX2_cellsOnOf_15 rfl (lv_at hl 3 rfl) ?_
        refine lv_icmp_ne (tgt := 22) hx hb dX2_cellsOnOf_16 (by decide) (fun cb_15 => ?_) (fun cb_15 => ?_)
        · skip
          refine lv_iinc (v := (nI (i_3 + 1))) (lv' := [(3, .int (nI (i_3 + 1))), (2, .int (nI i_4)), (0, .ref L), (1, .int zq)]) hx hb dX2_cellsOnOf_22 hl (k := 0) rfl (nI_1 (i_3)) (by decide) rfl (fun ls hl => ?_)
          refine lv_goto (tgt := 4) hx hb dX2_cellsOnOf_25 (by decide) ?_
          exact loop_10_ih (i_3 + 1) i_4 (show (i_3 + 1) ≤ 5 by omega) (show 5 - (i_3 + 1) < Nloop_10 by omega) _ _ _ hP hD hS hl
        · skip
          refine lv_iinc (v := (nI (i_4 + 1))) (lv' := [(2, .int (nI (i_4 + 1))), (3, .int (nI i_3)), (0, .ref L), (1, .int zq)]) hx hb dX2_cellsOnOf_19 hl (k := 1) rfl (nI_1 (i_4)) (by decide) rfl (fun ls hl => ?_)
          refine lv_iinc (v := (nI (i_3 + 1))) (lv' := [(3, .int (nI (i_3 + 1))), (2, .int (nI (i_4 + 1))), (0, .ref L), (1, .int zq)]) hx hb dX2_cellsOnOf_22 hl (k := 1) rfl (nI_1 (i_3)) (by decide) rfl (fun ls hl => ?_)
          refine lv_goto (tgt := 4) hx hb dX2_cellsOnOf_25 (by decide) ?_
          exact loop_10_ih (i_3 + 1) (i_4 + 1) (show (i_3 + 1) ≤ 5 by omega) (show 5 - (i_3 + 1) < Nloop_10 by omega) _ _ _ hP hD hS hl
  exact loop_10 _ 0 0 (show 0 ≤ 5 by omega) (Nat.lt_succ_self _) _ _ _ hP hD hS hl

set_option maxHeartbeats 4000000 in
set_option maxRecDepth 100000 in
theorem k_X2_updatesOn (l : Launch) (D : va_G) (g : Nat → ClassId) (sz : Nat) (L : Nat) (fv : Nat → Int32) (Ac : Nat) (Au : Nat) (Ap : Nat) (Al : Nat) (fu : Nat → Int32) : Met l yX2_updatesOn wsX2_updatesOn ({ frames := 0, cells := 0, slots := 0, locals := 0 }) (va_Pc [.ref L] (pre D g sz [(L, .inr (2, [.int (fv 0), .int (fv 1), .int (fv 2), .int (fv 3), .int (fv 4), .int (fv 5), .ref Ac, .ref Au, .ref Ap, .ref Al])), (Au, .inl (g 0, 15, .inl fu))])) (va_Qi (fun (r : Int32) (u : va_W) => u = [(L, .inr (2, [.int (fv 0), .int (fv 1), .int (fv 2), .int (fv 3), .int (fv 4), .int (fv 5), .ref Ac, .ref Au, .ref Ap, .ref Al])), (Au, .inl (g 0, 15, .inl fu))]) (wd D (va_A [(L, .inr (2, [.int (fv 0), .int (fv 1), .int (fv 2), .int (fv 3), .int (fv 4), .int (fv 5), .ref Ac, .ref Au, .ref Ap, .ref Al])), (Au, .inl (g 0, 15, .inl fu))] sz)) (va_A [(L, .inr (2, [.int (fv 0), .int (fv 1), .int (fv 2), .int (fv 3), .int (fv 4), .int (fv 5), .ref Ac, .ref Au, .ref Ap, .ref Al])), (Au, .inl (g 0, 15, .inl fu))] sz)) 0 0 (va_A [(L, .inr (2, [.int (fv 0), .int (fv 1), .int (fv 2), .int (fv 3), .int (fv 4), .int (fv 5), .ref Ac, .ref Au, .ref Ap, .ref Al])), (Au, .inl (g 0, 15, .inl fu))] sz) := by
  refine Met.ofW (cc := cX2_updatesOn) (maxL := 3) (ret := (some .int)) (by decide) rfl ?_
  intro p e s m args below meth c s₁ B hml hv
  obtain ⟨rfl, hsz, hP, ⟨hK, hN⟩, hD0, hZ⟩ := hv
  have hx := B.exec
  have hb := B.bytes
  have hr := B.returns
  have hts := atoms_spec (ws := wsX2_updatesOn) B.pre
  have hown : s.vm.findClass RX2 = some m.cls := findClass_of_methodNamed B.named
  have hlocks := B.notSynchronized
  clear B
  subst hsz
  have hD := hD0.self (sz := s.heap.size)
  clear hD0
  generalize hAe : va_A [(L, .inr (2, [.int (fv 0), .int (fv 1), .int (fv 2), .int (fv 3), .int (fv 4), .int (fv 5), .ref Ac, .ref Au, .ref Ap, .ref Al])), (Au, .inl (g 0, 15, .inl fu))] s.heap.size = A at hD hZ ⊢
  have hA : ∀ q : Nat, s.heap.size ≤ q → A q := fun q h => by rw [← hAe]; exact Or.inr h
  have hS : va_S A s.heap s.heap [] := va_S.rf
  have f15 := hts (.fieldLink RX2 15 "HopCredits$Link" "updateAt" "[I") (List.mem_of_getElem? (i := 1) rfl)
  have iX2 : ∀ w ∈ u_ws RX2 TX2 10, w ∈ wsX2_updatesOn := fun w h => List.mem_cons_of_mem _ (List.mem_append_right _ (h))
  have hl := lv_entry ([.ref L]) (n := 3) (Nat.le_of_ble_eq_true rfl)
  rw [lg_entry_eq]
  generalize (lg_sl ([.ref L]) ++ List.replicate (3 - (lg_sl ([.ref L])).length) Slot.unset).toArray = ls at hl ⊢
  have hl : lv_has ls 3 [(0, .ref L)] := hl
  generalize hQ : MQ below _ _ s _ _ _ = Q
  generalize hH : s.heap = H at hP ⊢
  have hS : va_S A s.heap H [] := by rw [← hH]; exact hS
  clear hH
  refine lv_iconst (v := 0) hx hb dX2_updatesOn_0 (by decide) ?_
  refine lv_istore_n (lv' := [(1, .int 0), (0, .ref L)]) hx hb dX2_updatesOn_1 rfl hl (by decide) rfl (fun ls hl => ?_)
  refine lv_iconst (v := 0) hx hb dX2_updatesOn_2 (by decide) ?_
  refine lv_istore_n (lv' := [(2, .int 0), (1, .int 0), (0, .ref L)]) hx hb dX2_updatesOn_3 rfl hl (by decide) rfl (fun ls hl => ?_)
  have loop_12 : ∀ (Nloop_12 : Nat) (i_4 : Nat) (i_5 : Nat) (hbi_4 : i_4 ≤ 15) (hmloop_12 : 15 - i_4 < Nloop_12) (H : Heap) (locs : List Loc) (ls : Array Slot), va_P D vwCl [(L, .inr (2, [.int (fv 0), .int (fv 1), .int (fv 2), .int (fv 3), .int (fv 4), .int (fv 5), .ref Ac, .ref Au, .ref Ap, .ref Al])), (Au, .inl (g 0, 15, .inl fu))] H → va_D A [(L, .inr (2, [.int (fv 0), .int (fv 1), .int (fv 2), .int (fv 3), .int (fv 4), .int (fv 5), .ref Ac, .ref Au, .ref Ap, .ref Al])), (Au, .inl (g 0, 15, .inl fu))] → va_S A s.heap H locs → lv_has ls 3 [(2, .int (nI i_4)), (1, .int (nI i_5)), (0, .ref L)] → W p l e (headSpec wsX2_updatesOn ({ frames := 0, cells := 0, slots := 0, locals := 0 })).room s m ([.ref L] : List Value).toArray below meth c H locs 0 0 Q (F0 m 4 ls []) := by
    clear hP hD hS hl
    intro Nloop_12
    induction Nloop_12 with
    | zero => intro i_4 i_5 hbi_4 hm9; exact absurd hm9 (Nat.not_lt_zero _)
    | succ Nloop_12 loop_12_ih =>
      intro i_4 i_5 hbi_4 hmloop_12 H locs ls hP hD hS hl
      refine lv_iload_n hx hb dX2_updatesOn_4 rfl (lv_at hl 0 rfl) ?_
      refine lv_bipush (v := 15) hx hb dX2_updatesOn_5 (by decide) ?_
      refine lv_icmp_ge (tgt := 29) hx hb dX2_updatesOn_7 (by decide) (fun cb_13 => ?_) (fun cb_13 => ?_)
      · skip
        have cn_14 : 15 ≤ i_4 := (nI_leI (show 15 < 2 ^ 31 by omega) (show i_4 < 2 ^ 31 by omega)).mp cb_13
        refine lv_iload_n hx hb dX2_updatesOn_29 rfl (lv_at hl 1 rfl) ?_
        have hP9 := hP; have hD9 := hD
        subst hQ
        refine W.widen (k := 0) (n := 0) (Nat.le_of_ble_eq_true rfl) (Nat.le_of_ble_eq_true rfl) ?_
        exact W.iret (v := (nI i_5)) hx hb hr (fun tS htS _ => ⟨⟨_, _, rfl, rfl, by rw [htS]; exact hP9, hD9⟩, hS.F htS⟩) hS.2.2 dX2_updatesOn_30
      · skip
        have cn_15 : i_4 < 15 := Nat.lt_of_not_le (fun q9 => cb_13 ((nI_leI (show 15 < 2 ^ 31 by omega) (show i_4 < 2 ^ 31 by omega)).mpr q9))
        refine lv_aload_n hx hb dX2_updatesOn_10 rfl (lv_at hl 2 rfl) ?_
        refine va_get (D := D) (ci := 2) (v := .ref Au) (C := RX2) (T := TX2) (N := 10) hx hb hts iX2 hown hK hP 0 rfl rfl 7 (by decide) f15 (fun _ h9 => h9) rfl dX2_updatesOn_11 ?_
        refine lv_iload_n hx hb dX2_updatesOn_14 rfl (lv_at hl 0 rfl) ?_
        refine va_iald hx hb hK hP 1 0 rfl rfl (vp_in_nI (show i_4 < 15 by omega) (by decide)) dX2_updatesOn_15 ?_
        refine lv_eqi (y := (fu (i_4))) (congrArg fu (nI_clamp (show i_4 < 2 ^ 31 by omega))) ?_
        refine lv_topi (fun y_16 _ => ?_)
        refine lv_iconst (v := (-1)) hx hb dX2_updatesOn_16 (by decide) ?_
        refine lv_icmp_eq (tgt := 23) hx hb dX2_updatesOn_17 (by decide) (fun cb_17 => ?_) (fun cb_17 => ?_)
        · skip
          have hPq_18 := hP; have hDq_18 := hD; have hSq_18 := hS; have hlq_18 := hl; clear hP hD hS hl
          subst cb_17
          have hP := hPq_18; have hD := hDq_18; have hS := hSq_18; have hl := hlq_18; clear hPq_18 hDq_18 hSq_18 hlq_18
          refine lv_iinc (v := (nI (i_4 + 1))) (lv' := [(2, .int (nI (i_4 + 1))), (1, .int (nI i_5)), (0, .ref L)]) hx hb dX2_updatesOn_23 hl (k := 0) rfl (nI_1 (i_4)) (by decide) rfl (fun ls hl => ?_)
          refine lv_goto (tgt := 4) hx hb dX2_updatesOn_26 (by decide) ?_
          exact loop_12_ih (i_4 + 1) i_5 (show (i_4 + 1) ≤ 15 by omega) (show 15 - (i_4 + 1) < Nloop_12 by omega) _ _ _ hP hD hS hl
        · skip
          refine lv_iinc (v := (nI (i_5 + 1))) (lv' := [(1, .int (nI (i_5 + 1))), (2, .int (nI i_4)), (0, .ref L)]) hx hb dX2_updatesOn_20 hl (k := 1) rfl (nI_1 (i_5)) (by decide) rfl (fun ls hl => ?_)
          refine lv_iinc (v := (nI (i_4 + 1))) (lv' := [(2, .int (nI (i_4 + 1))), (1, .int (nI (i_5 + 1))), (0, .ref L)]) hx hb dX2_updatesOn_23 hl (k := 1) rfl (nI_1 (i_4)) (by decide) rfl (fun ls hl => ?_)
          refine lv_goto (tgt := 4) hx hb dX2_updatesOn_26 (by decide) ?_
          exact loop_12_ih (i_4 + 1) (i_5 + 1) (show (i_4 + 1) ≤ 15 by omega) (show 15 - (i_4 + 1) < Nloop_12 by omega) _ _ _ hP hD hS hl
  exact loop_12 _ 0 0 (show 0 ≤ 15 by omega) (Nat.lt_succ_self _) _ _ _ hP hD hS hl

set_option maxHeartbeats 4000000 in
set_option maxRecDepth 100000 in
theorem k_X2_probesOn (l : Launch) (D : va_G) (g : Nat → ClassId) (sz : Nat) (L : Nat) (fv : Nat → Int32) (Ac : Nat) (Au : Nat) (Ap : Nat) (Al : Nat) (fp : Nat → Int32) : Met l yX2_probesOn wsX2_probesOn ({ frames := 0, cells := 0, slots := 0, locals := 0 }) (va_Pc [.ref L] (pre D g sz [(L, .inr (2, [.int (fv 0), .int (fv 1), .int (fv 2), .int (fv 3), .int (fv 4), .int (fv 5), .ref Ac, .ref Au, .ref Ap, .ref Al])), (Ap, .inl (g 0, 15, .inl fp))])) (va_Qi (fun (r : Int32) (u : va_W) => u = [(L, .inr (2, [.int (fv 0), .int (fv 1), .int (fv 2), .int (fv 3), .int (fv 4), .int (fv 5), .ref Ac, .ref Au, .ref Ap, .ref Al])), (Ap, .inl (g 0, 15, .inl fp))]) (wd D (va_A [(L, .inr (2, [.int (fv 0), .int (fv 1), .int (fv 2), .int (fv 3), .int (fv 4), .int (fv 5), .ref Ac, .ref Au, .ref Ap, .ref Al])), (Ap, .inl (g 0, 15, .inl fp))] sz)) (va_A [(L, .inr (2, [.int (fv 0), .int (fv 1), .int (fv 2), .int (fv 3), .int (fv 4), .int (fv 5), .ref Ac, .ref Au, .ref Ap, .ref Al])), (Ap, .inl (g 0, 15, .inl fp))] sz)) 0 0 (va_A [(L, .inr (2, [.int (fv 0), .int (fv 1), .int (fv 2), .int (fv 3), .int (fv 4), .int (fv 5), .ref Ac, .ref Au, .ref Ap, .ref Al])), (Ap, .inl (g 0, 15, .inl fp))] sz) := by
  refine Met.ofW (cc := cX2_probesOn) (maxL := 3) (ret := (some .int)) (by decide) rfl ?_
  intro p e s m args below meth c s₁ B hml hv
  obtain ⟨rfl, hsz, hP, ⟨hK, hN⟩, hD0, hZ⟩ := hv
  have hx := B.exec
  have hb := B.bytes
  have hr := B.returns
  have hts := atoms_spec (ws := wsX2_probesOn) B.pre
  have hown : s.vm.findClass RX2 = some m.cls := findClass_of_methodNamed B.named
  have hlocks := B.notSynchronized
  clear B
  subst hsz
  have hD := hD0.self (sz := s.heap.size)
  clear hD0
  generalize hAe : va_A [(L, .inr (2, [.int (fv 0), .int (fv 1), .int (fv 2), .int (fv 3), .int (fv 4), .int (fv 5), .ref Ac, .ref Au, .ref Ap, .ref Al])), (Ap, .inl (g 0, 15, .inl fp))] s.heap.size = A at hD hZ ⊢
  have hA : ∀ q : Nat, s.heap.size ≤ q → A q := fun q h => by rw [← hAe]; exact Or.inr h
  have hS : va_S A s.heap s.heap [] := va_S.rf
  have f18 := hts (.fieldLink RX2 18 "HopCredits$Link" "probesAt" "[I") (List.mem_of_getElem? (i := 1) rfl)
  have iX2 : ∀ w ∈ u_ws RX2 TX2 10, w ∈ wsX2_probesOn := fun w h => List.mem_cons_of_mem _ (List.mem_append_right _ (h))
  have hl := lv_entry ([.ref L]) (n := 3) (Nat.le_of_ble_eq_true rfl)
  rw [lg_entry_eq]
  generalize (lg_sl ([.ref L]) ++ List.replicate (3 - (lg_sl ([.ref L])).length) Slot.unset).toArray = ls at hl ⊢
  have hl : lv_has ls 3 [(0, .ref L)] := hl
  generalize hQ : MQ below _ _ s _ _ _ = Q
  generalize hH : s.heap = H at hP ⊢
  have hS : va_S A s.heap H [] := by rw [← hH]; exact hS
  clear hH
  refine lv_iconst (v := 0) hx hb dX2_probesOn_0 (by decide) ?_
  refine lv_istore_n (lv' := [(1, .int 0), (0, .ref L)]) hx hb dX2_probesOn_1 rfl hl (by decide) rfl (fun ls hl => ?_)
  refine lv_iconst (v := 0) hx hb dX2_probesOn_2 (by decide) ?_
  refine lv_istore_n (lv' := [(2, .int 0), (1, .int 0), (0, .ref L)]) hx hb dX2_probesOn_3 rfl hl (by decide) rfl (fun ls hl => ?_)
  have loop_10 : ∀ (Nloop_10 : Nat) (i_3 : Nat) (i_4 : Int32) (hbi_3 : i_3 ≤ 15) (hmloop_10 : 15 - i_3 < Nloop_10) (H : Heap) (locs : List Loc) (ls : Array Slot), va_P D vwCl [(L, .inr (2, [.int (fv 0), .int (fv 1), .int (fv 2), .int (fv 3), .int (fv 4), .int (fv 5), .ref Ac, .ref Au, .ref Ap, .ref Al])), (Ap, .inl (g 0, 15, .inl fp))] H → va_D A [(L, .inr (2, [.int (fv 0), .int (fv 1), .int (fv 2), .int (fv 3), .int (fv 4), .int (fv 5), .ref Ac, .ref Au, .ref Ap, .ref Al])), (Ap, .inl (g 0, 15, .inl fp))] → va_S A s.heap H locs → lv_has ls 3 [(2, .int (nI i_3)), (1, .int i_4), (0, .ref L)] → W p l e (headSpec wsX2_probesOn ({ frames := 0, cells := 0, slots := 0, locals := 0 })).room s m ([.ref L] : List Value).toArray below meth c H locs 0 0 Q (F0 m 4 ls []) := by
    clear hP hD hS hl
    intro Nloop_10
    induction Nloop_10 with
    | zero => intro i_3 i_4 hbi_3 hm9; exact absurd hm9 (Nat.not_lt_zero _)
    | succ Nloop_10 loop_10_ih =>
      intro i_3 i_4 hbi_3 hmloop_10 H locs ls hP hD hS hl
      refine lv_iload_n hx hb dX2_probesOn_4 rfl (lv_at hl 0 rfl) ?_
      refine lv_bipush (v := 15) hx hb dX2_probesOn_5 (by decide) ?_
      refine lv_icmp_ge (tgt := 25) hx hb dX2_probesOn_7 (by decide) (fun cb_11 => ?_) (fun cb_11 => ?_)
      · skip
        have cn_12 : 15 ≤ i_3 := (nI_leI (show 15 < 2 ^ 31 by omega) (show i_3 < 2 ^ 31 by omega)).mp cb_11
        refine lv_iload_n hx hb dX2_probesOn_25 rfl (lv_at hl 1 rfl) ?_
        have hP9 := hP; have hD9 := hD
        subst hQ
        refine W.widen (k := 0) (n := 0) (Nat.le_of_ble_eq_true rfl) (Nat.le_of_ble_eq_true rfl) ?_
        exact W.iret (v := i_4) hx hb hr (fun tS htS _ => ⟨⟨_, _, rfl, rfl, by rw [htS]; exact hP9, hD9⟩, hS.F htS⟩) hS.2.2 dX2_probesOn_26
      · skip
        have cn_13 : i_3 < 15 := Nat.lt_of_not_le (fun q9 => cb_11 ((nI_leI (show 15 < 2 ^ 31 by omega) (show i_3 < 2 ^ 31 by omega)).mpr q9))
        refine lv_iload_n hx hb dX2_probesOn_10 rfl (lv_at hl 1 rfl) ?_
        refine lv_aload_n hx hb dX2_probesOn_11 rfl (lv_at hl 2 rfl) ?_
        refine va_get (D := D) (ci := 2) (v := .ref Ap) (C := RX2) (T := TX2) (N := 10) hx hb hts iX2 hown hK hP 0 rfl rfl 8 (by decide) f18 (fun _ h9 => h9) rfl dX2_probesOn_12 ?_
        refine lv_iload_n hx hb dX2_probesOn_15 rfl (lv_at hl 0 rfl) ?_
        refine va_iald hx hb hK hP 1 0 rfl rfl (vp_in_nI (show i_3 < 15 by omega) (by decide)) dX2_probesOn_16 ?_
        refine lv_eqi (y := (fp (i_3))) (congrArg fp (nI_clamp (show i_3 < 2 ^ 31 by omega))) ?_
        refine lv_topi (fun y_14 _ => ?_)
        refine lv_iadd hx hb dX2_probesOn_17 ?_
        refine lv_topi (fun y_15 _ => ?_)
        refine lv_istore_n (lv' := [(1, .int y_15), (2, .int (nI i_3)), (0, .ref L)]) hx hb dX2_probesOn_18 rfl hl (by decide) rfl (fun ls hl => ?_)
        refine lv_iinc (v := (nI (i_3 + 1))) (lv' := [(2, .int (nI (i_3 + 1))), (1, .int y_15), (0, .ref L)]) hx hb dX2_probesOn_19 hl (k := 1) rfl (nI_1 (i_3)) (by decide) rfl (fun ls hl => ?_)
        refine lv_goto (tgt := 4) hx hb dX2_probesOn_22 (by decide) ?_
        exact loop_10_ih (i_3 + 1) y_15 (show (i_3 + 1) ≤ 15 by omega) (show 15 - (i_3 + 1) < Nloop_10 by omega) _ _ _ hP hD hS hl
  exact loop_10 _ 0 0 (show 0 ≤ 15 by omega) (Nat.lt_succ_self _) _ _ _ hP hD hS hl

set_option maxHeartbeats 4000000 in
set_option maxRecDepth 100000 in
theorem k_X2_probeBits (l : Launch) (D : va_G) (g : Nat → ClassId) (sz : Nat) (L : Nat) (jx : Nat) (fv : Nat → Int32) (Ac : Nat) (Au : Nat) (Ap : Nat) (Al : Nat) (fp : Nat → Int32) (h0 : jx < 5) : Met l yX2_probeBits wsX2_probeBits ({ frames := 0, cells := 0, slots := 0, locals := 0 }) (va_Pc [.ref L, .int (nI jx)] (pre D g sz [(L, .inr (2, [.int (fv 0), .int (fv 1), .int (fv 2), .int (fv 3), .int (fv 4), .int (fv 5), .ref Ac, .ref Au, .ref Ap, .ref Al])), (Ap, .inl (g 0, 15, .inl fp))])) (va_Qi (fun (r : Int32) (u : va_W) => u = [(L, .inr (2, [.int (fv 0), .int (fv 1), .int (fv 2), .int (fv 3), .int (fv 4), .int (fv 5), .ref Ac, .ref Au, .ref Ap, .ref Al])), (Ap, .inl (g 0, 15, .inl fp))]) (wd D (va_A [(L, .inr (2, [.int (fv 0), .int (fv 1), .int (fv 2), .int (fv 3), .int (fv 4), .int (fv 5), .ref Ac, .ref Au, .ref Ap, .ref Al])), (Ap, .inl (g 0, 15, .inl fp))] sz)) (va_A [(L, .inr (2, [.int (fv 0), .int (fv 1), .int (fv 2), .int (fv 3), .int (fv 4), .int (fv 5), .ref Ac, .ref Au, .ref Ap, .ref Al])), (Ap, .inl (g 0, 15, .inl fp))] sz)) 0 0 (va_A [(L, .inr (2, [.int (fv 0), .int (fv 1), .int (fv 2), .int (fv 3), .int (fv 4), .int (fv 5), .ref Ac, .ref Au, .ref Ap, .ref Al])), (Ap, .inl (g 0, 15, .inl fp))] sz) := by
  refine Met.ofW (cc := cX2_probeBits) (maxL := 4) (ret := (some .int)) (by decide) rfl ?_
  intro p e s m args below meth c s₁ B hml hv
  obtain ⟨rfl, hsz, hP, ⟨hK, hN⟩, hD0, hZ⟩ := hv
  have hx := B.exec
  have hb := B.bytes
  have hr := B.returns
  have hts := atoms_spec (ws := wsX2_probeBits) B.pre
  have hown : s.vm.findClass RX2 = some m.cls := findClass_of_methodNamed B.named
  have hlocks := B.notSynchronized
  clear B
  subst hsz
  have hD := hD0.self (sz := s.heap.size)
  clear hD0
  generalize hAe : va_A [(L, .inr (2, [.int (fv 0), .int (fv 1), .int (fv 2), .int (fv 3), .int (fv 4), .int (fv 5), .ref Ac, .ref Au, .ref Ap, .ref Al])), (Ap, .inl (g 0, 15, .inl fp))] s.heap.size = A at hD hZ ⊢
  have hA : ∀ q : Nat, s.heap.size ≤ q → A q := fun q h => by rw [← hAe]; exact Or.inr h
  have hS : va_S A s.heap s.heap [] := va_S.rf
  have f18 := hts (.fieldLink RX2 18 "HopCredits$Link" "probesAt" "[I") (List.mem_of_getElem? (i := 1) rfl)
  have iX2 : ∀ w ∈ u_ws RX2 TX2 10, w ∈ wsX2_probeBits := fun w h => List.mem_cons_of_mem _ (List.mem_append_right _ (h))
  have hl := lv_entry ([.ref L, .int (nI jx)]) (n := 4) (Nat.le_of_ble_eq_true rfl)
  rw [lg_entry_eq]
  generalize (lg_sl ([.ref L, .int (nI jx)]) ++ List.replicate (4 - (lg_sl ([.ref L, .int (nI jx)])).length) Slot.unset).toArray = ls at hl ⊢
  have hl : lv_has ls 4 [(0, .ref L), (1, .int (nI jx))] := hl
  generalize hQ : MQ below _ _ s _ _ _ = Q
  generalize hH : s.heap = H at hP ⊢
  have hS : va_S A s.heap H [] := by rw [← hH]; exact hS
  clear hH
  refine lv_iconst (v := 0) hx hb dX2_probeBits_0 (by decide) ?_
  refine lv_istore_n (lv' := [(2, .int 0), (0, .ref L), (1, .int (nI jx))]) hx hb dX2_probeBits_1 rfl hl (by decide) rfl (fun ls hl => ?_)
  refine lv_iconst (v := 0) hx hb dX2_probeBits_2 (by decide) ?_
  refine lv_istore_n (lv' := [(3, .int 0), (2, .int 0), (0, .ref L), (1, .int (nI jx))]) hx hb dX2_probeBits_3 rfl hl (by decide) rfl (fun ls hl => ?_)
  have loop_19 : ∀ (Nloop_19 : Nat) (i_3 : Nat) (i_4 : Int32) (hbi_3 : i_3 ≤ 3) (hmloop_19 : 3 - i_3 < Nloop_19) (H : Heap) (locs : List Loc) (ls : Array Slot), va_P D vwCl [(L, .inr (2, [.int (fv 0), .int (fv 1), .int (fv 2), .int (fv 3), .int (fv 4), .int (fv 5), .ref Ac, .ref Au, .ref Ap, .ref Al])), (Ap, .inl (g 0, 15, .inl fp))] H → va_D A [(L, .inr (2, [.int (fv 0), .int (fv 1), .int (fv 2), .int (fv 3), .int (fv 4), .int (fv 5), .ref Ac, .ref Au, .ref Ap, .ref Al])), (Ap, .inl (g 0, 15, .inl fp))] → va_S A s.heap H locs → lv_has ls 4 [(3, .int (nI i_3)), (2, .int i_4), (0, .ref L), (1, .int (nI jx))] → W p l e (headSpec wsX2_probeBits ({ frames := 0, cells := 0, slots := 0, locals := 0 })).room s m ([.ref L, .int (nI jx)] : List Value).toArray below meth c H locs 0 0 Q (F0 m 4 ls []) := by
    clear hP hD hS hl
    intro Nloop_19
    induction Nloop_19 with
    | zero => intro i_3 i_4 hbi_3 hm9; exact absurd hm9 (Nat.not_lt_zero _)
    | succ Nloop_19 loop_19_ih =>
      intro i_3 i_4 hbi_3 hmloop_19 H locs ls hP hD hS hl
      refine lv_iload_n hx hb dX2_probeBits_4 rfl (lv_at hl 0 rfl) ?_
      refine lv_iconst (v := 3) hx hb dX2_probeBits_5 (by decide) ?_
      refine lv_icmp_ge (tgt := 34) hx hb dX2_probeBits_6 (by decide) (fun cb_20 => ?_) (fun cb_20 => ?_)
      · skip
        have cn_21 : 3 ≤ i_3 := (nI_leI (show 3 < 2 ^ 31 by omega) (show i_3 < 2 ^ 31 by omega)).mp cb_20
        refine lv_iload_n hx hb dX2_probeBits_34 rfl (lv_at hl 1 rfl) ?_
        have hP9 := hP; have hD9 := hD
        subst hQ
        refine W.widen (k := 0) (n := 0) (Nat.le_of_ble_eq_true rfl) (Nat.le_of_ble_eq_true rfl) ?_
        exact W.iret (v := i_4) hx hb hr (fun tS htS _ => ⟨⟨_, _, rfl, rfl, by rw [htS]; exact hP9, hD9⟩, hS.F htS⟩) hS.2.2 dX2_probeBits_35
      · skip
        have cn_22 : i_3 < 3 := Nat.lt_of_not_le (fun q9 => cb_20 ((nI_leI (show 3 < 2 ^ 31 by omega) (show i_3 < 2 ^ 31 by omega)).mpr q9))
        refine lv_aload_n hx hb dX2_probeBits_9 rfl (lv_at hl 2 rfl) ?_
        refine va_get (D := D) (ci := 2) (v := .ref Ap) (C := RX2) (T := TX2) (N := 10) hx hb hts iX2 hown hK hP 0 rfl rfl 8 (by decide) f18 (fun _ h9 => h9) rfl dX2_probeBits_10 ?_
        refine lv_iload_n hx hb dX2_probeBits_13 rfl (lv_at hl 3 rfl) ?_
        refine lv_iconst (v := 3) hx hb dX2_probeBits_14 (by decide) ?_
        refine lv_imul hx hb dX2_probeBits_15 ?_
        refine lv_eqi (y := (nI (jx * 3))) (pk_mul (jx) (3)) ?_
        refine lv_iload_n hx hb dX2_probeBits_16 rfl (lv_at hl 0 rfl) ?_
        refine lv_iadd hx hb dX2_probeBits_17 ?_
        refine lv_eqi (y := (nI (jx * 3 + i_3))) (nI_add (jx * 3) (i_3)) ?_
        refine va_iald hx hb hK hP 1 0 rfl rfl (vp_in_nI (show jx * 3 + i_3 < 15 by omega) (by decide)) dX2_probeBits_18 ?_
        refine lv_eqi (y := (fp (jx * 3 + i_3))) (congrArg fp (nI_clamp (show jx * 3 + i_3 < 2 ^ 31 by omega))) ?_
        refine lv_topi (fun y_23 _ => ?_)
        refine lv_if_le (tgt := 28) hx hb dX2_probeBits_19 (by decide) (fun cb_24 => ?_) (fun cb_24 => ?_)
        · skip
          refine lv_iinc (v := (nI (i_3 + 1))) (lv' := [(3, .int (nI (i_3 + 1))), (2, .int i_4), (0, .ref L), (1, .int (nI jx))]) hx hb dX2_probeBits_28 hl (k := 0) rfl (nI_1 (i_3)) (by decide) rfl (fun ls hl => ?_)
          refine lv_goto (tgt := 4) hx hb dX2_probeBits_31 (by decide) ?_
          exact loop_19_ih (i_3 + 1) i_4 (show (i_3 + 1) ≤ 3 by omega) (show 3 - (i_3 + 1) < Nloop_19 by omega) _ _ _ hP hD hS hl
        · skip
          refine lv_iload_n hx hb dX2_probeBits_22 rfl (lv_at hl 1 rfl) ?_
          refine lv_iconst (v := 1) hx hb dX2_probeBits_23 (by decide) ?_
          refine lv_iload_n hx hb dX2_probeBits_24 rfl (lv_at hl 0 rfl) ?_
          refine lv_ishl hx hb dX2_probeBits_25 ?_
          refine lv_topi (fun y_25 _ => ?_)
          refine lv_ior hx hb dX2_probeBits_26 ?_
          refine lv_topi (fun y_26 _ => ?_)
          refine lv_istore_n (lv' := [(2, .int y_26), (3, .int (nI i_3)), (0, .ref L), (1, .int (nI jx))]) hx hb dX2_probeBits_27 rfl hl (by decide) rfl (fun ls hl => ?_)
          refine lv_iinc (v := (nI (i_3 + 1))) (lv' := [(3, .int (nI (i_3 + 1))), (2, .int y_26), (0, .ref L), (1, .int (nI jx))]) hx hb dX2_probeBits_28 hl (k := 1) rfl (nI_1 (i_3)) (by decide) rfl (fun ls hl => ?_)
          refine lv_goto (tgt := 4) hx hb dX2_probeBits_31 (by decide) ?_
          exact loop_19_ih (i_3 + 1) y_26 (show (i_3 + 1) ≤ 3 by omega) (show 3 - (i_3 + 1) < Nloop_19 by omega) _ _ _ hP hD hS hl
  exact loop_19 _ 0 0 (show 0 ≤ 3 by omega) (Nat.lt_succ_self _) _ _ _ hP hD hS hl

set_option maxHeartbeats 4000000 in
set_option maxRecDepth 100000 in
theorem k_X2_roomFor (l : Launch) (D : va_G) (g : Nat → ClassId) (sz : Nat) (L : Nat) (zq : Int32) (cc : Nat) (fv : Nat → Int32) (Ac : Nat) (Au : Nat) (Ap : Nat) (Al : Nat) (Aa : Nat) (Ab : Nat) (Ad : Nat) (fw : Nat → Int32) (fx : Nat → Int32) (fy : Nat → Int32) (h0 : cc < 4) (h1 : o64 (fv 1)) (h2 : lz (fw 3)) (h3 : lz (fx 3)) (h4 : lz (fy 3)) : Met l yX2_roomFor wsX2_roomFor ({ frames := 1, cells := 0, slots := 0, locals := 24 }) (va_Pc [.ref L, .int zq, .int (nI cc)] (pre D g sz [(L, .inr (2, [.int (fv 0), .int (fv 1), .int (fv 2), .int (fv 3), .int (fv 4), .int (fv 5), .ref Ac, .ref Au, .ref Ap, .ref Al])), (Al, .inl (g 2, 3, .inr (.inr (.inr (.inr (rf3 Aa Ab Ad)))))), (Aa, .inr (1, [.int (fw 0), .int (fw 1), .int (fw 2), .int (fw 3), .int (fw 4), .int (fw 5), .int (fw 6)])), (Ab, .inr (1, [.int (fx 0), .int (fx 1), .int (fx 2), .int (fx 3), .int (fx 4), .int (fx 5), .int (fx 6)])), (Ad, .inr (1, [.int (fy 0), .int (fy 1), .int (fy 2), .int (fy 3), .int (fy 4), .int (fy 5), .int (fy 6)]))])) (va_Qi (fun (r : Int32) (u : va_W) => ∃ (zr : Int32), u = [(L, .inr (2, [.int (fv 0), .int (fv 1), .int (fv 2), .int (fv 3), .int (fv 4), .int (fv 5), .ref Ac, .ref Au, .ref Ap, .ref Al])), (Al, .inl (g 2, 3, .inr (.inr (.inr (.inr (rf3 Aa Ab Ad)))))), (Aa, .inr (1, [.int (fw 0), .int (fw 1), .int (fw 2), .int (fw 3), .int (fw 4), .int (fw 5), .int (fw 6)])), (Ab, .inr (1, [.int (fx 0), .int (fx 1), .int (fx 2), .int (fx 3), .int (fx 4), .int (fx 5), .int (fx 6)])), (Ad, .inr (1, [.int (fy 0), .int (fy 1), .int (fy 2), .int (fy 3), .int (fy 4), .int (fy 5), .int (fy 6)]))] ∧ r = zr ∧ (lz zr)) (wd D (va_A [(L, .inr (2, [.int (fv 0), .int (fv 1), .int (fv 2), .int (fv 3), .int (fv 4), .int (fv 5), .ref Ac, .ref Au, .ref Ap, .ref Al])), (Al, .inl (g 2, 3, .inr (.inr (.inr (.inr (rf3 Aa Ab Ad)))))), (Aa, .inr (1, [.int (fw 0), .int (fw 1), .int (fw 2), .int (fw 3), .int (fw 4), .int (fw 5), .int (fw 6)])), (Ab, .inr (1, [.int (fx 0), .int (fx 1), .int (fx 2), .int (fx 3), .int (fx 4), .int (fx 5), .int (fx 6)])), (Ad, .inr (1, [.int (fy 0), .int (fy 1), .int (fy 2), .int (fy 3), .int (fy 4), .int (fy 5), .int (fy 6)]))] sz)) (va_A [(L, .inr (2, [.int (fv 0), .int (fv 1), .int (fv 2), .int (fv 3), .int (fv 4), .int (fv 5), .ref Ac, .ref Au, .ref Ap, .ref Al])), (Al, .inl (g 2, 3, .inr (.inr (.inr (.inr (rf3 Aa Ab Ad)))))), (Aa, .inr (1, [.int (fw 0), .int (fw 1), .int (fw 2), .int (fw 3), .int (fw 4), .int (fw 5), .int (fw 6)])), (Ab, .inr (1, [.int (fx 0), .int (fx 1), .int (fx 2), .int (fx 3), .int (fx 4), .int (fx 5), .int (fx 6)])), (Ad, .inr (1, [.int (fy 0), .int (fy 1), .int (fy 2), .int (fy 3), .int (fy 4), .int (fy 5), .int (fy 6)]))] sz)) 0 0 (va_A [(L, .inr (2, [.int (fv 0), .int (fv 1), .int (fv 2), .int (fv 3), .int (fv 4), .int (fv 5), .ref Ac, .ref Au, .ref Ap, .ref Al])), (Al, .inl (g 2, 3, .inr (.inr (.inr (.inr (rf3 Aa Ab Ad)))))), (Aa, .inr (1, [.int (fw 0), .int (fw 1), .int (fw 2), .int (fw 3), .int (fw 4), .int (fw 5), .int (fw 6)])), (Ab, .inr (1, [.int (fx 0), .int (fx 1), .int (fx 2), .int (fx 3), .int (fx 4), .int (fx 5), .int (fx 6)])), (Ad, .inr (1, [.int (fy 0), .int (fy 1), .int (fy 2), .int (fy 3), .int (fy 4), .int (fy 5), .int (fy 6)]))] sz) := by
  refine Met.ofW (cc := cX2_roomFor) (maxL := 5) (ret := (some .int)) (by decide) rfl ?_
  intro p e s m args below meth c s₁ B hml hv
  obtain ⟨rfl, hsz, hP, ⟨hK, hN⟩, hD0, hZ⟩ := hv
  have hx := B.exec
  have hb := B.bytes
  have hr := B.returns
  have hts := atoms_spec (ws := wsX2_roomFor) B.pre
  have hown : s.vm.findClass RX2 = some m.cls := findClass_of_methodNamed B.named
  have hlocks := B.notSynchronized
  clear B
  subst hsz
  have hD := hD0.self (sz := s.heap.size)
  clear hD0
  generalize hAe : va_A [(L, .inr (2, [.int (fv 0), .int (fv 1), .int (fv 2), .int (fv 3), .int (fv 4), .int (fv 5), .ref Ac, .ref Au, .ref Ap, .ref Al])), (Al, .inl (g 2, 3, .inr (.inr (.inr (.inr (rf3 Aa Ab Ad)))))), (Aa, .inr (1, [.int (fw 0), .int (fw 1), .int (fw 2), .int (fw 3), .int (fw 4), .int (fw 5), .int (fw 6)])), (Ab, .inr (1, [.int (fx 0), .int (fx 1), .int (fx 2), .int (fx 3), .int (fx 4), .int (fx 5), .int (fx 6)])), (Ad, .inr (1, [.int (fy 0), .int (fy 1), .int (fy 2), .int (fy 3), .int (fy 4), .int (fy 5), .int (fy 6)]))] s.heap.size = A at hD hZ ⊢
  have hA : ∀ q : Nat, s.heap.size ≤ q → A q := fun q h => by rw [← hAe]; exact Or.inr h
  have hS : va_S A s.heap s.heap [] := va_S.rf
  have f23 := hts (.fieldLink RX2 23 "HopCredits$Link" "lanes" "[LHopCredits$Lane;") (List.mem_of_getElem? (i := 2) rfl)
  have f32 := hts (.fieldLink RX2 32 "HopCredits$Link" "pool" "I") (List.mem_of_getElem? (i := 1) rfl)
  have f64 := hts (.fieldLink RX2 64 "HopCredits$Lane" "zone" "I") (List.mem_of_getElem? (i := 3) rfl)
  have mcmax := hts (.code Lib.Math.max.name Lib.Math.max.code 2 (some .int)) (List.mem_of_getElem? (i := 7) rfl)
  have mi := hts (.initialized "java/lang/Math") (List.mem_of_getElem? (i := 6) rfl)
  have mmmax := hts (.methodLink RX2 71 Lib.Math.max.name) (List.mem_of_getElem? (i := 4) rfl)
  have mtmax := hts (.static Lib.Math.max.name) (List.mem_of_getElem? (i := 5) rfl)
  have iX1 : ∀ w ∈ u_ws RX1 TX1 7, w ∈ wsX2_roomFor := fun w h => List.mem_cons_of_mem _ (List.mem_append_right _ (h))
  have iX2 : ∀ w ∈ u_ws RX2 TX2 10, w ∈ wsX2_roomFor := fun w h => List.mem_cons_of_mem _ (List.mem_append_left _ (List.mem_append_right _ (h)))
  have hl := lv_entry ([.ref L, .int zq, .int (nI cc)]) (n := 5) (Nat.le_of_ble_eq_true rfl)
  rw [lg_entry_eq]
  generalize (lg_sl ([.ref L, .int zq, .int (nI cc)]) ++ List.replicate (5 - (lg_sl ([.ref L, .int zq, .int (nI cc)])).length) Slot.unset).toArray = ls at hl ⊢
  have hl : lv_has ls 5 [(0, .ref L), (1, .int zq), (2, .int (nI cc))] := hl
  generalize hQ : MQ below _ _ s _ _ _ = Q
  generalize hH : s.heap = H at hP ⊢
  have hS : va_S A s.heap H [] := by rw [← hH]; exact hS
  clear hH
  refine lv_aload_n hx hb dX2_roomFor_0 rfl (lv_at hl 0 rfl) ?_
  refine va_get (D := D) (ci := 2) (v := .int (fv 1)) (C := RX2) (T := TX2) (N := 10) hx hb hts iX2 hown hK hP 0 rfl rfl 1 (by decide) f32 (fun _ h9 => h9) rfl dX2_roomFor_1 ?_
  refine lv_istore_n (lv' := [(3, .int (fv 1)), (0, .ref L), (1, .int zq), (2, .int (nI cc))]) hx hb dX2_roomFor_4 rfl hl (by decide) rfl (fun ls hl => ?_)
  refine lv_iconst (v := 0) hx hb dX2_roomFor_5 (by decide) ?_
  refine lv_istore (lv' := [(4, .int 0), (3, .int (fv 1)), (0, .ref L), (1, .int zq), (2, .int (nI cc))]) hx hb dX2_roomFor_6 hl (by decide) rfl (fun ls hl => ?_)
  have loop_41 : ∀ (Nloop_41 : Nat) (i_12 : Nat) (i_13 : Int32) (hi_13 : lz i_13) (hbi_12 : i_12 ≤ cc) (hv_40 : lft i_12 i_13) (hmloop_41 : cc - i_12 < Nloop_41) (H : Heap) (locs : List Loc) (ls : Array Slot), va_P D vwCl [(L, .inr (2, [.int (fv 0), .int (fv 1), .int (fv 2), .int (fv 3), .int (fv 4), .int (fv 5), .ref Ac, .ref Au, .ref Ap, .ref Al])), (Al, .inl (g 2, 3, .inr (.inr (.inr (.inr (rf3 Aa Ab Ad)))))), (Aa, .inr (1, [.int (fw 0), .int (fw 1), .int (fw 2), .int (fw 3), .int (fw 4), .int (fw 5), .int (fw 6)])), (Ab, .inr (1, [.int (fx 0), .int (fx 1), .int (fx 2), .int (fx 3), .int (fx 4), .int (fx 5), .int (fx 6)])), (Ad, .inr (1, [.int (fy 0), .int (fy 1), .int (fy 2), .int (fy 3), .int (fy 4), .int (fy 5), .int (fy 6)]))] H → va_D A [(L, .inr (2, [.int (fv 0), .int (fv 1), .int (fv 2), .int (fv 3), .int (fv 4), .int (fv 5), .ref Ac, .ref Au, .ref Ap, .ref Al])), (Al, .inl (g 2, 3, .inr (.inr (.inr (.inr (rf3 Aa Ab Ad)))))), (Aa, .inr (1, [.int (fw 0), .int (fw 1), .int (fw 2), .int (fw 3), .int (fw 4), .int (fw 5), .int (fw 6)])), (Ab, .inr (1, [.int (fx 0), .int (fx 1), .int (fx 2), .int (fx 3), .int (fx 4), .int (fx 5), .int (fx 6)])), (Ad, .inr (1, [.int (fy 0), .int (fy 1), .int (fy 2), .int (fy 3), .int (fy 4), .int (fy 5), .int (fy 6)]))] → va_S A s.heap H locs → lv_has ls 5 [(4, .int (nI i_12)), (3, .int i_13), (0, .ref L), (1, .int zq), (2, .int (nI cc))] → W p l e (headSpec wsX2_roomFor ({ frames := 1, cells := 0, slots := 0, locals := 24 })).room s m ([.ref L, .int zq, .int (nI cc)] : List Value).toArray below meth c H locs 0 0 Q (F0 m 8 ls []) := by
    clear hP hD hS hl
    intro Nloop_41
    induction Nloop_41 with
    | zero => intro i_12 i_13 hi_13 hbi_12 hv_40 hm9; exact absurd hm9 (Nat.not_lt_zero _)
    | succ Nloop_41 loop_41_ih =>
      intro i_12 i_13 hi_13 hbi_12 hv_40 hmloop_41 H locs ls hP hD hS hl
      refine lv_iload hx hb dX2_roomFor_8 (lv_at hl 0 rfl) ?_
      refine lv_iload_n hx hb dX2_roomFor_10 rfl (lv_at hl 4 rfl) ?_
      refine lv_icmp_ge (tgt := 52) hx hb dX2_roomFor_11 (by decide) (fun cb_42 => ?_) (fun cb_42 => ?_)
      · skip
        have cn_43 : cc ≤ i_12 := (nI_leI (show cc < 2 ^ 31 by omega) (show i_12 < 2 ^ 31 by omega)).mp cb_42
        refine lv_iload_n hx hb dX2_roomFor_52 rfl (lv_at hl 1 rfl) ?_
        have hP9 := hP; have hD9 := hD
        subst hQ
        refine W.widen (k := 0) (n := 0) (Nat.le_of_ble_eq_true rfl) (Nat.le_of_ble_eq_true rfl) ?_
        exact W.iret (v := i_13) hx hb hr (fun tS htS _ => ⟨⟨_, _, rfl, ⟨i_13, rfl, rfl, (hi_13)⟩, by rw [htS]; exact hP9, hD9⟩, hS.F htS⟩) hS.2.2 dX2_roomFor_53
      · skip
        have cn_44 : i_12 < cc := Nat.lt_of_not_le (fun q9 => cb_42 ((nI_leI (show cc < 2 ^ 31 by omega) (show i_12 < 2 ^ 31 by omega)).mpr q9))
        refine lv_iload hx hb dX2_roomFor_14 (lv_at hl 0 rfl) ?_
        refine lv_iload_n hx hb dX2_roomFor_16 rfl (lv_at hl 3 rfl) ?_
        refine lv_icmp_eq (tgt := 46) hx hb dX2_roomFor_17 (by decide) (fun cb_45 => ?_) (fun cb_45 => ?_)
        · skip
          refine lv_iinc (v := (nI (i_12 + 1))) (lv' := [(4, .int (nI (i_12 + 1))), (3, .int i_13), (0, .ref L), (1, .int zq), (2, .int (nI cc))]) hx hb dX2_roomFor_46 hl (k := 0) rfl (nI_1 (i_12)) (by decide) rfl (fun ls hl => ?_)
          refine lv_goto (tgt := 8) hx hb dX2_roomFor_49 (by decide) ?_
          exact loop_41_ih (i_12 + 1) i_13 (hi_13) (show (i_12 + 1) ≤ cc by omega) (lft_mono hv_40 (show i_12 ≤ i_12 + 1 by omega)) (show cc - (i_12 + 1) < Nloop_41 by omega) _ _ _ hP hD hS hl
        · skip
          refine lv_iload_n hx hb dX2_roomFor_20 rfl (lv_at hl 1 rfl) ?_
          refine lv_aload_n hx hb dX2_roomFor_21 rfl (lv_at hl 2 rfl) ?_
          refine va_get (D := D) (ci := 2) (v := .ref Al) (C := RX2) (T := TX2) (N := 10) hx hb hts iX2 hown hK hP 0 rfl rfl 9 (by decide) f23 (fun _ h9 => h9) rfl dX2_roomFor_22 ?_
          refine lv_iload hx hb dX2_roomFor_25 (lv_at hl 0 rfl) ?_
          have hPq_46 := hP; have hDq_46 := hD; have hSq_46 := hS; have hlq_46 := hl; clear hP hD hS hl
          rcases (show i_12 = 0 ∨ i_12 = 1 ∨ i_12 = 2 by omega) with rfl | rfl | rfl
          · skip
            have hP := hPq_46; have hD := hDq_46; have hS := hSq_46; have hl := hlq_46; clear hPq_46 hDq_46 hSq_46 hlq_46
            refine va_aldq (C := "HopCredits$Lane") hx hb hK hP 1 2 rfl rfl (by unfold vp_in; decide) dX2_roomFor_27 ?_
            refine lv_eqv (v2 := .ref Aa) rfl ?_
            refine va_get (D := D) (ci := 1) (v := .int (fw 3)) (C := RX1) (T := TX1) (N := 7) hx hb hts iX1 hown hK hP 2 rfl rfl 3 (by decide) f64 (fun _ h9 => h9) rfl dX2_roomFor_28 ?_
            refine lv_aload_n hx hb dX2_roomFor_31 rfl (lv_at hl 2 rfl) ?_
            refine va_get (D := D) (ci := 2) (v := .ref Al) (C := RX2) (T := TX2) (N := 10) hx hb hts iX2 hown hK hP 0 rfl rfl 9 (by decide) f23 (fun _ h9 => h9) rfl dX2_roomFor_32 ?_
            refine lv_iload hx hb dX2_roomFor_35 (lv_at hl 0 rfl) ?_
            refine va_aldq (C := "HopCredits$Lane") hx hb hK hP 1 2 rfl rfl (by unfold vp_in; decide) dX2_roomFor_37 ?_
            refine lv_eqv (v2 := .ref Aa) rfl ?_
            refine ky_Vi (As := []) (rest := [.int (fw 3), .int i_13]) ⟨hx, hb, hml, hown, hts⟩ ⟨hK, hN⟩ hZ hP hD hS hA [2] [0, 1, 3, 4] (wc := [(Aa, .inr (1, [.int (fw 0), .int (fw 1), .int (fw 2), .int (fw 3), .int (fw 4), .int (fw 5), .int (fw 6)]))]) (wr := [(L, .inr (2, [.int (fv 0), .int (fv 1), .int (fv 2), .int (fv 3), .int (fv 4), .int (fv 5), .ref Ac, .ref Au, .ref Ap, .ref Al])), (Al, .inl (g 2, 3, .inr (.inr (.inr (.inr (rf3 Aa Ab Ad)))))), (Ab, .inr (1, [.int (fx 0), .int (fx 1), .int (fx 2), .int (fx 3), .int (fx 4), .int (fx 5), .int (fx 6)])), (Ad, .inr (1, [.int (fy 0), .int (fy 1), .int (fy 2), .int (fy 3), .int (fy 4), .int (fy 5), .int (fy 6)]))]) rfl rfl rfl rfl (by decide) (k_X1_out l D g H.size Aa fw) (cwV 0 hts gX2_roomFor_X1_out rfl rfl rfl (by decide +kernel) ⟨(Nat.le_of_ble_eq_true rfl), (Nat.le_of_ble_eq_true rfl)⟩) 2 1 rfl rfl rfl rfl hl.1 rfl (Nat.le_of_ble_eq_true rfl) dX2_roomFor_38 ⟨(Nat.le_of_ble_eq_true rfl), (Nat.le_of_ble_eq_true rfl)⟩ (fun r_47 u H locs hw hP2 hD2 hS2 => ?_)
            clear hP hD hS
            obtain ⟨zr_48, rfl, rfl, hf_49⟩ := hw
            have hPD : PD D A [(L, .inr (2, [.int (fv 0), .int (fv 1), .int (fv 2), .int (fv 3), .int (fv 4), .int (fv 5), .ref Ac, .ref Au, .ref Ap, .ref Al])), (Al, .inl (g 2, 3, .inr (.inr (.inr (.inr (rf3 Aa Ab Ad)))))), (Ab, .inr (1, [.int (fx 0), .int (fx 1), .int (fx 2), .int (fx 3), .int (fx 4), .int (fx 5), .int (fx 6)])), (Ad, .inr (1, [.int (fy 0), .int (fy 1), .int (fy 2), .int (fy 3), .int (fy 4), .int (fy 5), .int (fy 6)])), (Aa, .inr (1, [.int (fw 0), .int (fw 1), .int (fw 2), .int (fw 3), .int (fw 4), .int (fw 5), .int (fw 6)]))] H := ⟨hP2, hD2⟩
            have hS := hS2; clear hP2 hD2 hS2; have hP := hPD.1; have hD := hPD.2; clear hPD
            refine W.widen (k := 0) (n := 0) (Nat.le_of_ble_eq_true rfl) (Nat.le_of_ble_eq_true rfl) ?_
            refine va_mmax hx hb (hml.trans hl.1.symm) hown mmmax mtmax mi mcmax (Nat.le_of_ble_eq_true rfl) (Nat.le_of_ble_eq_true rfl) (Nat.le_of_ble_eq_true rfl) (Nat.le_of_ble_eq_true rfl) dX2_roomFor_41 ?_
            refine lv_topP (P := o64) (o64_max (h2) (hf_49)) (fun y_50 hy_51 => ?_)
            refine lv_isub hx hb dX2_roomFor_44 ?_
            refine lv_topP (P := lft (0 + 1)) (lft_sub (lft_mono hv_40 (show 0 ≤ 0 by omega)) (hy_51) (by omega)) (fun y_52 hy_53 => ?_)
            refine lv_istore_n (lv' := [(3, .int y_52), (4, .int (nI 0)), (0, .ref L), (1, .int zq), (2, .int (nI cc))]) hx hb dX2_roomFor_45 rfl hl (by decide) rfl (fun ls hl => ?_)
            refine lv_iinc (v := 1) (lv' := [(4, .int 1), (3, .int y_52), (0, .ref L), (1, .int zq), (2, .int (nI cc))]) hx hb dX2_roomFor_46 hl (k := 1) rfl (by decide) (by decide) rfl (fun ls hl => ?_)
            refine lv_goto (tgt := 8) hx hb dX2_roomFor_49 (by decide) ?_
            exact loop_41_ih 1 y_52 (lft_lz hy_53) (show 1 ≤ cc by omega) (lft_mono hy_53 (show 0 + 1 ≤ 1 by omega)) (show cc - 1 < Nloop_41 by omega) _ _ _ (hP.sub [0, 1, 4, 2, 3] rfl) (hD.sub [0, 1, 4, 2, 3] (by decide) rfl) hS hl
          · skip
            have hP := hPq_46; have hD := hDq_46; have hS := hSq_46; have hl := hlq_46; clear hPq_46 hDq_46 hSq_46 hlq_46
            refine va_aldq (C := "HopCredits$Lane") hx hb hK hP 1 2 rfl rfl (by unfold vp_in; decide) dX2_roomFor_27 ?_
            refine lv_eqv (v2 := .ref Ab) rfl ?_
            refine va_get (D := D) (ci := 1) (v := .int (fx 3)) (C := RX1) (T := TX1) (N := 7) hx hb hts iX1 hown hK hP 3 rfl rfl 3 (by decide) f64 (fun _ h9 => h9) rfl dX2_roomFor_28 ?_
            refine lv_aload_n hx hb dX2_roomFor_31 rfl (lv_at hl 2 rfl) ?_
            refine va_get (D := D) (ci := 2) (v := .ref Al) (C := RX2) (T := TX2) (N := 10) hx hb hts iX2 hown hK hP 0 rfl rfl 9 (by decide) f23 (fun _ h9 => h9) rfl dX2_roomFor_32 ?_
            refine lv_iload hx hb dX2_roomFor_35 (lv_at hl 0 rfl) ?_
            refine va_aldq (C := "HopCredits$Lane") hx hb hK hP 1 2 rfl rfl (by unfold vp_in; decide) dX2_roomFor_37 ?_
            refine lv_eqv (v2 := .ref Ab) rfl ?_
            refine ky_Vi (As := []) (rest := [.int (fx 3), .int i_13]) ⟨hx, hb, hml, hown, hts⟩ ⟨hK, hN⟩ hZ hP hD hS hA [3] [0, 1, 2, 4] (wc := [(Ab, .inr (1, [.int (fx 0), .int (fx 1), .int (fx 2), .int (fx 3), .int (fx 4), .int (fx 5), .int (fx 6)]))]) (wr := [(L, .inr (2, [.int (fv 0), .int (fv 1), .int (fv 2), .int (fv 3), .int (fv 4), .int (fv 5), .ref Ac, .ref Au, .ref Ap, .ref Al])), (Al, .inl (g 2, 3, .inr (.inr (.inr (.inr (rf3 Aa Ab Ad)))))), (Aa, .inr (1, [.int (fw 0), .int (fw 1), .int (fw 2), .int (fw 3), .int (fw 4), .int (fw 5), .int (fw 6)])), (Ad, .inr (1, [.int (fy 0), .int (fy 1), .int (fy 2), .int (fy 3), .int (fy 4), .int (fy 5), .int (fy 6)]))]) rfl rfl rfl rfl (by decide) (k_X1_out l D g H.size Ab fx) (cwV 0 hts gX2_roomFor_X1_out rfl rfl rfl (by decide +kernel) ⟨(Nat.le_of_ble_eq_true rfl), (Nat.le_of_ble_eq_true rfl)⟩) 3 1 rfl rfl rfl rfl hl.1 rfl (Nat.le_of_ble_eq_true rfl) dX2_roomFor_38 ⟨(Nat.le_of_ble_eq_true rfl), (Nat.le_of_ble_eq_true rfl)⟩ (fun r_54 u H locs hw hP2 hD2 hS2 => ?_)
            clear hP hD hS
            obtain ⟨zr_55, rfl, rfl, hf_56⟩ := hw
            have hPD : PD D A [(L, .inr (2, [.int (fv 0), .int (fv 1), .int (fv 2), .int (fv 3), .int (fv 4), .int (fv 5), .ref Ac, .ref Au, .ref Ap, .ref Al])), (Al, .inl (g 2, 3, .inr (.inr (.inr (.inr (rf3 Aa Ab Ad)))))), (Aa, .inr (1, [.int (fw 0), .int (fw 1), .int (fw 2), .int (fw 3), .int (fw 4), .int (fw 5), .int (fw 6)])), (Ad, .inr (1, [.int (fy 0), .int (fy 1), .int (fy 2), .int (fy 3), .int (fy 4), .int (fy 5), .int (fy 6)])), (Ab, .inr (1, [.int (fx 0), .int (fx 1), .int (fx 2), .int (fx 3), .int (fx 4), .int (fx 5), .int (fx 6)]))] H := ⟨hP2, hD2⟩
            have hS := hS2; clear hP2 hD2 hS2; have hP := hPD.1; have hD := hPD.2; clear hPD
            refine W.widen (k := 0) (n := 0) (Nat.le_of_ble_eq_true rfl) (Nat.le_of_ble_eq_true rfl) ?_
            refine va_mmax hx hb (hml.trans hl.1.symm) hown mmmax mtmax mi mcmax (Nat.le_of_ble_eq_true rfl) (Nat.le_of_ble_eq_true rfl) (Nat.le_of_ble_eq_true rfl) (Nat.le_of_ble_eq_true rfl) dX2_roomFor_41 ?_
            refine lv_topP (P := o64) (o64_max (h3) (hf_56)) (fun y_57 hy_58 => ?_)
            refine lv_isub hx hb dX2_roomFor_44 ?_
            refine lv_topP (P := lft (1 + 1)) (lft_sub (lft_mono hv_40 (show 1 ≤ 1 by omega)) (hy_58) (by omega)) (fun y_59 hy_60 => ?_)
            refine lv_istore_n (lv' := [(3, .int y_59), (4, .int (nI 1)), (0, .ref L), (1, .int zq), (2, .int (nI cc))]) hx hb dX2_roomFor_45 rfl hl (by decide) rfl (fun ls hl => ?_)
            refine lv_iinc (v := 2) (lv' := [(4, .int 2), (3, .int y_59), (0, .ref L), (1, .int zq), (2, .int (nI cc))]) hx hb dX2_roomFor_46 hl (k := 1) rfl (by decide) (by decide) rfl (fun ls hl => ?_)
            refine lv_goto (tgt := 8) hx hb dX2_roomFor_49 (by decide) ?_
            exact loop_41_ih 2 y_59 (lft_lz hy_60) (show 2 ≤ cc by omega) (lft_mono hy_60 (show 1 + 1 ≤ 2 by omega)) (show cc - 2 < Nloop_41 by omega) _ _ _ (hP.sub [0, 1, 2, 4, 3] rfl) (hD.sub [0, 1, 2, 4, 3] (by decide) rfl) hS hl
          · skip
            have hP := hPq_46; have hD := hDq_46; have hS := hSq_46; have hl := hlq_46; clear hPq_46 hDq_46 hSq_46 hlq_46
            refine va_aldq (C := "HopCredits$Lane") hx hb hK hP 1 2 rfl rfl (by unfold vp_in; decide) dX2_roomFor_27 ?_
            refine lv_eqv (v2 := .ref Ad) rfl ?_
            refine va_get (D := D) (ci := 1) (v := .int (fy 3)) (C := RX1) (T := TX1) (N := 7) hx hb hts iX1 hown hK hP 4 rfl rfl 3 (by decide) f64 (fun _ h9 => h9) rfl dX2_roomFor_28 ?_
            refine lv_aload_n hx hb dX2_roomFor_31 rfl (lv_at hl 2 rfl) ?_
            refine va_get (D := D) (ci := 2) (v := .ref Al) (C := RX2) (T := TX2) (N := 10) hx hb hts iX2 hown hK hP 0 rfl rfl 9 (by decide) f23 (fun _ h9 => h9) rfl dX2_roomFor_32 ?_
            refine lv_iload hx hb dX2_roomFor_35 (lv_at hl 0 rfl) ?_
            refine va_aldq (C := "HopCredits$Lane") hx hb hK hP 1 2 rfl rfl (by unfold vp_in; decide) dX2_roomFor_37 ?_
            refine lv_eqv (v2 := .ref Ad) rfl ?_
            refine ky_Vi (As := []) (rest := [.int (fy 3), .int i_13]) ⟨hx, hb, hml, hown, hts⟩ ⟨hK, hN⟩ hZ hP hD hS hA [4] [0, 1, 2, 3] (wc := [(Ad, .inr (1, [.int (fy 0), .int (fy 1), .int (fy 2), .int (fy 3), .int (fy 4), .int (fy 5), .int (fy 6)]))]) (wr := [(L, .inr (2, [.int (fv 0), .int (fv 1), .int (fv 2), .int (fv 3), .int (fv 4), .int (fv 5), .ref Ac, .ref Au, .ref Ap, .ref Al])), (Al, .inl (g 2, 3, .inr (.inr (.inr (.inr (rf3 Aa Ab Ad)))))), (Aa, .inr (1, [.int (fw 0), .int (fw 1), .int (fw 2), .int (fw 3), .int (fw 4), .int (fw 5), .int (fw 6)])), (Ab, .inr (1, [.int (fx 0), .int (fx 1), .int (fx 2), .int (fx 3), .int (fx 4), .int (fx 5), .int (fx 6)]))]) rfl rfl rfl rfl (by decide) (k_X1_out l D g H.size Ad fy) (cwV 0 hts gX2_roomFor_X1_out rfl rfl rfl (by decide +kernel) ⟨(Nat.le_of_ble_eq_true rfl), (Nat.le_of_ble_eq_true rfl)⟩) 4 1 rfl rfl rfl rfl hl.1 rfl (Nat.le_of_ble_eq_true rfl) dX2_roomFor_38 ⟨(Nat.le_of_ble_eq_true rfl), (Nat.le_of_ble_eq_true rfl)⟩ (fun r_61 u H locs hw hP2 hD2 hS2 => ?_)
            clear hP hD hS
            obtain ⟨zr_62, rfl, rfl, hf_63⟩ := hw
            have hPD : PD D A [(L, .inr (2, [.int (fv 0), .int (fv 1), .int (fv 2), .int (fv 3), .int (fv 4), .int (fv 5), .ref Ac, .ref Au, .ref Ap, .ref Al])), (Al, .inl (g 2, 3, .inr (.inr (.inr (.inr (rf3 Aa Ab Ad)))))), (Aa, .inr (1, [.int (fw 0), .int (fw 1), .int (fw 2), .int (fw 3), .int (fw 4), .int (fw 5), .int (fw 6)])), (Ab, .inr (1, [.int (fx 0), .int (fx 1), .int (fx 2), .int (fx 3), .int (fx 4), .int (fx 5), .int (fx 6)])), (Ad, .inr (1, [.int (fy 0), .int (fy 1), .int (fy 2), .int (fy 3), .int (fy 4), .int (fy 5), .int (fy 6)]))] H := ⟨hP2, hD2⟩
            have hS := hS2; clear hP2 hD2 hS2; have hP := hPD.1; have hD := hPD.2; clear hPD
            refine W.widen (k := 0) (n := 0) (Nat.le_of_ble_eq_true rfl) (Nat.le_of_ble_eq_true rfl) ?_
            refine va_mmax hx hb (hml.trans hl.1.symm) hown mmmax mtmax mi mcmax (Nat.le_of_ble_eq_true rfl) (Nat.le_of_ble_eq_true rfl) (Nat.le_of_ble_eq_true rfl) (Nat.le_of_ble_eq_true rfl) dX2_roomFor_41 ?_
            refine lv_topP (P := o64) (o64_max (h4) (hf_63)) (fun y_64 hy_65 => ?_)
            refine lv_isub hx hb dX2_roomFor_44 ?_
            refine lv_topP (P := lft (2 + 1)) (lft_sub (lft_mono hv_40 (show 2 ≤ 2 by omega)) (hy_65) (by omega)) (fun y_66 hy_67 => ?_)
            refine lv_istore_n (lv' := [(3, .int y_66), (4, .int (nI 2)), (0, .ref L), (1, .int zq), (2, .int (nI cc))]) hx hb dX2_roomFor_45 rfl hl (by decide) rfl (fun ls hl => ?_)
            refine lv_iinc (v := 3) (lv' := [(4, .int 3), (3, .int y_66), (0, .ref L), (1, .int zq), (2, .int (nI cc))]) hx hb dX2_roomFor_46 hl (k := 1) rfl (by decide) (by decide) rfl (fun ls hl => ?_)
            refine lv_goto (tgt := 8) hx hb dX2_roomFor_49 (by decide) ?_
            exact loop_41_ih 3 y_66 (lft_lz hy_67) (show 3 ≤ cc by omega) (lft_mono hy_67 (show 2 + 1 ≤ 3 by omega)) (show cc - 3 < Nloop_41 by omega) _ _ _ hP hD hS hl
  exact loop_41 _ 0 (fv 1) (o64_lz h1) (show 0 ≤ cc by omega) (lft_0 (h1)) (Nat.lt_succ_self _) _ _ _ hP hD hS hl
