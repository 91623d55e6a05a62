set_option maxHeartbeats 4000000 in
set_option maxRecDepth 100000 in
theorem r_X7_ahead (l : Launch) (D : va_G) (g : Nat → ClassId) (sz : Nat) (Mm : Nat) (zth : Int32) (Mt : Nat) (tp : Nat) (ma : Nat) (zwr : Int32) (Mrr : Nat) (Mrh : Nat) (Mrc : Nat) (rh : Nat) (rc : Nat) (Mn : Nat) (Mf : Nat) (Mr : Nat) (Mh : Nat) (zhp : Int32) (zcc : Int32) (Ma : Nat) (Mas : Nat) (Msn : Nat) (Mac : Nat) (Mat : Nat) (fmt : Nat → Int32) (h0 : tp ≤ 160) (h1 : ma ≤ tp) : Met l yX7_ahead wsX7_ahead ({ frames := 1, cells := 0, slots := 0, locals := 20 }) (va_Pc [.ref Mm] (pre D g sz [(Mm, .inr (7, [.int zth, .ref Mt, .int (nI tp), .int (nI ma), .int zwr, .ref Mrr, .ref Mrh, .ref Mrc, .int (nI rh), .int (nI rc), .ref Mn, .ref Mf, .ref Mr, .ref Mh, .int zhp, .int zcc, .ref Ma, .ref Mas, .ref Msn, .ref Mac, .ref Mat])), (Mt, .inl (g 0, 160, .inl fmt))])) (va_Qi (fun (r : Int32) (u : va_W) => ∃ (max : Nat), u = [(Mm, .inr (7, [.int zth, .ref Mt, .int (nI tp), .int (nI max), .int zwr, .ref Mrr, .ref Mrh, .ref Mrc, .int (nI rh), .int (nI rc), .ref Mn, .ref Mf, .ref Mr, .ref Mh, .int zhp, .int zcc, .ref Ma, .ref Mas, .ref Msn, .ref Mac, .ref Mat])), (Mt, .inl (g 0, 160, .inl fmt))] ∧ r = (if max < tp then fmt max else (-1)) ∧ (ma ≤ max) ∧ (max ≤ tp) ∧ (max = sB fmt tp ma)) (wd D (va_A [(Mm, .inr (7, [.int zth, .ref Mt, .int (nI tp), .int (nI ma), .int zwr, .ref Mrr, .ref Mrh, .ref Mrc, .int (nI rh), .int (nI rc), .ref Mn, .ref Mf, .ref Mr, .ref Mh, .int zhp, .int zcc, .ref Ma, .ref Mas, .ref Msn, .ref Mac, .ref Mat])), (Mt, .inl (g 0, 160, .inl fmt))] sz)) (va_A [(Mm, .inr (7, [.int zth, .ref Mt, .int (nI tp), .int (nI ma), .int zwr, .ref Mrr, .ref Mrh, .ref Mrc, .int (nI rh), .int (nI rc), .ref Mn, .ref Mf, .ref Mr, .ref Mh, .int zhp, .int zcc, .ref Ma, .ref Mas, .ref Msn, .ref Mac, .ref Mat])), (Mt, .inl (g 0, 160, .inl fmt))] sz)) 0 0 (va_A [(Mm, .inr (7, [.int zth, .ref Mt, .int (nI tp), .int (nI ma), .int zwr, .ref Mrr, .ref Mrh, .ref Mrc, .int (nI rh), .int (nI rc), .ref Mn, .ref Mf, .ref Mr, .ref Mh, .int zhp, .int zcc, .ref Ma, .ref Mas, .ref Msn, .ref Mac, .ref Mat])), (Mt, .inl (g 0, 160, .inl fmt))] sz) := by
  refine Met.ofW (cc := cX7_ahead) (maxL := 1) (ret := (some .int)) (by decide) rfl ?_
  intro p e s m args below meth c s₁ B hml hv
  obtain ⟨rfl, hsz, hP, ⟨hK, hN⟩, hD0, hZ⟩ := hv
  have hx := B.exec
  have hb := B.bytes
  have hr := B.returns
  have hts := atoms_spec (ws := wsX7_ahead) B.pre
  have hown : s.vm.findClass RX7 = some m.cls := findClass_of_methodNamed B.named
  have hlocks := B.notSynchronized
  clear B
  subst hsz
  have hD := hD0.self (sz := s.heap.size)
  clear hD0
  generalize hAe : va_A [(Mm, .inr (7, [.int zth, .ref Mt, .int (nI tp), .int (nI ma), .int zwr, .ref Mrr, .ref Mrh, .ref Mrc, .int (nI rh), .int (nI rc), .ref Mn, .ref Mf, .ref Mr, .ref Mh, .int zhp, .int zcc, .ref Ma, .ref Mas, .ref Msn, .ref Mac, .ref Mat])), (Mt, .inl (g 0, 160, .inl fmt))] s.heap.size = A at hD hZ ⊢
  have hA : ∀ q : Nat, s.heap.size ≤ q → A q := fun q h => by rw [← hAe]; exact Or.inr h
  have hS : va_S A s.heap s.heap [] := va_S.rf
  have f64 := hts (.fieldLink RX7 64 "HopCreditsModel" "at" "I") (List.mem_of_getElem? (i := 1) rfl)
  have iX7 : ∀ w ∈ u_ws RX7 TX7 21, w ∈ wsX7_ahead := fun w h => List.mem_cons_of_mem _ (List.mem_append_right _ (h))
  have hl := lv_entry ([.ref Mm]) (n := 1) (Nat.le_of_ble_eq_true rfl)
  rw [lg_entry_eq]
  generalize (lg_sl ([.ref Mm]) ++ List.replicate (1 - (lg_sl ([.ref Mm])).length) Slot.unset).toArray = ls at hl ⊢
  have hl : lv_has ls 1 [(0, .ref Mm)] := hl
  generalize hQ : MQ below _ _ s _ _ _ = Q
  generalize hH : s.heap = H at hP ⊢
  have hS : va_S A s.heap H [] := by rw [← hH]; exact hS
  clear hH
  have loop_19 : ∀ (Nloop_19 : Nat) (z_8 : Nat) (hv_16 : z_8 ≤ tp) (hv_17 : ma ≤ z_8) (hv_18 : sB fmt tp z_8 = sB fmt tp ma) (hmloop_19 : tp - z_8 < Nloop_19) (H : Heap) (locs : List Loc) (ls : Array Slot), va_P D vwCl [(Mm, .inr (7, [.int zth, .ref Mt, .int (nI tp), .int (nI z_8), .int zwr, .ref Mrr, .ref Mrh, .ref Mrc, .int (nI rh), .int (nI rc), .ref Mn, .ref Mf, .ref Mr, .ref Mh, .int zhp, .int zcc, .ref Ma, .ref Mas, .ref Msn, .ref Mac, .ref Mat])), (Mt, .inl (g 0, 160, .inl fmt))] H → va_D A [(Mm, .inr (7, [.int zth, .ref Mt, .int (nI tp), .int (nI z_8), .int zwr, .ref Mrr, .ref Mrh, .ref Mrc, .int (nI rh), .int (nI rc), .ref Mn, .ref Mf, .ref Mr, .ref Mh, .int zhp, .int zcc, .ref Ma, .ref Mas, .ref Msn, .ref Mac, .ref Mat])), (Mt, .inl (g 0, 160, .inl fmt))] → va_S A s.heap H locs → lv_has ls 1 [(0, .ref Mm)] → W p l e (headSpec wsX7_ahead ({ frames := 1, cells := 0, slots := 0, locals := 20 })).room s m ([.ref Mm] : List Value).toArray below meth c H locs 0 0 Q (F0 m 0 ls []) := by
    clear hP hD hS hl
    intro Nloop_19
    induction Nloop_19 with
    | zero => intro z_8 hv_16 hv_17 hv_18 hm9; exact absurd hm9 (Nat.not_lt_zero _)
    | succ Nloop_19 loop_19_ih =>
      intro z_8 hv_16 hv_17 hv_18 hmloop_19 H locs ls hP hD hS hl
      refine lv_aload_n hx hb dX7_ahead_0 rfl (lv_at hl 0 rfl) ?_
      refine ky_Vi (As := []) (rest := []) ⟨hx, hb, hml, hown, hts⟩ ⟨hK, hN⟩ hZ hP hD hS hA [0, 1] [] (wc := [(Mm, .inr (7, [.int zth, .ref Mt, .int (nI tp), .int (nI z_8), .int zwr, .ref Mrr, .ref Mrh, .ref Mrc, .int (nI rh), .int (nI rc), .ref Mn, .ref Mf, .ref Mr, .ref Mh, .int zhp, .int zcc, .ref Ma, .ref Mas, .ref Msn, .ref Mac, .ref Mat])), (Mt, .inl (g 0, 160, .inl fmt))]) (wr := []) rfl rfl rfl rfl (by decide) (k_X7_here l D g H.size Mm zth Mt tp z_8 zwr Mrr Mrh Mrc rh rc Mn Mf Mr Mh zhp zcc Ma Mas Msn Mac Mat fmt (show tp ≤ 160 by omega) (show z_8 ≤ 1000 by omega)) (cwV 0 hts gX7_ahead_X7_here rfl rfl rfl (by decide +kernel) ⟨(Nat.le_of_ble_eq_true rfl), (Nat.le_of_ble_eq_true rfl)⟩) 0 7 rfl rfl rfl rfl hl.1 rfl (Nat.le_of_ble_eq_true rfl) dX7_ahead_1 ⟨(Nat.le_of_ble_eq_true rfl), (Nat.le_of_ble_eq_true rfl)⟩ (fun r_20 u H locs hw hP2 hD2 hS2 => ?_)
      clear hP hD hS
      obtain ⟨rfl, rfl⟩ := hw
      have hPD : PD D A [(Mm, .inr (7, [.int zth, .ref Mt, .int (nI tp), .int (nI z_8), .int zwr, .ref Mrr, .ref Mrh, .ref Mrc, .int (nI rh), .int (nI rc), .ref Mn, .ref Mf, .ref Mr, .ref Mh, .int zhp, .int zcc, .ref Ma, .ref Mas, .ref Msn, .ref Mac, .ref Mat])), (Mt, .inl (g 0, 160, .inl fmt))] H := ⟨hP2, hD2⟩
      have hS := hS2; clear hP2 hD2 hS2; have hP := hPD.1; have hD := hPD.2; clear hPD
      refine W.widen (k := 0) (n := 0) (Nat.le_of_ble_eq_true rfl) (Nat.le_of_ble_eq_true rfl) ?_
      refine lv_topi (fun y_21 hey_21 => ?_)
      refine lv_bipush (v := 32) hx hb dX7_ahead_4 (by decide) ?_
      refine lv_icmp_ne (tgt := 22) hx hb dX7_ahead_6 (by decide) (fun cb_22 => ?_) (fun cb_22 => ?_)
      · skip
        have hsb_23 := he_s hey_21.symm cb_22
        refine lv_aload_n hx hb dX7_ahead_22 rfl (lv_at hl 0 rfl) ?_
        refine ky_Vi (As := []) (rest := []) ⟨hx, hb, hml, hown, hts⟩ ⟨hK, hN⟩ hZ hP hD hS hA [0, 1] [] (wc := [(Mm, .inr (7, [.int zth, .ref Mt, .int (nI tp), .int (nI z_8), .int zwr, .ref Mrr, .ref Mrh, .ref Mrc, .int (nI rh), .int (nI rc), .ref Mn, .ref Mf, .ref Mr, .ref Mh, .int zhp, .int zcc, .ref Ma, .ref Mas, .ref Msn, .ref Mac, .ref Mat])), (Mt, .inl (g 0, 160, .inl fmt))]) (wr := []) rfl rfl rfl rfl (by decide) (k_X7_here l D g H.size Mm zth Mt tp z_8 zwr Mrr Mrh Mrc rh rc Mn Mf Mr Mh zhp zcc Ma Mas Msn Mac Mat fmt (show tp ≤ 160 by omega) (show z_8 ≤ 1000 by omega)) (cwV 0 hts gX7_ahead_X7_here rfl rfl rfl (by decide +kernel) ⟨(Nat.le_of_ble_eq_true rfl), (Nat.le_of_ble_eq_true rfl)⟩) 0 7 rfl rfl rfl rfl hl.1 rfl (Nat.le_of_ble_eq_true rfl) dX7_ahead_23 ⟨(Nat.le_of_ble_eq_true rfl), (Nat.le_of_ble_eq_true rfl)⟩ (fun r_24 u H locs hw hP2 hD2 hS2 => ?_)
        clear hP hD hS
        obtain ⟨rfl, rfl⟩ := hw
        have hPD : PD D A [(Mm, .inr (7, [.int zth, .ref Mt, .int (nI tp), .int (nI z_8), .int zwr, .ref Mrr, .ref Mrh, .ref Mrc, .int (nI rh), .int (nI rc), .ref Mn, .ref Mf, .ref Mr, .ref Mh, .int zhp, .int zcc, .ref Ma, .ref Mas, .ref Msn, .ref Mac, .ref Mat])), (Mt, .inl (g 0, 160, .inl fmt))] H := ⟨hP2, hD2⟩
        have hS := hS2; clear hP2 hD2 hS2; have hP := hPD.1; have hD := hPD.2; clear hPD
        refine W.widen (k := 0) (n := 0) (Nat.le_of_ble_eq_true rfl) (Nat.le_of_ble_eq_true rfl) ?_
        refine lv_eqi (y := y_21) hey_21.symm ?_
        have hP9 := hP; have hD9 := hD
        subst hQ
        refine W.widen (k := 0) (n := 0) (Nat.le_of_ble_eq_true rfl) (Nat.le_of_ble_eq_true rfl) ?_
        exact W.iret (v := y_21) hx hb hr (fun tS htS _ => ⟨⟨_, _, rfl, ⟨z_8, rfl, hey_21, (show ma ≤ z_8 by omega), (show z_8 ≤ tp by omega), (show z_8 = sB fmt tp ma by omega)⟩, by rw [htS]; exact hP9, hD9⟩, hS.F htS⟩) hS.2.2 dX7_ahead_26
      · skip
        have hsb_25 := he_b hey_21.symm cb_22
        have hq_26 : z_8 < tp := (fun q9 => here_lt hey_21 q9) (by rw [cb_22]; decide)
        have hPq_27 := hP; have hDq_27 := hD; have hSq_27 := hS; have hlq_27 := hl; clear hP hD hS hl
        subst cb_22
        have hP := hPq_27; have hD := hDq_27; have hS := hSq_27; have hl := hlq_27; clear hPq_27 hDq_27 hSq_27 hlq_27
        refine lv_aload_n hx hb dX7_ahead_9 rfl (lv_at hl 0 rfl) ?_
        refine lv_dup hx hb dX7_ahead_10 rfl ?_
        refine va_get (D := D) (ci := 7) (v := .int (nI z_8)) (C := RX7) (T := TX7) (N := 21) hx hb hts iX7 hown hK hP 0 rfl rfl 3 (by decide) f64 (fun _ h9 => h9) rfl dX7_ahead_11 ?_
        refine lv_iconst (v := 1) hx hb dX7_ahead_14 (by decide) ?_
        refine lv_iadd hx hb dX7_ahead_15 ?_
        refine lv_eqi (y := (nI (z_8 + 1))) (nI_add (z_8) (1)) ?_
        refine va_put (D := D) (ci := 7) (v := .int (nI (z_8 + 1))) (ty := .int) (C := RX7) (T := TX7) (N := 21) hx hb hts iX7 tyX7 tyX7_ok nmX7 hown hK hP hD hS 0 rfl rfl 3 (by decide) f64 (fun _ h9 => h9) rfl (by decide +kernel) (rfl) (rfl) (Nat.le_of_ble_eq_true rfl) dX7_ahead_16 (fun H locs hP2 hD2 hS2 => ?_)
        clear hP hD hS
        have hPD : PD D A [(Mm, .inr (7, [.int zth, .ref Mt, .int (nI tp), .int (nI (z_8 + 1)), .int zwr, .ref Mrr, .ref Mrh, .ref Mrc, .int (nI rh), .int (nI rc), .ref Mn, .ref Mf, .ref Mr, .ref Mh, .int zhp, .int zcc, .ref Ma, .ref Mas, .ref Msn, .ref Mac, .ref Mat])), (Mt, .inl (g 0, 160, .inl fmt))] H := ⟨hP2, hD2⟩
        have hS := hS2; clear hP2 hD2 hS2; have hP := hPD.1; have hD := hPD.2; clear hPD
        refine lv_goto (tgt := 0) hx hb dX7_ahead_19 (by decide) ?_
        exact loop_19_ih (z_8 + 1) (show (z_8 + 1) ≤ tp by omega) (show ma ≤ (z_8 + 1) by omega) (show sB fmt tp (z_8 + 1) = sB fmt tp ma by omega) (show tp - (z_8 + 1) < Nloop_19 by omega) _ _ _ hP hD hS hl
  exact loop_19 _ ma (show ma ≤ tp by omega) (show ma ≤ ma by omega) (show sB fmt tp ma = sB fmt tp ma by omega) (Nat.lt_succ_self _) _ _ _ hP hD hS hl

set_option maxHeartbeats 4000000 in
set_option maxRecDepth 100000 in
theorem r_X7_bad (l : Launch) (D : va_G) (g : Nat → ClassId) (sz : Nat) (Mm : Nat) (zth : Int32) (Mt : Nat) (tp : Nat) (ma : Nat) (Mrr : Nat) (Mrh : Nat) (Mrc : Nat) (rh : Nat) (rc : Nat) (Mn : Nat) (Mf : Nat) (Mr : Nat) (Mh : Nat) (zhp : Int32) (zcc : Int32) (Ma : Nat) (Mas : Nat) (Msn : Nat) (Mac : Nat) (Mat : Nat) : Met l yX7_bad wsX7_bad ({ frames := 0, cells := 0, slots := 0, locals := 0 }) (va_Pc [.ref Mm] (pre D g sz [(Mm, .inr (7, [.int zth, .ref Mt, .int (nI tp), .int (nI ma), .int (-1), .ref Mrr, .ref Mrh, .ref Mrc, .int (nI rh), .int (nI rc), .ref Mn, .ref Mf, .ref Mr, .ref Mh, .int zhp, .int zcc, .ref Ma, .ref Mas, .ref Msn, .ref Mac, .ref Mat]))])) (va_Qv (fun (u : va_W) => u = [(Mm, .inr (7, [.int zth, .ref Mt, .int (nI tp), .int (nI ma), .int (nI ma), .ref Mrr, .ref Mrh, .ref Mrc, .int (nI rh), .int (nI rc), .ref Mn, .ref Mf, .ref Mr, .ref Mh, .int zhp, .int zcc, .ref Ma, .ref Mas, .ref Msn, .ref Mac, .ref Mat]))]) (wd D (va_A [(Mm, .inr (7, [.int zth, .ref Mt, .int (nI tp), .int (nI ma), .int (-1), .ref Mrr, .ref Mrh, .ref Mrc, .int (nI rh), .int (nI rc), .ref Mn, .ref Mf, .ref Mr, .ref Mh, .int zhp, .int zcc, .ref Ma, .ref Mas, .ref Msn, .ref Mac, .ref Mat]))] sz)) (va_A [(Mm, .inr (7, [.int zth, .ref Mt, .int (nI tp), .int (nI ma), .int (-1), .ref Mrr, .ref Mrh, .ref Mrc, .int (nI rh), .int (nI rc), .ref Mn, .ref Mf, .ref Mr, .ref Mh, .int zhp, .int zcc, .ref Ma, .ref Mas, .ref Msn, .ref Mac, .ref Mat]))] sz)) 0 0 (va_A [(Mm, .inr (7, [.int zth, .ref Mt, .int (nI tp), .int (nI ma), .int (-1), .ref Mrr, .ref Mrh, .ref Mrc, .int (nI rh), .int (nI rc), .ref Mn, .ref Mf, .ref Mr, .ref Mh, .int zhp, .int zcc, .ref Ma, .ref Mas, .ref Msn, .ref Mac, .ref Mat]))] sz) := by
  refine Met.ofW (cc := cX7_bad) (maxL := 1) (ret := none) (by decide) rfl ?_
  intro p e s m args below meth c s₁ B hml hv
  obtain ⟨rfl, hsz, hP, ⟨hK, hN⟩, hD0, hZ⟩ := hv
  have hx := B.exec
  have hb := B.bytes
  have hr := B.returns
  have hts := atoms_spec (ws := wsX7_bad) B.pre
  have hown : s.vm.findClass RX7 = some m.cls := findClass_of_methodNamed B.named
  have hlocks := B.notSynchronized
  clear B
  subst hsz
  have hD := hD0.self (sz := s.heap.size)
  clear hD0
  generalize hAe : va_A [(Mm, .inr (7, [.int zth, .ref Mt, .int (nI tp), .int (nI ma), .int (-1), .ref Mrr, .ref Mrh, .ref Mrc, .int (nI rh), .int (nI rc), .ref Mn, .ref Mf, .ref Mr, .ref Mh, .int zhp, .int zcc, .ref Ma, .ref Mas, .ref Msn, .ref Mac, .ref Mat]))] s.heap.size = A at hD hZ ⊢
  have hA : ∀ q : Nat, s.heap.size ≤ q → A q := fun q h => by rw [← hAe]; exact Or.inr h
  have hS : va_S A s.heap s.heap [] := va_S.rf
  have f64 := hts (.fieldLink RX7 64 "HopCreditsModel" "at" "I") (List.mem_of_getElem? (i := 2) rfl)
  have f71 := hts (.fieldLink RX7 71 "HopCreditsModel" "wrong" "I") (List.mem_of_getElem? (i := 1) rfl)
  have iX7 : ∀ w ∈ u_ws RX7 TX7 21, w ∈ wsX7_bad := fun w h => List.mem_cons_of_mem _ (List.mem_append_right _ (h))
  have hl := lv_entry ([.ref Mm]) (n := 1) (Nat.le_of_ble_eq_true rfl)
  rw [lg_entry_eq]
  generalize (lg_sl ([.ref Mm]) ++ List.replicate (1 - (lg_sl ([.ref Mm])).length) Slot.unset).toArray = ls at hl ⊢
  have hl : lv_has ls 1 [(0, .ref Mm)] := hl
  generalize hQ : MQ below _ _ s _ _ _ = Q
  generalize hH : s.heap = H at hP ⊢
  have hS : va_S A s.heap H [] := by rw [← hH]; exact hS
  clear hH
  refine lv_aload_n hx hb dX7_bad_0 rfl (lv_at hl 0 rfl) ?_
  refine lv_aload_n hx hb dX7_bad_1 rfl (lv_at hl 0 rfl) ?_
  refine va_get (D := D) (ci := 7) (v := .int (-1)) (C := RX7) (T := TX7) (N := 21) hx hb hts iX7 hown hK hP 0 rfl rfl 4 (by decide) f71 (fun _ h9 => h9) rfl dX7_bad_2 ?_
  refine lv_iconst (v := (-1)) hx hb dX7_bad_5 (by decide) ?_
  refine lv_icmp_ne (tgt := 16) hx hb dX7_bad_6 (by decide) (fun cb => absurd (by decide) cb) (fun _ => ?_)
  refine lv_aload_n hx hb dX7_bad_9 rfl (lv_at hl 0 rfl) ?_
  refine va_get (D := D) (ci := 7) (v := .int (nI ma)) (C := RX7) (T := TX7) (N := 21) hx hb hts iX7 hown hK hP 0 rfl rfl 3 (by decide) f64 (fun _ h9 => h9) rfl dX7_bad_10 ?_
  refine lv_goto (tgt := 20) hx hb dX7_bad_13 (by decide) ?_
  refine va_put (D := D) (ci := 7) (v := .int (nI ma)) (ty := .int) (C := RX7) (T := TX7) (N := 21) hx hb hts iX7 tyX7 tyX7_ok nmX7 hown hK hP hD hS 0 rfl rfl 4 (by decide) f71 (fun _ h9 => h9) rfl (by decide +kernel) (rfl) (rfl) (Nat.le_of_ble_eq_true rfl) dX7_bad_20 (fun H locs hP2 hD2 hS2 => ?_)
  clear hP hD hS
  have hPD : PD D A [(Mm, .inr (7, [.int zth, .ref Mt, .int (nI tp), .int (nI ma), .int (nI ma), .ref Mrr, .ref Mrh, .ref Mrc, .int (nI rh), .int (nI rc), .ref Mn, .ref Mf, .ref Mr, .ref Mh, .int zhp, .int zcc, .ref Ma, .ref Mas, .ref Msn, .ref Mac, .ref Mat]))] H := ⟨hP2, hD2⟩
  have hS := hS2; clear hP2 hD2 hS2; have hP := hPD.1; have hD := hPD.2; clear hPD
  have hP9 := hP; have hD9 := hD
  subst hQ
  refine W.widen (k := 0) (n := 0) (Nat.le_of_ble_eq_true rfl) (Nat.le_of_ble_eq_true rfl) ?_
  exact W.vret hx hb hr (fun tS htS _ => ⟨⟨_, rfl, rfl, by rw [htS]; exact hP9, hD9⟩, hS.F htS⟩) hS.2.2 dX7_bad_23

set_option maxHeartbeats 4000000 in
set_option maxRecDepth 100000 in
theorem r_X7_number (l : Launch) (D : va_G) (g : Nat → ClassId) (sz : Nat) (Mm : Nat) (lo : Nat) (zhi : Int32) (zth : Int32) (Mt : Nat) (tp : Nat) (ma : Nat) (Mrr : Nat) (Mrh : Nat) (Mrc : Nat) (rh : Nat) (rc : Nat) (Mn : Nat) (Mf : Nat) (Mr : Nat) (Mh : Nat) (zhp : Int32) (zcc : Int32) (Ma : Nat) (Mas : Nat) (Msn : Nat) (Mac : Nat) (Mat : Nat) (fmt : Nat → Int32) (h0 : tp ≤ 160) (h1 : ma ≤ tp) (h2 : lo ≤ 1) : Met l yX7_number wsX7_number ({ frames := 2, cells := 0, slots := 0, locals := 40 }) (va_Pc [.ref Mm, .int (nI lo), .int zhi] (pre D g sz [(Mm, .inr (7, [.int zth, .ref Mt, .int (nI tp), .int (nI ma), .int (-1), .ref Mrr, .ref Mrh, .ref Mrc, .int (nI rh), .int (nI rc), .ref Mn, .ref Mf, .ref Mr, .ref Mh, .int zhp, .int zcc, .ref Ma, .ref Mas, .ref Msn, .ref Mac, .ref Mat])), (Mt, .inl (g 0, 160, .inl fmt))])) (va_Qi (fun (r : Int32) (u : va_W) => ∃ (max : Nat) (zwrx : Int32) (nx : Nat), u = [(Mm, .inr (7, [.int zth, .ref Mt, .int (nI tp), .int (nI max), .int zwrx, .ref Mrr, .ref Mrh, .ref Mrc, .int (nI rh), .int (nI rc), .ref Mn, .ref Mf, .ref Mr, .ref Mh, .int zhp, .int zcc, .ref Ma, .ref Mas, .ref Msn, .ref Mac, .ref Mat])), (Mt, .inl (g 0, 160, .inl fmt))] ∧ r = (nI nx) ∧ ((nx ≤ 99) ∧ (max ≤ tp) ∧ (ma ≤ max) ∧ (zwrx = nmF fmt tp ma (nI lo) zhi) ∧ (zwrx = -1 → max = nmE fmt tp ma))) (wd D (va_A [(Mm, .inr (7, [.int zth, .ref Mt, .int (nI tp), .int (nI ma), .int (-1), .ref Mrr, .ref Mrh, .ref Mrc, .int (nI rh), .int (nI rc), .ref Mn, .ref Mf, .ref Mr, .ref Mh, .int zhp, .int zcc, .ref Ma, .ref Mas, .ref Msn, .ref Mac, .ref Mat])), (Mt, .inl (g 0, 160, .inl fmt))] sz)) (va_A [(Mm, .inr (7, [.int zth, .ref Mt, .int (nI tp), .int (nI ma), .int (-1), .ref Mrr, .ref Mrh, .ref Mrc, .int (nI rh), .int (nI rc), .ref Mn, .ref Mf, .ref Mr, .ref Mh, .int zhp, .int zcc, .ref Ma, .ref Mas, .ref Msn, .ref Mac, .ref Mat])), (Mt, .inl (g 0, 160, .inl fmt))] sz)) 0 0 (va_A [(Mm, .inr (7, [.int zth, .ref Mt, .int (nI tp), .int (nI ma), .int (-1), .ref Mrr, .ref Mrh, .ref Mrc, .int (nI rh), .int (nI rc), .ref Mn, .ref Mf, .ref Mr, .ref Mh, .int zhp, .int zcc, .ref Ma, .ref Mas, .ref Msn, .ref Mac, .ref Mat])), (Mt, .inl (g 0, 160, .inl fmt))] sz) := by
  refine Met.ofW (cc := cX7_number) (maxL := 5) (ret := (some .int)) (by decide) rfl ?_
  intro p e s m args below meth c s₁ B hml hv
  obtain ⟨rfl, hsz, hP, ⟨hK, hN⟩, hD0, hZ⟩ := hv
  have hx := B.exec
  have hb := B.bytes
  have hr := B.returns
  have hts := atoms_spec (ws := wsX7_number) B.pre
  have hown : s.vm.findClass RX7 = some m.cls := findClass_of_methodNamed B.named
  have hlocks := B.notSynchronized
  clear B
  subst hsz
  have hD := hD0.self (sz := s.heap.size)
  clear hD0
  generalize hAe : va_A [(Mm, .inr (7, [.int zth, .ref Mt, .int (nI tp), .int (nI ma), .int (-1), .ref Mrr, .ref Mrh, .ref Mrc, .int (nI rh), .int (nI rc), .ref Mn, .ref Mf, .ref Mr, .ref Mh, .int zhp, .int zcc, .ref Ma, .ref Mas, .ref Msn, .ref Mac, .ref Mat])), (Mt, .inl (g 0, 160, .inl fmt))] s.heap.size = A at hD hZ ⊢
  have hA : ∀ q : Nat, s.heap.size ≤ q → A q := fun q h => by rw [← hAe]; exact Or.inr h
  have hS : va_S A s.heap s.heap [] := va_S.rf
  have f64 := hts (.fieldLink RX7 64 "HopCreditsModel" "at" "I") (List.mem_of_getElem? (i := 2) rfl)
  have f71 := hts (.fieldLink RX7 71 "HopCreditsModel" "wrong" "I") (List.mem_of_getElem? (i := 1) rfl)
  have iX7 : ∀ w ∈ u_ws RX7 TX7 21, w ∈ wsX7_number := fun w h => List.mem_cons_of_mem _ (List.mem_append_right _ (h))
  have hl := lv_entry ([.ref Mm, .int (nI lo), .int zhi]) (n := 5) (Nat.le_of_ble_eq_true rfl)
  rw [lg_entry_eq]
  generalize (lg_sl ([.ref Mm, .int (nI lo), .int zhi]) ++ List.replicate (5 - (lg_sl ([.ref Mm, .int (nI lo), .int zhi])).length) Slot.unset).toArray = ls at hl ⊢
  have hl : lv_has ls 5 [(0, .ref Mm), (1, .int (nI lo)), (2, .int zhi)] := hl
  generalize hQ : MQ below _ _ s _ _ _ = Q
  generalize hH : s.heap = H at hP ⊢
  have hS : va_S A s.heap H [] := by rw [← hH]; exact hS
  clear hH
  refine lv_aload_n hx hb dX7_number_0 rfl (lv_at hl 0 rfl) ?_
  refine va_get (D := D) (ci := 7) (v := .int (-1)) (C := RX7) (T := TX7) (N := 21) hx hb hts iX7 hown hK hP 0 rfl rfl 4 (by decide) f71 (fun _ h9 => h9) rfl dX7_number_1 ?_
  refine lv_iconst (v := (-1)) hx hb dX7_number_4 (by decide) ?_
  refine lv_icmp_ne (tgt := 18) hx hb dX7_number_5 (by decide) (fun cb => absurd (by decide) cb) (fun _ => ?_)
  refine lv_aload_n hx hb dX7_number_8 rfl (lv_at hl 0 rfl) ?_
  refine ky_Vi (As := []) (rest := []) ⟨hx, hb, hml, hown, hts⟩ ⟨hK, hN⟩ hZ hP hD hS hA [0, 1] [] (wc := [(Mm, .inr (7, [.int zth, .ref Mt, .int (nI tp), .int (nI ma), .int (-1), .ref Mrr, .ref Mrh, .ref Mrc, .int (nI rh), .int (nI rc), .ref Mn, .ref Mf, .ref Mr, .ref Mh, .int zhp, .int zcc, .ref Ma, .ref Mas, .ref Msn, .ref Mac, .ref Mat])), (Mt, .inl (g 0, 160, .inl fmt))]) (wr := []) rfl rfl rfl rfl (by decide) (r_X7_ahead l D g H.size Mm zth Mt tp ma (-1) Mrr Mrh Mrc rh rc Mn Mf Mr Mh zhp zcc Ma Mas Msn Mac Mat fmt (show tp ≤ 160 by omega) (show ma ≤ tp by omega)) (cwV 0 hts gX7_number_X7_ahead rfl rfl rfl (by decide +kernel) ⟨(Nat.le_of_ble_eq_true rfl), (Nat.le_of_ble_eq_true rfl)⟩) 0 7 rfl rfl rfl rfl hl.1 rfl (Nat.le_of_ble_eq_true rfl) dX7_number_9 ⟨(Nat.le_of_ble_eq_true rfl), (Nat.le_of_ble_eq_true rfl)⟩ (fun r_1 u H locs hw hP2 hD2 hS2 => ?_)
  clear hP hD hS
  obtain ⟨max_2, rfl, rfl, hf_3, hf_4, hf_5⟩ := hw
  have hPD : PD D A [(Mm, .inr (7, [.int zth, .ref Mt, .int (nI tp), .int (nI max_2), .int (-1), .ref Mrr, .ref Mrh, .ref Mrc, .int (nI rh), .int (nI rc), .ref Mn, .ref Mf, .ref Mr, .ref Mh, .int zhp, .int zcc, .ref Ma, .ref Mas, .ref Msn, .ref Mac, .ref Mat])), (Mt, .inl (g 0, 160, .inl fmt))] H := ⟨hP2, hD2⟩
  have hS := hS2; clear hP2 hD2 hS2; have hP := hPD.1; have hD := hPD.2; clear hPD
  refine W.widen (k := 0) (n := 0) (Nat.le_of_ble_eq_true rfl) (Nat.le_of_ble_eq_true rfl) ?_
  refine lv_topi (fun y_6 hey_6 => ?_)
  refine ky_Si (As := [.int y_6]) (rest := []) ⟨hx, hb, hml, hown, hts⟩ ⟨hK, hN⟩ hZ hP hD hS hA [] [0, 1] (wc := []) (wr := [(Mm, .inr (7, [.int zth, .ref Mt, .int (nI tp), .int (nI max_2), .int (-1), .ref Mrr, .ref Mrh, .ref Mrc, .int (nI rh), .int (nI rc), .ref Mn, .ref Mf, .ref Mr, .ref Mh, .int zhp, .int zcc, .ref Ma, .ref Mas, .ref Msn, .ref Mac, .ref Mat])), (Mt, .inl (g 0, 160, .inl fmt))]) rfl rfl rfl rfl (by decide) (k_X7_isDigit l D g H.size y_6) (va_cwS 1 hts gX7_number_X7_isDigit rfl rfl rfl (by decide +kernel) ⟨(Nat.le_of_ble_eq_true rfl), (Nat.le_of_ble_eq_true rfl)⟩) rfl hl.1 rfl (Nat.le_of_ble_eq_true rfl) dX7_number_12 ⟨(Nat.le_of_ble_eq_true rfl), (Nat.le_of_ble_eq_true rfl)⟩ (fun r_7 u H locs hw hP2 hD2 hS2 => ?_)
  clear hP hD hS
  obtain ⟨rfl, rfl⟩ := hw
  have hPD : PD D A [(Mm, .inr (7, [.int zth, .ref Mt, .int (nI tp), .int (nI max_2), .int (-1), .ref Mrr, .ref Mrh, .ref Mrc, .int (nI rh), .int (nI rc), .ref Mn, .ref Mf, .ref Mr, .ref Mh, .int zhp, .int zcc, .ref Ma, .ref Mas, .ref Msn, .ref Mac, .ref Mat])), (Mt, .inl (g 0, 160, .inl fmt))] H := ⟨hP2, hD2⟩
  have hS := hS2; clear hP2 hD2 hS2; have hP := hPD.1; have hD := hPD.2; clear hPD
  refine W.widen (k := 0) (n := 0) (Nat.le_of_ble_eq_true rfl) (Nat.le_of_ble_eq_true rfl) ?_
  refine lv_if_ne (tgt := 24) hx hb dX7_number_15 (by decide) (fun cb_8 => ?_) (fun cb_8 => ?_)
  · skip
    have hq_9 : 48 ≤ y_6 ∧ y_6 ≤ 57 := b01_1.mp cb_8
    have hPq_13 := hP; have hDq_13 := hD; have hSq_13 := hS; have hlq_13 := hl; clear hP hD hS hl
    obtain ⟨j_10, hl_11, hu_12, rfl⟩ := rg (L := 48) (U := 57) rfl rfl (show 48 < 2 ^ 31 by omega) (show 57 < 2 ^ 31 by omega) hq_9
    have hP := hPq_13; have hD := hDq_13; have hS := hSq_13; have hl := hlq_13; clear hPq_13 hDq_13 hSq_13 hlq_13
    have hlt_14 : max_2 < tp := (fun q9 => here_lt hey_6 q9) (m1_ne (show j_10 < 2 ^ 31 by omega))
    refine lv_iconst (v := 0) hx hb dX7_number_24 (by decide) ?_
    refine lv_istore_n (lv' := [(3, .int 0), (0, .ref Mm), (1, .int (nI lo)), (2, .int zhi)]) hx hb dX7_number_25 rfl hl (by decide) rfl (fun ls hl => ?_)
    refine lv_iconst (v := 0) hx hb dX7_number_26 (by decide) ?_
    refine lv_istore (lv' := [(4, .int 0), (3, .int 0), (0, .ref Mm), (1, .int (nI lo)), (2, .int zhi)]) hx hb dX7_number_27 hl (by decide) rfl (fun ls hl => ?_)
    refine lv_iload hx hb dX7_number_29 (lv_at hl 0 rfl) ?_
    refine lv_iconst (v := 2) hx hb dX7_number_31 (by decide) ?_
    refine lv_icmp_ge (tgt := 74) hx hb dX7_number_32 (by decide) (fun cb => absurd cb (by decide)) (fun _ => ?_)
    refine lv_aload_n hx hb dX7_number_35 rfl (lv_at hl 2 rfl) ?_
    refine ky_Vi (As := []) (rest := []) ⟨hx, hb, hml, hown, hts⟩ ⟨hK, hN⟩ hZ hP hD hS hA [0, 1] [] (wc := [(Mm, .inr (7, [.int zth, .ref Mt, .int (nI tp), .int (nI max_2), .int (-1), .ref Mrr, .ref Mrh, .ref Mrc, .int (nI rh), .int (nI rc), .ref Mn, .ref Mf, .ref Mr, .ref Mh, .int zhp, .int zcc, .ref Ma, .ref Mas, .ref Msn, .ref Mac, .ref Mat])), (Mt, .inl (g 0, 160, .inl fmt))]) (wr := []) rfl rfl rfl rfl (by decide) (k_X7_here l D g H.size Mm zth Mt tp max_2 (-1) Mrr Mrh Mrc rh rc Mn Mf Mr Mh zhp zcc Ma Mas Msn Mac Mat fmt (show tp ≤ 160 by omega) (show max_2 ≤ 1000 by omega)) (cwV 0 hts gX7_number_X7_here rfl rfl rfl (by decide +kernel) ⟨(Nat.le_of_ble_eq_true rfl), (Nat.le_of_ble_eq_true rfl)⟩) 0 7 rfl rfl rfl rfl hl.1 rfl (Nat.le_of_ble_eq_true rfl) dX7_number_36 ⟨(Nat.le_of_ble_eq_true rfl), (Nat.le_of_ble_eq_true rfl)⟩ (fun r_15 u H locs hw hP2 hD2 hS2 => ?_)
    clear hP hD hS
    obtain ⟨rfl, rfl⟩ := hw
    have hPD : PD D A [(Mm, .inr (7, [.int zth, .ref Mt, .int (nI tp), .int (nI max_2), .int (-1), .ref Mrr, .ref Mrh, .ref Mrc, .int (nI rh), .int (nI rc), .ref Mn, .ref Mf, .ref Mr, .ref Mh, .int zhp, .int zcc, .ref Ma, .ref Mas, .ref Msn, .ref Mac, .ref Mat])), (Mt, .inl (g 0, 160, .inl fmt))] H := ⟨hP2, hD2⟩
    have hS := hS2; clear hP2 hD2 hS2; have hP := hPD.1; have hD := hPD.2; clear hPD
    refine W.widen (k := 0) (n := 0) (Nat.le_of_ble_eq_true rfl) (Nat.le_of_ble_eq_true rfl) ?_
    refine lv_eqi (y := (nI j_10)) hey_6.symm ?_
    refine ky_Si (As := [.int (nI j_10)]) (rest := []) ⟨hx, hb, hml, hown, hts⟩ ⟨hK, hN⟩ hZ hP hD hS hA [] [0, 1] (wc := []) (wr := [(Mm, .inr (7, [.int zth, .ref Mt, .int (nI tp), .int (nI max_2), .int (-1), .ref Mrr, .ref Mrh, .ref Mrc, .int (nI rh), .int (nI rc), .ref Mn, .ref Mf, .ref Mr, .ref Mh, .int zhp, .int zcc, .ref Ma, .ref Mas, .ref Msn, .ref Mac, .ref Mat])), (Mt, .inl (g 0, 160, .inl fmt))]) rfl rfl rfl rfl (by decide) (k_X7_isDigit l D g H.size (nI j_10)) (va_cwS 1 hts gX7_number_X7_isDigit rfl rfl rfl (by decide +kernel) ⟨(Nat.le_of_ble_eq_true rfl), (Nat.le_of_ble_eq_true rfl)⟩) rfl hl.1 rfl (Nat.le_of_ble_eq_true rfl) dX7_number_39 ⟨(Nat.le_of_ble_eq_true rfl), (Nat.le_of_ble_eq_true rfl)⟩ (fun r_16 u H locs hw hP2 hD2 hS2 => ?_)
    clear hP hD hS
    obtain ⟨rfl, rfl⟩ := hw
    have hPD : PD D A [(Mm, .inr (7, [.int zth, .ref Mt, .int (nI tp), .int (nI max_2), .int (-1), .ref Mrr, .ref Mrh, .ref Mrc, .int (nI rh), .int (nI rc), .ref Mn, .ref Mf, .ref Mr, .ref Mh, .int zhp, .int zcc, .ref Ma, .ref Mas, .ref Msn, .ref Mac, .ref Mat])), (Mt, .inl (g 0, 160, .inl fmt))] H := ⟨hP2, hD2⟩
    have hS := hS2; clear hP2 hD2 hS2; have hP := hPD.1; have hD := hPD.2; clear hPD
    refine W.widen (k := 0) (n := 0) (Nat.le_of_ble_eq_true rfl) (Nat.le_of_ble_eq_true rfl) ?_
    refine lv_if_eq (tgt := 74) hx hb dX7_number_42 (by decide) (fun cb => absurd cb (b01_1.mpr ⟨nI_le (show 48 ≤ j_10 by omega) (show j_10 < 2 ^ 31 by omega), nI_le (show j_10 ≤ 57 by omega) (by decide)⟩)) (fun _ => ?_)
    refine lv_bipush (v := 10) hx hb dX7_number_45 (by decide) ?_
    refine lv_iload_n hx hb dX7_number_47 rfl (lv_at hl 1 rfl) ?_
    refine lv_imul hx hb dX7_number_48 ?_
    refine lv_eqi (y := 0) (by decide) ?_
    refine lv_aload_n hx hb dX7_number_49 rfl (lv_at hl 2 rfl) ?_
    refine ky_Vi (As := []) (rest := [.int 0]) ⟨hx, hb, hml, hown, hts⟩ ⟨hK, hN⟩ hZ hP hD hS hA [0, 1] [] (wc := [(Mm, .inr (7, [.int zth, .ref Mt, .int (nI tp), .int (nI max_2), .int (-1), .ref Mrr, .ref Mrh, .ref Mrc, .int (nI rh), .int (nI rc), .ref Mn, .ref Mf, .ref Mr, .ref Mh, .int zhp, .int zcc, .ref Ma, .ref Mas, .ref Msn, .ref Mac, .ref Mat])), (Mt, .inl (g 0, 160, .inl fmt))]) (wr := []) rfl rfl rfl rfl (by decide) (k_X7_here l D g H.size Mm zth Mt tp max_2 (-1) Mrr Mrh Mrc rh rc Mn Mf Mr Mh zhp zcc Ma Mas Msn Mac Mat fmt (show tp ≤ 160 by omega) (show max_2 ≤ 1000 by omega)) (cwV 0 hts gX7_number_X7_here rfl rfl rfl (by decide +kernel) ⟨(Nat.le_of_ble_eq_true rfl), (Nat.le_of_ble_eq_true rfl)⟩) 0 7 rfl rfl rfl rfl hl.1 rfl (Nat.le_of_ble_eq_true rfl) dX7_number_50 ⟨(Nat.le_of_ble_eq_true rfl), (Nat.le_of_ble_eq_true rfl)⟩ (fun r_17 u H locs hw hP2 hD2 hS2 => ?_)
    clear hP hD hS
    obtain ⟨rfl, rfl⟩ := hw
    have hPD : PD D A [(Mm, .inr (7, [.int zth, .ref Mt, .int (nI tp), .int (nI max_2), .int (-1), .ref Mrr, .ref Mrh, .ref Mrc, .int (nI rh), .int (nI rc), .ref Mn, .ref Mf, .ref Mr, .ref Mh, .int zhp, .int zcc, .ref Ma, .ref Mas, .ref Msn, .ref Mac, .ref Mat])), (Mt, .inl (g 0, 160, .inl fmt))] H := ⟨hP2, hD2⟩
    have hS := hS2; clear hP2 hD2 hS2; have hP := hPD.1; have hD := hPD.2; clear hPD
    refine W.widen (k := 0) (n := 0) (Nat.le_of_ble_eq_true rfl) (Nat.le_of_ble_eq_true rfl) ?_
    refine lv_eqi (y := (nI j_10)) hey_6.symm ?_
    refine lv_iadd hx hb dX7_number_53 ?_
    refine lv_eqi (y := (nI (0 + j_10))) (nI_add (0) (j_10)) ?_
    refine lv_bipush (v := 48) hx hb dX7_number_54 (by decide) ?_
    refine lv_isub hx hb dX7_number_56 ?_
    refine lv_eqi (y := (nI ((0 + j_10) - 48))) (pk_sub (show 48 ≤ 0 + j_10 by omega)) ?_
    refine lv_istore_n (lv' := [(3, .int (nI ((0 + j_10) - 48))), (4, .int 0), (0, .ref Mm), (1, .int (nI lo)), (2, .int zhi)]) hx hb dX7_number_57 rfl hl (by decide) rfl (fun ls hl => ?_)
    refine lv_aload_n hx hb dX7_number_58 rfl (lv_at hl 2 rfl) ?_
    refine lv_dup hx hb dX7_number_59 rfl ?_
    refine va_get (D := D) (ci := 7) (v := .int (nI max_2)) (C := RX7) (T := TX7) (N := 21) hx hb hts iX7 hown hK hP 0 rfl rfl 3 (by decide) f64 (fun _ h9 => h9) rfl dX7_number_60 ?_
    refine lv_iconst (v := 1) hx hb dX7_number_63 (by decide) ?_
    refine lv_iadd hx hb dX7_number_64 ?_
    refine lv_eqi (y := (nI (max_2 + 1))) (nI_add (max_2) (1)) ?_
    refine va_put (D := D) (ci := 7) (v := .int (nI (max_2 + 1))) (ty := .int) (C := RX7) (T := TX7) (N := 21) hx hb hts iX7 tyX7 tyX7_ok nmX7 hown hK hP hD hS 0 rfl rfl 3 (by decide) f64 (fun _ h9 => h9) rfl (by decide +kernel) (rfl) (rfl) (Nat.le_of_ble_eq_true rfl) dX7_number_65 (fun H locs hP2 hD2 hS2 => ?_)
    clear hP hD hS
    have hPD : PD D A [(Mm, .inr (7, [.int zth, .ref Mt, .int (nI tp), .int (nI (max_2 + 1)), .int (-1), .ref Mrr, .ref Mrh, .ref Mrc, .int (nI rh), .int (nI rc), .ref Mn, .ref Mf, .ref Mr, .ref Mh, .int zhp, .int zcc, .ref Ma, .ref Mas, .ref Msn, .ref Mac, .ref Mat])), (Mt, .inl (g 0, 160, .inl fmt))] H := ⟨hP2, hD2⟩
    have hS := hS2; clear hP2 hD2 hS2; have hP := hPD.1; have hD := hPD.2; clear hPD
    refine lv_iinc (v := 1) (lv' := [(4, .int 1), (3, .int (nI ((0 + j_10) - 48))), (0, .ref Mm), (1, .int (nI lo)), (2, .int zhi)]) hx hb dX7_number_68 hl (k := 1) rfl (by decide) (by decide) rfl (fun ls hl => ?_)
    refine lv_goto (tgt := 29) hx hb dX7_number_71 (by decide) ?_
    refine lv_iload hx hb dX7_number_29 (lv_at hl 0 rfl) ?_
    refine lv_iconst (v := 2) hx hb dX7_number_31 (by decide) ?_
    refine lv_icmp_ge (tgt := 74) hx hb dX7_number_32 (by decide) (fun cb => absurd cb (by decide)) (fun _ => ?_)
    refine lv_aload_n hx hb dX7_number_35 rfl (lv_at hl 2 rfl) ?_
    refine ky_Vi (As := []) (rest := []) ⟨hx, hb, hml, hown, hts⟩ ⟨hK, hN⟩ hZ hP hD hS hA [0, 1] [] (wc := [(Mm, .inr (7, [.int zth, .ref Mt, .int (nI tp), .int (nI (max_2 + 1)), .int (-1), .ref Mrr, .ref Mrh, .ref Mrc, .int (nI rh), .int (nI rc), .ref Mn, .ref Mf, .ref Mr, .ref Mh, .int zhp, .int zcc, .ref Ma, .ref Mas, .ref Msn, .ref Mac, .ref Mat])), (Mt, .inl (g 0, 160, .inl fmt))]) (wr := []) rfl rfl rfl rfl (by decide) (k_X7_here l D g H.size Mm zth Mt tp (max_2 + 1) (-1) Mrr Mrh Mrc rh rc Mn Mf Mr Mh zhp zcc Ma Mas Msn Mac Mat fmt (show tp ≤ 160 by omega) (show (max_2 + 1) ≤ 1000 by omega)) (cwV 0 hts gX7_number_X7_here rfl rfl rfl (by decide +kernel) ⟨(Nat.le_of_ble_eq_true rfl), (Nat.le_of_ble_eq_true rfl)⟩) 0 7 rfl rfl rfl rfl hl.1 rfl (Nat.le_of_ble_eq_true rfl) dX7_number_36 ⟨(Nat.le_of_ble_eq_true rfl), (Nat.le_of_ble_eq_true rfl)⟩ (fun r_18 u H locs hw hP2 hD2 hS2 => ?_)
    clear hP hD hS
    obtain ⟨rfl, rfl⟩ := hw
    have hPD : PD D A [(Mm, .inr (7, [.int zth, .ref Mt, .int (nI tp), .int (nI (max_2 + 1)), .int (-1), .ref Mrr, .ref Mrh, .ref Mrc, .int (nI rh), .int (nI rc), .ref Mn, .ref Mf, .ref Mr, .ref Mh, .int zhp, .int zcc, .ref Ma, .ref Mas, .ref Msn, .ref Mac, .ref Mat])), (Mt, .inl (g 0, 160, .inl fmt))] H := ⟨hP2, hD2⟩
    have hS := hS2; clear hP2 hD2 hS2; have hP := hPD.1; have hD := hPD.2; clear hPD
    refine W.widen (k := 0) (n := 0) (Nat.le_of_ble_eq_true rfl) (Nat.le_of_ble_eq_true rfl) ?_
    refine lv_topi (fun y_19 hey_19 => ?_)
    refine ky_Si (As := [.int y_19]) (rest := []) ⟨hx, hb, hml, hown, hts⟩ ⟨hK, hN⟩ hZ hP hD hS hA [] [0, 1] (wc := []) (wr := [(Mm, .inr (7, [.int zth, .ref Mt, .int (nI tp), .int (nI (max_2 + 1)), .int (-1), .ref Mrr, .ref Mrh, .ref Mrc, .int (nI rh), .int (nI rc), .ref Mn, .ref Mf, .ref Mr, .ref Mh, .int zhp, .int zcc, .ref Ma, .ref Mas, .ref Msn, .ref Mac, .ref Mat])), (Mt, .inl (g 0, 160, .inl fmt))]) rfl rfl rfl rfl (by decide) (k_X7_isDigit l D g H.size y_19) (va_cwS 1 hts gX7_number_X7_isDigit rfl rfl rfl (by decide +kernel) ⟨(Nat.le_of_ble_eq_true rfl), (Nat.le_of_ble_eq_true rfl)⟩) rfl hl.1 rfl (Nat.le_of_ble_eq_true rfl) dX7_number_39 ⟨(Nat.le_of_ble_eq_true rfl), (Nat.le_of_ble_eq_true rfl)⟩ (fun r_20 u H locs hw hP2 hD2 hS2 => ?_)
    clear hP hD hS
    obtain ⟨rfl, rfl⟩ := hw
    have hPD : PD D A [(Mm, .inr (7, [.int zth, .ref Mt, .int (nI tp), .int (nI (max_2 + 1)), .int (-1), .ref Mrr, .ref Mrh, .ref Mrc, .int (nI rh), .int (nI rc), .ref Mn, .ref Mf, .ref Mr, .ref Mh, .int zhp, .int zcc, .ref Ma, .ref Mas, .ref Msn, .ref Mac, .ref Mat])), (Mt, .inl (g 0, 160, .inl fmt))] H := ⟨hP2, hD2⟩
    have hS := hS2; clear hP2 hD2 hS2; have hP := hPD.1; have hD := hPD.2; clear hPD
    refine W.widen (k := 0) (n := 0) (Nat.le_of_ble_eq_true rfl) (Nat.le_of_ble_eq_true rfl) ?_
    refine lv_if_eq (tgt := 74) hx hb dX7_number_42 (by decide) (fun cb_21 => ?_) (fun cb_21 => ?_)
    · skip
      have hq_22 : ¬ (48 ≤ y_19 ∧ y_19 ≤ 57) := b01_0.mp cb_21
      refine lv_aload_n hx hb dX7_number_74 rfl (lv_at hl 2 rfl) ?_
      refine ky_Vi (As := []) (rest := []) ⟨hx, hb, hml, hown, hts⟩ ⟨hK, hN⟩ hZ hP hD hS hA [0, 1] [] (wc := [(Mm, .inr (7, [.int zth, .ref Mt, .int (nI tp), .int (nI (max_2 + 1)), .int (-1), .ref Mrr, .ref Mrh, .ref Mrc, .int (nI rh), .int (nI rc), .ref Mn, .ref Mf, .ref Mr, .ref Mh, .int zhp, .int zcc, .ref Ma, .ref Mas, .ref Msn, .ref Mac, .ref Mat])), (Mt, .inl (g 0, 160, .inl fmt))]) (wr := []) rfl rfl rfl rfl (by decide) (k_X7_here l D g H.size Mm zth Mt tp (max_2 + 1) (-1) Mrr Mrh Mrc rh rc Mn Mf Mr Mh zhp zcc Ma Mas Msn Mac Mat fmt (show tp ≤ 160 by omega) (show (max_2 + 1) ≤ 1000 by omega)) (cwV 0 hts gX7_number_X7_here rfl rfl rfl (by decide +kernel) ⟨(Nat.le_of_ble_eq_true rfl), (Nat.le_of_ble_eq_true rfl)⟩) 0 7 rfl rfl rfl rfl hl.1 rfl (Nat.le_of_ble_eq_true rfl) dX7_number_75 ⟨(Nat.le_of_ble_eq_true rfl), (Nat.le_of_ble_eq_true rfl)⟩ (fun r_23 u H locs hw hP2 hD2 hS2 => ?_)
      clear hP hD hS
      obtain ⟨rfl, rfl⟩ := hw
      have hPD : PD D A [(Mm, .inr (7, [.int zth, .ref Mt, .int (nI tp), .int (nI (max_2 + 1)), .int (-1), .ref Mrr, .ref Mrh, .ref Mrc, .int (nI rh), .int (nI rc), .ref Mn, .ref Mf, .ref Mr, .ref Mh, .int zhp, .int zcc, .ref Ma, .ref Mas, .ref Msn, .ref Mac, .ref Mat])), (Mt, .inl (g 0, 160, .inl fmt))] H := ⟨hP2, hD2⟩
      have hS := hS2; clear hP2 hD2 hS2; have hP := hPD.1; have hD := hPD.2; clear hPD
      refine W.widen (k := 0) (n := 0) (Nat.le_of_ble_eq_true rfl) (Nat.le_of_ble_eq_true rfl) ?_
      refine lv_eqi (y := y_19) hey_19.symm ?_
      refine ky_Si (As := [.int y_19]) (rest := []) ⟨hx, hb, hml, hown, hts⟩ ⟨hK, hN⟩ hZ hP hD hS hA [] [0, 1] (wc := []) (wr := [(Mm, .inr (7, [.int zth, .ref Mt, .int (nI tp), .int (nI (max_2 + 1)), .int (-1), .ref Mrr, .ref Mrh, .ref Mrc, .int (nI rh), .int (nI rc), .ref Mn, .ref Mf, .ref Mr, .ref Mh, .int zhp, .int zcc, .ref Ma, .ref Mas, .ref Msn, .ref Mac, .ref Mat])), (Mt, .inl (g 0, 160, .inl fmt))]) rfl rfl rfl rfl (by decide) (k_X7_isDigit l D g H.size y_19) (va_cwS 1 hts gX7_number_X7_isDigit rfl rfl rfl (by decide +kernel) ⟨(Nat.le_of_ble_eq_true rfl), (Nat.le_of_ble_eq_true rfl)⟩) rfl hl.1 rfl (Nat.le_of_ble_eq_true rfl) dX7_number_78 ⟨(Nat.le_of_ble_eq_true rfl), (Nat.le_of_ble_eq_true rfl)⟩ (fun r_24 u H locs hw hP2 hD2 hS2 => ?_)
      clear hP hD hS
      obtain ⟨rfl, rfl⟩ := hw
      have hPD : PD D A [(Mm, .inr (7, [.int zth, .ref Mt, .int (nI tp), .int (nI (max_2 + 1)), .int (-1), .ref Mrr, .ref Mrh, .ref Mrc, .int (nI rh), .int (nI rc), .ref Mn, .ref Mf, .ref Mr, .ref Mh, .int zhp, .int zcc, .ref Ma, .ref Mas, .ref Msn, .ref Mac, .ref Mat])), (Mt, .inl (g 0, 160, .inl fmt))] H := ⟨hP2, hD2⟩
      have hS := hS2; clear hP2 hD2 hS2; have hP := hPD.1; have hD := hPD.2; clear hPD
      refine W.widen (k := 0) (n := 0) (Nat.le_of_ble_eq_true rfl) (Nat.le_of_ble_eq_true rfl) ?_
      refine lv_if_eq (tgt := 91) hx hb dX7_number_81 (by decide) (fun cb_25 => ?_) (fun cb_25 => ?_)
      · skip
        have hq_26 : ¬ (48 ≤ y_19 ∧ y_19 ≤ 57) := b01_0.mp cb_25
        refine lv_iload_n hx hb dX7_number_91 rfl (lv_at hl 1 rfl) ?_
        refine lv_iload_n hx hb dX7_number_92 rfl (lv_at hl 3 rfl) ?_
        refine lv_iload_n hx hb dX7_number_93 rfl (lv_at hl 4 rfl) ?_
        refine ky_Si (As := [.int (nI ((0 + j_10) - 48)), .int (nI lo), .int zhi]) (rest := []) ⟨hx, hb, hml, hown, hts⟩ ⟨hK, hN⟩ hZ hP hD hS hA [] [0, 1] (wc := []) (wr := [(Mm, .inr (7, [.int zth, .ref Mt, .int (nI tp), .int (nI (max_2 + 1)), .int (-1), .ref Mrr, .ref Mrh, .ref Mrc, .int (nI rh), .int (nI rc), .ref Mn, .ref Mf, .ref Mr, .ref Mh, .int zhp, .int zcc, .ref Ma, .ref Mas, .ref Msn, .ref Mac, .ref Mat])), (Mt, .inl (g 0, 160, .inl fmt))]) rfl rfl rfl rfl (by decide) (k_X7_in l D g H.size (nI ((0 + j_10) - 48)) (nI lo) zhi) (va_cwS 3 hts gX7_number_X7_in rfl rfl rfl (by decide +kernel) ⟨(Nat.le_of_ble_eq_true rfl), (Nat.le_of_ble_eq_true rfl)⟩) rfl hl.1 rfl (Nat.le_of_ble_eq_true rfl) dX7_number_94 ⟨(Nat.le_of_ble_eq_true rfl), (Nat.le_of_ble_eq_true rfl)⟩ (fun r_27 u H locs hw hP2 hD2 hS2 => ?_)
        clear hP hD hS
        obtain ⟨rfl, rfl⟩ := hw
        have hPD : PD D A [(Mm, .inr (7, [.int zth, .ref Mt, .int (nI tp), .int (nI (max_2 + 1)), .int (-1), .ref Mrr, .ref Mrh, .ref Mrc, .int (nI rh), .int (nI rc), .ref Mn, .ref Mf, .ref Mr, .ref Mh, .int zhp, .int zcc, .ref Ma, .ref Mas, .ref Msn, .ref Mac, .ref Mat])), (Mt, .inl (g 0, 160, .inl fmt))] H := ⟨hP2, hD2⟩
        have hS := hS2; clear hP2 hD2 hS2; have hP := hPD.1; have hD := hPD.2; clear hPD
        refine W.widen (k := 0) (n := 0) (Nat.le_of_ble_eq_true rfl) (Nat.le_of_ble_eq_true rfl) ?_
        refine lv_if_ne (tgt := 114) hx hb dX7_number_97 (by decide) (fun cb_28 => ?_) (fun cb_28 => ?_)
        · skip
          have hq_29 : (nI lo) ≤ (nI ((0 + j_10) - 48)) ∧ (nI ((0 + j_10) - 48)) ≤ zhi := b01_1.mp cb_28
          have hq_30 := hq_29.1; have hq_31 := hq_29.2
          refine lv_iload_n hx hb dX7_number_114 rfl (lv_at hl 1 rfl) ?_
          have hP9 := hP; have hD9 := hD
          subst hQ
          refine W.widen (k := 0) (n := 0) (Nat.le_of_ble_eq_true rfl) (Nat.le_of_ble_eq_true rfl) ?_
          exact W.iret (v := (nI ((0 + j_10) - 48))) hx hb hr (fun tS htS _ => ⟨⟨_, _, rfl, ⟨(max_2 + 1), (-1), (0 + j_10) - 48, rfl, rfl, ⟨(show (0 + j_10) - 48 ≤ 99 by omega), (show (max_2 + 1) ≤ tp by omega), (show ma ≤ (max_2 + 1) by omega), (by rw [nm_b hf_5 (pd_y hey_6.symm (by omega) (by omega)).1 (fun q => (pd_n hey_19.symm hq_26) q.1), (nm_1 hf_5 (pd_y hey_6.symm (by omega) (by omega)).1 (pd_n hey_19.symm hq_26)).1, (show nmV fmt tp ma = (nI ((0 + j_10) - 48)) from ((nm_1 hf_5 (pd_y hey_6.symm (by omega) (by omega)).1 (pd_n hey_19.symm hq_26)).2.trans (by rw [(pd_y hey_6.symm (by omega) (by omega)).2]; exact vN1 (by omega)))), if_neg (fun q => q.elim (fun q => absurd hq_29.1 (Int32.not_le.mpr q)) (fun q => absurd hq_29.2 (Int32.not_le.mpr q)))]), (fun _ => (nm_1 hf_5 (pd_y hey_6.symm (by omega) (by omega)).1 (pd_n hey_19.symm hq_26)).1.symm)⟩⟩, by rw [htS]; exact hP9, hD9⟩, hS.F htS⟩) hS.2.2 dX7_number_115
        · skip
          have hq_32 : ¬ ((nI lo) ≤ (nI ((0 + j_10) - 48)) ∧ (nI ((0 + j_10) - 48)) ≤ zhi) := b01_0.mp cb_28
          refine lv_aload_n hx hb dX7_number_100 rfl (lv_at hl 2 rfl) ?_
          refine lv_dup hx hb dX7_number_101 rfl ?_
          refine va_get (D := D) (ci := 7) (v := .int (nI (max_2 + 1))) (C := RX7) (T := TX7) (N := 21) hx hb hts iX7 hown hK hP 0 rfl rfl 3 (by decide) f64 (fun _ h9 => h9) rfl dX7_number_102 ?_
          refine lv_iconst (v := 1) hx hb dX7_number_105 (by decide) ?_
          refine lv_isub hx hb dX7_number_106 ?_
          refine lv_eqi (y := (nI ((max_2 + 1) - 1))) (pk_sub (show 1 ≤ max_2 + 1 by omega)) ?_
          refine va_put (D := D) (ci := 7) (v := .int (nI ((max_2 + 1) - 1))) (ty := .int) (C := RX7) (T := TX7) (N := 21) hx hb hts iX7 tyX7 tyX7_ok nmX7 hown hK hP hD hS 0 rfl rfl 3 (by decide) f64 (fun _ h9 => h9) rfl (by decide +kernel) (rfl) (rfl) (Nat.le_of_ble_eq_true rfl) dX7_number_107 (fun H locs hP2 hD2 hS2 => ?_)
          clear hP hD hS
          have hPD : PD D A [(Mm, .inr (7, [.int zth, .ref Mt, .int (nI tp), .int (nI ((max_2 + 1) - 1)), .int (-1), .ref Mrr, .ref Mrh, .ref Mrc, .int (nI rh), .int (nI rc), .ref Mn, .ref Mf, .ref Mr, .ref Mh, .int zhp, .int zcc, .ref Ma, .ref Mas, .ref Msn, .ref Mac, .ref Mat])), (Mt, .inl (g 0, 160, .inl fmt))] H := ⟨hP2, hD2⟩
          have hS := hS2; clear hP2 hD2 hS2; have hP := hPD.1; have hD := hPD.2; clear hPD
          refine lv_aload_n hx hb dX7_number_110 rfl (lv_at hl 2 rfl) ?_
          refine ky_Vv (As := []) (rest := []) ⟨hx, hb, hml, hown, hts⟩ ⟨hK, hN⟩ hZ hP hD hS hA [0] [1] (wc := [(Mm, .inr (7, [.int zth, .ref Mt, .int (nI tp), .int (nI ((max_2 + 1) - 1)), .int (-1), .ref Mrr, .ref Mrh, .ref Mrc, .int (nI rh), .int (nI rc), .ref Mn, .ref Mf, .ref Mr, .ref Mh, .int zhp, .int zcc, .ref Ma, .ref Mas, .ref Msn, .ref Mac, .ref Mat]))]) (wr := [(Mt, .inl (g 0, 160, .inl fmt))]) rfl rfl rfl rfl (by decide) (r_X7_bad l D g H.size Mm zth Mt tp ((max_2 + 1) - 1) Mrr Mrh Mrc rh rc Mn Mf Mr Mh zhp zcc Ma Mas Msn Mac Mat) (cwV 0 hts gX7_number_X7_bad rfl rfl rfl (by decide +kernel) ⟨(Nat.le_of_ble_eq_true rfl), (Nat.le_of_ble_eq_true rfl)⟩) 0 7 rfl rfl rfl rfl hl.1 rfl (Nat.le_of_ble_eq_true rfl) dX7_number_111 ⟨(Nat.le_of_ble_eq_true rfl), (Nat.le_of_ble_eq_true rfl)⟩ (fun u H locs hw hP2 hD2 hS2 => ?_)
          clear hP hD hS
          obtain rfl := hw
          have hPD : PD D A [(Mt, .inl (g 0, 160, .inl fmt)), (Mm, .inr (7, [.int zth, .ref Mt, .int (nI tp), .int (nI ((max_2 + 1) - 1)), .int (nI ((max_2 + 1) - 1)), .ref Mrr, .ref Mrh, .ref Mrc, .int (nI rh), .int (nI rc), .ref Mn, .ref Mf, .ref Mr, .ref Mh, .int zhp, .int zcc, .ref Ma, .ref Mas, .ref Msn, .ref Mac, .ref Mat]))] H := ⟨hP2, hD2⟩
          have hS := hS2; clear hP2 hD2 hS2; have hP := hPD.1; have hD := hPD.2; clear hPD
          refine W.widen (k := 0) (n := 0) (Nat.le_of_ble_eq_true rfl) (Nat.le_of_ble_eq_true rfl) ?_
          refine lv_iload_n hx hb dX7_number_114 rfl (lv_at hl 1 rfl) ?_
          have hPD9 : PD D A [(Mm, .inr (7, [.int zth, .ref Mt, .int (nI tp), .int (nI ((max_2 + 1) - 1)), .int (nI ((max_2 + 1) - 1)), .ref Mrr, .ref Mrh, .ref Mrc, .int (nI rh), .int (nI rc), .ref Mn, .ref Mf, .ref Mr, .ref Mh, .int zhp, .int zcc, .ref Ma, .ref Mas, .ref Msn, .ref Mac, .ref Mat])), (Mt, .inl (g 0, 160, .inl fmt))] H := ⟨hP.sub [1, 0] rfl, hD.sub [1, 0] (by decide) rfl⟩
          have hP9 := hPD9.1; have hD9 := hPD9.2
          subst hQ
          refine W.widen (k := 0) (n := 0) (Nat.le_of_ble_eq_true rfl) (Nat.le_of_ble_eq_true rfl) ?_
          exact W.iret (v := (nI ((0 + j_10) - 48))) hx hb hr (fun tS htS _ => ⟨⟨_, _, rfl, ⟨((max_2 + 1) - 1), (nI ((max_2 + 1) - 1)), (0 + j_10) - 48, rfl, rfl, ⟨(show (0 + j_10) - 48 ≤ 99 by omega), (show ((max_2 + 1) - 1) ≤ tp by omega), (show ma ≤ ((max_2 + 1) - 1) by omega), (by rw [nm_b hf_5 (pd_y hey_6.symm (by omega) (by omega)).1 (fun q => (pd_n hey_19.symm hq_26) q.1), (nm_1 hf_5 (pd_y hey_6.symm (by omega) (by omega)).1 (pd_n hey_19.symm hq_26)).1, (show nmV fmt tp ma = (nI ((0 + j_10) - 48)) from ((nm_1 hf_5 (pd_y hey_6.symm (by omega) (by omega)).1 (pd_n hey_19.symm hq_26)).2.trans (by rw [(pd_y hey_6.symm (by omega) (by omega)).2]; exact vN1 (by omega)))), if_pos (Classical.byContradiction (fun q => hq_32 ⟨Int32.not_lt.mp (fun z => q (Or.inl z)), Int32.not_lt.mp (fun z => q (Or.inr z))⟩))]), (fun q => absurd q (m1_ne (show (max_2 + 1) - 1 < 2 ^ 31 by omega)))⟩⟩, by rw [htS]; exact hP9, hD9⟩, hS.F htS⟩) hS.2.2 dX7_number_115
      · skip
        have hq_34 : 48 ≤ y_19 ∧ y_19 ≤ 57 := b01_1.mp cb_25
        have hPq_38 := hP; have hDq_38 := hD; have hSq_38 := hS; have hlq_38 := hl; clear hP hD hS hl
        obtain ⟨j_35, hl_36, hu_37, rfl⟩ := rg (L := 48) (U := 57) rfl rfl (show 48 < 2 ^ 31 by omega) (show 57 < 2 ^ 31 by omega) hq_34
        have hP := hPq_38; have hD := hDq_38; have hS := hSq_38; have hl := hlq_38; clear hPq_38 hDq_38 hSq_38 hlq_38
        have hlt_39 : (max_2 + 1) < tp := (fun q9 => here_lt hey_19 q9) (m1_ne (show j_35 < 2 ^ 31 by omega))
        refine lv_aload_n hx hb dX7_number_84 rfl (lv_at hl 2 rfl) ?_
        refine ky_Vv (As := []) (rest := []) ⟨hx, hb, hml, hown, hts⟩ ⟨hK, hN⟩ hZ hP hD hS hA [0] [1] (wc := [(Mm, .inr (7, [.int zth, .ref Mt, .int (nI tp), .int (nI (max_2 + 1)), .int (-1), .ref Mrr, .ref Mrh, .ref Mrc, .int (nI rh), .int (nI rc), .ref Mn, .ref Mf, .ref Mr, .ref Mh, .int zhp, .int zcc, .ref Ma, .ref Mas, .ref Msn, .ref Mac, .ref Mat]))]) (wr := [(Mt, .inl (g 0, 160, .inl fmt))]) rfl rfl rfl rfl (by decide) (r_X7_bad l D g H.size Mm zth Mt tp (max_2 + 1) Mrr Mrh Mrc rh rc Mn Mf Mr Mh zhp zcc Ma Mas Msn Mac Mat) (cwV 0 hts gX7_number_X7_bad rfl rfl rfl (by decide +kernel) ⟨(Nat.le_of_ble_eq_true rfl), (Nat.le_of_ble_eq_true rfl)⟩) 0 7 rfl rfl rfl rfl hl.1 rfl (Nat.le_of_ble_eq_true rfl) dX7_number_85 ⟨(Nat.le_of_ble_eq_true rfl), (Nat.le_of_ble_eq_true rfl)⟩ (fun u H locs hw hP2 hD2 hS2 => ?_)
        clear hP hD hS
        obtain rfl := hw
        have hPD : PD D A [(Mt, .inl (g 0, 160, .inl fmt)), (Mm, .inr (7, [.int zth, .ref Mt, .int (nI tp), .int (nI (max_2 + 1)), .int (nI (max_2 + 1)), .ref Mrr, .ref Mrh, .ref Mrc, .int (nI rh), .int (nI rc), .ref Mn, .ref Mf, .ref Mr, .ref Mh, .int zhp, .int zcc, .ref Ma, .ref Mas, .ref Msn, .ref Mac, .ref Mat]))] H := ⟨hP2, hD2⟩
        have hS := hS2; clear hP2 hD2 hS2; have hP := hPD.1; have hD := hPD.2; clear hPD
        refine W.widen (k := 0) (n := 0) (Nat.le_of_ble_eq_true rfl) (Nat.le_of_ble_eq_true rfl) ?_
        refine lv_goto (tgt := 114) hx hb dX7_number_88 (by decide) ?_
        refine lv_iload_n hx hb dX7_number_114 rfl (lv_at hl 1 rfl) ?_
        have hPD9 : PD D A [(Mm, .inr (7, [.int zth, .ref Mt, .int (nI tp), .int (nI (max_2 + 1)), .int (nI (max_2 + 1)), .ref Mrr, .ref Mrh, .ref Mrc, .int (nI rh), .int (nI rc), .ref Mn, .ref Mf, .ref Mr, .ref Mh, .int zhp, .int zcc, .ref Ma, .ref Mas, .ref Msn, .ref Mac, .ref Mat])), (Mt, .inl (g 0, 160, .inl fmt))] H := ⟨hP.sub [1, 0] rfl, hD.sub [1, 0] (by decide) rfl⟩
        have hP9 := hPD9.1; have hD9 := hPD9.2
        subst hQ
        refine W.widen (k := 0) (n := 0) (Nat.le_of_ble_eq_true rfl) (Nat.le_of_ble_eq_true rfl) ?_
        exact W.iret (v := (nI ((0 + j_10) - 48))) hx hb hr (fun tS htS _ => ⟨⟨_, _, rfl, ⟨(max_2 + 1), (nI (max_2 + 1)), (0 + j_10) - 48, rfl, rfl, ⟨(show (0 + j_10) - 48 ≤ 99 by omega), (show (max_2 + 1) ≤ tp by omega), (show ma ≤ (max_2 + 1) by omega), (absurd hq_34 hq_22), (absurd hq_34 hq_22)⟩⟩, by rw [htS]; exact hP9, hD9⟩, hS.F htS⟩) hS.2.2 dX7_number_115
    · skip
      have hq_41 : 48 ≤ y_19 ∧ y_19 ≤ 57 := b01_1.mp cb_21
      have hPq_45 := hP; have hDq_45 := hD; have hSq_45 := hS; have hlq_45 := hl; clear hP hD hS hl
      obtain ⟨j_42, hl_43, hu_44, rfl⟩ := rg (L := 48) (U := 57) rfl rfl (show 48 < 2 ^ 31 by omega) (show 57 < 2 ^ 31 by omega) hq_41
      have hP := hPq_45; have hD := hDq_45; have hS := hSq_45; have hl := hlq_45; clear hPq_45 hDq_45 hSq_45 hlq_45
      have hlt_46 : (max_2 + 1) < tp := (fun q9 => here_lt hey_19 q9) (m1_ne (show j_42 < 2 ^ 31 by omega))
      refine lv_bipush (v := 10) hx hb dX7_number_45 (by decide) ?_
      refine lv_iload_n hx hb dX7_number_47 rfl (lv_at hl 1 rfl) ?_
      refine lv_imul hx hb dX7_number_48 ?_
      refine lv_eqi (y := (nI (10 * ((0 + j_10) - 48)))) (pk_mul (10) ((0 + j_10) - 48)) ?_
      refine lv_aload_n hx hb dX7_number_49 rfl (lv_at hl 2 rfl) ?_
      refine ky_Vi (As := []) (rest := [.int (nI (10 * ((0 + j_10) - 48)))]) ⟨hx, hb, hml, hown, hts⟩ ⟨hK, hN⟩ hZ hP hD hS hA [0, 1] [] (wc := [(Mm, .inr (7, [.int zth, .ref Mt, .int (nI tp), .int (nI (max_2 + 1)), .int (-1), .ref Mrr, .ref Mrh, .ref Mrc, .int (nI rh), .int (nI rc), .ref Mn, .ref Mf, .ref Mr, .ref Mh, .int zhp, .int zcc, .ref Ma, .ref Mas, .ref Msn, .ref Mac, .ref Mat])), (Mt, .inl (g 0, 160, .inl fmt))]) (wr := []) rfl rfl rfl rfl (by decide) (k_X7_here l D g H.size Mm zth Mt tp (max_2 + 1) (-1) Mrr Mrh Mrc rh rc Mn Mf Mr Mh zhp zcc Ma Mas Msn Mac Mat fmt (show tp ≤ 160 by omega) (show (max_2 + 1) ≤ 1000 by omega)) (cwV 0 hts gX7_number_X7_here rfl rfl rfl (by decide +kernel) ⟨(Nat.le_of_ble_eq_true rfl), (Nat.le_of_ble_eq_true rfl)⟩) 0 7 rfl rfl rfl rfl hl.1 rfl (Nat.le_of_ble_eq_true rfl) dX7_number_50 ⟨(Nat.le_of_ble_eq_true rfl), (Nat.le_of_ble_eq_true rfl)⟩ (fun r_47 u H locs hw hP2 hD2 hS2 => ?_)
      clear hP hD hS
      obtain ⟨rfl, rfl⟩ := hw
      have hPD : PD D A [(Mm, .inr (7, [.int zth, .ref Mt, .int (nI tp), .int (nI (max_2 + 1)), .int (-1), .ref Mrr, .ref Mrh, .ref Mrc, .int (nI rh), .int (nI rc), .ref Mn, .ref Mf, .ref Mr, .ref Mh, .int zhp, .int zcc, .ref Ma, .ref Mas, .ref Msn, .ref Mac, .ref Mat])), (Mt, .inl (g 0, 160, .inl fmt))] H := ⟨hP2, hD2⟩
      have hS := hS2; clear hP2 hD2 hS2; have hP := hPD.1; have hD := hPD.2; clear hPD
      refine W.widen (k := 0) (n := 0) (Nat.le_of_ble_eq_true rfl) (Nat.le_of_ble_eq_true rfl) ?_
      refine lv_eqi (y := (nI j_42)) hey_19.symm ?_
      refine lv_iadd hx hb dX7_number_53 ?_
      refine lv_eqi (y := (nI (10 * ((0 + j_10) - 48) + j_42))) (nI_add (10 * ((0 + j_10) - 48)) (j_42)) ?_
      refine lv_bipush (v := 48) hx hb dX7_number_54 (by decide) ?_
      refine lv_isub hx hb dX7_number_56 ?_
      refine lv_eqi (y := (nI ((10 * ((0 + j_10) - 48) + j_42) - 48))) (pk_sub (show 48 ≤ 10 * ((0 + j_10) - 48) + j_42 by omega)) ?_
      refine lv_istore_n (lv' := [(3, .int (nI ((10 * ((0 + j_10) - 48) + j_42) - 48))), (4, .int 1), (0, .ref Mm), (1, .int (nI lo)), (2, .int zhi)]) hx hb dX7_number_57 rfl hl (by decide) rfl (fun ls hl => ?_)
      refine lv_aload_n hx hb dX7_number_58 rfl (lv_at hl 2 rfl) ?_
      refine lv_dup hx hb dX7_number_59 rfl ?_
      refine va_get (D := D) (ci := 7) (v := .int (nI (max_2 + 1))) (C := RX7) (T := TX7) (N := 21) hx hb hts iX7 hown hK hP 0 rfl rfl 3 (by decide) f64 (fun _ h9 => h9) rfl dX7_number_60 ?_
      refine lv_iconst (v := 1) hx hb dX7_number_63 (by decide) ?_
      refine lv_iadd hx hb dX7_number_64 ?_
      refine lv_eqi (y := (nI (max_2 + 1 + 1))) (nI_add (max_2 + 1) (1)) ?_
      refine va_put (D := D) (ci := 7) (v := .int (nI (max_2 + 1 + 1))) (ty := .int) (C := RX7) (T := TX7) (N := 21) hx hb hts iX7 tyX7 tyX7_ok nmX7 hown hK hP hD hS 0 rfl rfl 3 (by decide) f64 (fun _ h9 => h9) rfl (by decide +kernel) (rfl) (rfl) (Nat.le_of_ble_eq_true rfl) dX7_number_65 (fun H locs hP2 hD2 hS2 => ?_)
      clear hP hD hS
      have hPD : PD D A [(Mm, .inr (7, [.int zth, .ref Mt, .int (nI tp), .int (nI (max_2 + 1 + 1)), .int (-1), .ref Mrr, .ref Mrh, .ref Mrc, .int (nI rh), .int (nI rc), .ref Mn, .ref Mf, .ref Mr, .ref Mh, .int zhp, .int zcc, .ref Ma, .ref Mas, .ref Msn, .ref Mac, .ref Mat])), (Mt, .inl (g 0, 160, .inl fmt))] H := ⟨hP2, hD2⟩
      have hS := hS2; clear hP2 hD2 hS2; have hP := hPD.1; have hD := hPD.2; clear hPD
      refine lv_iinc (v := 2) (lv' := [(4, .int 2), (3, .int (nI ((10 * ((0 + j_10) - 48) + j_42) - 48))), (0, .ref Mm), (1, .int (nI lo)), (2, .int zhi)]) hx hb dX7_number_68 hl (k := 1) rfl (by decide) (by decide) rfl (fun ls hl => ?_)
      refine lv_goto (tgt := 29) hx hb dX7_number_71 (by decide) ?_
      refine lv_iload hx hb dX7_number_29 (lv_at hl 0 rfl) ?_
      refine lv_iconst (v := 2) hx hb dX7_number_31 (by decide) ?_
      refine lv_icmp_ge (tgt := 74) hx hb dX7_number_32 (by decide) (fun _ => ?_) (fun cb => absurd (by decide) cb)
      refine lv_aload_n hx hb dX7_number_74 rfl (lv_at hl 2 rfl) ?_
      refine ky_Vi (As := []) (rest := []) ⟨hx, hb, hml, hown, hts⟩ ⟨hK, hN⟩ hZ hP hD hS hA [0, 1] [] (wc := [(Mm, .inr (7, [.int zth, .ref Mt, .int (nI tp), .int (nI (max_2 + 1 + 1)), .int (-1), .ref Mrr, .ref Mrh, .ref Mrc, .int (nI rh), .int (nI rc), .ref Mn, .ref Mf, .ref Mr, .ref Mh, .int zhp, .int zcc, .ref Ma, .ref Mas, .ref Msn, .ref Mac, .ref Mat])), (Mt, .inl (g 0, 160, .inl fmt))]) (wr := []) rfl rfl rfl rfl (by decide) (k_X7_here l D g H.size Mm zth Mt tp (max_2 + 1 + 1) (-1) Mrr Mrh Mrc rh rc Mn Mf Mr Mh zhp zcc Ma Mas Msn Mac Mat fmt (show tp ≤ 160 by omega) (show (max_2 + 1 + 1) ≤ 1000 by omega)) (cwV 0 hts gX7_number_X7_here rfl rfl rfl (by decide +kernel) ⟨(Nat.le_of_ble_eq_true rfl), (Nat.le_of_ble_eq_true rfl)⟩) 0 7 rfl rfl rfl rfl hl.1 rfl (Nat.le_of_ble_eq_true rfl) dX7_number_75 ⟨(Nat.le_of_ble_eq_true rfl), (Nat.le_of_ble_eq_true rfl)⟩ (fun r_48 u H locs hw hP2 hD2 hS2 => ?_)
      clear hP hD hS
      obtain ⟨rfl, rfl⟩ := hw
      have hPD : PD D A [(Mm, .inr (7, [.int zth, .ref Mt, .int (nI tp), .int (nI (max_2 + 1 + 1)), .int (-1), .ref Mrr, .ref Mrh, .ref Mrc, .int (nI rh), .int (nI rc), .ref Mn, .ref Mf, .ref Mr, .ref Mh, .int zhp, .int zcc, .ref Ma, .ref Mas, .ref Msn, .ref Mac, .ref Mat])), (Mt, .inl (g 0, 160, .inl fmt))] H := ⟨hP2, hD2⟩
      have hS := hS2; clear hP2 hD2 hS2; have hP := hPD.1; have hD := hPD.2; clear hPD
      refine W.widen (k := 0) (n := 0) (Nat.le_of_ble_eq_true rfl) (Nat.le_of_ble_eq_true rfl) ?_
      refine lv_topi (fun y_49 hey_49 => ?_)
      refine ky_Si (As := [.int y_49]) (rest := []) ⟨hx, hb, hml, hown, hts⟩ ⟨hK, hN⟩ hZ hP hD hS hA [] [0, 1] (wc := []) (wr := [(Mm, .inr (7, [.int zth, .ref Mt, .int (nI tp), .int (nI (max_2 + 1 + 1)), .int (-1), .ref Mrr, .ref Mrh, .ref Mrc, .int (nI rh), .int (nI rc), .ref Mn, .ref Mf, .ref Mr, .ref Mh, .int zhp, .int zcc, .ref Ma, .ref Mas, .ref Msn, .ref Mac, .ref Mat])), (Mt, .inl (g 0, 160, .inl fmt))]) rfl rfl rfl rfl (by decide) (k_X7_isDigit l D g H.size y_49) (va_cwS 1 hts gX7_number_X7_isDigit rfl rfl rfl (by decide +kernel) ⟨(Nat.le_of_ble_eq_true rfl), (Nat.le_of_ble_eq_true rfl)⟩) rfl hl.1 rfl (Nat.le_of_ble_eq_true rfl) dX7_number_78 ⟨(Nat.le_of_ble_eq_true rfl), (Nat.le_of_ble_eq_true rfl)⟩ (fun r_50 u H locs hw hP2 hD2 hS2 => ?_)
      clear hP hD hS
      obtain ⟨rfl, rfl⟩ := hw
      have hPD : PD D A [(Mm, .inr (7, [.int zth, .ref Mt, .int (nI tp), .int (nI (max_2 + 1 + 1)), .int (-1), .ref Mrr, .ref Mrh, .ref Mrc, .int (nI rh), .int (nI rc), .ref Mn, .ref Mf, .ref Mr, .ref Mh, .int zhp, .int zcc, .ref Ma, .ref Mas, .ref Msn, .ref Mac, .ref Mat])), (Mt, .inl (g 0, 160, .inl fmt))] H := ⟨hP2, hD2⟩
      have hS := hS2; clear hP2 hD2 hS2; have hP := hPD.1; have hD := hPD.2; clear hPD
      refine W.widen (k := 0) (n := 0) (Nat.le_of_ble_eq_true rfl) (Nat.le_of_ble_eq_true rfl) ?_
      refine lv_if_eq (tgt := 91) hx hb dX7_number_81 (by decide) (fun cb_51 => ?_) (fun cb_51 => ?_)
      · skip
        have hq_52 : ¬ (48 ≤ y_49 ∧ y_49 ≤ 57) := b01_0.mp cb_51
        refine lv_iload_n hx hb dX7_number_91 rfl (lv_at hl 1 rfl) ?_
        refine lv_iload_n hx hb dX7_number_92 rfl (lv_at hl 3 rfl) ?_
        refine lv_iload_n hx hb dX7_number_93 rfl (lv_at hl 4 rfl) ?_
        refine ky_Si (As := [.int (nI ((10 * ((0 + j_10) - 48) + j_42) - 48)), .int (nI lo), .int zhi]) (rest := []) ⟨hx, hb, hml, hown, hts⟩ ⟨hK, hN⟩ hZ hP hD hS hA [] [0, 1] (wc := []) (wr := [(Mm, .inr (7, [.int zth, .ref Mt, .int (nI tp), .int (nI (max_2 + 1 + 1)), .int (-1), .ref Mrr, .ref Mrh, .ref Mrc, .int (nI rh), .int (nI rc), .ref Mn, .ref Mf, .ref Mr, .ref Mh, .int zhp, .int zcc, .ref Ma, .ref Mas, .ref Msn, .ref Mac, .ref Mat])), (Mt, .inl (g 0, 160, .inl fmt))]) rfl rfl rfl rfl (by decide) (k_X7_in l D g H.size (nI ((10 * ((0 + j_10) - 48) + j_42) - 48)) (nI lo) zhi) (va_cwS 3 hts gX7_number_X7_in rfl rfl rfl (by decide +kernel) ⟨(Nat.le_of_ble_eq_true rfl), (Nat.le_of_ble_eq_true rfl)⟩) rfl hl.1 rfl (Nat.le_of_ble_eq_true rfl) dX7_number_94 ⟨(Nat.le_of_ble_eq_true rfl), (Nat.le_of_ble_eq_true rfl)⟩ (fun r_53 u H locs hw hP2 hD2 hS2 => ?_)
        clear hP hD hS
        obtain ⟨rfl, rfl⟩ := hw
        have hPD : PD D A [(Mm, .inr (7, [.int zth, .ref Mt, .int (nI tp), .int (nI (max_2 + 1 + 1)), .int (-1), .ref Mrr, .ref Mrh, .ref Mrc, .int (nI rh), .int (nI rc), .ref Mn, .ref Mf, .ref Mr, .ref Mh, .int zhp, .int zcc, .ref Ma, .ref Mas, .ref Msn, .ref Mac, .ref Mat])), (Mt, .inl (g 0, 160, .inl fmt))] H := ⟨hP2, hD2⟩
        have hS := hS2; clear hP2 hD2 hS2; have hP := hPD.1; have hD := hPD.2; clear hPD
        refine W.widen (k := 0) (n := 0) (Nat.le_of_ble_eq_true rfl) (Nat.le_of_ble_eq_true rfl) ?_
        refine lv_if_ne (tgt := 114) hx hb dX7_number_97 (by decide) (fun cb_54 => ?_) (fun cb_54 => ?_)
        · skip
          have hq_55 : (nI lo) ≤ (nI ((10 * ((0 + j_10) - 48) + j_42) - 48)) ∧ (nI ((10 * ((0 + j_10) - 48) + j_42) - 48)) ≤ zhi := b01_1.mp cb_54
          have hq_56 := hq_55.1; have hq_57 := hq_55.2
          refine lv_iload_n hx hb dX7_number_114 rfl (lv_at hl 1 rfl) ?_
          have hP9 := hP; have hD9 := hD
          subst hQ
          refine W.widen (k := 0) (n := 0) (Nat.le_of_ble_eq_true rfl) (Nat.le_of_ble_eq_true rfl) ?_
          exact W.iret (v := (nI ((10 * ((0 + j_10) - 48) + j_42) - 48))) hx hb hr (fun tS htS _ => ⟨⟨_, _, rfl, ⟨(max_2 + 1 + 1), (-1), (10 * ((0 + j_10) - 48) + j_42) - 48, rfl, rfl, ⟨(show (10 * ((0 + j_10) - 48) + j_42) - 48 ≤ 99 by omega), (show (max_2 + 1 + 1) ≤ tp by omega), (show ma ≤ (max_2 + 1 + 1) by omega), (by rw [nm_b hf_5 (pd_y hey_6.symm (by omega) (by omega)).1 (fun q => (pd_n hey_49.symm hq_52) q.2), (nm_2 hf_5 (pd_y hey_6.symm (by omega) (by omega)).1 (pd_y hey_19.symm (by omega) (by omega)).1).1, (show nmV fmt tp ma = (nI ((10 * ((0 + j_10) - 48) + j_42) - 48)) from ((nm_2 hf_5 (pd_y hey_6.symm (by omega) (by omega)).1 (pd_y hey_19.symm (by omega) (by omega)).1).2.trans (by rw [(pd_y hey_6.symm (by omega) (by omega)).2, (pd_y hey_19.symm (by omega) (by omega)).2]; exact vN2 (by omega) (by omega)))), if_neg (fun q => q.elim (fun q => absurd hq_55.1 (Int32.not_le.mpr q)) (fun q => absurd hq_55.2 (Int32.not_le.mpr q)))]), (fun _ => (nm_2 hf_5 (pd_y hey_6.symm (by omega) (by omega)).1 (pd_y hey_19.symm (by omega) (by omega)).1).1.symm)⟩⟩, by rw [htS]; exact hP9, hD9⟩, hS.F htS⟩) hS.2.2 dX7_number_115
        · skip
          have hq_58 : ¬ ((nI lo) ≤ (nI ((10 * ((0 + j_10) - 48) + j_42) - 48)) ∧ (nI ((10 * ((0 + j_10) - 48) + j_42) - 48)) ≤ zhi) := b01_0.mp cb_54
          refine lv_aload_n hx hb dX7_number_100 rfl (lv_at hl 2 rfl) ?_
          refine lv_dup hx hb dX7_number_101 rfl ?_
          refine va_get (D := D) (ci := 7) (v := .int (nI (max_2 + 1 + 1))) (C := RX7) (T := TX7) (N := 21) hx hb hts iX7 hown hK hP 0 rfl rfl 3 (by decide) f64 (fun _ h9 => h9) rfl dX7_number_102 ?_
          refine lv_iconst (v := 1) hx hb dX7_number_105 (by decide) ?_
          refine lv_isub hx hb dX7_number_106 ?_
          refine lv_eqi (y := (nI ((max_2 + 1 + 1) - 1))) (pk_sub (show 1 ≤ max_2 + 1 + 1 by omega)) ?_
          refine va_put (D := D) (ci := 7) (v := .int (nI ((max_2 + 1 + 1) - 1))) (ty := .int) (C := RX7) (T := TX7) (N := 21) hx hb hts iX7 tyX7 tyX7_ok nmX7 hown hK hP hD hS 0 rfl rfl 3 (by decide) f64 (fun _ h9 => h9) rfl (by decide +kernel) (rfl) (rfl) (Nat.le_of_ble_eq_true rfl) dX7_number_107 (fun H locs hP2 hD2 hS2 => ?_)
          clear hP hD hS
          have hPD : PD D A [(Mm, .inr (7, [.int zth, .ref Mt, .int (nI tp), .int (nI ((max_2 + 1 + 1) - 1)), .int (-1), .ref Mrr, .ref Mrh, .ref Mrc, .int (nI rh), .int (nI rc), .ref Mn, .ref Mf, .ref Mr, .ref Mh, .int zhp, .int zcc, .ref Ma, .ref Mas, .ref Msn, .ref Mac, .ref Mat])), (Mt, .inl (g 0, 160, .inl fmt))] H := ⟨hP2, hD2⟩
          have hS := hS2; clear hP2 hD2 hS2; have hP := hPD.1; have hD := hPD.2; clear hPD
          refine lv_aload_n hx hb dX7_number_110 rfl (lv_at hl 2 rfl) ?_
          refine ky_Vv (As := []) (rest := []) ⟨hx, hb, hml, hown, hts⟩ ⟨hK, hN⟩ hZ hP hD hS hA [0] [1] (wc := [(Mm, .inr (7, [.int zth, .ref Mt, .int (nI tp), .int (nI ((max_2 + 1 + 1) - 1)), .int (-1), .ref Mrr, .ref Mrh, .ref Mrc, .int (nI rh), .int (nI rc), .ref Mn, .ref Mf, .ref Mr, .ref Mh, .int zhp, .int zcc, .ref Ma, .ref Mas, .ref Msn, .ref Mac, .ref Mat]))]) (wr := [(Mt, .inl (g 0, 160, .inl fmt))]) rfl rfl rfl rfl (by decide) (r_X7_bad l D g H.size Mm zth Mt tp ((max_2 + 1 + 1) - 1) Mrr Mrh Mrc rh rc Mn Mf Mr Mh zhp zcc Ma Mas Msn Mac Mat) (cwV 0 hts gX7_number_X7_bad rfl rfl rfl (by decide +kernel) ⟨(Nat.le_of_ble_eq_true rfl), (Nat.le_of_ble_eq_true rfl)⟩) 0 7 rfl rfl rfl rfl hl.1 rfl (Nat.le_of_ble_eq_true rfl) dX7_number_111 ⟨(Nat.le_of_ble_eq_true rfl), (Nat.le_of_ble_eq_true rfl)⟩ (fun u H locs hw hP2 hD2 hS2 => ?_)
          clear hP hD hS
          obtain rfl := hw
          have hPD : PD D A [(Mt, .inl (g 0, 160, .inl fmt)), (Mm, .inr (7, [.int zth, .ref Mt, .int (nI tp), .int (nI ((max_2 + 1 + 1) - 1)), .int (nI ((max_2 + 1 + 1) - 1)), .ref Mrr, .ref Mrh, .ref Mrc, .int (nI rh), .int (nI rc), .ref Mn, .ref Mf, .ref Mr, .ref Mh, .int zhp, .int zcc, .ref Ma, .ref Mas, .ref Msn, .ref Mac, .ref Mat]))] H := ⟨hP2, hD2⟩
          have hS := hS2; clear hP2 hD2 hS2; have hP := hPD.1; have hD := hPD.2; clear hPD
          refine W.widen (k := 0) (n := 0) (Nat.le_of_ble_eq_true rfl) (Nat.le_of_ble_eq_true rfl) ?_
          refine lv_iload_n hx hb dX7_number_114 rfl (lv_at hl 1 rfl) ?_
          have hPD9 : PD D A [(Mm, .inr (7, [.int zth, .ref Mt, .int (nI tp), .int (nI ((max_2 + 1 + 1) - 1)), .int (nI ((max_2 + 1 + 1) - 1)), .ref Mrr, .ref Mrh, .ref Mrc, .int (nI rh), .int (nI rc), .ref Mn, .ref Mf, .ref Mr, .ref Mh, .int zhp, .int zcc, .ref Ma, .ref Mas, .ref Msn, .ref Mac, .ref Mat])), (Mt, .inl (g 0, 160, .inl fmt))] H := ⟨hP.sub [1, 0] rfl, hD.sub [1, 0] (by decide) rfl⟩
          have hP9 := hPD9.1; have hD9 := hPD9.2
          subst hQ
          refine W.widen (k := 0) (n := 0) (Nat.le_of_ble_eq_true rfl) (Nat.le_of_ble_eq_true rfl) ?_
          exact W.iret (v := (nI ((10 * ((0 + j_10) - 48) + j_42) - 48))) hx hb hr (fun tS htS _ => ⟨⟨_, _, rfl, ⟨((max_2 + 1 + 1) - 1), (nI ((max_2 + 1 + 1) - 1)), (10 * ((0 + j_10) - 48) + j_42) - 48, rfl, rfl, ⟨(show (10 * ((0 + j_10) - 48) + j_42) - 48 ≤ 99 by omega), (show ((max_2 + 1 + 1) - 1) ≤ tp by omega), (show ma ≤ ((max_2 + 1 + 1) - 1) by omega), (by rw [nm_b hf_5 (pd_y hey_6.symm (by omega) (by omega)).1 (fun q => (pd_n hey_49.symm hq_52) q.2), (nm_2 hf_5 (pd_y hey_6.symm (by omega) (by omega)).1 (pd_y hey_19.symm (by omega) (by omega)).1).1, (show nmV fmt tp ma = (nI ((10 * ((0 + j_10) - 48) + j_42) - 48)) from ((nm_2 hf_5 (pd_y hey_6.symm (by omega) (by omega)).1 (pd_y hey_19.symm (by omega) (by omega)).1).2.trans (by rw [(pd_y hey_6.symm (by omega) (by omega)).2, (pd_y hey_19.symm (by omega) (by omega)).2]; exact vN2 (by omega) (by omega)))), if_pos (Classical.byContradiction (fun q => hq_58 ⟨Int32.not_lt.mp (fun z => q (Or.inl z)), Int32.not_lt.mp (fun z => q (Or.inr z))⟩))]), (fun q => absurd q (m1_ne (show (max_2 + 1 + 1) - 1 < 2 ^ 31 by omega)))⟩⟩, by rw [htS]; exact hP9, hD9⟩, hS.F htS⟩) hS.2.2 dX7_number_115
      · skip
        have hq_60 : 48 ≤ y_49 ∧ y_49 ≤ 57 := b01_1.mp cb_51
        have hPq_64 := hP; have hDq_64 := hD; have hSq_64 := hS; have hlq_64 := hl; clear hP hD hS hl
        obtain ⟨j_61, hl_62, hu_63, rfl⟩ := rg (L := 48) (U := 57) rfl rfl (show 48 < 2 ^ 31 by omega) (show 57 < 2 ^ 31 by omega) hq_60
        have hP := hPq_64; have hD := hDq_64; have hS := hSq_64; have hl := hlq_64; clear hPq_64 hDq_64 hSq_64 hlq_64
        have hlt_65 : (max_2 + 1 + 1) < tp := (fun q9 => here_lt hey_49 q9) (m1_ne (show j_61 < 2 ^ 31 by omega))
        refine lv_aload_n hx hb dX7_number_84 rfl (lv_at hl 2 rfl) ?_
        refine ky_Vv (As := []) (rest := []) ⟨hx, hb, hml, hown, hts⟩ ⟨hK, hN⟩ hZ hP hD hS hA [0] [1] (wc := [(Mm, .inr (7, [.int zth, .ref Mt, .int (nI tp), .int (nI (max_2 + 1 + 1)), .int (-1), .ref Mrr, .ref Mrh, .ref Mrc, .int (nI rh), .int (nI rc), .ref Mn, .ref Mf, .ref Mr, .ref Mh, .int zhp, .int zcc, .ref Ma, .ref Mas, .ref Msn, .ref Mac, .ref Mat]))]) (wr := [(Mt, .inl (g 0, 160, .inl fmt))]) rfl rfl rfl rfl (by decide) (r_X7_bad l D g H.size Mm zth Mt tp (max_2 + 1 + 1) Mrr Mrh Mrc rh rc Mn Mf Mr Mh zhp zcc Ma Mas Msn Mac Mat) (cwV 0 hts gX7_number_X7_bad rfl rfl rfl (by decide +kernel) ⟨(Nat.le_of_ble_eq_true rfl), (Nat.le_of_ble_eq_true rfl)⟩) 0 7 rfl rfl rfl rfl hl.1 rfl (Nat.le_of_ble_eq_true rfl) dX7_number_85 ⟨(Nat.le_of_ble_eq_true rfl), (Nat.le_of_ble_eq_true rfl)⟩ (fun u H locs hw hP2 hD2 hS2 => ?_)
        clear hP hD hS
        obtain rfl := hw
        have hPD : PD D A [(Mt, .inl (g 0, 160, .inl fmt)), (Mm, .inr (7, [.int zth, .ref Mt, .int (nI tp), .int (nI (max_2 + 1 + 1)), .int (nI (max_2 + 1 + 1)), .ref Mrr, .ref Mrh, .ref Mrc, .int (nI rh), .int (nI rc), .ref Mn, .ref Mf, .ref Mr, .ref Mh, .int zhp, .int zcc, .ref Ma, .ref Mas, .ref Msn, .ref Mac, .ref Mat]))] H := ⟨hP2, hD2⟩
        have hS := hS2; clear hP2 hD2 hS2; have hP := hPD.1; have hD := hPD.2; clear hPD
        refine W.widen (k := 0) (n := 0) (Nat.le_of_ble_eq_true rfl) (Nat.le_of_ble_eq_true rfl) ?_
        refine lv_goto (tgt := 114) hx hb dX7_number_88 (by decide) ?_
        refine lv_iload_n hx hb dX7_number_114 rfl (lv_at hl 1 rfl) ?_
        have hPD9 : PD D A [(Mm, .inr (7, [.int zth, .ref Mt, .int (nI tp), .int (nI (max_2 + 1 + 1)), .int (nI (max_2 + 1 + 1)), .ref Mrr, .ref Mrh, .ref Mrc, .int (nI rh), .int (nI rc), .ref Mn, .ref Mf, .ref Mr, .ref Mh, .int zhp, .int zcc, .ref Ma, .ref Mas, .ref Msn, .ref Mac, .ref Mat])), (Mt, .inl (g 0, 160, .inl fmt))] H := ⟨hP.sub [1, 0] rfl, hD.sub [1, 0] (by decide) rfl⟩
        have hP9 := hPD9.1; have hD9 := hPD9.2
        subst hQ
        refine W.widen (k := 0) (n := 0) (Nat.le_of_ble_eq_true rfl) (Nat.le_of_ble_eq_true rfl) ?_
        exact W.iret (v := (nI ((10 * ((0 + j_10) - 48) + j_42) - 48))) hx hb hr (fun tS htS _ => ⟨⟨_, _, rfl, ⟨(max_2 + 1 + 1), (nI (max_2 + 1 + 1)), (10 * ((0 + j_10) - 48) + j_42) - 48, rfl, rfl, ⟨(show (10 * ((0 + j_10) - 48) + j_42) - 48 ≤ 99 by omega), (show (max_2 + 1 + 1) ≤ tp by omega), (show ma ≤ (max_2 + 1 + 1) by omega), (nm_3 hf_5 (pd_y hey_6.symm (by omega) (by omega)).1 (pd_y hey_19.symm (by omega) (by omega)).1 (pd_y hey_49.symm (by omega) (by omega)).1).symm, (fun q => absurd q (m1_ne (show max_2 + 1 + 1 < 2 ^ 31 by omega)))⟩⟩, by rw [htS]; exact hP9, hD9⟩, hS.F htS⟩) hS.2.2 dX7_number_115
  · skip
    have hq_67 : ¬ (48 ≤ y_6 ∧ y_6 ≤ 57) := b01_0.mp cb_8
    refine lv_aload_n hx hb dX7_number_18 rfl (lv_at hl 0 rfl) ?_
    refine ky_Vv (As := []) (rest := []) ⟨hx, hb, hml, hown, hts⟩ ⟨hK, hN⟩ hZ hP hD hS hA [0] [1] (wc := [(Mm, .inr (7, [.int zth, .ref Mt, .int (nI tp), .int (nI max_2), .int (-1), .ref Mrr, .ref Mrh, .ref Mrc, .int (nI rh), .int (nI rc), .ref Mn, .ref Mf, .ref Mr, .ref Mh, .int zhp, .int zcc, .ref Ma, .ref Mas, .ref Msn, .ref Mac, .ref Mat]))]) (wr := [(Mt, .inl (g 0, 160, .inl fmt))]) rfl rfl rfl rfl (by decide) (r_X7_bad l D g H.size Mm zth Mt tp max_2 Mrr Mrh Mrc rh rc Mn Mf Mr Mh zhp zcc Ma Mas Msn Mac Mat) (cwV 0 hts gX7_number_X7_bad rfl rfl rfl (by decide +kernel) ⟨(Nat.le_of_ble_eq_true rfl), (Nat.le_of_ble_eq_true rfl)⟩) 0 7 rfl rfl rfl rfl hl.1 rfl (Nat.le_of_ble_eq_true rfl) dX7_number_19 ⟨(Nat.le_of_ble_eq_true rfl), (Nat.le_of_ble_eq_true rfl)⟩ (fun u H locs hw hP2 hD2 hS2 => ?_)
    clear hP hD hS
    obtain rfl := hw
    have hPD : PD D A [(Mt, .inl (g 0, 160, .inl fmt)), (Mm, .inr (7, [.int zth, .ref Mt, .int (nI tp), .int (nI max_2), .int (nI max_2), .ref Mrr, .ref Mrh, .ref Mrc, .int (nI rh), .int (nI rc), .ref Mn, .ref Mf, .ref Mr, .ref Mh, .int zhp, .int zcc, .ref Ma, .ref Mas, .ref Msn, .ref Mac, .ref Mat]))] H := ⟨hP2, hD2⟩
    have hS := hS2; clear hP2 hD2 hS2; have hP := hPD.1; have hD := hPD.2; clear hPD
    refine W.widen (k := 0) (n := 0) (Nat.le_of_ble_eq_true rfl) (Nat.le_of_ble_eq_true rfl) ?_
    refine lv_iload_n hx hb dX7_number_22 rfl (lv_at hl 1 rfl) ?_
    have hPD9 : PD D A [(Mm, .inr (7, [.int zth, .ref Mt, .int (nI tp), .int (nI max_2), .int (nI max_2), .ref Mrr, .ref Mrh, .ref Mrc, .int (nI rh), .int (nI rc), .ref Mn, .ref Mf, .ref Mr, .ref Mh, .int zhp, .int zcc, .ref Ma, .ref Mas, .ref Msn, .ref Mac, .ref Mat])), (Mt, .inl (g 0, 160, .inl fmt))] H := ⟨hP.sub [1, 0] rfl, hD.sub [1, 0] (by decide) rfl⟩
    have hP9 := hPD9.1; have hD9 := hPD9.2
    subst hQ
    refine W.widen (k := 0) (n := 0) (Nat.le_of_ble_eq_true rfl) (Nat.le_of_ble_eq_true rfl) ?_
    exact W.iret (v := (nI lo)) hx hb hr (fun tS htS _ => ⟨⟨_, _, rfl, ⟨max_2, (nI max_2), lo, rfl, rfl, ⟨(show lo ≤ 99 by omega), (show max_2 ≤ tp by omega), (show ma ≤ max_2 by omega), (nm_0 hf_5 (pd_n hey_6.symm hq_67)).symm, (fun q => absurd q (m1_ne (show max_2 < 2 ^ 31 by omega)))⟩⟩, by rw [htS]; exact hP9, hD9⟩, hS.F htS⟩) hS.2.2 dX7_number_23

set_option maxHeartbeats 4000000 in
set_option maxRecDepth 100000 in
theorem r_X7_itemBy_0 (l : Launch) (D : va_G) (g : Nat → ClassId) (sz : Nat) (zc : Int32) : Met l yX7_itemBy wsX7_itemBy ({ frames := 0, cells := 0, slots := 0, locals := 0 }) (va_Pc [.int 0, .int zc] (pre D g sz [])) (va_Qi (fun (r : Int32) (u : va_W) => u = [] ∧ r = (itK 0 zc)) (wd D (va_A [] sz)) (va_A [] sz)) 0 0 (va_A [] sz) := by
  refine Met.ofW (cc := cX7_itemBy) (maxL := 2) (ret := (some .int)) (by decide) rfl ?_
  intro p e s m args below meth c s₁ B hml hv
  obtain ⟨rfl, hsz, hP, ⟨hK, hN⟩, hD0, hZ⟩ := hv
  have hx := B.exec
  have hb := B.bytes
  have hr := B.returns
  have hts := atoms_spec (ws := wsX7_itemBy) B.pre
  have hown : s.vm.findClass RX7 = some m.cls := findClass_of_methodNamed B.named
  have hlocks := B.notSynchronized
  clear B
  subst hsz
  have hD := hD0.self (sz := s.heap.size)
  clear hD0
  generalize hAe : va_A [] s.heap.size = A at hD hZ ⊢
  have hA : ∀ q : Nat, s.heap.size ≤ q → A q := fun q h => by rw [← hAe]; exact Or.inr h
  have hS : va_S A s.heap s.heap [] := va_S.rf
  have hl := lv_entry ([.int 0, .int zc]) (n := 2) (Nat.le_of_ble_eq_true rfl)
  rw [lg_entry_eq]
  generalize (lg_sl ([.int 0, .int zc]) ++ List.replicate (2 - (lg_sl ([.int 0, .int zc])).length) Slot.unset).toArray = ls at hl ⊢
  have hl : lv_has ls 2 [(0, .int 0), (1, .int zc)] := hl
  generalize hQ : MQ below _ _ s _ _ _ = Q
  generalize hH : s.heap = H at hP ⊢
  have hS : va_S A s.heap H [] := by rw [← hH]; exact hS
  clear hH
  refine lv_iload_n hx hb dX7_itemBy_0 rfl (lv_at hl 0 rfl) ?_
  refine lv_if_ne (tgt := 36) hx hb dX7_itemBy_1 (by decide) (fun cb => absurd (by decide) cb) (fun _ => ?_)
  refine lv_iload_n hx hb dX7_itemBy_4 rfl (lv_at hl 1 rfl) ?_
  refine lv_bipush (v := 114) hx hb dX7_itemBy_5 (by decide) ?_
  refine lv_icmp_ne (tgt := 14) hx hb dX7_itemBy_7 (by decide) (fun cb_1 => ?_) (fun cb_1 => ?_)
  · skip
    refine lv_iload_n hx hb dX7_itemBy_14 rfl (lv_at hl 1 rfl) ?_
    refine lv_bipush (v := 97) hx hb dX7_itemBy_15 (by decide) ?_
    refine lv_icmp_ne (tgt := 24) hx hb dX7_itemBy_17 (by decide) (fun cb_2 => ?_) (fun cb_2 => ?_)
    · skip
      refine lv_iload_n hx hb dX7_itemBy_24 rfl (lv_at hl 1 rfl) ?_
      refine lv_bipush (v := 112) hx hb dX7_itemBy_25 (by decide) ?_
      refine lv_icmp_ne (tgt := 34) hx hb dX7_itemBy_27 (by decide) (fun cb_3 => ?_) (fun cb_3 => ?_)
      · skip
        refine lv_iconst (v := (-1)) hx hb dX7_itemBy_34 (by decide) ?_
        have hP9 := hP; have hD9 := hD
        subst hQ
        refine W.widen (k := 0) (n := 0) (Nat.le_of_ble_eq_true rfl) (Nat.le_of_ble_eq_true rfl) ?_
        exact W.iret (v := (-1)) hx hb hr (fun tS htS _ => ⟨⟨_, _, rfl, ⟨rfl, (show _ = it0 zc by unfold it0; rw [if_neg cb_1, if_neg cb_2, if_neg cb_3])⟩, by rw [htS]; exact hP9, hD9⟩, hS.F htS⟩) hS.2.2 dX7_itemBy_35
      · skip
        refine lv_iconst (v := 2) hx hb dX7_itemBy_30 (by decide) ?_
        refine lv_goto (tgt := 35) hx hb dX7_itemBy_31 (by decide) ?_
        have hP9 := hP; have hD9 := hD
        subst hQ
        refine W.widen (k := 0) (n := 0) (Nat.le_of_ble_eq_true rfl) (Nat.le_of_ble_eq_true rfl) ?_
        exact W.iret (v := 2) hx hb hr (fun tS htS _ => ⟨⟨_, _, rfl, ⟨rfl, (show _ = it0 zc by unfold it0; rw [if_neg cb_1, if_neg cb_2, if_pos cb_3])⟩, by rw [htS]; exact hP9, hD9⟩, hS.F htS⟩) hS.2.2 dX7_itemBy_35
    · skip
      refine lv_iconst (v := 1) hx hb dX7_itemBy_20 (by decide) ?_
      refine lv_goto (tgt := 35) hx hb dX7_itemBy_21 (by decide) ?_
      have hP9 := hP; have hD9 := hD
      subst hQ
      refine W.widen (k := 0) (n := 0) (Nat.le_of_ble_eq_true rfl) (Nat.le_of_ble_eq_true rfl) ?_
      exact W.iret (v := 1) hx hb hr (fun tS htS _ => ⟨⟨_, _, rfl, ⟨rfl, (show _ = it0 zc by unfold it0; rw [if_neg cb_1, if_pos cb_2])⟩, by rw [htS]; exact hP9, hD9⟩, hS.F htS⟩) hS.2.2 dX7_itemBy_35
  · skip
    refine lv_iconst (v := 0) hx hb dX7_itemBy_10 (by decide) ?_
    refine lv_goto (tgt := 35) hx hb dX7_itemBy_11 (by decide) ?_
    have hP9 := hP; have hD9 := hD
    subst hQ
    refine W.widen (k := 0) (n := 0) (Nat.le_of_ble_eq_true rfl) (Nat.le_of_ble_eq_true rfl) ?_
    exact W.iret (v := 0) hx hb hr (fun tS htS _ => ⟨⟨_, _, rfl, ⟨rfl, (show _ = it0 zc by unfold it0; rw [if_pos cb_1])⟩, by rw [htS]; exact hP9, hD9⟩, hS.F htS⟩) hS.2.2 dX7_itemBy_35

set_option maxHeartbeats 4000000 in
set_option maxRecDepth 100000 in
theorem r_X7_lowest_00 (l : Launch) (D : va_G) (g : Nat → ClassId) (sz : Nat) : Met l yX7_lowest wsX7_lowest ({ frames := 0, cells := 0, slots := 0, locals := 0 }) (va_Pc [.int 0, .int 0] (pre D g sz [])) (va_Qi (fun (r : Int32) (u : va_W) => u = [] ∧ r = 1) (wd D (va_A [] sz)) (va_A [] sz)) 0 0 (va_A [] sz) := by
  refine Met.ofW (cc := cX7_lowest) (maxL := 2) (ret := (some .int)) (by decide) rfl ?_
  intro p e s m args below meth c s₁ B hml hv
  obtain ⟨rfl, hsz, hP, ⟨hK, hN⟩, hD0, hZ⟩ := hv
  have hx := B.exec
  have hb := B.bytes
  have hr := B.returns
  have hts := atoms_spec (ws := wsX7_lowest) B.pre
  have hown : s.vm.findClass RX7 = some m.cls := findClass_of_methodNamed B.named
  have hlocks := B.notSynchronized
  clear B
  subst hsz
  have hD := hD0.self (sz := s.heap.size)
  clear hD0
  generalize hAe : va_A [] s.heap.size = A at hD hZ ⊢
  have hA : ∀ q : Nat, s.heap.size ≤ q → A q := fun q h => by rw [← hAe]; exact Or.inr h
  have hS : va_S A s.heap s.heap [] := va_S.rf
  have hl := lv_entry ([.int 0, .int 0]) (n := 2) (Nat.le_of_ble_eq_true rfl)
  rw [lg_entry_eq]
  generalize (lg_sl ([.int 0, .int 0]) ++ List.replicate (2 - (lg_sl ([.int 0, .int 0])).length) Slot.unset).toArray = ls at hl ⊢
  have hl : lv_has ls 2 [(0, .int 0), (1, .int 0)] := hl
  generalize hQ : MQ below _ _ s _ _ _ = Q
  generalize hH : s.heap = H at hP ⊢
  have hS : va_S A s.heap H [] := by rw [← hH]; exact hS
  clear hH
  refine lv_iload_n hx hb dX7_lowest_0 rfl (lv_at hl 0 rfl) ?_
  refine lv_iconst (v := 1) hx hb dX7_lowest_1 (by decide) ?_
  refine lv_icmp_eq (tgt := 13) hx hb dX7_lowest_2 (by decide) (fun cb => absurd cb (by decide)) (fun _ => ?_)
  refine lv_iload_n hx hb dX7_lowest_5 rfl (lv_at hl 0 rfl) ?_
  refine lv_if_ne (tgt := 17) hx hb dX7_lowest_6 (by decide) (fun cb => absurd (by decide) cb) (fun _ => ?_)
  refine lv_iload_n hx hb dX7_lowest_9 rfl (lv_at hl 1 rfl) ?_
  refine lv_if_ne (tgt := 17) hx hb dX7_lowest_10 (by decide) (fun cb => absurd (by decide) cb) (fun _ => ?_)
  refine lv_iconst (v := 1) hx hb dX7_lowest_13 (by decide) ?_
  refine lv_goto (tgt := 18) hx hb dX7_lowest_14 (by decide) ?_
  have hP9 := hP; have hD9 := hD
  subst hQ
  refine W.widen (k := 0) (n := 0) (Nat.le_of_ble_eq_true rfl) (Nat.le_of_ble_eq_true rfl) ?_
  exact W.iret (v := 1) hx hb hr (fun tS htS _ => ⟨⟨_, _, rfl, ⟨rfl, rfl⟩, by rw [htS]; exact hP9, hD9⟩, hS.F htS⟩) hS.2.2 dX7_lowest_18

set_option maxHeartbeats 4000000 in
set_option maxRecDepth 100000 in
theorem r_X7_highest_00 (l : Launch) (D : va_G) (g : Nat → ClassId) (sz : Nat) : Met l yX7_highest wsX7_highest ({ frames := 0, cells := 0, slots := 0, locals := 0 }) (va_Pc [.int 0, .int 0] (pre D g sz [])) (va_Qi (fun (r : Int32) (u : va_W) => u = [] ∧ r = 4) (wd D (va_A [] sz)) (va_A [] sz)) 0 0 (va_A [] sz) := by
  refine Met.ofW (cc := cX7_highest) (maxL := 2) (ret := (some .int)) (by decide) rfl ?_
  intro p e s m args below meth c s₁ B hml hv
  obtain ⟨rfl, hsz, hP, ⟨hK, hN⟩, hD0, hZ⟩ := hv
  have hx := B.exec
  have hb := B.bytes
  have hr := B.returns
  have hts := atoms_spec (ws := wsX7_highest) B.pre
  have hown : s.vm.findClass RX7 = some m.cls := findClass_of_methodNamed B.named
  have hlocks := B.notSynchronized
  clear B
  subst hsz
  have hD := hD0.self (sz := s.heap.size)
  clear hD0
  generalize hAe : va_A [] s.heap.size = A at hD hZ ⊢
  have hA : ∀ q : Nat, s.heap.size ≤ q → A q := fun q h => by rw [← hAe]; exact Or.inr h
  have hS : va_S A s.heap s.heap [] := va_S.rf
  have hl := lv_entry ([.int 0, .int 0]) (n := 2) (Nat.le_of_ble_eq_true rfl)
  rw [lg_entry_eq]
  generalize (lg_sl ([.int 0, .int 0]) ++ List.replicate (2 - (lg_sl ([.int 0, .int 0])).length) Slot.unset).toArray = ls at hl ⊢
  have hl : lv_has ls 2 [(0, .int 0), (1, .int 0)] := hl
  generalize hQ : MQ below _ _ s _ _ _ = Q
  generalize hH : s.heap = H at hP ⊢
  have hS : va_S A s.heap H [] := by rw [← hH]; exact hS
  clear hH
  refine lv_iload_n hx hb dX7_highest_0 rfl (lv_at hl 0 rfl) ?_
  refine lv_if_ne (tgt := 25) hx hb dX7_highest_1 (by decide) (fun cb => absurd (by decide) cb) (fun _ => ?_)
  refine lv_iload_n hx hb dX7_highest_4 rfl (lv_at hl 1 rfl) ?_
  refine lv_if_ne (tgt := 12) hx hb dX7_highest_5 (by decide) (fun cb => absurd (by decide) cb) (fun _ => ?_)
  refine lv_iconst (v := 4) hx hb dX7_highest_8 (by decide) ?_
  refine lv_goto (tgt := 24) hx hb dX7_highest_9 (by decide) ?_
  have hP9 := hP; have hD9 := hD
  subst hQ
  refine W.widen (k := 0) (n := 0) (Nat.le_of_ble_eq_true rfl) (Nat.le_of_ble_eq_true rfl) ?_
  exact W.iret (v := 4) hx hb hr (fun tS htS _ => ⟨⟨_, _, rfl, ⟨rfl, rfl⟩, by rw [htS]; exact hP9, hD9⟩, hS.F htS⟩) hS.2.2 dX7_highest_24

set_option maxHeartbeats 4000000 in
set_option maxRecDepth 100000 in
theorem r_X7_lowest_01 (l : Launch) (D : va_G) (g : Nat → ClassId) (sz : Nat) : Met l yX7_lowest wsX7_lowest ({ frames := 0, cells := 0, slots := 0, locals := 0 }) (va_Pc [.int 0, .int 1] (pre D g sz [])) (va_Qi (fun (r : Int32) (u : va_W) => u = [] ∧ r = 0) (wd D (va_A [] sz)) (va_A [] sz)) 0 0 (va_A [] sz) := by
  refine Met.ofW (cc := cX7_lowest) (maxL := 2) (ret := (some .int)) (by decide) rfl ?_
  intro p e s m args below meth c s₁ B hml hv
  obtain ⟨rfl, hsz, hP, ⟨hK, hN⟩, hD0, hZ⟩ := hv
  have hx := B.exec
  have hb := B.bytes
  have hr := B.returns
  have hts := atoms_spec (ws := wsX7_lowest) B.pre
  have hown : s.vm.findClass RX7 = some m.cls := findClass_of_methodNamed B.named
  have hlocks := B.notSynchronized
  clear B
  subst hsz
  have hD := hD0.self (sz := s.heap.size)
  clear hD0
  generalize hAe : va_A [] s.heap.size = A at hD hZ ⊢
  have hA : ∀ q : Nat, s.heap.size ≤ q → A q := fun q h => by rw [← hAe]; exact Or.inr h
  have hS : va_S A s.heap s.heap [] := va_S.rf
  have hl := lv_entry ([.int 0, .int 1]) (n := 2) (Nat.le_of_ble_eq_true rfl)
  rw [lg_entry_eq]
  generalize (lg_sl ([.int 0, .int 1]) ++ List.replicate (2 - (lg_sl ([.int 0, .int 1])).length) Slot.unset).toArray = ls at hl ⊢
  have hl : lv_has ls 2 [(0, .int 0), (1, .int 1)] := hl
  generalize hQ : MQ below _ _ s _ _ _ = Q
  generalize hH : s.heap = H at hP ⊢
  have hS : va_S A s.heap H [] := by rw [← hH]; exact hS
  clear hH
  refine lv_iload_n hx hb dX7_lowest_0 rfl (lv_at hl 0 rfl) ?_
  refine lv_iconst (v := 1) hx hb dX7_lowest_1 (by decide) ?_
  refine lv_icmp_eq (tgt := 13) hx hb dX7_lowest_2 (by decide) (fun cb => absurd cb (by decide)) (fun _ => ?_)
  refine lv_iload_n hx hb dX7_lowest_5 rfl (lv_at hl 0 rfl) ?_
  refine lv_if_ne (tgt := 17) hx hb dX7_lowest_6 (by decide) (fun cb => absurd (by decide) cb) (fun _ => ?_)
  refine lv_iload_n hx hb dX7_lowest_9 rfl (lv_at hl 1 rfl) ?_
  refine lv_if_ne (tgt := 17) hx hb dX7_lowest_10 (by decide) (fun _ => ?_) (fun cb => absurd cb (by decide))
  refine lv_iconst (v := 0) hx hb dX7_lowest_17 (by decide) ?_
  have hP9 := hP; have hD9 := hD
  subst hQ
  refine W.widen (k := 0) (n := 0) (Nat.le_of_ble_eq_true rfl) (Nat.le_of_ble_eq_true rfl) ?_
  exact W.iret (v := 0) hx hb hr (fun tS htS _ => ⟨⟨_, _, rfl, ⟨rfl, rfl⟩, by rw [htS]; exact hP9, hD9⟩, hS.F htS⟩) hS.2.2 dX7_lowest_18

set_option maxHeartbeats 4000000 in
set_option maxRecDepth 100000 in
theorem r_X7_highest_01 (l : Launch) (D : va_G) (g : Nat → ClassId) (sz : Nat) : Met l yX7_highest wsX7_highest ({ frames := 0, cells := 0, slots := 0, locals := 0 }) (va_Pc [.int 0, .int 1] (pre D g sz [])) (va_Qi (fun (r : Int32) (u : va_W) => u = [] ∧ r = 20) (wd D (va_A [] sz)) (va_A [] sz)) 0 0 (va_A [] sz) := by
  refine Met.ofW (cc := cX7_highest) (maxL := 2) (ret := (some .int)) (by decide) rfl ?_
  intro p e s m args below meth c s₁ B hml hv
  obtain ⟨rfl, hsz, hP, ⟨hK, hN⟩, hD0, hZ⟩ := hv
  have hx := B.exec
  have hb := B.bytes
  have hr := B.returns
  have hts := atoms_spec (ws := wsX7_highest) B.pre
  have hown : s.vm.findClass RX7 = some m.cls := findClass_of_methodNamed B.named
  have hlocks := B.notSynchronized
  clear B
  subst hsz
  have hD := hD0.self (sz := s.heap.size)
  clear hD0
  generalize hAe : va_A [] s.heap.size = A at hD hZ ⊢
  have hA : ∀ q : Nat, s.heap.size ≤ q → A q := fun q h => by rw [← hAe]; exact Or.inr h
  have hS : va_S A s.heap s.heap [] := va_S.rf
  have hl := lv_entry ([.int 0, .int 1]) (n := 2) (Nat.le_of_ble_eq_true rfl)
  rw [lg_entry_eq]
  generalize (lg_sl ([.int 0, .int 1]) ++ List.replicate (2 - (lg_sl ([.int 0, .int 1])).length) Slot.unset).toArray = ls at hl ⊢
  have hl : lv_has ls 2 [(0, .int 0), (1, .int 1)] := hl
  generalize hQ : MQ below _ _ s _ _ _ = Q
  generalize hH : s.heap = H at hP ⊢
  have hS : va_S A s.heap H [] := by rw [← hH]; exact hS
  clear hH
  refine lv_iload_n hx hb dX7_highest_0 rfl (lv_at hl 0 rfl) ?_
  refine lv_if_ne (tgt := 25) hx hb dX7_highest_1 (by decide) (fun cb => absurd (by decide) cb) (fun _ => ?_)
  refine lv_iload_n hx hb dX7_highest_4 rfl (lv_at hl 1 rfl) ?_
  refine lv_if_ne (tgt := 12) hx hb dX7_highest_5 (by decide) (fun _ => ?_) (fun cb => absurd cb (by decide))
  refine lv_iload_n hx hb dX7_highest_12 rfl (lv_at hl 1 rfl) ?_
  refine lv_iconst (v := 1) hx hb dX7_highest_13 (by decide) ?_
  refine lv_icmp_ne (tgt := 22) hx hb dX7_highest_14 (by decide) (fun cb => absurd (by decide) cb) (fun _ => ?_)
  refine lv_bipush (v := 20) hx hb dX7_highest_17 (by decide) ?_
  refine lv_goto (tgt := 24) hx hb dX7_highest_19 (by decide) ?_
  have hP9 := hP; have hD9 := hD
  subst hQ
  refine W.widen (k := 0) (n := 0) (Nat.le_of_ble_eq_true rfl) (Nat.le_of_ble_eq_true rfl) ?_
  exact W.iret (v := 20) hx hb hr (fun tS htS _ => ⟨⟨_, _, rfl, ⟨rfl, rfl⟩, by rw [htS]; exact hP9, hD9⟩, hS.F htS⟩) hS.2.2 dX7_highest_24

set_option maxHeartbeats 4000000 in
set_option maxRecDepth 100000 in
theorem r_X7_lowest_02 (l : Launch) (D : va_G) (g : Nat → ClassId) (sz : Nat) : Met l yX7_lowest wsX7_lowest ({ frames := 0, cells := 0, slots := 0, locals := 0 }) (va_Pc [.int 0, .int 2] (pre D g sz [])) (va_Qi (fun (r : Int32) (u : va_W) => u = [] ∧ r = 0) (wd D (va_A [] sz)) (va_A [] sz)) 0 0 (va_A [] sz) := by
  refine Met.ofW (cc := cX7_lowest) (maxL := 2) (ret := (some .int)) (by decide) rfl ?_
  intro p e s m args below meth c s₁ B hml hv
  obtain ⟨rfl, hsz, hP, ⟨hK, hN⟩, hD0, hZ⟩ := hv
  have hx := B.exec
  have hb := B.bytes
  have hr := B.returns
  have hts := atoms_spec (ws := wsX7_lowest) B.pre
  have hown : s.vm.findClass RX7 = some m.cls := findClass_of_methodNamed B.named
  have hlocks := B.notSynchronized
  clear B
  subst hsz
  have hD := hD0.self (sz := s.heap.size)
  clear hD0
  generalize hAe : va_A [] s.heap.size = A at hD hZ ⊢
  have hA : ∀ q : Nat, s.heap.size ≤ q → A q := fun q h => by rw [← hAe]; exact Or.inr h
  have hS : va_S A s.heap s.heap [] := va_S.rf
  have hl := lv_entry ([.int 0, .int 2]) (n := 2) (Nat.le_of_ble_eq_true rfl)
  rw [lg_entry_eq]
  generalize (lg_sl ([.int 0, .int 2]) ++ List.replicate (2 - (lg_sl ([.int 0, .int 2])).length) Slot.unset).toArray = ls at hl ⊢
  have hl : lv_has ls 2 [(0, .int 0), (1, .int 2)] := hl
  generalize hQ : MQ below _ _ s _ _ _ = Q
  generalize hH : s.heap = H at hP ⊢
  have hS : va_S A s.heap H [] := by rw [← hH]; exact hS
  clear hH
  refine lv_iload_n hx hb dX7_lowest_0 rfl (lv_at hl 0 rfl) ?_
  refine lv_iconst (v := 1) hx hb dX7_lowest_1 (by decide) ?_
  refine lv_icmp_eq (tgt := 13) hx hb dX7_lowest_2 (by decide) (fun cb => absurd cb (by decide)) (fun _ => ?_)
  refine lv_iload_n hx hb dX7_lowest_5 rfl (lv_at hl 0 rfl) ?_
  refine lv_if_ne (tgt := 17) hx hb dX7_lowest_6 (by decide) (fun cb => absurd (by decide) cb) (fun _ => ?_)
  refine lv_iload_n hx hb dX7_lowest_9 rfl (lv_at hl 1 rfl) ?_
  refine lv_if_ne (tgt := 17) hx hb dX7_lowest_10 (by decide) (fun _ => ?_) (fun cb => absurd cb (by decide))
  refine lv_iconst (v := 0) hx hb dX7_lowest_17 (by decide) ?_
  have hP9 := hP; have hD9 := hD
  subst hQ
  refine W.widen (k := 0) (n := 0) (Nat.le_of_ble_eq_true rfl) (Nat.le_of_ble_eq_true rfl) ?_
  exact W.iret (v := 0) hx hb hr (fun tS htS _ => ⟨⟨_, _, rfl, ⟨rfl, rfl⟩, by rw [htS]; exact hP9, hD9⟩, hS.F htS⟩) hS.2.2 dX7_lowest_18

set_option maxHeartbeats 4000000 in
set_option maxRecDepth 100000 in
theorem r_X7_highest_02 (l : Launch) (D : va_G) (g : Nat → ClassId) (sz : Nat) : Met l yX7_highest wsX7_highest ({ frames := 0, cells := 0, slots := 0, locals := 0 }) (va_Pc [.int 0, .int 2] (pre D g sz [])) (va_Qi (fun (r : Int32) (u : va_W) => u = [] ∧ r = 9) (wd D (va_A [] sz)) (va_A [] sz)) 0 0 (va_A [] sz) := by
  refine Met.ofW (cc := cX7_highest) (maxL := 2) (ret := (some .int)) (by decide) rfl ?_
  intro p e s m args below meth c s₁ B hml hv
  obtain ⟨rfl, hsz, hP, ⟨hK, hN⟩, hD0, hZ⟩ := hv
  have hx := B.exec
  have hb := B.bytes
  have hr := B.returns
  have hts := atoms_spec (ws := wsX7_highest) B.pre
  have hown : s.vm.findClass RX7 = some m.cls := findClass_of_methodNamed B.named
  have hlocks := B.notSynchronized
  clear B
  subst hsz
  have hD := hD0.self (sz := s.heap.size)
  clear hD0
  generalize hAe : va_A [] s.heap.size = A at hD hZ ⊢
  have hA : ∀ q : Nat, s.heap.size ≤ q → A q := fun q h => by rw [← hAe]; exact Or.inr h
  have hS : va_S A s.heap s.heap [] := va_S.rf
  have hl := lv_entry ([.int 0, .int 2]) (n := 2) (Nat.le_of_ble_eq_true rfl)
  rw [lg_entry_eq]
  generalize (lg_sl ([.int 0, .int 2]) ++ List.replicate (2 - (lg_sl ([.int 0, .int 2])).length) Slot.unset).toArray = ls at hl ⊢
  have hl : lv_has ls 2 [(0, .int 0), (1, .int 2)] := hl
  generalize hQ : MQ below _ _ s _ _ _ = Q
  generalize hH : s.heap = H at hP ⊢
  have hS : va_S A s.heap H [] := by rw [← hH]; exact hS
  clear hH
  refine lv_iload_n hx hb dX7_highest_0 rfl (lv_at hl 0 rfl) ?_
  refine lv_if_ne (tgt := 25) hx hb dX7_highest_1 (by decide) (fun cb => absurd (by decide) cb) (fun _ => ?_)
  refine lv_iload_n hx hb dX7_highest_4 rfl (lv_at hl 1 rfl) ?_
  refine lv_if_ne (tgt := 12) hx hb dX7_highest_5 (by decide) (fun _ => ?_) (fun cb => absurd cb (by decide))
  refine lv_iload_n hx hb dX7_highest_12 rfl (lv_at hl 1 rfl) ?_
  refine lv_iconst (v := 1) hx hb dX7_highest_13 (by decide) ?_
  refine lv_icmp_ne (tgt := 22) hx hb dX7_highest_14 (by decide) (fun _ => ?_) (fun cb => absurd cb (by decide))
  refine lv_bipush (v := 9) hx hb dX7_highest_22 (by decide) ?_
  have hP9 := hP; have hD9 := hD
  subst hQ
  refine W.widen (k := 0) (n := 0) (Nat.le_of_ble_eq_true rfl) (Nat.le_of_ble_eq_true rfl) ?_
  exact W.iret (v := 9) hx hb hr (fun tS htS _ => ⟨⟨_, _, rfl, ⟨rfl, rfl⟩, by rw [htS]; exact hP9, hD9⟩, hS.F htS⟩) hS.2.2 dX7_highest_24

set_option maxHeartbeats 4000000 in
set_option maxRecDepth 100000 in
theorem r_X7_itemBy_1 (l : Launch) (D : va_G) (g : Nat → ClassId) (sz : Nat) (zc : Int32) : Met l yX7_itemBy wsX7_itemBy ({ frames := 0, cells := 0, slots := 0, locals := 0 }) (va_Pc [.int 1, .int zc] (pre D g sz [])) (va_Qi (fun (r : Int32) (u : va_W) => u = [] ∧ r = (itK 1 zc)) (wd D (va_A [] sz)) (va_A [] sz)) 0 0 (va_A [] sz) := by
  refine Met.ofW (cc := cX7_itemBy) (maxL := 2) (ret := (some .int)) (by decide) rfl ?_
  intro p e s m args below meth c s₁ B hml hv
  obtain ⟨rfl, hsz, hP, ⟨hK, hN⟩, hD0, hZ⟩ := hv
  have hx := B.exec
  have hb := B.bytes
  have hr := B.returns
  have hts := atoms_spec (ws := wsX7_itemBy) B.pre
  have hown : s.vm.findClass RX7 = some m.cls := findClass_of_methodNamed B.named
  have hlocks := B.notSynchronized
  clear B
  subst hsz
  have hD := hD0.self (sz := s.heap.size)
  clear hD0
  generalize hAe : va_A [] s.heap.size = A at hD hZ ⊢
  have hA : ∀ q : Nat, s.heap.size ≤ q → A q := fun q h => by rw [← hAe]; exact Or.inr h
  have hS : va_S A s.heap s.heap [] := va_S.rf
  have hl := lv_entry ([.int 1, .int zc]) (n := 2) (Nat.le_of_ble_eq_true rfl)
  rw [lg_entry_eq]
  generalize (lg_sl ([.int 1, .int zc]) ++ List.replicate (2 - (lg_sl ([.int 1, .int zc])).length) Slot.unset).toArray = ls at hl ⊢
  have hl : lv_has ls 2 [(0, .int 1), (1, .int zc)] := hl
  generalize hQ : MQ below _ _ s _ _ _ = Q
  generalize hH : s.heap = H at hP ⊢
  have hS : va_S A s.heap H [] := by rw [← hH]; exact hS
  clear hH
  refine lv_iload_n hx hb dX7_itemBy_0 rfl (lv_at hl 0 rfl) ?_
  refine lv_if_ne (tgt := 36) hx hb dX7_itemBy_1 (by decide) (fun _ => ?_) (fun cb => absurd cb (by decide))
  refine lv_iload_n hx hb dX7_itemBy_36 rfl (lv_at hl 0 rfl) ?_
  refine lv_iconst (v := 1) hx hb dX7_itemBy_37 (by decide) ?_
  refine lv_icmp_ne (tgt := 73) hx hb dX7_itemBy_38 (by decide) (fun cb => absurd (by decide) cb) (fun _ => ?_)
  refine lv_iload_n hx hb dX7_itemBy_41 rfl (lv_at hl 1 rfl) ?_
  refine lv_bipush (v := 100) hx hb dX7_itemBy_42 (by decide) ?_
  refine lv_icmp_ne (tgt := 51) hx hb dX7_itemBy_44 (by decide) (fun cb_1 => ?_) (fun cb_1 => ?_)
  · skip
    refine lv_iload_n hx hb dX7_itemBy_51 rfl (lv_at hl 1 rfl) ?_
    refine lv_bipush (v := 98) hx hb dX7_itemBy_52 (by decide) ?_
    refine lv_icmp_ne (tgt := 61) hx hb dX7_itemBy_54 (by decide) (fun cb_2 => ?_) (fun cb_2 => ?_)
    · skip
      refine lv_iload_n hx hb dX7_itemBy_61 rfl (lv_at hl 1 rfl) ?_
      refine lv_bipush (v := 101) hx hb dX7_itemBy_62 (by decide) ?_
      refine lv_icmp_ne (tgt := 71) hx hb dX7_itemBy_64 (by decide) (fun cb_3 => ?_) (fun cb_3 => ?_)
      · skip
        refine lv_iconst (v := (-1)) hx hb dX7_itemBy_71 (by decide) ?_
        have hP9 := hP; have hD9 := hD
        subst hQ
        refine W.widen (k := 0) (n := 0) (Nat.le_of_ble_eq_true rfl) (Nat.le_of_ble_eq_true rfl) ?_
        exact W.iret (v := (-1)) hx hb hr (fun tS htS _ => ⟨⟨_, _, rfl, ⟨rfl, (show _ = it1 zc by unfold it1; rw [if_neg cb_1, if_neg cb_2, if_neg cb_3])⟩, by rw [htS]; exact hP9, hD9⟩, hS.F htS⟩) hS.2.2 dX7_itemBy_72
      · skip
        refine lv_iconst (v := 2) hx hb dX7_itemBy_67 (by decide) ?_
        refine lv_goto (tgt := 72) hx hb dX7_itemBy_68 (by decide) ?_
        have hP9 := hP; have hD9 := hD
        subst hQ
        refine W.widen (k := 0) (n := 0) (Nat.le_of_ble_eq_true rfl) (Nat.le_of_ble_eq_true rfl) ?_
        exact W.iret (v := 2) hx hb hr (fun tS htS _ => ⟨⟨_, _, rfl, ⟨rfl, (show _ = it1 zc by unfold it1; rw [if_neg cb_1, if_neg cb_2, if_pos cb_3])⟩, by rw [htS]; exact hP9, hD9⟩, hS.F htS⟩) hS.2.2 dX7_itemBy_72
    · skip
      refine lv_iconst (v := 1) hx hb dX7_itemBy_57 (by decide) ?_
      refine lv_goto (tgt := 72) hx hb dX7_itemBy_58 (by decide) ?_
      have hP9 := hP; have hD9 := hD
      subst hQ
      refine W.widen (k := 0) (n := 0) (Nat.le_of_ble_eq_true rfl) (Nat.le_of_ble_eq_true rfl) ?_
      exact W.iret (v := 1) hx hb hr (fun tS htS _ => ⟨⟨_, _, rfl, ⟨rfl, (show _ = it1 zc by unfold it1; rw [if_neg cb_1, if_pos cb_2])⟩, by rw [htS]; exact hP9, hD9⟩, hS.F htS⟩) hS.2.2 dX7_itemBy_72
  · skip
    refine lv_iconst (v := 0) hx hb dX7_itemBy_47 (by decide) ?_
    refine lv_goto (tgt := 72) hx hb dX7_itemBy_48 (by decide) ?_
    have hP9 := hP; have hD9 := hD
    subst hQ
    refine W.widen (k := 0) (n := 0) (Nat.le_of_ble_eq_true rfl) (Nat.le_of_ble_eq_true rfl) ?_
    exact W.iret (v := 0) hx hb hr (fun tS htS _ => ⟨⟨_, _, rfl, ⟨rfl, (show _ = it1 zc by unfold it1; rw [if_pos cb_1])⟩, by rw [htS]; exact hP9, hD9⟩, hS.F htS⟩) hS.2.2 dX7_itemBy_72

set_option maxHeartbeats 4000000 in
set_option maxRecDepth 100000 in
theorem r_X7_lowest_10 (l : Launch) (D : va_G) (g : Nat → ClassId) (sz : Nat) : Met l yX7_lowest wsX7_lowest ({ frames := 0, cells := 0, slots := 0, locals := 0 }) (va_Pc [.int 1, .int 0] (pre D g sz [])) (va_Qi (fun (r : Int32) (u : va_W) => u = [] ∧ r = 1) (wd D (va_A [] sz)) (va_A [] sz)) 0 0 (va_A [] sz) := by
  refine Met.ofW (cc := cX7_lowest) (maxL := 2) (ret := (some .int)) (by decide) rfl ?_
  intro p e s m args below meth c s₁ B hml hv
  obtain ⟨rfl, hsz, hP, ⟨hK, hN⟩, hD0, hZ⟩ := hv
  have hx := B.exec
  have hb := B.bytes
  have hr := B.returns
  have hts := atoms_spec (ws := wsX7_lowest) B.pre
  have hown : s.vm.findClass RX7 = some m.cls := findClass_of_methodNamed B.named
  have hlocks := B.notSynchronized
  clear B
  subst hsz
  have hD := hD0.self (sz := s.heap.size)
  clear hD0
  generalize hAe : va_A [] s.heap.size = A at hD hZ ⊢
  have hA : ∀ q : Nat, s.heap.size ≤ q → A q := fun q h => by rw [← hAe]; exact Or.inr h
  have hS : va_S A s.heap s.heap [] := va_S.rf
  have hl := lv_entry ([.int 1, .int 0]) (n := 2) (Nat.le_of_ble_eq_true rfl)
  rw [lg_entry_eq]
  generalize (lg_sl ([.int 1, .int 0]) ++ List.replicate (2 - (lg_sl ([.int 1, .int 0])).length) Slot.unset).toArray = ls at hl ⊢
  have hl : lv_has ls 2 [(0, .int 1), (1, .int 0)] := hl
  generalize hQ : MQ below _ _ s _ _ _ = Q
  generalize hH : s.heap = H at hP ⊢
  have hS : va_S A s.heap H [] := by rw [← hH]; exact hS
  clear hH
  refine lv_iload_n hx hb dX7_lowest_0 rfl (lv_at hl 0 rfl) ?_
  refine lv_iconst (v := 1) hx hb dX7_lowest_1 (by decide) ?_
  refine lv_icmp_eq (tgt := 13) hx hb dX7_lowest_2 (by decide) (fun _ => ?_) (fun cb => absurd (by decide) cb)
  refine lv_iconst (v := 1) hx hb dX7_lowest_13 (by decide) ?_
  refine lv_goto (tgt := 18) hx hb dX7_lowest_14 (by decide) ?_
  have hP9 := hP; have hD9 := hD
  subst hQ
  refine W.widen (k := 0) (n := 0) (Nat.le_of_ble_eq_true rfl) (Nat.le_of_ble_eq_true rfl) ?_
  exact W.iret (v := 1) hx hb hr (fun tS htS _ => ⟨⟨_, _, rfl, ⟨rfl, rfl⟩, by rw [htS]; exact hP9, hD9⟩, hS.F htS⟩) hS.2.2 dX7_lowest_18

set_option maxHeartbeats 4000000 in
set_option maxRecDepth 100000 in
theorem r_X7_highest_10 (l : Launch) (D : va_G) (g : Nat → ClassId) (sz : Nat) : Met l yX7_highest wsX7_highest ({ frames := 0, cells := 0, slots := 0, locals := 0 }) (va_Pc [.int 1, .int 0] (pre D g sz [])) (va_Qi (fun (r : Int32) (u : va_W) => u = [] ∧ r = 4) (wd D (va_A [] sz)) (va_A [] sz)) 0 0 (va_A [] sz) := by
  refine Met.ofW (cc := cX7_highest) (maxL := 2) (ret := (some .int)) (by decide) rfl ?_
  intro p e s m args below meth c s₁ B hml hv
  obtain ⟨rfl, hsz, hP, ⟨hK, hN⟩, hD0, hZ⟩ := hv
  have hx := B.exec
  have hb := B.bytes
  have hr := B.returns
  have hts := atoms_spec (ws := wsX7_highest) B.pre
  have hown : s.vm.findClass RX7 = some m.cls := findClass_of_methodNamed B.named
  have hlocks := B.notSynchronized
  clear B
  subst hsz
  have hD := hD0.self (sz := s.heap.size)
  clear hD0
  generalize hAe : va_A [] s.heap.size = A at hD hZ ⊢
  have hA : ∀ q : Nat, s.heap.size ≤ q → A q := fun q h => by rw [← hAe]; exact Or.inr h
  have hS : va_S A s.heap s.heap [] := va_S.rf
  have hl := lv_entry ([.int 1, .int 0]) (n := 2) (Nat.le_of_ble_eq_true rfl)
  rw [lg_entry_eq]
  generalize (lg_sl ([.int 1, .int 0]) ++ List.replicate (2 - (lg_sl ([.int 1, .int 0])).length) Slot.unset).toArray = ls at hl ⊢
  have hl : lv_has ls 2 [(0, .int 1), (1, .int 0)] := hl
  generalize hQ : MQ below _ _ s _ _ _ = Q
  generalize hH : s.heap = H at hP ⊢
  have hS : va_S A s.heap H [] := by rw [← hH]; exact hS
  clear hH
  refine lv_iload_n hx hb dX7_highest_0 rfl (lv_at hl 0 rfl) ?_
  refine lv_if_ne (tgt := 25) hx hb dX7_highest_1 (by decide) (fun _ => ?_) (fun cb => absurd cb (by decide))
  refine lv_iload_n hx hb dX7_highest_25 rfl (lv_at hl 0 rfl) ?_
  refine lv_iconst (v := 1) hx hb dX7_highest_26 (by decide) ?_
  refine lv_icmp_ne (tgt := 42) hx hb dX7_highest_27 (by decide) (fun cb => absurd (by decide) cb) (fun _ => ?_)
  refine lv_iload_n hx hb dX7_highest_30 rfl (lv_at hl 1 rfl) ?_
  refine lv_iconst (v := 1) hx hb dX7_highest_31 (by decide) ?_
  refine lv_icmp_ne (tgt := 40) hx hb dX7_highest_32 (by decide) (fun _ => ?_) (fun cb => absurd cb (by decide))
  refine lv_iconst (v := 4) hx hb dX7_highest_40 (by decide) ?_
  have hP9 := hP; have hD9 := hD
  subst hQ
  refine W.widen (k := 0) (n := 0) (Nat.le_of_ble_eq_true rfl) (Nat.le_of_ble_eq_true rfl) ?_
  exact W.iret (v := 4) hx hb hr (fun tS htS _ => ⟨⟨_, _, rfl, ⟨rfl, rfl⟩, by rw [htS]; exact hP9, hD9⟩, hS.F htS⟩) hS.2.2 dX7_highest_41

set_option maxHeartbeats 4000000 in
set_option maxRecDepth 100000 in
theorem r_X7_lowest_11 (l : Launch) (D : va_G) (g : Nat → ClassId) (sz : Nat) : Met l yX7_lowest wsX7_lowest ({ frames := 0, cells := 0, slots := 0, locals := 0 }) (va_Pc [.int 1, .int 1] (pre D g sz [])) (va_Qi (fun (r : Int32) (u : va_W) => u = [] ∧ r = 1) (wd D (va_A [] sz)) (va_A [] sz)) 0 0 (va_A [] sz) := by
  refine Met.ofW (cc := cX7_lowest) (maxL := 2) (ret := (some .int)) (by decide) rfl ?_
  intro p e s m args below meth c s₁ B hml hv
  obtain ⟨rfl, hsz, hP, ⟨hK, hN⟩, hD0, hZ⟩ := hv
  have hx := B.exec
  have hb := B.bytes
  have hr := B.returns
  have hts := atoms_spec (ws := wsX7_lowest) B.pre
  have hown : s.vm.findClass RX7 = some m.cls := findClass_of_methodNamed B.named
  have hlocks := B.notSynchronized
  clear B
  subst hsz
  have hD := hD0.self (sz := s.heap.size)
  clear hD0
  generalize hAe : va_A [] s.heap.size = A at hD hZ ⊢
  have hA : ∀ q : Nat, s.heap.size ≤ q → A q := fun q h => by rw [← hAe]; exact Or.inr h
  have hS : va_S A s.heap s.heap [] := va_S.rf
  have hl := lv_entry ([.int 1, .int 1]) (n := 2) (Nat.le_of_ble_eq_true rfl)
  rw [lg_entry_eq]
  generalize (lg_sl ([.int 1, .int 1]) ++ List.replicate (2 - (lg_sl ([.int 1, .int 1])).length) Slot.unset).toArray = ls at hl ⊢
  have hl : lv_has ls 2 [(0, .int 1), (1, .int 1)] := hl
  generalize hQ : MQ below _ _ s _ _ _ = Q
  generalize hH : s.heap = H at hP ⊢
  have hS : va_S A s.heap H [] := by rw [← hH]; exact hS
  clear hH
  refine lv_iload_n hx hb dX7_lowest_0 rfl (lv_at hl 0 rfl) ?_
  refine lv_iconst (v := 1) hx hb dX7_lowest_1 (by decide) ?_
  refine lv_icmp_eq (tgt := 13) hx hb dX7_lowest_2 (by decide) (fun _ => ?_) (fun cb => absurd (by decide) cb)
  refine lv_iconst (v := 1) hx hb dX7_lowest_13 (by decide) ?_
  refine lv_goto (tgt := 18) hx hb dX7_lowest_14 (by decide) ?_
  have hP9 := hP; have hD9 := hD
  subst hQ
  refine W.widen (k := 0) (n := 0) (Nat.le_of_ble_eq_true rfl) (Nat.le_of_ble_eq_true rfl) ?_
  exact W.iret (v := 1) hx hb hr (fun tS htS _ => ⟨⟨_, _, rfl, ⟨rfl, rfl⟩, by rw [htS]; exact hP9, hD9⟩, hS.F htS⟩) hS.2.2 dX7_lowest_18

set_option maxHeartbeats 4000000 in
set_option maxRecDepth 100000 in
theorem r_X7_highest_11 (l : Launch) (D : va_G) (g : Nat → ClassId) (sz : Nat) : Met l yX7_highest wsX7_highest ({ frames := 0, cells := 0, slots := 0, locals := 0 }) (va_Pc [.int 1, .int 1] (pre D g sz [])) (va_Qi (fun (r : Int32) (u : va_W) => u = [] ∧ r = 30) (wd D (va_A [] sz)) (va_A [] sz)) 0 0 (va_A [] sz) := by
  refine Met.ofW (cc := cX7_highest) (maxL := 2) (ret := (some .int)) (by decide) rfl ?_
  intro p e s m args below meth c s₁ B hml hv
  obtain ⟨rfl, hsz, hP, ⟨hK, hN⟩, hD0, hZ⟩ := hv
  have hx := B.exec
  have hb := B.bytes
  have hr := B.returns
  have hts := atoms_spec (ws := wsX7_highest) B.pre
  have hown : s.vm.findClass RX7 = some m.cls := findClass_of_methodNamed B.named
  have hlocks := B.notSynchronized
  clear B
  subst hsz
  have hD := hD0.self (sz := s.heap.size)
  clear hD0
  generalize hAe : va_A [] s.heap.size = A at hD hZ ⊢
  have hA : ∀ q : Nat, s.heap.size ≤ q → A q := fun q h => by rw [← hAe]; exact Or.inr h
  have hS : va_S A s.heap s.heap [] := va_S.rf
  have hl := lv_entry ([.int 1, .int 1]) (n := 2) (Nat.le_of_ble_eq_true rfl)
  rw [lg_entry_eq]
  generalize (lg_sl ([.int 1, .int 1]) ++ List.replicate (2 - (lg_sl ([.int 1, .int 1])).length) Slot.unset).toArray = ls at hl ⊢
  have hl : lv_has ls 2 [(0, .int 1), (1, .int 1)] := hl
  generalize hQ : MQ below _ _ s _ _ _ = Q
  generalize hH : s.heap = H at hP ⊢
  have hS : va_S A s.heap H [] := by rw [← hH]; exact hS
  clear hH
  refine lv_iload_n hx hb dX7_highest_0 rfl (lv_at hl 0 rfl) ?_
  refine lv_if_ne (tgt := 25) hx hb dX7_highest_1 (by decide) (fun _ => ?_) (fun cb => absurd cb (by decide))
  refine lv_iload_n hx hb dX7_highest_25 rfl (lv_at hl 0 rfl) ?_
  refine lv_iconst (v := 1) hx hb dX7_highest_26 (by decide) ?_
  refine lv_icmp_ne (tgt := 42) hx hb dX7_highest_27 (by decide) (fun cb => absurd (by decide) cb) (fun _ => ?_)
  refine lv_iload_n hx hb dX7_highest_30 rfl (lv_at hl 1 rfl) ?_
  refine lv_iconst (v := 1) hx hb dX7_highest_31 (by decide) ?_
  refine lv_icmp_ne (tgt := 40) hx hb dX7_highest_32 (by decide) (fun cb => absurd (by decide) cb) (fun _ => ?_)
  refine lv_bipush (v := 30) hx hb dX7_highest_35 (by decide) ?_
  refine lv_goto (tgt := 41) hx hb dX7_highest_37 (by decide) ?_
  have hP9 := hP; have hD9 := hD
  subst hQ
  refine W.widen (k := 0) (n := 0) (Nat.le_of_ble_eq_true rfl) (Nat.le_of_ble_eq_true rfl) ?_
  exact W.iret (v := 30) hx hb hr (fun tS htS _ => ⟨⟨_, _, rfl, ⟨rfl, rfl⟩, by rw [htS]; exact hP9, hD9⟩, hS.F htS⟩) hS.2.2 dX7_highest_41

set_option maxHeartbeats 4000000 in
set_option maxRecDepth 100000 in
theorem r_X7_lowest_12 (l : Launch) (D : va_G) (g : Nat → ClassId) (sz : Nat) : Met l yX7_lowest wsX7_lowest ({ frames := 0, cells := 0, slots := 0, locals := 0 }) (va_Pc [.int 1, .int 2] (pre D g sz [])) (va_Qi (fun (r : Int32) (u : va_W) => u = [] ∧ r = 1) (wd D (va_A [] sz)) (va_A [] sz)) 0 0 (va_A [] sz) := by
  refine Met.ofW (cc := cX7_lowest) (maxL := 2) (ret := (some .int)) (by decide) rfl ?_
  intro p e s m args below meth c s₁ B hml hv
  obtain ⟨rfl, hsz, hP, ⟨hK, hN⟩, hD0, hZ⟩ := hv
  have hx := B.exec
  have hb := B.bytes
  have hr := B.returns
  have hts := atoms_spec (ws := wsX7_lowest) B.pre
  have hown : s.vm.findClass RX7 = some m.cls := findClass_of_methodNamed B.named
  have hlocks := B.notSynchronized
  clear B
  subst hsz
  have hD := hD0.self (sz := s.heap.size)
  clear hD0
  generalize hAe : va_A [] s.heap.size = A at hD hZ ⊢
  have hA : ∀ q : Nat, s.heap.size ≤ q → A q := fun q h => by rw [← hAe]; exact Or.inr h
  have hS : va_S A s.heap s.heap [] := va_S.rf
  have hl := lv_entry ([.int 1, .int 2]) (n := 2) (Nat.le_of_ble_eq_true rfl)
  rw [lg_entry_eq]
  generalize (lg_sl ([.int 1, .int 2]) ++ List.replicate (2 - (lg_sl ([.int 1, .int 2])).length) Slot.unset).toArray = ls at hl ⊢
  have hl : lv_has ls 2 [(0, .int 1), (1, .int 2)] := hl
  generalize hQ : MQ below _ _ s _ _ _ = Q
  generalize hH : s.heap = H at hP ⊢
  have hS : va_S A s.heap H [] := by rw [← hH]; exact hS
  clear hH
  refine lv_iload_n hx hb dX7_lowest_0 rfl (lv_at hl 0 rfl) ?_
  refine lv_iconst (v := 1) hx hb dX7_lowest_1 (by decide) ?_
  refine lv_icmp_eq (tgt := 13) hx hb dX7_lowest_2 (by decide) (fun _ => ?_) (fun cb => absurd (by decide) cb)
  refine lv_iconst (v := 1) hx hb dX7_lowest_13 (by decide) ?_
  refine lv_goto (tgt := 18) hx hb dX7_lowest_14 (by decide) ?_
  have hP9 := hP; have hD9 := hD
  subst hQ
  refine W.widen (k := 0) (n := 0) (Nat.le_of_ble_eq_true rfl) (Nat.le_of_ble_eq_true rfl) ?_
  exact W.iret (v := 1) hx hb hr (fun tS htS _ => ⟨⟨_, _, rfl, ⟨rfl, rfl⟩, by rw [htS]; exact hP9, hD9⟩, hS.F htS⟩) hS.2.2 dX7_lowest_18
