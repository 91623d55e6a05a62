set_option maxHeartbeats 4000000 in
set_option maxRecDepth 100000 in
theorem w_X7_clause (l : Launch) (D : va_G) (g : Nat → ClassId) (sz : Nat) (Mm : Nat) (zf : Int32) (zth : Int32) (Mt : Nat) (tp : Nat) (ma : Nat) (Mrr : Nat) (Mrh : Nat) (Mrc : Nat) (rh : Nat) (rc : Nat) (Mn : Nat) (Mf : Nat) (Mr : Nat) (Mh : Nat) (zhp : Int32) (zcc : Int32) (Ma : Nat) (Mas : Nat) (Msn : Nat) (Mac : Nat) (Mat : Nat) (fmt : Nat → Int32) (frr : Nat → Int32) (frh : Nat → Int32) (frc : Nat → Int32) (h0 : tp ≤ 160) (h1 : ma ≤ tp) (h2 : rh ≤ 3) (h3 : rc ≤ 3) (h4 : n1 frr) (h5 : n1 frh) (h6 : n1 frc) : Met l yX7_clause wsX7_clause ({ frames := 4, cells := 0, slots := 0, locals := 89 }) (va_Pc [.ref Mm, .int zf] (pre D g sz [(Mm, .inr (7, [.int zth, .ref Mt, .int (nI tp), .int (nI ma), .int (-1), .ref Mrr, .ref Mrh, .ref Mrc, .int (nI rh), .int (nI rc), .ref Mn, .ref Mf, .ref Mr, .ref Mh, .int zhp, .int zcc, .ref Ma, .ref Mas, .ref Msn, .ref Mac, .ref Mat])), (Mt, .inl (g 0, 160, .inl fmt)), (Mrr, .inl (g 0, 3, .inl frr)), (Mrh, .inl (g 0, 9, .inl frh)), (Mrc, .inl (g 0, 9, .inl frc))])) (va_Qv (fun (u : va_W) => ∃ (max : Nat) (zwrx : Int32) (rhx : Nat) (rcx : Nat) (frrx : Nat → Int32) (frhx : Nat → Int32) (frcx : Nat → Int32), u = [(Mm, .inr (7, [.int zth, .ref Mt, .int (nI tp), .int (nI max), .int zwrx, .ref Mrr, .ref Mrh, .ref Mrc, .int (nI rhx), .int (nI rcx), .ref Mn, .ref Mf, .ref Mr, .ref Mh, .int zhp, .int zcc, .ref Ma, .ref Mas, .ref Msn, .ref Mac, .ref Mat])), (Mt, .inl (g 0, 160, .inl fmt)), (Mrr, .inl (g 0, 3, .inl frrx)), (Mrh, .inl (g 0, 9, .inl frhx)), (Mrc, .inl (g 0, 9, .inl frcx))] ∧ ((n1 frrx) ∧ (n1 frhx) ∧ (n1 frcx) ∧ (max ≤ tp) ∧ (ma ≤ max) ∧ (rhx ≤ 3) ∧ (rcx ≤ 3) ∧ (cqP fmt tp ma zf rh rc zwrx max rhx rcx) ∧ (zwrx = -1 → cqW fmt tp ma zf rh rc frr frh frc frrx frhx frcx))) (wd D (va_A [(Mm, .inr (7, [.int zth, .ref Mt, .int (nI tp), .int (nI ma), .int (-1), .ref Mrr, .ref Mrh, .ref Mrc, .int (nI rh), .int (nI rc), .ref Mn, .ref Mf, .ref Mr, .ref Mh, .int zhp, .int zcc, .ref Ma, .ref Mas, .ref Msn, .ref Mac, .ref Mat])), (Mt, .inl (g 0, 160, .inl fmt)), (Mrr, .inl (g 0, 3, .inl frr)), (Mrh, .inl (g 0, 9, .inl frh)), (Mrc, .inl (g 0, 9, .inl frc))] sz)) (va_A [(Mm, .inr (7, [.int zth, .ref Mt, .int (nI tp), .int (nI ma), .int (-1), .ref Mrr, .ref Mrh, .ref Mrc, .int (nI rh), .int (nI rc), .ref Mn, .ref Mf, .ref Mr, .ref Mh, .int zhp, .int zcc, .ref Ma, .ref Mas, .ref Msn, .ref Mac, .ref Mat])), (Mt, .inl (g 0, 160, .inl fmt)), (Mrr, .inl (g 0, 3, .inl frr)), (Mrh, .inl (g 0, 9, .inl frh)), (Mrc, .inl (g 0, 9, .inl frc))] sz)) 0 0 (va_A [(Mm, .inr (7, [.int zth, .ref Mt, .int (nI tp), .int (nI ma), .int (-1), .ref Mrr, .ref Mrh, .ref Mrc, .int (nI rh), .int (nI rc), .ref Mn, .ref Mf, .ref Mr, .ref Mh, .int zhp, .int zcc, .ref Ma, .ref Mas, .ref Msn, .ref Mac, .ref Mat])), (Mt, .inl (g 0, 160, .inl fmt)), (Mrr, .inl (g 0, 3, .inl frr)), (Mrh, .inl (g 0, 9, .inl frh)), (Mrc, .inl (g 0, 9, .inl frc))] sz) := by
  refine Met.ofW (cc := cX7_clause) (maxL := 3) (ret := none) (by decide) rfl ?_
  intro p e s m args below meth c s₁ B hml hv
  obtain ⟨rfl, hsz, hP, ⟨hK, hN⟩, hD0, hZ⟩ := hv
  have hx := B.exec
  have hb := B.bytes
  have hr := B.returns
  have hts := atoms_spec (ws := wsX7_clause) B.pre
  have hown : s.vm.findClass RX7 = some m.cls := findClass_of_methodNamed B.named
  have hlocks := B.notSynchronized
  clear B
  subst hsz
  have hD := hD0.self (sz := s.heap.size)
  clear hD0
  generalize hAe : va_A [(Mm, .inr (7, [.int zth, .ref Mt, .int (nI tp), .int (nI ma), .int (-1), .ref Mrr, .ref Mrh, .ref Mrc, .int (nI rh), .int (nI rc), .ref Mn, .ref Mf, .ref Mr, .ref Mh, .int zhp, .int zcc, .ref Ma, .ref Mas, .ref Msn, .ref Mac, .ref Mat])), (Mt, .inl (g 0, 160, .inl fmt)), (Mrr, .inl (g 0, 3, .inl frr)), (Mrh, .inl (g 0, 9, .inl frh)), (Mrc, .inl (g 0, 9, .inl frc))] s.heap.size = A at hD hZ ⊢
  have hA : ∀ q : Nat, s.heap.size ≤ q → A q := fun q h => by rw [← hAe]; exact Or.inr h
  have hS : va_S A s.heap s.heap [] := va_S.rf
  have f111 := hts (.fieldLink RX7 111 "HopCreditsModel" "readHops" "I") (List.mem_of_getElem? (i := 3) rfl)
  have f114 := hts (.fieldLink RX7 114 "HopCreditsModel" "readCircuits" "I") (List.mem_of_getElem? (i := 5) rfl)
  have f13 := hts (.fieldLink RX7 13 "HopCreditsModel" "readRule" "[I") (List.mem_of_getElem? (i := 2) rfl)
  have f16 := hts (.fieldLink RX7 16 "HopCreditsModel" "readHop" "[I") (List.mem_of_getElem? (i := 4) rfl)
  have f19 := hts (.fieldLink RX7 19 "HopCreditsModel" "readCircuit" "[I") (List.mem_of_getElem? (i := 6) rfl)
  have f64 := hts (.fieldLink RX7 64 "HopCreditsModel" "at" "I") (List.mem_of_getElem? (i := 1) rfl)
  have iX7 : ∀ w ∈ u_ws RX7 TX7 21, w ∈ wsX7_clause := fun w h => List.mem_cons_of_mem _ (List.mem_append_right _ (h))
  have hl := lv_entry ([.ref Mm, .int zf]) (n := 3) (Nat.le_of_ble_eq_true rfl)
  rw [lg_entry_eq]
  generalize (lg_sl ([.ref Mm, .int zf]) ++ List.replicate (3 - (lg_sl ([.ref Mm, .int zf])).length) Slot.unset).toArray = ls at hl ⊢
  have hl : lv_has ls 3 [(0, .ref Mm), (1, .int zf)] := hl
  generalize hQ : MQ below _ _ s _ _ _ = Q
  generalize hH : s.heap = H at hP ⊢
  have hS : va_S A s.heap H [] := by rw [← hH]; exact hS
  clear hH
  refine lv_aload_n hx hb dX7_clause_0 rfl (lv_at hl 0 rfl) ?_
  refine ky_Vi (As := []) (rest := []) ⟨hx, hb, hml, hown, hts⟩ ⟨hK, hN⟩ hZ hP hD hS hA [0, 1] [2, 3, 4] (wc := [(Mm, .inr (7, [.int zth, .ref Mt, .int (nI tp), .int (nI ma), .int (-1), .ref Mrr, .ref Mrh, .ref Mrc, .int (nI rh), .int (nI rc), .ref Mn, .ref Mf, .ref Mr, .ref Mh, .int zhp, .int zcc, .ref Ma, .ref Mas, .ref Msn, .ref Mac, .ref Mat])), (Mt, .inl (g 0, 160, .inl fmt))]) (wr := [(Mrr, .inl (g 0, 3, .inl frr)), (Mrh, .inl (g 0, 9, .inl frh)), (Mrc, .inl (g 0, 9, .inl frc))]) rfl rfl rfl rfl (by decide) (r_X7_ahead l D g H.size Mm zth Mt tp ma (-1) Mrr Mrh Mrc rh rc Mn Mf Mr Mh zhp zcc Ma Mas Msn Mac Mat fmt (show tp ≤ 160 by omega) (show ma ≤ tp by omega)) (cwV 0 hts gX7_clause_X7_ahead rfl rfl rfl (by decide +kernel) ⟨(Nat.le_of_ble_eq_true rfl), (Nat.le_of_ble_eq_true rfl)⟩) 0 7 rfl rfl rfl rfl hl.1 rfl (Nat.le_of_ble_eq_true rfl) dX7_clause_1 ⟨(Nat.le_of_ble_eq_true rfl), (Nat.le_of_ble_eq_true rfl)⟩ (fun r_1 u H locs hw hP2 hD2 hS2 => ?_)
  clear hP hD hS
  obtain ⟨max_2, rfl, rfl, hf_3, hf_4, hf_5⟩ := hw
  have hPD : PD D A [(Mrr, .inl (g 0, 3, .inl frr)), (Mrh, .inl (g 0, 9, .inl frh)), (Mrc, .inl (g 0, 9, .inl frc)), (Mm, .inr (7, [.int zth, .ref Mt, .int (nI tp), .int (nI max_2), .int (-1), .ref Mrr, .ref Mrh, .ref Mrc, .int (nI rh), .int (nI rc), .ref Mn, .ref Mf, .ref Mr, .ref Mh, .int zhp, .int zcc, .ref Ma, .ref Mas, .ref Msn, .ref Mac, .ref Mat])), (Mt, .inl (g 0, 160, .inl fmt))] H := ⟨hP2, hD2⟩
  have hS := hS2; clear hP2 hD2 hS2; have hP := hPD.1; have hD := hPD.2; clear hPD
  refine W.widen (k := 0) (n := 0) (Nat.le_of_ble_eq_true rfl) (Nat.le_of_ble_eq_true rfl) ?_
  refine lv_topi (fun y_6 hey_6 => ?_)
  refine lv_istore_n (lv' := [(2, .int y_6), (0, .ref Mm), (1, .int zf)]) hx hb dX7_clause_4 rfl hl (by decide) rfl (fun ls hl => ?_)
  refine lv_iload_n hx hb dX7_clause_5 rfl (lv_at hl 0 rfl) ?_
  refine lv_bipush (v := 110) hx hb dX7_clause_6 (by decide) ?_
  refine lv_icmp_ne (tgt := 38) hx hb dX7_clause_8 (by decide) (fun cb_7 => ?_) (fun cb_7 => ?_)
  · skip
    refine lv_iload_n hx hb dX7_clause_38 rfl (lv_at hl 0 rfl) ?_
    refine lv_bipush (v := 104) hx hb dX7_clause_39 (by decide) ?_
    refine lv_icmp_ne (tgt := 90) hx hb dX7_clause_41 (by decide) (fun cb_8 => ?_) (fun cb_8 => ?_)
    · skip
      refine lv_iload_n hx hb dX7_clause_90 rfl (lv_at hl 0 rfl) ?_
      refine lv_bipush (v := 99) hx hb dX7_clause_91 (by decide) ?_
      refine lv_icmp_ne (tgt := 142) hx hb dX7_clause_93 (by decide) (fun cb_9 => ?_) (fun cb_9 => ?_)
      · skip
        refine lv_aload_n hx hb dX7_clause_142 rfl (lv_at hl 1 rfl) ?_
        refine ky_Vv (As := []) (rest := []) ⟨hx, hb, hml, hown, hts⟩ ⟨hK, hN⟩ hZ hP hD hS hA [3] [0, 1, 2, 4] (wc := [(Mm, .inr (7, [.int zth, .ref Mt, .int (nI tp), .int (nI max_2), .int (-1), .ref Mrr, .ref Mrh, .ref Mrc, .int (nI rh), .int (nI rc), .ref Mn, .ref Mf, .ref Mr, .ref Mh, .int zhp, .int zcc, .ref Ma, .ref Mas, .ref Msn, .ref Mac, .ref Mat]))]) (wr := [(Mrr, .inl (g 0, 3, .inl frr)), (Mrh, .inl (g 0, 9, .inl frh)), (Mrc, .inl (g 0, 9, .inl frc)), (Mt, .inl (g 0, 160, .inl fmt))]) rfl rfl rfl rfl (by decide) (r_X7_bad l D g H.size Mm zth Mt tp max_2 Mrr Mrh Mrc rh rc Mn Mf Mr Mh zhp zcc Ma Mas Msn Mac Mat) (cwV 0 hts gX7_clause_X7_bad rfl rfl rfl (by decide +kernel) ⟨(Nat.le_of_ble_eq_true rfl), (Nat.le_of_ble_eq_true rfl)⟩) 3 7 rfl rfl rfl rfl hl.1 rfl (Nat.le_of_ble_eq_true rfl) dX7_clause_143 ⟨(Nat.le_of_ble_eq_true rfl), (Nat.le_of_ble_eq_true rfl)⟩ (fun u H locs hw hP2 hD2 hS2 => ?_)
        clear hP hD hS
        obtain rfl := hw
        have hPD : PD D A [(Mrr, .inl (g 0, 3, .inl frr)), (Mrh, .inl (g 0, 9, .inl frh)), (Mrc, .inl (g 0, 9, .inl frc)), (Mt, .inl (g 0, 160, .inl fmt)), (Mm, .inr (7, [.int zth, .ref Mt, .int (nI tp), .int (nI max_2), .int (nI max_2), .ref Mrr, .ref Mrh, .ref Mrc, .int (nI rh), .int (nI rc), .ref Mn, .ref Mf, .ref Mr, .ref Mh, .int zhp, .int zcc, .ref Ma, .ref Mas, .ref Msn, .ref Mac, .ref Mat]))] H := ⟨hP2, hD2⟩
        have hS := hS2; clear hP2 hD2 hS2; have hP := hPD.1; have hD := hPD.2; clear hPD
        refine W.widen (k := 0) (n := 0) (Nat.le_of_ble_eq_true rfl) (Nat.le_of_ble_eq_true rfl) ?_
        have hPD9 : PD D A [(Mm, .inr (7, [.int zth, .ref Mt, .int (nI tp), .int (nI max_2), .int (nI max_2), .ref Mrr, .ref Mrh, .ref Mrc, .int (nI rh), .int (nI rc), .ref Mn, .ref Mf, .ref Mr, .ref Mh, .int zhp, .int zcc, .ref Ma, .ref Mas, .ref Msn, .ref Mac, .ref Mat])), (Mt, .inl (g 0, 160, .inl fmt)), (Mrr, .inl (g 0, 3, .inl frr)), (Mrh, .inl (g 0, 9, .inl frh)), (Mrc, .inl (g 0, 9, .inl frc))] H := ⟨hP.sub [4, 3, 0, 1, 2] rfl, hD.sub [4, 3, 0, 1, 2] (by decide) rfl⟩
        have hP9 := hPD9.1; have hD9 := hPD9.2
        subst hQ
        refine W.widen (k := 0) (n := 0) (Nat.le_of_ble_eq_true rfl) (Nat.le_of_ble_eq_true rfl) ?_
        exact W.vret hx hb hr (fun tS htS _ => ⟨⟨_, rfl, ⟨max_2, (nI max_2), rh, rc, frr, frh, frc, rfl, ⟨(h4), (h5), (h6), (show max_2 ≤ tp by omega), (show ma ≤ max_2 by omega), (show rh ≤ 3 by omega), (show rc ≤ 3 by omega), (cqP_i (Or.inl ⟨hd_no hf_5 hey_6.symm (fun q => cb_7 q.1) (fun q => cb_8 q.1) (fun q => cb_9 q.1), congrArg nI hf_5⟩)), (fun q9 => absurd q9 (m1_ne (show max_2 < 2 ^ 31 by omega)))⟩⟩, by rw [htS]; exact hP9, hD9⟩, hS.F htS⟩) hS.2.2 dX7_clause_146
      · skip
        have hq_11 : max_2 < tp := (fun q9 => here_lt hey_6 q9) (by rw [cb_9]; decide)
        refine lv_aload_n hx hb dX7_clause_96 rfl (lv_at hl 1 rfl) ?_
        refine va_get (D := D) (ci := 7) (v := .int (nI rc)) (C := RX7) (T := TX7) (N := 21) hx hb hts iX7 hown hK hP 3 rfl rfl 9 (by decide) f114 (fun _ h9 => h9) rfl dX7_clause_97 ?_
        refine lv_iconst (v := 3) hx hb dX7_clause_100 (by decide) ?_
        refine lv_icmp_ge (tgt := 142) hx hb dX7_clause_101 (by decide) (fun cb_12 => ?_) (fun cb_12 => ?_)
        · skip
          have cn_13 : 3 ≤ rc := (nI_leI (show 3 < 2 ^ 31 by omega) (show rc < 2 ^ 31 by omega)).mp cb_12
          refine lv_aload_n hx hb dX7_clause_142 rfl (lv_at hl 1 rfl) ?_
          refine ky_Vv (As := []) (rest := []) ⟨hx, hb, hml, hown, hts⟩ ⟨hK, hN⟩ hZ hP hD hS hA [3] [0, 1, 2, 4] (wc := [(Mm, .inr (7, [.int zth, .ref Mt, .int (nI tp), .int (nI max_2), .int (-1), .ref Mrr, .ref Mrh, .ref Mrc, .int (nI rh), .int (nI rc), .ref Mn, .ref Mf, .ref Mr, .ref Mh, .int zhp, .int zcc, .ref Ma, .ref Mas, .ref Msn, .ref Mac, .ref Mat]))]) (wr := [(Mrr, .inl (g 0, 3, .inl frr)), (Mrh, .inl (g 0, 9, .inl frh)), (Mrc, .inl (g 0, 9, .inl frc)), (Mt, .inl (g 0, 160, .inl fmt))]) rfl rfl rfl rfl (by decide) (r_X7_bad l D g H.size Mm zth Mt tp max_2 Mrr Mrh Mrc rh rc Mn Mf Mr Mh zhp zcc Ma Mas Msn Mac Mat) (cwV 0 hts gX7_clause_X7_bad rfl rfl rfl (by decide +kernel) ⟨(Nat.le_of_ble_eq_true rfl), (Nat.le_of_ble_eq_true rfl)⟩) 3 7 rfl rfl rfl rfl hl.1 rfl (Nat.le_of_ble_eq_true rfl) dX7_clause_143 ⟨(Nat.le_of_ble_eq_true rfl), (Nat.le_of_ble_eq_true rfl)⟩ (fun u H locs hw hP2 hD2 hS2 => ?_)
          clear hP hD hS
          obtain rfl := hw
          have hPD : PD D A [(Mrr, .inl (g 0, 3, .inl frr)), (Mrh, .inl (g 0, 9, .inl frh)), (Mrc, .inl (g 0, 9, .inl frc)), (Mt, .inl (g 0, 160, .inl fmt)), (Mm, .inr (7, [.int zth, .ref Mt, .int (nI tp), .int (nI max_2), .int (nI max_2), .ref Mrr, .ref Mrh, .ref Mrc, .int (nI rh), .int (nI rc), .ref Mn, .ref Mf, .ref Mr, .ref Mh, .int zhp, .int zcc, .ref Ma, .ref Mas, .ref Msn, .ref Mac, .ref Mat]))] H := ⟨hP2, hD2⟩
          have hS := hS2; clear hP2 hD2 hS2; have hP := hPD.1; have hD := hPD.2; clear hPD
          refine W.widen (k := 0) (n := 0) (Nat.le_of_ble_eq_true rfl) (Nat.le_of_ble_eq_true rfl) ?_
          have hPD9 : PD D A [(Mm, .inr (7, [.int zth, .ref Mt, .int (nI tp), .int (nI max_2), .int (nI max_2), .ref Mrr, .ref Mrh, .ref Mrc, .int (nI rh), .int (nI rc), .ref Mn, .ref Mf, .ref Mr, .ref Mh, .int zhp, .int zcc, .ref Ma, .ref Mas, .ref Msn, .ref Mac, .ref Mat])), (Mt, .inl (g 0, 160, .inl fmt)), (Mrr, .inl (g 0, 3, .inl frr)), (Mrh, .inl (g 0, 9, .inl frh)), (Mrc, .inl (g 0, 9, .inl frc))] H := ⟨hP.sub [4, 3, 0, 1, 2] rfl, hD.sub [4, 3, 0, 1, 2] (by decide) rfl⟩
          have hP9 := hPD9.1; have hD9 := hPD9.2
          subst hQ
          refine W.widen (k := 0) (n := 0) (Nat.le_of_ble_eq_true rfl) (Nat.le_of_ble_eq_true rfl) ?_
          exact W.vret hx hb hr (fun tS htS _ => ⟨⟨_, rfl, ⟨max_2, (nI max_2), rh, rc, frr, frh, frc, rfl, ⟨(h4), (h5), (h6), (show max_2 ≤ tp by omega), (show ma ≤ max_2 by omega), (show rh ≤ 3 by omega), (show rc ≤ 3 by omega), (cqP_i (Or.inl ⟨hd_no hf_5 hey_6.symm (fun q => cb_7 q.1) (fun q => cb_8 q.1) (fun q => absurd q.2 (show ¬ rc < 3 by omega)), congrArg nI hf_5⟩)), (fun q9 => absurd q9 (m1_ne (show max_2 < 2 ^ 31 by omega)))⟩⟩, by rw [htS]; exact hP9, hD9⟩, hS.F htS⟩) hS.2.2 dX7_clause_146
        · skip
          have cn_15 : rc < 3 := Nat.lt_of_not_le (fun q9 => cb_12 ((nI_leI (show 3 < 2 ^ 31 by omega) (show rc < 2 ^ 31 by omega)).mpr q9))
          refine lv_aload_n hx hb dX7_clause_104 rfl (lv_at hl 1 rfl) ?_
          refine lv_dup hx hb dX7_clause_105 rfl ?_
          refine va_get (D := D) (ci := 7) (v := .int (nI max_2)) (C := RX7) (T := TX7) (N := 21) hx hb hts iX7 hown hK hP 3 rfl rfl 3 (by decide) f64 (fun _ h9 => h9) rfl dX7_clause_106 ?_
          refine lv_iconst (v := 1) hx hb dX7_clause_109 (by decide) ?_
          refine lv_iadd hx hb dX7_clause_110 ?_
          refine lv_eqi (y := (nI (max_2 + 1))) (nI_add (max_2) (1)) ?_
          refine va_put (D := D) (ci := 7) (v := .int (nI (max_2 + 1))) (ty := .int) (C := RX7) (T := TX7) (N := 21) hx hb hts iX7 tyX7 tyX7_ok nmX7 hown hK hP hD hS 3 rfl rfl 3 (by decide) f64 (fun _ h9 => h9) rfl (by decide +kernel) (rfl) (rfl) (Nat.le_of_ble_eq_true rfl) dX7_clause_111 (fun H locs hP2 hD2 hS2 => ?_)
          clear hP hD hS
          have hPD : PD D A [(Mrr, .inl (g 0, 3, .inl frr)), (Mrh, .inl (g 0, 9, .inl frh)), (Mrc, .inl (g 0, 9, .inl frc)), (Mm, .inr (7, [.int zth, .ref Mt, .int (nI tp), .int (nI (max_2 + 1)), .int (-1), .ref Mrr, .ref Mrh, .ref Mrc, .int (nI rh), .int (nI rc), .ref Mn, .ref Mf, .ref Mr, .ref Mh, .int zhp, .int zcc, .ref Ma, .ref Mas, .ref Msn, .ref Mac, .ref Mat])), (Mt, .inl (g 0, 160, .inl fmt))] H := ⟨hP2, hD2⟩
          have hS := hS2; clear hP2 hD2 hS2; have hP := hPD.1; have hD := hPD.2; clear hPD
          refine lv_aload_n hx hb dX7_clause_114 rfl (lv_at hl 1 rfl) ?_
          refine lv_iconst (v := 2) hx hb dX7_clause_115 (by decide) ?_
          refine lv_aload_n hx hb dX7_clause_116 rfl (lv_at hl 1 rfl) ?_
          refine va_get (D := D) (ci := 7) (v := .ref Mrc) (C := RX7) (T := TX7) (N := 21) hx hb hts iX7 hown hK hP 3 rfl rfl 7 (by decide) f19 (fun _ h9 => h9) rfl dX7_clause_117 ?_
          refine lv_iconst (v := 3) hx hb dX7_clause_120 (by decide) ?_
          refine lv_aload_n hx hb dX7_clause_121 rfl (lv_at hl 1 rfl) ?_
          refine va_get (D := D) (ci := 7) (v := .int (nI rc)) (C := RX7) (T := TX7) (N := 21) hx hb hts iX7 hown hK hP 3 rfl rfl 9 (by decide) f114 (fun _ h9 => h9) rfl dX7_clause_122 ?_
          refine lv_imul hx hb dX7_clause_125 ?_
          refine lv_eqi (y := (nI (3 * rc))) (pk_mul (3) (rc)) ?_
          refine ky_Vv (As := [.int 2, .ref Mrc, .int (nI (3 * rc))]) (rest := []) ⟨hx, hb, hml, hown, hts⟩ ⟨hK, hN⟩ hZ hP hD hS hA [3, 4, 2] [0, 1] (wc := [(Mm, .inr (7, [.int zth, .ref Mt, .int (nI tp), .int (nI (max_2 + 1)), .int (-1), .ref Mrr, .ref Mrh, .ref Mrc, .int (nI rh), .int (nI rc), .ref Mn, .ref Mf, .ref Mr, .ref Mh, .int zhp, .int zcc, .ref Ma, .ref Mas, .ref Msn, .ref Mac, .ref Mat])), (Mt, .inl (g 0, 160, .inl fmt)), (Mrc, .inl (g 0, 9, .inl frc))]) (wr := [(Mrr, .inl (g 0, 3, .inl frr)), (Mrh, .inl (g 0, 9, .inl frh))]) rfl rfl rfl rfl (by decide) (w_X7_items_2 l D g H.size Mm Mrc (3 * rc) zth Mt tp (max_2 + 1) Mrr Mrh rh rc Mn Mf Mr Mh zhp zcc Ma Mas Msn Mac Mat fmt frc (show tp ≤ 160 by omega) (show (max_2 + 1) ≤ tp by omega) (show (3 * rc) ≤ 6 by omega) (h6)) (cwV 3 hts gX7_clause_X7_items rfl rfl rfl (by decide +kernel) ⟨(Nat.le_of_ble_eq_true rfl), (Nat.le_of_ble_eq_true rfl)⟩) 3 7 rfl rfl rfl rfl hl.1 rfl (Nat.le_of_ble_eq_true rfl) dX7_clause_126 ⟨(Nat.le_of_ble_eq_true rfl), (Nat.le_of_ble_eq_true rfl)⟩ (fun u H locs hw hP2 hD2 hS2 => ?_)
          clear hP hD hS
          obtain ⟨max_17, zwrx_18, frcx_19, rfl, hf_20⟩ := hw
          have hg_21 := hf_20.2.1
          have hg_22 := hf_20.2.2.1
          have hPD : PD D A [(Mrr, .inl (g 0, 3, .inl frr)), (Mrh, .inl (g 0, 9, .inl frh)), (Mm, .inr (7, [.int zth, .ref Mt, .int (nI tp), .int (nI max_17), .int zwrx_18, .ref Mrr, .ref Mrh, .ref Mrc, .int (nI rh), .int (nI rc), .ref Mn, .ref Mf, .ref Mr, .ref Mh, .int zhp, .int zcc, .ref Ma, .ref Mas, .ref Msn, .ref Mac, .ref Mat])), (Mt, .inl (g 0, 160, .inl fmt)), (Mrc, .inl (g 0, 9, .inl frcx_19))] H := ⟨hP2, hD2⟩
          have hS := hS2; clear hP2 hD2 hS2; have hP := hPD.1; have hD := hPD.2; clear hPD
          refine W.widen (k := 0) (n := 0) (Nat.le_of_ble_eq_true rfl) (Nat.le_of_ble_eq_true rfl) ?_
          refine lv_aload_n hx hb dX7_clause_129 rfl (lv_at hl 1 rfl) ?_
          refine lv_dup hx hb dX7_clause_130 rfl ?_
          refine va_get (D := D) (ci := 7) (v := .int (nI rc)) (C := RX7) (T := TX7) (N := 21) hx hb hts iX7 hown hK hP 2 rfl rfl 9 (by decide) f114 (fun _ h9 => h9) rfl dX7_clause_131 ?_
          refine lv_iconst (v := 1) hx hb dX7_clause_134 (by decide) ?_
          refine lv_iadd hx hb dX7_clause_135 ?_
          refine lv_eqi (y := (nI (rc + 1))) (nI_add (rc) (1)) ?_
          refine va_put (D := D) (ci := 7) (v := .int (nI (rc + 1))) (ty := .int) (C := RX7) (T := TX7) (N := 21) hx hb hts iX7 tyX7 tyX7_ok nmX7 hown hK hP hD hS 2 rfl rfl 9 (by decide) f114 (fun _ h9 => h9) rfl (by decide +kernel) (rfl) (rfl) (Nat.le_of_ble_eq_true rfl) dX7_clause_136 (fun H locs hP2 hD2 hS2 => ?_)
          clear hP hD hS
          have hPD : PD D A [(Mrr, .inl (g 0, 3, .inl frr)), (Mrh, .inl (g 0, 9, .inl frh)), (Mm, .inr (7, [.int zth, .ref Mt, .int (nI tp), .int (nI max_17), .int zwrx_18, .ref Mrr, .ref Mrh, .ref Mrc, .int (nI rh), .int (nI (rc + 1)), .ref Mn, .ref Mf, .ref Mr, .ref Mh, .int zhp, .int zcc, .ref Ma, .ref Mas, .ref Msn, .ref Mac, .ref Mat])), (Mt, .inl (g 0, 160, .inl fmt)), (Mrc, .inl (g 0, 9, .inl frcx_19))] H := ⟨hP2, hD2⟩
          have hS := hS2; clear hP2 hD2 hS2; have hP := hPD.1; have hD := hPD.2; clear hPD
          refine lv_goto (tgt := 146) hx hb dX7_clause_139 (by decide) ?_
          have hPD9 : PD D A [(Mm, .inr (7, [.int zth, .ref Mt, .int (nI tp), .int (nI max_17), .int zwrx_18, .ref Mrr, .ref Mrh, .ref Mrc, .int (nI rh), .int (nI (rc + 1)), .ref Mn, .ref Mf, .ref Mr, .ref Mh, .int zhp, .int zcc, .ref Ma, .ref Mas, .ref Msn, .ref Mac, .ref Mat])), (Mt, .inl (g 0, 160, .inl fmt)), (Mrr, .inl (g 0, 3, .inl frr)), (Mrh, .inl (g 0, 9, .inl frh)), (Mrc, .inl (g 0, 9, .inl frcx_19))] H := ⟨hP.sub [2, 3, 0, 1, 4] rfl, hD.sub [2, 3, 0, 1, 4] (by decide) rfl⟩
          have hP9 := hPD9.1; have hD9 := hPD9.2
          subst hQ
          refine W.widen (k := 0) (n := 0) (Nat.le_of_ble_eq_true rfl) (Nat.le_of_ble_eq_true rfl) ?_
          exact W.vret hx hb hr (fun tS htS _ => ⟨⟨_, rfl, ⟨max_17, zwrx_18, rh, (rc + 1), frr, frh, frcx_19, rfl, ⟨(h4), (h5), (hf_20.1), (show max_17 ≤ tp by omega), (show ma ≤ max_17 by omega), (show rh ≤ 3 by omega), (show (rc + 1) ≤ 3 by omega), (cqP_i (Or.inr ⟨(3 + (rc + 1)), by omega, hd_c hf_5 (he_lt hey_6.symm (by rw [cb_9]; decide)).1 ((he_lt hey_6.symm (by rw [cb_9]; decide)).2.trans cb_9) (show rc < 3 by omega), (cq_i (cl := (3 + (rc + 1))) (kdN_c (show rc < 3 by omega)) hf_5 hf_20.2.2.2.1 hf_20.2.2.2.2.1 (by omega) (by omega)).1, (cq_i (cl := (3 + (rc + 1))) (kdN_c (show rc < 3 by omega)) hf_5 hf_20.2.2.2.1 hf_20.2.2.2.2.1 (by omega) (by omega)).2⟩)), (fun q9 => Or.inr (Or.inr ⟨(show rc < 3 by omega), hd_c hf_5 (he_lt hey_6.symm (by rw [cb_9]; decide)).1 ((he_lt hey_6.symm (by rw [cb_9]; decide)).2.trans cb_9) (show rc < 3 by omega), rfl, rfl, (by rw [← hf_5]; exact hf_20.2.2.2.2.2 q9)⟩))⟩⟩, by rw [htS]; exact hP9, hD9⟩, hS.F htS⟩) hS.2.2 dX7_clause_146
    · skip
      have hq_23 : max_2 < tp := (fun q9 => here_lt hey_6 q9) (by rw [cb_8]; decide)
      refine lv_aload_n hx hb dX7_clause_44 rfl (lv_at hl 1 rfl) ?_
      refine va_get (D := D) (ci := 7) (v := .int (nI rh)) (C := RX7) (T := TX7) (N := 21) hx hb hts iX7 hown hK hP 3 rfl rfl 8 (by decide) f111 (fun _ h9 => h9) rfl dX7_clause_45 ?_
      refine lv_iconst (v := 3) hx hb dX7_clause_48 (by decide) ?_
      refine lv_icmp_ge (tgt := 90) hx hb dX7_clause_49 (by decide) (fun cb_24 => ?_) (fun cb_24 => ?_)
      · skip
        have cn_25 : 3 ≤ rh := (nI_leI (show 3 < 2 ^ 31 by omega) (show rh < 2 ^ 31 by omega)).mp cb_24
        refine lv_iload_n hx hb dX7_clause_90 rfl (lv_at hl 0 rfl) ?_
        refine lv_bipush (v := 99) hx hb dX7_clause_91 (by decide) ?_
        refine lv_icmp_ne (tgt := 142) hx hb dX7_clause_93 (by decide) (fun cb_26 => ?_) (fun cb_26 => ?_)
        · skip
          refine lv_aload_n hx hb dX7_clause_142 rfl (lv_at hl 1 rfl) ?_
          refine ky_Vv (As := []) (rest := []) ⟨hx, hb, hml, hown, hts⟩ ⟨hK, hN⟩ hZ hP hD hS hA [3] [0, 1, 2, 4] (wc := [(Mm, .inr (7, [.int zth, .ref Mt, .int (nI tp), .int (nI max_2), .int (-1), .ref Mrr, .ref Mrh, .ref Mrc, .int (nI rh), .int (nI rc), .ref Mn, .ref Mf, .ref Mr, .ref Mh, .int zhp, .int zcc, .ref Ma, .ref Mas, .ref Msn, .ref Mac, .ref Mat]))]) (wr := [(Mrr, .inl (g 0, 3, .inl frr)), (Mrh, .inl (g 0, 9, .inl frh)), (Mrc, .inl (g 0, 9, .inl frc)), (Mt, .inl (g 0, 160, .inl fmt))]) rfl rfl rfl rfl (by decide) (r_X7_bad l D g H.size Mm zth Mt tp max_2 Mrr Mrh Mrc rh rc Mn Mf Mr Mh zhp zcc Ma Mas Msn Mac Mat) (cwV 0 hts gX7_clause_X7_bad rfl rfl rfl (by decide +kernel) ⟨(Nat.le_of_ble_eq_true rfl), (Nat.le_of_ble_eq_true rfl)⟩) 3 7 rfl rfl rfl rfl hl.1 rfl (Nat.le_of_ble_eq_true rfl) dX7_clause_143 ⟨(Nat.le_of_ble_eq_true rfl), (Nat.le_of_ble_eq_true rfl)⟩ (fun u H locs hw hP2 hD2 hS2 => ?_)
          clear hP hD hS
          obtain rfl := hw
          have hPD : PD D A [(Mrr, .inl (g 0, 3, .inl frr)), (Mrh, .inl (g 0, 9, .inl frh)), (Mrc, .inl (g 0, 9, .inl frc)), (Mt, .inl (g 0, 160, .inl fmt)), (Mm, .inr (7, [.int zth, .ref Mt, .int (nI tp), .int (nI max_2), .int (nI max_2), .ref Mrr, .ref Mrh, .ref Mrc, .int (nI rh), .int (nI rc), .ref Mn, .ref Mf, .ref Mr, .ref Mh, .int zhp, .int zcc, .ref Ma, .ref Mas, .ref Msn, .ref Mac, .ref Mat]))] H := ⟨hP2, hD2⟩
          have hS := hS2; clear hP2 hD2 hS2; have hP := hPD.1; have hD := hPD.2; clear hPD
          refine W.widen (k := 0) (n := 0) (Nat.le_of_ble_eq_true rfl) (Nat.le_of_ble_eq_true rfl) ?_
          have hPD9 : PD D A [(Mm, .inr (7, [.int zth, .ref Mt, .int (nI tp), .int (nI max_2), .int (nI max_2), .ref Mrr, .ref Mrh, .ref Mrc, .int (nI rh), .int (nI rc), .ref Mn, .ref Mf, .ref Mr, .ref Mh, .int zhp, .int zcc, .ref Ma, .ref Mas, .ref Msn, .ref Mac, .ref Mat])), (Mt, .inl (g 0, 160, .inl fmt)), (Mrr, .inl (g 0, 3, .inl frr)), (Mrh, .inl (g 0, 9, .inl frh)), (Mrc, .inl (g 0, 9, .inl frc))] H := ⟨hP.sub [4, 3, 0, 1, 2] rfl, hD.sub [4, 3, 0, 1, 2] (by decide) rfl⟩
          have hP9 := hPD9.1; have hD9 := hPD9.2
          subst hQ
          refine W.widen (k := 0) (n := 0) (Nat.le_of_ble_eq_true rfl) (Nat.le_of_ble_eq_true rfl) ?_
          exact W.vret hx hb hr (fun tS htS _ => ⟨⟨_, rfl, ⟨max_2, (nI max_2), rh, rc, frr, frh, frc, rfl, ⟨(h4), (h5), (h6), (show max_2 ≤ tp by omega), (show ma ≤ max_2 by omega), (show rh ≤ 3 by omega), (show rc ≤ 3 by omega), (cqP_i (Or.inl ⟨hd_no hf_5 hey_6.symm (fun q => cb_7 q.1) (fun q => absurd q.2 (show ¬ rh < 3 by omega)) (fun q => cb_26 q.1), congrArg nI hf_5⟩)), (fun q9 => absurd q9 (m1_ne (show max_2 < 2 ^ 31 by omega)))⟩⟩, by rw [htS]; exact hP9, hD9⟩, hS.F htS⟩) hS.2.2 dX7_clause_146
        · skip
          have hq_28 : max_2 < tp := (fun q9 => here_lt hey_6 q9) (by rw [cb_26]; decide)
          refine lv_aload_n hx hb dX7_clause_96 rfl (lv_at hl 1 rfl) ?_
          refine va_get (D := D) (ci := 7) (v := .int (nI rc)) (C := RX7) (T := TX7) (N := 21) hx hb hts iX7 hown hK hP 3 rfl rfl 9 (by decide) f114 (fun _ h9 => h9) rfl dX7_clause_97 ?_
          refine lv_iconst (v := 3) hx hb dX7_clause_100 (by decide) ?_
          refine lv_icmp_ge (tgt := 142) hx hb dX7_clause_101 (by decide) (fun cb_29 => ?_) (fun cb_29 => ?_)
          · skip
            have cn_30 : 3 ≤ rc := (nI_leI (show 3 < 2 ^ 31 by omega) (show rc < 2 ^ 31 by omega)).mp cb_29
            refine lv_aload_n hx hb dX7_clause_142 rfl (lv_at hl 1 rfl) ?_
            refine ky_Vv (As := []) (rest := []) ⟨hx, hb, hml, hown, hts⟩ ⟨hK, hN⟩ hZ hP hD hS hA [3] [0, 1, 2, 4] (wc := [(Mm, .inr (7, [.int zth, .ref Mt, .int (nI tp), .int (nI max_2), .int (-1), .ref Mrr, .ref Mrh, .ref Mrc, .int (nI rh), .int (nI rc), .ref Mn, .ref Mf, .ref Mr, .ref Mh, .int zhp, .int zcc, .ref Ma, .ref Mas, .ref Msn, .ref Mac, .ref Mat]))]) (wr := [(Mrr, .inl (g 0, 3, .inl frr)), (Mrh, .inl (g 0, 9, .inl frh)), (Mrc, .inl (g 0, 9, .inl frc)), (Mt, .inl (g 0, 160, .inl fmt))]) rfl rfl rfl rfl (by decide) (r_X7_bad l D g H.size Mm zth Mt tp max_2 Mrr Mrh Mrc rh rc Mn Mf Mr Mh zhp zcc Ma Mas Msn Mac Mat) (cwV 0 hts gX7_clause_X7_bad rfl rfl rfl (by decide +kernel) ⟨(Nat.le_of_ble_eq_true rfl), (Nat.le_of_ble_eq_true rfl)⟩) 3 7 rfl rfl rfl rfl hl.1 rfl (Nat.le_of_ble_eq_true rfl) dX7_clause_143 ⟨(Nat.le_of_ble_eq_true rfl), (Nat.le_of_ble_eq_true rfl)⟩ (fun u H locs hw hP2 hD2 hS2 => ?_)
            clear hP hD hS
            obtain rfl := hw
            have hPD : PD D A [(Mrr, .inl (g 0, 3, .inl frr)), (Mrh, .inl (g 0, 9, .inl frh)), (Mrc, .inl (g 0, 9, .inl frc)), (Mt, .inl (g 0, 160, .inl fmt)), (Mm, .inr (7, [.int zth, .ref Mt, .int (nI tp), .int (nI max_2), .int (nI max_2), .ref Mrr, .ref Mrh, .ref Mrc, .int (nI rh), .int (nI rc), .ref Mn, .ref Mf, .ref Mr, .ref Mh, .int zhp, .int zcc, .ref Ma, .ref Mas, .ref Msn, .ref Mac, .ref Mat]))] H := ⟨hP2, hD2⟩
            have hS := hS2; clear hP2 hD2 hS2; have hP := hPD.1; have hD := hPD.2; clear hPD
            refine W.widen (k := 0) (n := 0) (Nat.le_of_ble_eq_true rfl) (Nat.le_of_ble_eq_true rfl) ?_
            have hPD9 : PD D A [(Mm, .inr (7, [.int zth, .ref Mt, .int (nI tp), .int (nI max_2), .int (nI max_2), .ref Mrr, .ref Mrh, .ref Mrc, .int (nI rh), .int (nI rc), .ref Mn, .ref Mf, .ref Mr, .ref Mh, .int zhp, .int zcc, .ref Ma, .ref Mas, .ref Msn, .ref Mac, .ref Mat])), (Mt, .inl (g 0, 160, .inl fmt)), (Mrr, .inl (g 0, 3, .inl frr)), (Mrh, .inl (g 0, 9, .inl frh)), (Mrc, .inl (g 0, 9, .inl frc))] H := ⟨hP.sub [4, 3, 0, 1, 2] rfl, hD.sub [4, 3, 0, 1, 2] (by decide) rfl⟩
            have hP9 := hPD9.1; have hD9 := hPD9.2
            subst hQ
            refine W.widen (k := 0) (n := 0) (Nat.le_of_ble_eq_true rfl) (Nat.le_of_ble_eq_true rfl) ?_
            exact W.vret hx hb hr (fun tS htS _ => ⟨⟨_, rfl, ⟨max_2, (nI max_2), rh, rc, frr, frh, frc, rfl, ⟨(h4), (h5), (h6), (show max_2 ≤ tp by omega), (show ma ≤ max_2 by omega), (show rh ≤ 3 by omega), (show rc ≤ 3 by omega), (cqP_i (Or.inl ⟨hd_no hf_5 hey_6.symm (fun q => cb_7 q.1) (fun q => absurd q.2 (show ¬ rh < 3 by omega)) (fun q => absurd q.2 (show ¬ rc < 3 by omega)), congrArg nI hf_5⟩)), (fun q9 => absurd q9 (m1_ne (show max_2 < 2 ^ 31 by omega)))⟩⟩, by rw [htS]; exact hP9, hD9⟩, hS.F htS⟩) hS.2.2 dX7_clause_146
          · skip
            have cn_32 : rc < 3 := Nat.lt_of_not_le (fun q9 => cb_29 ((nI_leI (show 3 < 2 ^ 31 by omega) (show rc < 2 ^ 31 by omega)).mpr q9))
            refine lv_aload_n hx hb dX7_clause_104 rfl (lv_at hl 1 rfl) ?_
            refine lv_dup hx hb dX7_clause_105 rfl ?_
            refine va_get (D := D) (ci := 7) (v := .int (nI max_2)) (C := RX7) (T := TX7) (N := 21) hx hb hts iX7 hown hK hP 3 rfl rfl 3 (by decide) f64 (fun _ h9 => h9) rfl dX7_clause_106 ?_
            refine lv_iconst (v := 1) hx hb dX7_clause_109 (by decide) ?_
            refine lv_iadd hx hb dX7_clause_110 ?_
            refine lv_eqi (y := (nI (max_2 + 1))) (nI_add (max_2) (1)) ?_
            refine va_put (D := D) (ci := 7) (v := .int (nI (max_2 + 1))) (ty := .int) (C := RX7) (T := TX7) (N := 21) hx hb hts iX7 tyX7 tyX7_ok nmX7 hown hK hP hD hS 3 rfl rfl 3 (by decide) f64 (fun _ h9 => h9) rfl (by decide +kernel) (rfl) (rfl) (Nat.le_of_ble_eq_true rfl) dX7_clause_111 (fun H locs hP2 hD2 hS2 => ?_)
            clear hP hD hS
            have hPD : PD D A [(Mrr, .inl (g 0, 3, .inl frr)), (Mrh, .inl (g 0, 9, .inl frh)), (Mrc, .inl (g 0, 9, .inl frc)), (Mm, .inr (7, [.int zth, .ref Mt, .int (nI tp), .int (nI (max_2 + 1)), .int (-1), .ref Mrr, .ref Mrh, .ref Mrc, .int (nI rh), .int (nI rc), .ref Mn, .ref Mf, .ref Mr, .ref Mh, .int zhp, .int zcc, .ref Ma, .ref Mas, .ref Msn, .ref Mac, .ref Mat])), (Mt, .inl (g 0, 160, .inl fmt))] H := ⟨hP2, hD2⟩
            have hS := hS2; clear hP2 hD2 hS2; have hP := hPD.1; have hD := hPD.2; clear hPD
            refine lv_aload_n hx hb dX7_clause_114 rfl (lv_at hl 1 rfl) ?_
            refine lv_iconst (v := 2) hx hb dX7_clause_115 (by decide) ?_
            refine lv_aload_n hx hb dX7_clause_116 rfl (lv_at hl 1 rfl) ?_
            refine va_get (D := D) (ci := 7) (v := .ref Mrc) (C := RX7) (T := TX7) (N := 21) hx hb hts iX7 hown hK hP 3 rfl rfl 7 (by decide) f19 (fun _ h9 => h9) rfl dX7_clause_117 ?_
            refine lv_iconst (v := 3) hx hb dX7_clause_120 (by decide) ?_
            refine lv_aload_n hx hb dX7_clause_121 rfl (lv_at hl 1 rfl) ?_
            refine va_get (D := D) (ci := 7) (v := .int (nI rc)) (C := RX7) (T := TX7) (N := 21) hx hb hts iX7 hown hK hP 3 rfl rfl 9 (by decide) f114 (fun _ h9 => h9) rfl dX7_clause_122 ?_
            refine lv_imul hx hb dX7_clause_125 ?_
            refine lv_eqi (y := (nI (3 * rc))) (pk_mul (3) (rc)) ?_
            refine ky_Vv (As := [.int 2, .ref Mrc, .int (nI (3 * rc))]) (rest := []) ⟨hx, hb, hml, hown, hts⟩ ⟨hK, hN⟩ hZ hP hD hS hA [3, 4, 2] [0, 1] (wc := [(Mm, .inr (7, [.int zth, .ref Mt, .int (nI tp), .int (nI (max_2 + 1)), .int (-1), .ref Mrr, .ref Mrh, .ref Mrc, .int (nI rh), .int (nI rc), .ref Mn, .ref Mf, .ref Mr, .ref Mh, .int zhp, .int zcc, .ref Ma, .ref Mas, .ref Msn, .ref Mac, .ref Mat])), (Mt, .inl (g 0, 160, .inl fmt)), (Mrc, .inl (g 0, 9, .inl frc))]) (wr := [(Mrr, .inl (g 0, 3, .inl frr)), (Mrh, .inl (g 0, 9, .inl frh))]) rfl rfl rfl rfl (by decide) (w_X7_items_2 l D g H.size Mm Mrc (3 * rc) zth Mt tp (max_2 + 1) Mrr Mrh rh rc Mn Mf Mr Mh zhp zcc Ma Mas Msn Mac Mat fmt frc (show tp ≤ 160 by omega) (show (max_2 + 1) ≤ tp by omega) (show (3 * rc) ≤ 6 by omega) (h6)) (cwV 3 hts gX7_clause_X7_items rfl rfl rfl (by decide +kernel) ⟨(Nat.le_of_ble_eq_true rfl), (Nat.le_of_ble_eq_true rfl)⟩) 3 7 rfl rfl rfl rfl hl.1 rfl (Nat.le_of_ble_eq_true rfl) dX7_clause_126 ⟨(Nat.le_of_ble_eq_true rfl), (Nat.le_of_ble_eq_true rfl)⟩ (fun u H locs hw hP2 hD2 hS2 => ?_)
            clear hP hD hS
            obtain ⟨max_34, zwrx_35, frcx_36, rfl, hf_37⟩ := hw
            have hg_38 := hf_37.2.1
            have hg_39 := hf_37.2.2.1
            have hPD : PD D A [(Mrr, .inl (g 0, 3, .inl frr)), (Mrh, .inl (g 0, 9, .inl frh)), (Mm, .inr (7, [.int zth, .ref Mt, .int (nI tp), .int (nI max_34), .int zwrx_35, .ref Mrr, .ref Mrh, .ref Mrc, .int (nI rh), .int (nI rc), .ref Mn, .ref Mf, .ref Mr, .ref Mh, .int zhp, .int zcc, .ref Ma, .ref Mas, .ref Msn, .ref Mac, .ref Mat])), (Mt, .inl (g 0, 160, .inl fmt)), (Mrc, .inl (g 0, 9, .inl frcx_36))] H := ⟨hP2, hD2⟩
            have hS := hS2; clear hP2 hD2 hS2; have hP := hPD.1; have hD := hPD.2; clear hPD
            refine W.widen (k := 0) (n := 0) (Nat.le_of_ble_eq_true rfl) (Nat.le_of_ble_eq_true rfl) ?_
            refine lv_aload_n hx hb dX7_clause_129 rfl (lv_at hl 1 rfl) ?_
            refine lv_dup hx hb dX7_clause_130 rfl ?_
            refine va_get (D := D) (ci := 7) (v := .int (nI rc)) (C := RX7) (T := TX7) (N := 21) hx hb hts iX7 hown hK hP 2 rfl rfl 9 (by decide) f114 (fun _ h9 => h9) rfl dX7_clause_131 ?_
            refine lv_iconst (v := 1) hx hb dX7_clause_134 (by decide) ?_
            refine lv_iadd hx hb dX7_clause_135 ?_
            refine lv_eqi (y := (nI (rc + 1))) (nI_add (rc) (1)) ?_
            refine va_put (D := D) (ci := 7) (v := .int (nI (rc + 1))) (ty := .int) (C := RX7) (T := TX7) (N := 21) hx hb hts iX7 tyX7 tyX7_ok nmX7 hown hK hP hD hS 2 rfl rfl 9 (by decide) f114 (fun _ h9 => h9) rfl (by decide +kernel) (rfl) (rfl) (Nat.le_of_ble_eq_true rfl) dX7_clause_136 (fun H locs hP2 hD2 hS2 => ?_)
            clear hP hD hS
            have hPD : PD D A [(Mrr, .inl (g 0, 3, .inl frr)), (Mrh, .inl (g 0, 9, .inl frh)), (Mm, .inr (7, [.int zth, .ref Mt, .int (nI tp), .int (nI max_34), .int zwrx_35, .ref Mrr, .ref Mrh, .ref Mrc, .int (nI rh), .int (nI (rc + 1)), .ref Mn, .ref Mf, .ref Mr, .ref Mh, .int zhp, .int zcc, .ref Ma, .ref Mas, .ref Msn, .ref Mac, .ref Mat])), (Mt, .inl (g 0, 160, .inl fmt)), (Mrc, .inl (g 0, 9, .inl frcx_36))] H := ⟨hP2, hD2⟩
            have hS := hS2; clear hP2 hD2 hS2; have hP := hPD.1; have hD := hPD.2; clear hPD
            refine lv_goto (tgt := 146) hx hb dX7_clause_139 (by decide) ?_
            have hPD9 : PD D A [(Mm, .inr (7, [.int zth, .ref Mt, .int (nI tp), .int (nI max_34), .int zwrx_35, .ref Mrr, .ref Mrh, .ref Mrc, .int (nI rh), .int (nI (rc + 1)), .ref Mn, .ref Mf, .ref Mr, .ref Mh, .int zhp, .int zcc, .ref Ma, .ref Mas, .ref Msn, .ref Mac, .ref Mat])), (Mt, .inl (g 0, 160, .inl fmt)), (Mrr, .inl (g 0, 3, .inl frr)), (Mrh, .inl (g 0, 9, .inl frh)), (Mrc, .inl (g 0, 9, .inl frcx_36))] H := ⟨hP.sub [2, 3, 0, 1, 4] rfl, hD.sub [2, 3, 0, 1, 4] (by decide) rfl⟩
            have hP9 := hPD9.1; have hD9 := hPD9.2
            subst hQ
            refine W.widen (k := 0) (n := 0) (Nat.le_of_ble_eq_true rfl) (Nat.le_of_ble_eq_true rfl) ?_
            exact W.vret hx hb hr (fun tS htS _ => ⟨⟨_, rfl, ⟨max_34, zwrx_35, rh, (rc + 1), frr, frh, frcx_36, rfl, ⟨(h4), (h5), (hf_37.1), (show max_34 ≤ tp by omega), (show ma ≤ max_34 by omega), (show rh ≤ 3 by omega), (show (rc + 1) ≤ 3 by omega), (cqP_i (Or.inr ⟨(3 + (rc + 1)), by omega, hd_c hf_5 (he_lt hey_6.symm (by rw [cb_26]; decide)).1 ((he_lt hey_6.symm (by rw [cb_26]; decide)).2.trans cb_26) (show rc < 3 by omega), (cq_i (cl := (3 + (rc + 1))) (kdN_c (show rc < 3 by omega)) hf_5 hf_37.2.2.2.1 hf_37.2.2.2.2.1 (by omega) (by omega)).1, (cq_i (cl := (3 + (rc + 1))) (kdN_c (show rc < 3 by omega)) hf_5 hf_37.2.2.2.1 hf_37.2.2.2.2.1 (by omega) (by omega)).2⟩)), (fun q9 => Or.inr (Or.inr ⟨(show rc < 3 by omega), hd_c hf_5 (he_lt hey_6.symm (by rw [cb_26]; decide)).1 ((he_lt hey_6.symm (by rw [cb_26]; decide)).2.trans cb_26) (show rc < 3 by omega), rfl, rfl, (by rw [← hf_5]; exact hf_37.2.2.2.2.2 q9)⟩))⟩⟩, by rw [htS]; exact hP9, hD9⟩, hS.F htS⟩) hS.2.2 dX7_clause_146
      · skip
        have cn_40 : rh < 3 := Nat.lt_of_not_le (fun q9 => cb_24 ((nI_leI (show 3 < 2 ^ 31 by omega) (show rh < 2 ^ 31 by omega)).mpr q9))
        refine lv_aload_n hx hb dX7_clause_52 rfl (lv_at hl 1 rfl) ?_
        refine lv_dup hx hb dX7_clause_53 rfl ?_
        refine va_get (D := D) (ci := 7) (v := .int (nI max_2)) (C := RX7) (T := TX7) (N := 21) hx hb hts iX7 hown hK hP 3 rfl rfl 3 (by decide) f64 (fun _ h9 => h9) rfl dX7_clause_54 ?_
        refine lv_iconst (v := 1) hx hb dX7_clause_57 (by decide) ?_
        refine lv_iadd hx hb dX7_clause_58 ?_
        refine lv_eqi (y := (nI (max_2 + 1))) (nI_add (max_2) (1)) ?_
        refine va_put (D := D) (ci := 7) (v := .int (nI (max_2 + 1))) (ty := .int) (C := RX7) (T := TX7) (N := 21) hx hb hts iX7 tyX7 tyX7_ok nmX7 hown hK hP hD hS 3 rfl rfl 3 (by decide) f64 (fun _ h9 => h9) rfl (by decide +kernel) (rfl) (rfl) (Nat.le_of_ble_eq_true rfl) dX7_clause_59 (fun H locs hP2 hD2 hS2 => ?_)
        clear hP hD hS
        have hPD : PD D A [(Mrr, .inl (g 0, 3, .inl frr)), (Mrh, .inl (g 0, 9, .inl frh)), (Mrc, .inl (g 0, 9, .inl frc)), (Mm, .inr (7, [.int zth, .ref Mt, .int (nI tp), .int (nI (max_2 + 1)), .int (-1), .ref Mrr, .ref Mrh, .ref Mrc, .int (nI rh), .int (nI rc), .ref Mn, .ref Mf, .ref Mr, .ref Mh, .int zhp, .int zcc, .ref Ma, .ref Mas, .ref Msn, .ref Mac, .ref Mat])), (Mt, .inl (g 0, 160, .inl fmt))] H := ⟨hP2, hD2⟩
        have hS := hS2; clear hP2 hD2 hS2; have hP := hPD.1; have hD := hPD.2; clear hPD
        refine lv_aload_n hx hb dX7_clause_62 rfl (lv_at hl 1 rfl) ?_
        refine lv_iconst (v := 1) hx hb dX7_clause_63 (by decide) ?_
        refine lv_aload_n hx hb dX7_clause_64 rfl (lv_at hl 1 rfl) ?_
        refine va_get (D := D) (ci := 7) (v := .ref Mrh) (C := RX7) (T := TX7) (N := 21) hx hb hts iX7 hown hK hP 3 rfl rfl 6 (by decide) f16 (fun _ h9 => h9) rfl dX7_clause_65 ?_
        refine lv_iconst (v := 3) hx hb dX7_clause_68 (by decide) ?_
        refine lv_aload_n hx hb dX7_clause_69 rfl (lv_at hl 1 rfl) ?_
        refine va_get (D := D) (ci := 7) (v := .int (nI rh)) (C := RX7) (T := TX7) (N := 21) hx hb hts iX7 hown hK hP 3 rfl rfl 8 (by decide) f111 (fun _ h9 => h9) rfl dX7_clause_70 ?_
        refine lv_imul hx hb dX7_clause_73 ?_
        refine lv_eqi (y := (nI (3 * rh))) (pk_mul (3) (rh)) ?_
        refine ky_Vv (As := [.int 1, .ref Mrh, .int (nI (3 * rh))]) (rest := []) ⟨hx, hb, hml, hown, hts⟩ ⟨hK, hN⟩ hZ hP hD hS hA [3, 4, 1] [0, 2] (wc := [(Mm, .inr (7, [.int zth, .ref Mt, .int (nI tp), .int (nI (max_2 + 1)), .int (-1), .ref Mrr, .ref Mrh, .ref Mrc, .int (nI rh), .int (nI rc), .ref Mn, .ref Mf, .ref Mr, .ref Mh, .int zhp, .int zcc, .ref Ma, .ref Mas, .ref Msn, .ref Mac, .ref Mat])), (Mt, .inl (g 0, 160, .inl fmt)), (Mrh, .inl (g 0, 9, .inl frh))]) (wr := [(Mrr, .inl (g 0, 3, .inl frr)), (Mrc, .inl (g 0, 9, .inl frc))]) rfl rfl rfl rfl (by decide) (w_X7_items_1 l D g H.size Mm Mrh (3 * rh) zth Mt tp (max_2 + 1) Mrr Mrc rh rc Mn Mf Mr Mh zhp zcc Ma Mas Msn Mac Mat fmt frh (show tp ≤ 160 by omega) (show (max_2 + 1) ≤ tp by omega) (show (3 * rh) ≤ 6 by omega) (h5)) (cwV 3 hts gX7_clause_X7_items rfl rfl rfl (by decide +kernel) ⟨(Nat.le_of_ble_eq_true rfl), (Nat.le_of_ble_eq_true rfl)⟩) 3 7 rfl rfl rfl rfl hl.1 rfl (Nat.le_of_ble_eq_true rfl) dX7_clause_74 ⟨(Nat.le_of_ble_eq_true rfl), (Nat.le_of_ble_eq_true rfl)⟩ (fun u H locs hw hP2 hD2 hS2 => ?_)
        clear hP hD hS
        obtain ⟨max_42, zwrx_43, frhx_44, rfl, hf_45⟩ := hw
        have hg_46 := hf_45.2.1
        have hg_47 := hf_45.2.2.1
        have hPD : PD D A [(Mrr, .inl (g 0, 3, .inl frr)), (Mrc, .inl (g 0, 9, .inl frc)), (Mm, .inr (7, [.int zth, .ref Mt, .int (nI tp), .int (nI max_42), .int zwrx_43, .ref Mrr, .ref Mrh, .ref Mrc, .int (nI rh), .int (nI rc), .ref Mn, .ref Mf, .ref Mr, .ref Mh, .int zhp, .int zcc, .ref Ma, .ref Mas, .ref Msn, .ref Mac, .ref Mat])), (Mt, .inl (g 0, 160, .inl fmt)), (Mrh, .inl (g 0, 9, .inl frhx_44))] H := ⟨hP2, hD2⟩
        have hS := hS2; clear hP2 hD2 hS2; have hP := hPD.1; have hD := hPD.2; clear hPD
        refine W.widen (k := 0) (n := 0) (Nat.le_of_ble_eq_true rfl) (Nat.le_of_ble_eq_true rfl) ?_
        refine lv_aload_n hx hb dX7_clause_77 rfl (lv_at hl 1 rfl) ?_
        refine lv_dup hx hb dX7_clause_78 rfl ?_
        refine va_get (D := D) (ci := 7) (v := .int (nI rh)) (C := RX7) (T := TX7) (N := 21) hx hb hts iX7 hown hK hP 2 rfl rfl 8 (by decide) f111 (fun _ h9 => h9) rfl dX7_clause_79 ?_
        refine lv_iconst (v := 1) hx hb dX7_clause_82 (by decide) ?_
        refine lv_iadd hx hb dX7_clause_83 ?_
        refine lv_eqi (y := (nI (rh + 1))) (nI_add (rh) (1)) ?_
        refine va_put (D := D) (ci := 7) (v := .int (nI (rh + 1))) (ty := .int) (C := RX7) (T := TX7) (N := 21) hx hb hts iX7 tyX7 tyX7_ok nmX7 hown hK hP hD hS 2 rfl rfl 8 (by decide) f111 (fun _ h9 => h9) rfl (by decide +kernel) (rfl) (rfl) (Nat.le_of_ble_eq_true rfl) dX7_clause_84 (fun H locs hP2 hD2 hS2 => ?_)
        clear hP hD hS
        have hPD : PD D A [(Mrr, .inl (g 0, 3, .inl frr)), (Mrc, .inl (g 0, 9, .inl frc)), (Mm, .inr (7, [.int zth, .ref Mt, .int (nI tp), .int (nI max_42), .int zwrx_43, .ref Mrr, .ref Mrh, .ref Mrc, .int (nI (rh + 1)), .int (nI rc), .ref Mn, .ref Mf, .ref Mr, .ref Mh, .int zhp, .int zcc, .ref Ma, .ref Mas, .ref Msn, .ref Mac, .ref Mat])), (Mt, .inl (g 0, 160, .inl fmt)), (Mrh, .inl (g 0, 9, .inl frhx_44))] H := ⟨hP2, hD2⟩
        have hS := hS2; clear hP2 hD2 hS2; have hP := hPD.1; have hD := hPD.2; clear hPD
        refine lv_goto (tgt := 146) hx hb dX7_clause_87 (by decide) ?_
        have hPD9 : PD D A [(Mm, .inr (7, [.int zth, .ref Mt, .int (nI tp), .int (nI max_42), .int zwrx_43, .ref Mrr, .ref Mrh, .ref Mrc, .int (nI (rh + 1)), .int (nI rc), .ref Mn, .ref Mf, .ref Mr, .ref Mh, .int zhp, .int zcc, .ref Ma, .ref Mas, .ref Msn, .ref Mac, .ref Mat])), (Mt, .inl (g 0, 160, .inl fmt)), (Mrr, .inl (g 0, 3, .inl frr)), (Mrh, .inl (g 0, 9, .inl frhx_44)), (Mrc, .inl (g 0, 9, .inl frc))] H := ⟨hP.sub [2, 3, 0, 4, 1] rfl, hD.sub [2, 3, 0, 4, 1] (by decide) rfl⟩
        have hP9 := hPD9.1; have hD9 := hPD9.2
        subst hQ
        refine W.widen (k := 0) (n := 0) (Nat.le_of_ble_eq_true rfl) (Nat.le_of_ble_eq_true rfl) ?_
        exact W.vret hx hb hr (fun tS htS _ => ⟨⟨_, rfl, ⟨max_42, zwrx_43, (rh + 1), rc, frr, frhx_44, frc, rfl, ⟨(h4), (hf_45.1), (h6), (show max_42 ≤ tp by omega), (show ma ≤ max_42 by omega), (show (rh + 1) ≤ 3 by omega), (show rc ≤ 3 by omega), (cqP_i (Or.inr ⟨(rh + 1), by omega, hd_h hf_5 (he_lt hey_6.symm (by rw [cb_8]; decide)).1 ((he_lt hey_6.symm (by rw [cb_8]; decide)).2.trans cb_8) (show rh < 3 by omega), (cq_i (cl := (rh + 1)) (kdN_h (show rh < 3 by omega)) hf_5 hf_45.2.2.2.1 hf_45.2.2.2.2.1 (by omega) (by omega)).1, (cq_i (cl := (rh + 1)) (kdN_h (show rh < 3 by omega)) hf_5 hf_45.2.2.2.1 hf_45.2.2.2.2.1 (by omega) (by omega)).2⟩)), (fun q9 => Or.inr (Or.inl ⟨(show rh < 3 by omega), hd_h hf_5 (he_lt hey_6.symm (by rw [cb_8]; decide)).1 ((he_lt hey_6.symm (by rw [cb_8]; decide)).2.trans cb_8) (show rh < 3 by omega), rfl, (by rw [← hf_5]; exact hf_45.2.2.2.2.2 q9), rfl⟩))⟩⟩, by rw [htS]; exact hP9, hD9⟩, hS.F htS⟩) hS.2.2 dX7_clause_146
  · skip
    have hq_48 : max_2 < tp := (fun q9 => here_lt hey_6 q9) (by rw [cb_7]; decide)
    refine lv_iload_n hx hb dX7_clause_11 rfl (lv_at hl 2 rfl) ?_
    refine lv_if_eq (tgt := 38) hx hb dX7_clause_12 (by decide) (fun cb_49 => ?_) (fun cb_49 => ?_)
    · skip
      refine lv_iload_n hx hb dX7_clause_38 rfl (lv_at hl 0 rfl) ?_
      refine lv_bipush (v := 104) hx hb dX7_clause_39 (by decide) ?_
      refine lv_icmp_ne (tgt := 90) hx hb dX7_clause_41 (by decide) (fun cb_50 => ?_) (fun cb_50 => ?_)
      · skip
        refine lv_iload_n hx hb dX7_clause_90 rfl (lv_at hl 0 rfl) ?_
        refine lv_bipush (v := 99) hx hb dX7_clause_91 (by decide) ?_
        refine lv_icmp_ne (tgt := 142) hx hb dX7_clause_93 (by decide) (fun cb_51 => ?_) (fun cb_51 => ?_)
        · skip
          refine lv_aload_n hx hb dX7_clause_142 rfl (lv_at hl 1 rfl) ?_
          refine ky_Vv (As := []) (rest := []) ⟨hx, hb, hml, hown, hts⟩ ⟨hK, hN⟩ hZ hP hD hS hA [3] [0, 1, 2, 4] (wc := [(Mm, .inr (7, [.int zth, .ref Mt, .int (nI tp), .int (nI max_2), .int (-1), .ref Mrr, .ref Mrh, .ref Mrc, .int (nI rh), .int (nI rc), .ref Mn, .ref Mf, .ref Mr, .ref Mh, .int zhp, .int zcc, .ref Ma, .ref Mas, .ref Msn, .ref Mac, .ref Mat]))]) (wr := [(Mrr, .inl (g 0, 3, .inl frr)), (Mrh, .inl (g 0, 9, .inl frh)), (Mrc, .inl (g 0, 9, .inl frc)), (Mt, .inl (g 0, 160, .inl fmt))]) rfl rfl rfl rfl (by decide) (r_X7_bad l D g H.size Mm zth Mt tp max_2 Mrr Mrh Mrc rh rc Mn Mf Mr Mh zhp zcc Ma Mas Msn Mac Mat) (cwV 0 hts gX7_clause_X7_bad rfl rfl rfl (by decide +kernel) ⟨(Nat.le_of_ble_eq_true rfl), (Nat.le_of_ble_eq_true rfl)⟩) 3 7 rfl rfl rfl rfl hl.1 rfl (Nat.le_of_ble_eq_true rfl) dX7_clause_143 ⟨(Nat.le_of_ble_eq_true rfl), (Nat.le_of_ble_eq_true rfl)⟩ (fun u H locs hw hP2 hD2 hS2 => ?_)
          clear hP hD hS
          obtain rfl := hw
          have hPD : PD D A [(Mrr, .inl (g 0, 3, .inl frr)), (Mrh, .inl (g 0, 9, .inl frh)), (Mrc, .inl (g 0, 9, .inl frc)), (Mt, .inl (g 0, 160, .inl fmt)), (Mm, .inr (7, [.int zth, .ref Mt, .int (nI tp), .int (nI max_2), .int (nI max_2), .ref Mrr, .ref Mrh, .ref Mrc, .int (nI rh), .int (nI rc), .ref Mn, .ref Mf, .ref Mr, .ref Mh, .int zhp, .int zcc, .ref Ma, .ref Mas, .ref Msn, .ref Mac, .ref Mat]))] H := ⟨hP2, hD2⟩
          have hS := hS2; clear hP2 hD2 hS2; have hP := hPD.1; have hD := hPD.2; clear hPD
          refine W.widen (k := 0) (n := 0) (Nat.le_of_ble_eq_true rfl) (Nat.le_of_ble_eq_true rfl) ?_
          have hPD9 : PD D A [(Mm, .inr (7, [.int zth, .ref Mt, .int (nI tp), .int (nI max_2), .int (nI max_2), .ref Mrr, .ref Mrh, .ref Mrc, .int (nI rh), .int (nI rc), .ref Mn, .ref Mf, .ref Mr, .ref Mh, .int zhp, .int zcc, .ref Ma, .ref Mas, .ref Msn, .ref Mac, .ref Mat])), (Mt, .inl (g 0, 160, .inl fmt)), (Mrr, .inl (g 0, 3, .inl frr)), (Mrh, .inl (g 0, 9, .inl frh)), (Mrc, .inl (g 0, 9, .inl frc))] H := ⟨hP.sub [4, 3, 0, 1, 2] rfl, hD.sub [4, 3, 0, 1, 2] (by decide) rfl⟩
          have hP9 := hPD9.1; have hD9 := hPD9.2
          subst hQ
          refine W.widen (k := 0) (n := 0) (Nat.le_of_ble_eq_true rfl) (Nat.le_of_ble_eq_true rfl) ?_
          exact W.vret hx hb hr (fun tS htS _ => ⟨⟨_, rfl, ⟨max_2, (nI max_2), rh, rc, frr, frh, frc, rfl, ⟨(h4), (h5), (h6), (show max_2 ≤ tp by omega), (show ma ≤ max_2 by omega), (show rh ≤ 3 by omega), (show rc ≤ 3 by omega), (cqP_i (Or.inl ⟨hd_no hf_5 hey_6.symm (fun q => q.2 cb_49) (fun q => cb_50 q.1) (fun q => cb_51 q.1), congrArg nI hf_5⟩)), (fun q9 => absurd q9 (m1_ne (show max_2 < 2 ^ 31 by omega)))⟩⟩, by rw [htS]; exact hP9, hD9⟩, hS.F htS⟩) hS.2.2 dX7_clause_146
        · skip
          have hq_53 : max_2 < tp := (fun q9 => here_lt hey_6 q9) (by rw [cb_51]; decide)
          refine lv_aload_n hx hb dX7_clause_96 rfl (lv_at hl 1 rfl) ?_
          refine va_get (D := D) (ci := 7) (v := .int (nI rc)) (C := RX7) (T := TX7) (N := 21) hx hb hts iX7 hown hK hP 3 rfl rfl 9 (by decide) f114 (fun _ h9 => h9) rfl dX7_clause_97 ?_
          refine lv_iconst (v := 3) hx hb dX7_clause_100 (by decide) ?_
          refine lv_icmp_ge (tgt := 142) hx hb dX7_clause_101 (by decide) (fun cb_54 => ?_) (fun cb_54 => ?_)
          · skip
            have cn_55 : 3 ≤ rc := (nI_leI (show 3 < 2 ^ 31 by omega) (show rc < 2 ^ 31 by omega)).mp cb_54
            refine lv_aload_n hx hb dX7_clause_142 rfl (lv_at hl 1 rfl) ?_
            refine ky_Vv (As := []) (rest := []) ⟨hx, hb, hml, hown, hts⟩ ⟨hK, hN⟩ hZ hP hD hS hA [3] [0, 1, 2, 4] (wc := [(Mm, .inr (7, [.int zth, .ref Mt, .int (nI tp), .int (nI max_2), .int (-1), .ref Mrr, .ref Mrh, .ref Mrc, .int (nI rh), .int (nI rc), .ref Mn, .ref Mf, .ref Mr, .ref Mh, .int zhp, .int zcc, .ref Ma, .ref Mas, .ref Msn, .ref Mac, .ref Mat]))]) (wr := [(Mrr, .inl (g 0, 3, .inl frr)), (Mrh, .inl (g 0, 9, .inl frh)), (Mrc, .inl (g 0, 9, .inl frc)), (Mt, .inl (g 0, 160, .inl fmt))]) rfl rfl rfl rfl (by decide) (r_X7_bad l D g H.size Mm zth Mt tp max_2 Mrr Mrh Mrc rh rc Mn Mf Mr Mh zhp zcc Ma Mas Msn Mac Mat) (cwV 0 hts gX7_clause_X7_bad rfl rfl rfl (by decide +kernel) ⟨(Nat.le_of_ble_eq_true rfl), (Nat.le_of_ble_eq_true rfl)⟩) 3 7 rfl rfl rfl rfl hl.1 rfl (Nat.le_of_ble_eq_true rfl) dX7_clause_143 ⟨(Nat.le_of_ble_eq_true rfl), (Nat.le_of_ble_eq_true rfl)⟩ (fun u H locs hw hP2 hD2 hS2 => ?_)
            clear hP hD hS
            obtain rfl := hw
            have hPD : PD D A [(Mrr, .inl (g 0, 3, .inl frr)), (Mrh, .inl (g 0, 9, .inl frh)), (Mrc, .inl (g 0, 9, .inl frc)), (Mt, .inl (g 0, 160, .inl fmt)), (Mm, .inr (7, [.int zth, .ref Mt, .int (nI tp), .int (nI max_2), .int (nI max_2), .ref Mrr, .ref Mrh, .ref Mrc, .int (nI rh), .int (nI rc), .ref Mn, .ref Mf, .ref Mr, .ref Mh, .int zhp, .int zcc, .ref Ma, .ref Mas, .ref Msn, .ref Mac, .ref Mat]))] H := ⟨hP2, hD2⟩
            have hS := hS2; clear hP2 hD2 hS2; have hP := hPD.1; have hD := hPD.2; clear hPD
            refine W.widen (k := 0) (n := 0) (Nat.le_of_ble_eq_true rfl) (Nat.le_of_ble_eq_true rfl) ?_
            have hPD9 : PD D A [(Mm, .inr (7, [.int zth, .ref Mt, .int (nI tp), .int (nI max_2), .int (nI max_2), .ref Mrr, .ref Mrh, .ref Mrc, .int (nI rh), .int (nI rc), .ref Mn, .ref Mf, .ref Mr, .ref Mh, .int zhp, .int zcc, .ref Ma, .ref Mas, .ref Msn, .ref Mac, .ref Mat])), (Mt, .inl (g 0, 160, .inl fmt)), (Mrr, .inl (g 0, 3, .inl frr)), (Mrh, .inl (g 0, 9, .inl frh)), (Mrc, .inl (g 0, 9, .inl frc))] H := ⟨hP.sub [4, 3, 0, 1, 2] rfl, hD.sub [4, 3, 0, 1, 2] (by decide) rfl⟩
            have hP9 := hPD9.1; have hD9 := hPD9.2
            subst hQ
            refine W.widen (k := 0) (n := 0) (Nat.le_of_ble_eq_true rfl) (Nat.le_of_ble_eq_true rfl) ?_
            exact W.vret hx hb hr (fun tS htS _ => ⟨⟨_, rfl, ⟨max_2, (nI max_2), rh, rc, frr, frh, frc, rfl, ⟨(h4), (h5), (h6), (show max_2 ≤ tp by omega), (show ma ≤ max_2 by omega), (show rh ≤ 3 by omega), (show rc ≤ 3 by omega), (cqP_i (Or.inl ⟨hd_no hf_5 hey_6.symm (fun q => q.2 cb_49) (fun q => cb_50 q.1) (fun q => absurd q.2 (show ¬ rc < 3 by omega)), congrArg nI hf_5⟩)), (fun q9 => absurd q9 (m1_ne (show max_2 < 2 ^ 31 by omega)))⟩⟩, by rw [htS]; exact hP9, hD9⟩, hS.F htS⟩) hS.2.2 dX7_clause_146
          · skip
            have cn_57 : rc < 3 := Nat.lt_of_not_le (fun q9 => cb_54 ((nI_leI (show 3 < 2 ^ 31 by omega) (show rc < 2 ^ 31 by omega)).mpr q9))
            refine lv_aload_n hx hb dX7_clause_104 rfl (lv_at hl 1 rfl) ?_
            refine lv_dup hx hb dX7_clause_105 rfl ?_
            refine va_get (D := D) (ci := 7) (v := .int (nI max_2)) (C := RX7) (T := TX7) (N := 21) hx hb hts iX7 hown hK hP 3 rfl rfl 3 (by decide) f64 (fun _ h9 => h9) rfl dX7_clause_106 ?_
            refine lv_iconst (v := 1) hx hb dX7_clause_109 (by decide) ?_
            refine lv_iadd hx hb dX7_clause_110 ?_
            refine lv_eqi (y := (nI (max_2 + 1))) (nI_add (max_2) (1)) ?_
            refine va_put (D := D) (ci := 7) (v := .int (nI (max_2 + 1))) (ty := .int) (C := RX7) (T := TX7) (N := 21) hx hb hts iX7 tyX7 tyX7_ok nmX7 hown hK hP hD hS 3 rfl rfl 3 (by decide) f64 (fun _ h9 => h9) rfl (by decide +kernel) (rfl) (rfl) (Nat.le_of_ble_eq_true rfl) dX7_clause_111 (fun H locs hP2 hD2 hS2 => ?_)
            clear hP hD hS
            have hPD : PD D A [(Mrr, .inl (g 0, 3, .inl frr)), (Mrh, .inl (g 0, 9, .inl frh)), (Mrc, .inl (g 0, 9, .inl frc)), (Mm, .inr (7, [.int zth, .ref Mt, .int (nI tp), .int (nI (max_2 + 1)), .int (-1), .ref Mrr, .ref Mrh, .ref Mrc, .int (nI rh), .int (nI rc), .ref Mn, .ref Mf, .ref Mr, .ref Mh, .int zhp, .int zcc, .ref Ma, .ref Mas, .ref Msn, .ref Mac, .ref Mat])), (Mt, .inl (g 0, 160, .inl fmt))] H := ⟨hP2, hD2⟩
            have hS := hS2; clear hP2 hD2 hS2; have hP := hPD.1; have hD := hPD.2; clear hPD
            refine lv_aload_n hx hb dX7_clause_114 rfl (lv_at hl 1 rfl) ?_
            refine lv_iconst (v := 2) hx hb dX7_clause_115 (by decide) ?_
            refine lv_aload_n hx hb dX7_clause_116 rfl (lv_at hl 1 rfl) ?_
            refine va_get (D := D) (ci := 7) (v := .ref Mrc) (C := RX7) (T := TX7) (N := 21) hx hb hts iX7 hown hK hP 3 rfl rfl 7 (by decide) f19 (fun _ h9 => h9) rfl dX7_clause_117 ?_
            refine lv_iconst (v := 3) hx hb dX7_clause_120 (by decide) ?_
            refine lv_aload_n hx hb dX7_clause_121 rfl (lv_at hl 1 rfl) ?_
            refine va_get (D := D) (ci := 7) (v := .int (nI rc)) (C := RX7) (T := TX7) (N := 21) hx hb hts iX7 hown hK hP 3 rfl rfl 9 (by decide) f114 (fun _ h9 => h9) rfl dX7_clause_122 ?_
            refine lv_imul hx hb dX7_clause_125 ?_
            refine lv_eqi (y := (nI (3 * rc))) (pk_mul (3) (rc)) ?_
            refine ky_Vv (As := [.int 2, .ref Mrc, .int (nI (3 * rc))]) (rest := []) ⟨hx, hb, hml, hown, hts⟩ ⟨hK, hN⟩ hZ hP hD hS hA [3, 4, 2] [0, 1] (wc := [(Mm, .inr (7, [.int zth, .ref Mt, .int (nI tp), .int (nI (max_2 + 1)), .int (-1), .ref Mrr, .ref Mrh, .ref Mrc, .int (nI rh), .int (nI rc), .ref Mn, .ref Mf, .ref Mr, .ref Mh, .int zhp, .int zcc, .ref Ma, .ref Mas, .ref Msn, .ref Mac, .ref Mat])), (Mt, .inl (g 0, 160, .inl fmt)), (Mrc, .inl (g 0, 9, .inl frc))]) (wr := [(Mrr, .inl (g 0, 3, .inl frr)), (Mrh, .inl (g 0, 9, .inl frh))]) rfl rfl rfl rfl (by decide) (w_X7_items_2 l D g H.size Mm Mrc (3 * rc) zth Mt tp (max_2 + 1) Mrr Mrh rh rc Mn Mf Mr Mh zhp zcc Ma Mas Msn Mac Mat fmt frc (show tp ≤ 160 by omega) (show (max_2 + 1) ≤ tp by omega) (show (3 * rc) ≤ 6 by omega) (h6)) (cwV 3 hts gX7_clause_X7_items rfl rfl rfl (by decide +kernel) ⟨(Nat.le_of_ble_eq_true rfl), (Nat.le_of_ble_eq_true rfl)⟩) 3 7 rfl rfl rfl rfl hl.1 rfl (Nat.le_of_ble_eq_true rfl) dX7_clause_126 ⟨(Nat.le_of_ble_eq_true rfl), (Nat.le_of_ble_eq_true rfl)⟩ (fun u H locs hw hP2 hD2 hS2 => ?_)
            clear hP hD hS
            obtain ⟨max_59, zwrx_60, frcx_61, rfl, hf_62⟩ := hw
            have hg_63 := hf_62.2.1
            have hg_64 := hf_62.2.2.1
            have hPD : PD D A [(Mrr, .inl (g 0, 3, .inl frr)), (Mrh, .inl (g 0, 9, .inl frh)), (Mm, .inr (7, [.int zth, .ref Mt, .int (nI tp), .int (nI max_59), .int zwrx_60, .ref Mrr, .ref Mrh, .ref Mrc, .int (nI rh), .int (nI rc), .ref Mn, .ref Mf, .ref Mr, .ref Mh, .int zhp, .int zcc, .ref Ma, .ref Mas, .ref Msn, .ref Mac, .ref Mat])), (Mt, .inl (g 0, 160, .inl fmt)), (Mrc, .inl (g 0, 9, .inl frcx_61))] H := ⟨hP2, hD2⟩
            have hS := hS2; clear hP2 hD2 hS2; have hP := hPD.1; have hD := hPD.2; clear hPD
            refine W.widen (k := 0) (n := 0) (Nat.le_of_ble_eq_true rfl) (Nat.le_of_ble_eq_true rfl) ?_
            refine lv_aload_n hx hb dX7_clause_129 rfl (lv_at hl 1 rfl) ?_
            refine lv_dup hx hb dX7_clause_130 rfl ?_
            refine va_get (D := D) (ci := 7) (v := .int (nI rc)) (C := RX7) (T := TX7) (N := 21) hx hb hts iX7 hown hK hP 2 rfl rfl 9 (by decide) f114 (fun _ h9 => h9) rfl dX7_clause_131 ?_
            refine lv_iconst (v := 1) hx hb dX7_clause_134 (by decide) ?_
            refine lv_iadd hx hb dX7_clause_135 ?_
            refine lv_eqi (y := (nI (rc + 1))) (nI_add (rc) (1)) ?_
            refine va_put (D := D) (ci := 7) (v := .int (nI (rc + 1))) (ty := .int) (C := RX7) (T := TX7) (N := 21) hx hb hts iX7 tyX7 tyX7_ok nmX7 hown hK hP hD hS 2 rfl rfl 9 (by decide) f114 (fun _ h9 => h9) rfl (by decide +kernel) (rfl) (rfl) (Nat.le_of_ble_eq_true rfl) dX7_clause_136 (fun H locs hP2 hD2 hS2 => ?_)
            clear hP hD hS
            have hPD : PD D A [(Mrr, .inl (g 0, 3, .inl frr)), (Mrh, .inl (g 0, 9, .inl frh)), (Mm, .inr (7, [.int zth, .ref Mt, .int (nI tp), .int (nI max_59), .int zwrx_60, .ref Mrr, .ref Mrh, .ref Mrc, .int (nI rh), .int (nI (rc + 1)), .ref Mn, .ref Mf, .ref Mr, .ref Mh, .int zhp, .int zcc, .ref Ma, .ref Mas, .ref Msn, .ref Mac, .ref Mat])), (Mt, .inl (g 0, 160, .inl fmt)), (Mrc, .inl (g 0, 9, .inl frcx_61))] H := ⟨hP2, hD2⟩
            have hS := hS2; clear hP2 hD2 hS2; have hP := hPD.1; have hD := hPD.2; clear hPD
            refine lv_goto (tgt := 146) hx hb dX7_clause_139 (by decide) ?_
            have hPD9 : PD D A [(Mm, .inr (7, [.int zth, .ref Mt, .int (nI tp), .int (nI max_59), .int zwrx_60, .ref Mrr, .ref Mrh, .ref Mrc, .int (nI rh), .int (nI (rc + 1)), .ref Mn, .ref Mf, .ref Mr, .ref Mh, .int zhp, .int zcc, .ref Ma, .ref Mas, .ref Msn, .ref Mac, .ref Mat])), (Mt, .inl (g 0, 160, .inl fmt)), (Mrr, .inl (g 0, 3, .inl frr)), (Mrh, .inl (g 0, 9, .inl frh)), (Mrc, .inl (g 0, 9, .inl frcx_61))] H := ⟨hP.sub [2, 3, 0, 1, 4] rfl, hD.sub [2, 3, 0, 1, 4] (by decide) rfl⟩
            have hP9 := hPD9.1; have hD9 := hPD9.2
            subst hQ
            refine W.widen (k := 0) (n := 0) (Nat.le_of_ble_eq_true rfl) (Nat.le_of_ble_eq_true rfl) ?_
            exact W.vret hx hb hr (fun tS htS _ => ⟨⟨_, rfl, ⟨max_59, zwrx_60, rh, (rc + 1), frr, frh, frcx_61, rfl, ⟨(h4), (h5), (hf_62.1), (show max_59 ≤ tp by omega), (show ma ≤ max_59 by omega), (show rh ≤ 3 by omega), (show (rc + 1) ≤ 3 by omega), (cqP_i (Or.inr ⟨(3 + (rc + 1)), by omega, hd_c hf_5 (he_lt hey_6.symm (by rw [cb_51]; decide)).1 ((he_lt hey_6.symm (by rw [cb_51]; decide)).2.trans cb_51) (show rc < 3 by omega), (cq_i (cl := (3 + (rc + 1))) (kdN_c (show rc < 3 by omega)) hf_5 hf_62.2.2.2.1 hf_62.2.2.2.2.1 (by omega) (by omega)).1, (cq_i (cl := (3 + (rc + 1))) (kdN_c (show rc < 3 by omega)) hf_5 hf_62.2.2.2.1 hf_62.2.2.2.2.1 (by omega) (by omega)).2⟩)), (fun q9 => Or.inr (Or.inr ⟨(show rc < 3 by omega), hd_c hf_5 (he_lt hey_6.symm (by rw [cb_51]; decide)).1 ((he_lt hey_6.symm (by rw [cb_51]; decide)).2.trans cb_51) (show rc < 3 by omega), rfl, rfl, (by rw [← hf_5]; exact hf_62.2.2.2.2.2 q9)⟩))⟩⟩, by rw [htS]; exact hP9, hD9⟩, hS.F htS⟩) hS.2.2 dX7_clause_146
      · skip
        have hq_65 : max_2 < tp := (fun q9 => here_lt hey_6 q9) (by rw [cb_50]; decide)
        refine lv_aload_n hx hb dX7_clause_44 rfl (lv_at hl 1 rfl) ?_
        refine va_get (D := D) (ci := 7) (v := .int (nI rh)) (C := RX7) (T := TX7) (N := 21) hx hb hts iX7 hown hK hP 3 rfl rfl 8 (by decide) f111 (fun _ h9 => h9) rfl dX7_clause_45 ?_
        refine lv_iconst (v := 3) hx hb dX7_clause_48 (by decide) ?_
        refine lv_icmp_ge (tgt := 90) hx hb dX7_clause_49 (by decide) (fun cb_66 => ?_) (fun cb_66 => ?_)
        · skip
          have cn_67 : 3 ≤ rh := (nI_leI (show 3 < 2 ^ 31 by omega) (show rh < 2 ^ 31 by omega)).mp cb_66
          refine lv_iload_n hx hb dX7_clause_90 rfl (lv_at hl 0 rfl) ?_
          refine lv_bipush (v := 99) hx hb dX7_clause_91 (by decide) ?_
          refine lv_icmp_ne (tgt := 142) hx hb dX7_clause_93 (by decide) (fun cb_68 => ?_) (fun cb_68 => ?_)
          · skip
            refine lv_aload_n hx hb dX7_clause_142 rfl (lv_at hl 1 rfl) ?_
            refine ky_Vv (As := []) (rest := []) ⟨hx, hb, hml, hown, hts⟩ ⟨hK, hN⟩ hZ hP hD hS hA [3] [0, 1, 2, 4] (wc := [(Mm, .inr (7, [.int zth, .ref Mt, .int (nI tp), .int (nI max_2), .int (-1), .ref Mrr, .ref Mrh, .ref Mrc, .int (nI rh), .int (nI rc), .ref Mn, .ref Mf, .ref Mr, .ref Mh, .int zhp, .int zcc, .ref Ma, .ref Mas, .ref Msn, .ref Mac, .ref Mat]))]) (wr := [(Mrr, .inl (g 0, 3, .inl frr)), (Mrh, .inl (g 0, 9, .inl frh)), (Mrc, .inl (g 0, 9, .inl frc)), (Mt, .inl (g 0, 160, .inl fmt))]) rfl rfl rfl rfl (by decide) (r_X7_bad l D g H.size Mm zth Mt tp max_2 Mrr Mrh Mrc rh rc Mn Mf Mr Mh zhp zcc Ma Mas Msn Mac Mat) (cwV 0 hts gX7_clause_X7_bad rfl rfl rfl (by decide +kernel) ⟨(Nat.le_of_ble_eq_true rfl), (Nat.le_of_ble_eq_true rfl)⟩) 3 7 rfl rfl rfl rfl hl.1 rfl (Nat.le_of_ble_eq_true rfl) dX7_clause_143 ⟨(Nat.le_of_ble_eq_true rfl), (Nat.le_of_ble_eq_true rfl)⟩ (fun u H locs hw hP2 hD2 hS2 => ?_)
            clear hP hD hS
            obtain rfl := hw
            have hPD : PD D A [(Mrr, .inl (g 0, 3, .inl frr)), (Mrh, .inl (g 0, 9, .inl frh)), (Mrc, .inl (g 0, 9, .inl frc)), (Mt, .inl (g 0, 160, .inl fmt)), (Mm, .inr (7, [.int zth, .ref Mt, .int (nI tp), .int (nI max_2), .int (nI max_2), .ref Mrr, .ref Mrh, .ref Mrc, .int (nI rh), .int (nI rc), .ref Mn, .ref Mf, .ref Mr, .ref Mh, .int zhp, .int zcc, .ref Ma, .ref Mas, .ref Msn, .ref Mac, .ref Mat]))] H := ⟨hP2, hD2⟩
            have hS := hS2; clear hP2 hD2 hS2; have hP := hPD.1; have hD := hPD.2; clear hPD
            refine W.widen (k := 0) (n := 0) (Nat.le_of_ble_eq_true rfl) (Nat.le_of_ble_eq_true rfl) ?_
            have hPD9 : PD D A [(Mm, .inr (7, [.int zth, .ref Mt, .int (nI tp), .int (nI max_2), .int (nI max_2), .ref Mrr, .ref Mrh, .ref Mrc, .int (nI rh), .int (nI rc), .ref Mn, .ref Mf, .ref Mr, .ref Mh, .int zhp, .int zcc, .ref Ma, .ref Mas, .ref Msn, .ref Mac, .ref Mat])), (Mt, .inl (g 0, 160, .inl fmt)), (Mrr, .inl (g 0, 3, .inl frr)), (Mrh, .inl (g 0, 9, .inl frh)), (Mrc, .inl (g 0, 9, .inl frc))] H := ⟨hP.sub [4, 3, 0, 1, 2] rfl, hD.sub [4, 3, 0, 1, 2] (by decide) rfl⟩
            have hP9 := hPD9.1; have hD9 := hPD9.2
            subst hQ
            refine W.widen (k := 0) (n := 0) (Nat.le_of_ble_eq_true rfl) (Nat.le_of_ble_eq_true rfl) ?_
            exact W.vret hx hb hr (fun tS htS _ => ⟨⟨_, rfl, ⟨max_2, (nI max_2), rh, rc, frr, frh, frc, rfl, ⟨(h4), (h5), (h6), (show max_2 ≤ tp by omega), (show ma ≤ max_2 by omega), (show rh ≤ 3 by omega), (show rc ≤ 3 by omega), (cqP_i (Or.inl ⟨hd_no hf_5 hey_6.symm (fun q => q.2 cb_49) (fun q => absurd q.2 (show ¬ rh < 3 by omega)) (fun q => cb_68 q.1), congrArg nI hf_5⟩)), (fun q9 => absurd q9 (m1_ne (show max_2 < 2 ^ 31 by omega)))⟩⟩, by rw [htS]; exact hP9, hD9⟩, hS.F htS⟩) hS.2.2 dX7_clause_146
          · skip
            have hq_70 : max_2 < tp := (fun q9 => here_lt hey_6 q9) (by rw [cb_68]; decide)
            refine lv_aload_n hx hb dX7_clause_96 rfl (lv_at hl 1 rfl) ?_
            refine va_get (D := D) (ci := 7) (v := .int (nI rc)) (C := RX7) (T := TX7) (N := 21) hx hb hts iX7 hown hK hP 3 rfl rfl 9 (by decide) f114 (fun _ h9 => h9) rfl dX7_clause_97 ?_
            refine lv_iconst (v := 3) hx hb dX7_clause_100 (by decide) ?_
            refine lv_icmp_ge (tgt := 142) hx hb dX7_clause_101 (by decide) (fun cb_71 => ?_) (fun cb_71 => ?_)
            · skip
              have cn_72 : 3 ≤ rc := (nI_leI (show 3 < 2 ^ 31 by omega) (show rc < 2 ^ 31 by omega)).mp cb_71
              refine lv_aload_n hx hb dX7_clause_142 rfl (lv_at hl 1 rfl) ?_
              refine ky_Vv (As := []) (rest := []) ⟨hx, hb, hml, hown, hts⟩ ⟨hK, hN⟩ hZ hP hD hS hA [3] [0, 1, 2, 4] (wc := [(Mm, .inr (7, [.int zth, .ref Mt, .int (nI tp), .int (nI max_2), .int (-1), .ref Mrr, .ref Mrh, .ref Mrc, .int (nI rh), .int (nI rc), .ref Mn, .ref Mf, .ref Mr, .ref Mh, .int zhp, .int zcc, .ref Ma, .ref Mas, .ref Msn, .ref Mac, .ref Mat]))]) (wr := [(Mrr, .inl (g 0, 3, .inl frr)), (Mrh, .inl (g 0, 9, .inl frh)), (Mrc, .inl (g 0, 9, .inl frc)), (Mt, .inl (g 0, 160, .inl fmt))]) rfl rfl rfl rfl (by decide) (r_X7_bad l D g H.size Mm zth Mt tp max_2 Mrr Mrh Mrc rh rc Mn Mf Mr Mh zhp zcc Ma Mas Msn Mac Mat) (cwV 0 hts gX7_clause_X7_bad rfl rfl rfl (by decide +kernel) ⟨(Nat.le_of_ble_eq_true rfl), (Nat.le_of_ble_eq_true rfl)⟩) 3 7 rfl rfl rfl rfl hl.1 rfl (Nat.le_of_ble_eq_true rfl) dX7_clause_143 ⟨(Nat.le_of_ble_eq_true rfl), (Nat.le_of_ble_eq_true rfl)⟩ (fun u H locs hw hP2 hD2 hS2 => ?_)
              clear hP hD hS
              obtain rfl := hw
              have hPD : PD D A [(Mrr, .inl (g 0, 3, .inl frr)), (Mrh, .inl (g 0, 9, .inl frh)), (Mrc, .inl (g 0, 9, .inl frc)), (Mt, .inl (g 0, 160, .inl fmt)), (Mm, .inr (7, [.int zth, .ref Mt, .int (nI tp), .int (nI max_2), .int (nI max_2), .ref Mrr, .ref Mrh, .ref Mrc, .int (nI rh), .int (nI rc), .ref Mn, .ref Mf, .ref Mr, .ref Mh, .int zhp, .int zcc, .ref Ma, .ref Mas, .ref Msn, .ref Mac, .ref Mat]))] H := ⟨hP2, hD2⟩
              have hS := hS2; clear hP2 hD2 hS2; have hP := hPD.1; have hD := hPD.2; clear hPD
              refine W.widen (k := 0) (n := 0) (Nat.le_of_ble_eq_true rfl) (Nat.le_of_ble_eq_true rfl) ?_
              have hPD9 : PD D A [(Mm, .inr (7, [.int zth, .ref Mt, .int (nI tp), .int (nI max_2), .int (nI max_2), .ref Mrr, .ref Mrh, .ref Mrc, .int (nI rh), .int (nI rc), .ref Mn, .ref Mf, .ref Mr, .ref Mh, .int zhp, .int zcc, .ref Ma, .ref Mas, .ref Msn, .ref Mac, .ref Mat])), (Mt, .inl (g 0, 160, .inl fmt)), (Mrr, .inl (g 0, 3, .inl frr)), (Mrh, .inl (g 0, 9, .inl frh)), (Mrc, .inl (g 0, 9, .inl frc))] H := ⟨hP.sub [4, 3, 0, 1, 2] rfl, hD.sub [4, 3, 0, 1, 2] (by decide) rfl⟩
              have hP9 := hPD9.1; have hD9 := hPD9.2
              subst hQ
              refine W.widen (k := 0) (n := 0) (Nat.le_of_ble_eq_true rfl) (Nat.le_of_ble_eq_true rfl) ?_
              exact W.vret hx hb hr (fun tS htS _ => ⟨⟨_, rfl, ⟨max_2, (nI max_2), rh, rc, frr, frh, frc, rfl, ⟨(h4), (h5), (h6), (show max_2 ≤ tp by omega), (show ma ≤ max_2 by omega), (show rh ≤ 3 by omega), (show rc ≤ 3 by omega), (cqP_i (Or.inl ⟨hd_no hf_5 hey_6.symm (fun q => q.2 cb_49) (fun q => absurd q.2 (show ¬ rh < 3 by omega)) (fun q => absurd q.2 (show ¬ rc < 3 by omega)), congrArg nI hf_5⟩)), (fun q9 => absurd q9 (m1_ne (show max_2 < 2 ^ 31 by omega)))⟩⟩, by rw [htS]; exact hP9, hD9⟩, hS.F htS⟩) hS.2.2 dX7_clause_146
            · skip
              have cn_74 : rc < 3 := Nat.lt_of_not_le (fun q9 => cb_71 ((nI_leI (show 3 < 2 ^ 31 by omega) (show rc < 2 ^ 31 by omega)).mpr q9))
              refine lv_aload_n hx hb dX7_clause_104 rfl (lv_at hl 1 rfl) ?_
              refine lv_dup hx hb dX7_clause_105 rfl ?_
              refine va_get (D := D) (ci := 7) (v := .int (nI max_2)) (C := RX7) (T := TX7) (N := 21) hx hb hts iX7 hown hK hP 3 rfl rfl 3 (by decide) f64 (fun _ h9 => h9) rfl dX7_clause_106 ?_
              refine lv_iconst (v := 1) hx hb dX7_clause_109 (by decide) ?_
              refine lv_iadd hx hb dX7_clause_110 ?_
              refine lv_eqi (y := (nI (max_2 + 1))) (nI_add (max_2) (1)) ?_
              refine va_put (D := D) (ci := 7) (v := .int (nI (max_2 + 1))) (ty := .int) (C := RX7) (T := TX7) (N := 21) hx hb hts iX7 tyX7 tyX7_ok nmX7 hown hK hP hD hS 3 rfl rfl 3 (by decide) f64 (fun _ h9 => h9) rfl (by decide +kernel) (rfl) (rfl) (Nat.le_of_ble_eq_true rfl) dX7_clause_111 (fun H locs hP2 hD2 hS2 => ?_)
              clear hP hD hS
              have hPD : PD D A [(Mrr, .inl (g 0, 3, .inl frr)), (Mrh, .inl (g 0, 9, .inl frh)), (Mrc, .inl (g 0, 9, .inl frc)), (Mm, .inr (7, [.int zth, .ref Mt, .int (nI tp), .int (nI (max_2 + 1)), .int (-1), .ref Mrr, .ref Mrh, .ref Mrc, .int (nI rh), .int (nI rc), .ref Mn, .ref Mf, .ref Mr, .ref Mh, .int zhp, .int zcc, .ref Ma, .ref Mas, .ref Msn, .ref Mac, .ref Mat])), (Mt, .inl (g 0, 160, .inl fmt))] H := ⟨hP2, hD2⟩
              have hS := hS2; clear hP2 hD2 hS2; have hP := hPD.1; have hD := hPD.2; clear hPD
              refine lv_aload_n hx hb dX7_clause_114 rfl (lv_at hl 1 rfl) ?_
              refine lv_iconst (v := 2) hx hb dX7_clause_115 (by decide) ?_
              refine lv_aload_n hx hb dX7_clause_116 rfl (lv_at hl 1 rfl) ?_
              refine va_get (D := D) (ci := 7) (v := .ref Mrc) (C := RX7) (T := TX7) (N := 21) hx hb hts iX7 hown hK hP 3 rfl rfl 7 (by decide) f19 (fun _ h9 => h9) rfl dX7_clause_117 ?_
              refine lv_iconst (v := 3) hx hb dX7_clause_120 (by decide) ?_
              refine lv_aload_n hx hb dX7_clause_121 rfl (lv_at hl 1 rfl) ?_
              refine va_get (D := D) (ci := 7) (v := .int (nI rc)) (C := RX7) (T := TX7) (N := 21) hx hb hts iX7 hown hK hP 3 rfl rfl 9 (by decide) f114 (fun _ h9 => h9) rfl dX7_clause_122 ?_
              refine lv_imul hx hb dX7_clause_125 ?_
              refine lv_eqi (y := (nI (3 * rc))) (pk_mul (3) (rc)) ?_
              refine ky_Vv (As := [.int 2, .ref Mrc, .int (nI (3 * rc))]) (rest := []) ⟨hx, hb, hml, hown, hts⟩ ⟨hK, hN⟩ hZ hP hD hS hA [3, 4, 2] [0, 1] (wc := [(Mm, .inr (7, [.int zth, .ref Mt, .int (nI tp), .int (nI (max_2 + 1)), .int (-1), .ref Mrr, .ref Mrh, .ref Mrc, .int (nI rh), .int (nI rc), .ref Mn, .ref Mf, .ref Mr, .ref Mh, .int zhp, .int zcc, .ref Ma, .ref Mas, .ref Msn, .ref Mac, .ref Mat])), (Mt, .inl (g 0, 160, .inl fmt)), (Mrc, .inl (g 0, 9, .inl frc))]) (wr := [(Mrr, .inl (g 0, 3, .inl frr)), (Mrh, .inl (g 0, 9, .inl frh))]) rfl rfl rfl rfl (by decide) (w_X7_items_2 l D g H.size Mm Mrc (3 * rc) zth Mt tp (max_2 + 1) Mrr Mrh rh rc Mn Mf Mr Mh zhp zcc Ma Mas Msn Mac Mat fmt frc (show tp ≤ 160 by omega) (show (max_2 + 1) ≤ tp by omega) (show (3 * rc) ≤ 6 by omega) (h6)) (cwV 3 hts gX7_clause_X7_items rfl rfl rfl (by decide +kernel) ⟨(Nat.le_of_ble_eq_true rfl), (Nat.le_of_ble_eq_true rfl)⟩) 3 7 rfl rfl rfl rfl hl.1 rfl (Nat.le_of_ble_eq_true rfl) dX7_clause_126 ⟨(Nat.le_of_ble_eq_true rfl), (Nat.le_of_ble_eq_true rfl)⟩ (fun u H locs hw hP2 hD2 hS2 => ?_)
              clear hP hD hS
              obtain ⟨max_76, zwrx_77, frcx_78, rfl, hf_79⟩ := hw
              have hg_80 := hf_79.2.1
              have hg_81 := hf_79.2.2.1
              have hPD : PD D A [(Mrr, .inl (g 0, 3, .inl frr)), (Mrh, .inl (g 0, 9, .inl frh)), (Mm, .inr (7, [.int zth, .ref Mt, .int (nI tp), .int (nI max_76), .int zwrx_77, .ref Mrr, .ref Mrh, .ref Mrc, .int (nI rh), .int (nI rc), .ref Mn, .ref Mf, .ref Mr, .ref Mh, .int zhp, .int zcc, .ref Ma, .ref Mas, .ref Msn, .ref Mac, .ref Mat])), (Mt, .inl (g 0, 160, .inl fmt)), (Mrc, .inl (g 0, 9, .inl frcx_78))] H := ⟨hP2, hD2⟩
              have hS := hS2; clear hP2 hD2 hS2; have hP := hPD.1; have hD := hPD.2; clear hPD
              refine W.widen (k := 0) (n := 0) (Nat.le_of_ble_eq_true rfl) (Nat.le_of_ble_eq_true rfl) ?_
              refine lv_aload_n hx hb dX7_clause_129 rfl (lv_at hl 1 rfl) ?_
              refine lv_dup hx hb dX7_clause_130 rfl ?_
              refine va_get (D := D) (ci := 7) (v := .int (nI rc)) (C := RX7) (T := TX7) (N := 21) hx hb hts iX7 hown hK hP 2 rfl rfl 9 (by decide) f114 (fun _ h9 => h9) rfl dX7_clause_131 ?_
              refine lv_iconst (v := 1) hx hb dX7_clause_134 (by decide) ?_
              refine lv_iadd hx hb dX7_clause_135 ?_
              refine lv_eqi (y := (nI (rc + 1))) (nI_add (rc) (1)) ?_
              refine va_put (D := D) (ci := 7) (v := .int (nI (rc + 1))) (ty := .int) (C := RX7) (T := TX7) (N := 21) hx hb hts iX7 tyX7 tyX7_ok nmX7 hown hK hP hD hS 2 rfl rfl 9 (by decide) f114 (fun _ h9 => h9) rfl (by decide +kernel) (rfl) (rfl) (Nat.le_of_ble_eq_true rfl) dX7_clause_136 (fun H locs hP2 hD2 hS2 => ?_)
              clear hP hD hS
              have hPD : PD D A [(Mrr, .inl (g 0, 3, .inl frr)), (Mrh, .inl (g 0, 9, .inl frh)), (Mm, .inr (7, [.int zth, .ref Mt, .int (nI tp), .int (nI max_76), .int zwrx_77, .ref Mrr, .ref Mrh, .ref Mrc, .int (nI rh), .int (nI (rc + 1)), .ref Mn, .ref Mf, .ref Mr, .ref Mh, .int zhp, .int zcc, .ref Ma, .ref Mas, .ref Msn, .ref Mac, .ref Mat])), (Mt, .inl (g 0, 160, .inl fmt)), (Mrc, .inl (g 0, 9, .inl frcx_78))] H := ⟨hP2, hD2⟩
              have hS := hS2; clear hP2 hD2 hS2; have hP := hPD.1; have hD := hPD.2; clear hPD
              refine lv_goto (tgt := 146) hx hb dX7_clause_139 (by decide) ?_
              have hPD9 : PD D A [(Mm, .inr (7, [.int zth, .ref Mt, .int (nI tp), .int (nI max_76), .int zwrx_77, .ref Mrr, .ref Mrh, .ref Mrc, .int (nI rh), .int (nI (rc + 1)), .ref Mn, .ref Mf, .ref Mr, .ref Mh, .int zhp, .int zcc, .ref Ma, .ref Mas, .ref Msn, .ref Mac, .ref Mat])), (Mt, .inl (g 0, 160, .inl fmt)), (Mrr, .inl (g 0, 3, .inl frr)), (Mrh, .inl (g 0, 9, .inl frh)), (Mrc, .inl (g 0, 9, .inl frcx_78))] H := ⟨hP.sub [2, 3, 0, 1, 4] rfl, hD.sub [2, 3, 0, 1, 4] (by decide) rfl⟩
              have hP9 := hPD9.1; have hD9 := hPD9.2
              subst hQ
              refine W.widen (k := 0) (n := 0) (Nat.le_of_ble_eq_true rfl) (Nat.le_of_ble_eq_true rfl) ?_
              exact W.vret hx hb hr (fun tS htS _ => ⟨⟨_, rfl, ⟨max_76, zwrx_77, rh, (rc + 1), frr, frh, frcx_78, rfl, ⟨(h4), (h5), (hf_79.1), (show max_76 ≤ tp by omega), (show ma ≤ max_76 by omega), (show rh ≤ 3 by omega), (show (rc + 1) ≤ 3 by omega), (cqP_i (Or.inr ⟨(3 + (rc + 1)), by omega, hd_c hf_5 (he_lt hey_6.symm (by rw [cb_68]; decide)).1 ((he_lt hey_6.symm (by rw [cb_68]; decide)).2.trans cb_68) (show rc < 3 by omega), (cq_i (cl := (3 + (rc + 1))) (kdN_c (show rc < 3 by omega)) hf_5 hf_79.2.2.2.1 hf_79.2.2.2.2.1 (by omega) (by omega)).1, (cq_i (cl := (3 + (rc + 1))) (kdN_c (show rc < 3 by omega)) hf_5 hf_79.2.2.2.1 hf_79.2.2.2.2.1 (by omega) (by omega)).2⟩)), (fun q9 => Or.inr (Or.inr ⟨(show rc < 3 by omega), hd_c hf_5 (he_lt hey_6.symm (by rw [cb_68]; decide)).1 ((he_lt hey_6.symm (by rw [cb_68]; decide)).2.trans cb_68) (show rc < 3 by omega), rfl, rfl, (by rw [← hf_5]; exact hf_79.2.2.2.2.2 q9)⟩))⟩⟩, by rw [htS]; exact hP9, hD9⟩, hS.F htS⟩) hS.2.2 dX7_clause_146
        · skip
          have cn_82 : rh < 3 := Nat.lt_of_not_le (fun q9 => cb_66 ((nI_leI (show 3 < 2 ^ 31 by omega) (show rh < 2 ^ 31 by omega)).mpr q9))
          refine lv_aload_n hx hb dX7_clause_52 rfl (lv_at hl 1 rfl) ?_
          refine lv_dup hx hb dX7_clause_53 rfl ?_
          refine va_get (D := D) (ci := 7) (v := .int (nI max_2)) (C := RX7) (T := TX7) (N := 21) hx hb hts iX7 hown hK hP 3 rfl rfl 3 (by decide) f64 (fun _ h9 => h9) rfl dX7_clause_54 ?_
          refine lv_iconst (v := 1) hx hb dX7_clause_57 (by decide) ?_
          refine lv_iadd hx hb dX7_clause_58 ?_
          refine lv_eqi (y := (nI (max_2 + 1))) (nI_add (max_2) (1)) ?_
          refine va_put (D := D) (ci := 7) (v := .int (nI (max_2 + 1))) (ty := .int) (C := RX7) (T := TX7) (N := 21) hx hb hts iX7 tyX7 tyX7_ok nmX7 hown hK hP hD hS 3 rfl rfl 3 (by decide) f64 (fun _ h9 => h9) rfl (by decide +kernel) (rfl) (rfl) (Nat.le_of_ble_eq_true rfl) dX7_clause_59 (fun H locs hP2 hD2 hS2 => ?_)
          clear hP hD hS
          have hPD : PD D A [(Mrr, .inl (g 0, 3, .inl frr)), (Mrh, .inl (g 0, 9, .inl frh)), (Mrc, .inl (g 0, 9, .inl frc)), (Mm, .inr (7, [.int zth, .ref Mt, .int (nI tp), .int (nI (max_2 + 1)), .int (-1), .ref Mrr, .ref Mrh, .ref Mrc, .int (nI rh), .int (nI rc), .ref Mn, .ref Mf, .ref Mr, .ref Mh, .int zhp, .int zcc, .ref Ma, .ref Mas, .ref Msn, .ref Mac, .ref Mat])), (Mt, .inl (g 0, 160, .inl fmt))] H := ⟨hP2, hD2⟩
          have hS := hS2; clear hP2 hD2 hS2; have hP := hPD.1; have hD := hPD.2; clear hPD
          refine lv_aload_n hx hb dX7_clause_62 rfl (lv_at hl 1 rfl) ?_
          refine lv_iconst (v := 1) hx hb dX7_clause_63 (by decide) ?_
          refine lv_aload_n hx hb dX7_clause_64 rfl (lv_at hl 1 rfl) ?_
          refine va_get (D := D) (ci := 7) (v := .ref Mrh) (C := RX7) (T := TX7) (N := 21) hx hb hts iX7 hown hK hP 3 rfl rfl 6 (by decide) f16 (fun _ h9 => h9) rfl dX7_clause_65 ?_
          refine lv_iconst (v := 3) hx hb dX7_clause_68 (by decide) ?_
          refine lv_aload_n hx hb dX7_clause_69 rfl (lv_at hl 1 rfl) ?_
          refine va_get (D := D) (ci := 7) (v := .int (nI rh)) (C := RX7) (T := TX7) (N := 21) hx hb hts iX7 hown hK hP 3 rfl rfl 8 (by decide) f111 (fun _ h9 => h9) rfl dX7_clause_70 ?_
          refine lv_imul hx hb dX7_clause_73 ?_
          refine lv_eqi (y := (nI (3 * rh))) (pk_mul (3) (rh)) ?_
          refine ky_Vv (As := [.int 1, .ref Mrh, .int (nI (3 * rh))]) (rest := []) ⟨hx, hb, hml, hown, hts⟩ ⟨hK, hN⟩ hZ hP hD hS hA [3, 4, 1] [0, 2] (wc := [(Mm, .inr (7, [.int zth, .ref Mt, .int (nI tp), .int (nI (max_2 + 1)), .int (-1), .ref Mrr, .ref Mrh, .ref Mrc, .int (nI rh), .int (nI rc), .ref Mn, .ref Mf, .ref Mr, .ref Mh, .int zhp, .int zcc, .ref Ma, .ref Mas, .ref Msn, .ref Mac, .ref Mat])), (Mt, .inl (g 0, 160, .inl fmt)), (Mrh, .inl (g 0, 9, .inl frh))]) (wr := [(Mrr, .inl (g 0, 3, .inl frr)), (Mrc, .inl (g 0, 9, .inl frc))]) rfl rfl rfl rfl (by decide) (w_X7_items_1 l D g H.size Mm Mrh (3 * rh) zth Mt tp (max_2 + 1) Mrr Mrc rh rc Mn Mf Mr Mh zhp zcc Ma Mas Msn Mac Mat fmt frh (show tp ≤ 160 by omega) (show (max_2 + 1) ≤ tp by omega) (show (3 * rh) ≤ 6 by omega) (h5)) (cwV 3 hts gX7_clause_X7_items rfl rfl rfl (by decide +kernel) ⟨(Nat.le_of_ble_eq_true rfl), (Nat.le_of_ble_eq_true rfl)⟩) 3 7 rfl rfl rfl rfl hl.1 rfl (Nat.le_of_ble_eq_true rfl) dX7_clause_74 ⟨(Nat.le_of_ble_eq_true rfl), (Nat.le_of_ble_eq_true rfl)⟩ (fun u H locs hw hP2 hD2 hS2 => ?_)
          clear hP hD hS
          obtain ⟨max_84, zwrx_85, frhx_86, rfl, hf_87⟩ := hw
          have hg_88 := hf_87.2.1
          have hg_89 := hf_87.2.2.1
          have hPD : PD D A [(Mrr, .inl (g 0, 3, .inl frr)), (Mrc, .inl (g 0, 9, .inl frc)), (Mm, .inr (7, [.int zth, .ref Mt, .int (nI tp), .int (nI max_84), .int zwrx_85, .ref Mrr, .ref Mrh, .ref Mrc, .int (nI rh), .int (nI rc), .ref Mn, .ref Mf, .ref Mr, .ref Mh, .int zhp, .int zcc, .ref Ma, .ref Mas, .ref Msn, .ref Mac, .ref Mat])), (Mt, .inl (g 0, 160, .inl fmt)), (Mrh, .inl (g 0, 9, .inl frhx_86))] H := ⟨hP2, hD2⟩
          have hS := hS2; clear hP2 hD2 hS2; have hP := hPD.1; have hD := hPD.2; clear hPD
          refine W.widen (k := 0) (n := 0) (Nat.le_of_ble_eq_true rfl) (Nat.le_of_ble_eq_true rfl) ?_
          refine lv_aload_n hx hb dX7_clause_77 rfl (lv_at hl 1 rfl) ?_
          refine lv_dup hx hb dX7_clause_78 rfl ?_
          refine va_get (D := D) (ci := 7) (v := .int (nI rh)) (C := RX7) (T := TX7) (N := 21) hx hb hts iX7 hown hK hP 2 rfl rfl 8 (by decide) f111 (fun _ h9 => h9) rfl dX7_clause_79 ?_
          refine lv_iconst (v := 1) hx hb dX7_clause_82 (by decide) ?_
          refine lv_iadd hx hb dX7_clause_83 ?_
          refine lv_eqi (y := (nI (rh + 1))) (nI_add (rh) (1)) ?_
          refine va_put (D := D) (ci := 7) (v := .int (nI (rh + 1))) (ty := .int) (C := RX7) (T := TX7) (N := 21) hx hb hts iX7 tyX7 tyX7_ok nmX7 hown hK hP hD hS 2 rfl rfl 8 (by decide) f111 (fun _ h9 => h9) rfl (by decide +kernel) (rfl) (rfl) (Nat.le_of_ble_eq_true rfl) dX7_clause_84 (fun H locs hP2 hD2 hS2 => ?_)
          clear hP hD hS
          have hPD : PD D A [(Mrr, .inl (g 0, 3, .inl frr)), (Mrc, .inl (g 0, 9, .inl frc)), (Mm, .inr (7, [.int zth, .ref Mt, .int (nI tp), .int (nI max_84), .int zwrx_85, .ref Mrr, .ref Mrh, .ref Mrc, .int (nI (rh + 1)), .int (nI rc), .ref Mn, .ref Mf, .ref Mr, .ref Mh, .int zhp, .int zcc, .ref Ma, .ref Mas, .ref Msn, .ref Mac, .ref Mat])), (Mt, .inl (g 0, 160, .inl fmt)), (Mrh, .inl (g 0, 9, .inl frhx_86))] H := ⟨hP2, hD2⟩
          have hS := hS2; clear hP2 hD2 hS2; have hP := hPD.1; have hD := hPD.2; clear hPD
          refine lv_goto (tgt := 146) hx hb dX7_clause_87 (by decide) ?_
          have hPD9 : PD D A [(Mm, .inr (7, [.int zth, .ref Mt, .int (nI tp), .int (nI max_84), .int zwrx_85, .ref Mrr, .ref Mrh, .ref Mrc, .int (nI (rh + 1)), .int (nI rc), .ref Mn, .ref Mf, .ref Mr, .ref Mh, .int zhp, .int zcc, .ref Ma, .ref Mas, .ref Msn, .ref Mac, .ref Mat])), (Mt, .inl (g 0, 160, .inl fmt)), (Mrr, .inl (g 0, 3, .inl frr)), (Mrh, .inl (g 0, 9, .inl frhx_86)), (Mrc, .inl (g 0, 9, .inl frc))] H := ⟨hP.sub [2, 3, 0, 4, 1] rfl, hD.sub [2, 3, 0, 4, 1] (by decide) rfl⟩
          have hP9 := hPD9.1; have hD9 := hPD9.2
          subst hQ
          refine W.widen (k := 0) (n := 0) (Nat.le_of_ble_eq_true rfl) (Nat.le_of_ble_eq_true rfl) ?_
          exact W.vret hx hb hr (fun tS htS _ => ⟨⟨_, rfl, ⟨max_84, zwrx_85, (rh + 1), rc, frr, frhx_86, frc, rfl, ⟨(h4), (hf_87.1), (h6), (show max_84 ≤ tp by omega), (show ma ≤ max_84 by omega), (show (rh + 1) ≤ 3 by omega), (show rc ≤ 3 by omega), (cqP_i (Or.inr ⟨(rh + 1), by omega, hd_h hf_5 (he_lt hey_6.symm (by rw [cb_50]; decide)).1 ((he_lt hey_6.symm (by rw [cb_50]; decide)).2.trans cb_50) (show rh < 3 by omega), (cq_i (cl := (rh + 1)) (kdN_h (show rh < 3 by omega)) hf_5 hf_87.2.2.2.1 hf_87.2.2.2.2.1 (by omega) (by omega)).1, (cq_i (cl := (rh + 1)) (kdN_h (show rh < 3 by omega)) hf_5 hf_87.2.2.2.1 hf_87.2.2.2.2.1 (by omega) (by omega)).2⟩)), (fun q9 => Or.inr (Or.inl ⟨(show rh < 3 by omega), hd_h hf_5 (he_lt hey_6.symm (by rw [cb_50]; decide)).1 ((he_lt hey_6.symm (by rw [cb_50]; decide)).2.trans cb_50) (show rh < 3 by omega), rfl, (by rw [← hf_5]; exact hf_87.2.2.2.2.2 q9), rfl⟩))⟩⟩, by rw [htS]; exact hP9, hD9⟩, hS.F htS⟩) hS.2.2 dX7_clause_146
    · skip
      refine lv_aload_n hx hb dX7_clause_15 rfl (lv_at hl 1 rfl) ?_
      refine lv_dup hx hb dX7_clause_16 rfl ?_
      refine va_get (D := D) (ci := 7) (v := .int (nI max_2)) (C := RX7) (T := TX7) (N := 21) hx hb hts iX7 hown hK hP 3 rfl rfl 3 (by decide) f64 (fun _ h9 => h9) rfl dX7_clause_17 ?_
      refine lv_iconst (v := 1) hx hb dX7_clause_20 (by decide) ?_
      refine lv_iadd hx hb dX7_clause_21 ?_
      refine lv_eqi (y := (nI (max_2 + 1))) (nI_add (max_2) (1)) ?_
      refine va_put (D := D) (ci := 7) (v := .int (nI (max_2 + 1))) (ty := .int) (C := RX7) (T := TX7) (N := 21) hx hb hts iX7 tyX7 tyX7_ok nmX7 hown hK hP hD hS 3 rfl rfl 3 (by decide) f64 (fun _ h9 => h9) rfl (by decide +kernel) (rfl) (rfl) (Nat.le_of_ble_eq_true rfl) dX7_clause_22 (fun H locs hP2 hD2 hS2 => ?_)
      clear hP hD hS
      have hPD : PD D A [(Mrr, .inl (g 0, 3, .inl frr)), (Mrh, .inl (g 0, 9, .inl frh)), (Mrc, .inl (g 0, 9, .inl frc)), (Mm, .inr (7, [.int zth, .ref Mt, .int (nI tp), .int (nI (max_2 + 1)), .int (-1), .ref Mrr, .ref Mrh, .ref Mrc, .int (nI rh), .int (nI rc), .ref Mn, .ref Mf, .ref Mr, .ref Mh, .int zhp, .int zcc, .ref Ma, .ref Mas, .ref Msn, .ref Mac, .ref Mat])), (Mt, .inl (g 0, 160, .inl fmt))] H := ⟨hP2, hD2⟩
      have hS := hS2; clear hP2 hD2 hS2; have hP := hPD.1; have hD := hPD.2; clear hPD
      refine lv_aload_n hx hb dX7_clause_25 rfl (lv_at hl 1 rfl) ?_
      refine lv_iconst (v := 0) hx hb dX7_clause_26 (by decide) ?_
      refine lv_aload_n hx hb dX7_clause_27 rfl (lv_at hl 1 rfl) ?_
      refine va_get (D := D) (ci := 7) (v := .ref Mrr) (C := RX7) (T := TX7) (N := 21) hx hb hts iX7 hown hK hP 3 rfl rfl 5 (by decide) f13 (fun _ h9 => h9) rfl dX7_clause_28 ?_
      refine lv_iconst (v := 0) hx hb dX7_clause_31 (by decide) ?_
      refine ky_Vv (As := [.int 0, .ref Mrr, .int 0]) (rest := []) ⟨hx, hb, hml, hown, hts⟩ ⟨hK, hN⟩ hZ hP hD hS hA [3, 4, 0] [1, 2] (wc := [(Mm, .inr (7, [.int zth, .ref Mt, .int (nI tp), .int (nI (max_2 + 1)), .int (-1), .ref Mrr, .ref Mrh, .ref Mrc, .int (nI rh), .int (nI rc), .ref Mn, .ref Mf, .ref Mr, .ref Mh, .int zhp, .int zcc, .ref Ma, .ref Mas, .ref Msn, .ref Mac, .ref Mat])), (Mt, .inl (g 0, 160, .inl fmt)), (Mrr, .inl (g 0, 3, .inl frr))]) (wr := [(Mrh, .inl (g 0, 9, .inl frh)), (Mrc, .inl (g 0, 9, .inl frc))]) rfl rfl rfl rfl (by decide) (w_X7_items_0 l D g H.size Mm Mrr zth Mt tp (max_2 + 1) Mrh Mrc rh rc Mn Mf Mr Mh zhp zcc Ma Mas Msn Mac Mat fmt frr (show tp ≤ 160 by omega) (show (max_2 + 1) ≤ tp by omega) (h4)) (cwV 3 hts gX7_clause_X7_items rfl rfl rfl (by decide +kernel) ⟨(Nat.le_of_ble_eq_true rfl), (Nat.le_of_ble_eq_true rfl)⟩) 3 7 rfl rfl rfl rfl hl.1 rfl (Nat.le_of_ble_eq_true rfl) dX7_clause_32 ⟨(Nat.le_of_ble_eq_true rfl), (Nat.le_of_ble_eq_true rfl)⟩ (fun u H locs hw hP2 hD2 hS2 => ?_)
      clear hP hD hS
      obtain ⟨max_91, zwrx_92, frrx_93, rfl, hf_94⟩ := hw
      have hg_95 := hf_94.2.1
      have hg_96 := hf_94.2.2.1
      have hPD : PD D A [(Mrh, .inl (g 0, 9, .inl frh)), (Mrc, .inl (g 0, 9, .inl frc)), (Mm, .inr (7, [.int zth, .ref Mt, .int (nI tp), .int (nI max_91), .int zwrx_92, .ref Mrr, .ref Mrh, .ref Mrc, .int (nI rh), .int (nI rc), .ref Mn, .ref Mf, .ref Mr, .ref Mh, .int zhp, .int zcc, .ref Ma, .ref Mas, .ref Msn, .ref Mac, .ref Mat])), (Mt, .inl (g 0, 160, .inl fmt)), (Mrr, .inl (g 0, 3, .inl frrx_93))] H := ⟨hP2, hD2⟩
      have hS := hS2; clear hP2 hD2 hS2; have hP := hPD.1; have hD := hPD.2; clear hPD
      refine W.widen (k := 0) (n := 0) (Nat.le_of_ble_eq_true rfl) (Nat.le_of_ble_eq_true rfl) ?_
      refine lv_goto (tgt := 146) hx hb dX7_clause_35 (by decide) ?_
      have hPD9 : PD D A [(Mm, .inr (7, [.int zth, .ref Mt, .int (nI tp), .int (nI max_91), .int zwrx_92, .ref Mrr, .ref Mrh, .ref Mrc, .int (nI rh), .int (nI rc), .ref Mn, .ref Mf, .ref Mr, .ref Mh, .int zhp, .int zcc, .ref Ma, .ref Mas, .ref Msn, .ref Mac, .ref Mat])), (Mt, .inl (g 0, 160, .inl fmt)), (Mrr, .inl (g 0, 3, .inl frrx_93)), (Mrh, .inl (g 0, 9, .inl frh)), (Mrc, .inl (g 0, 9, .inl frc))] H := ⟨hP.sub [2, 3, 4, 0, 1] rfl, hD.sub [2, 3, 4, 0, 1] (by decide) rfl⟩
      have hP9 := hPD9.1; have hD9 := hPD9.2
      subst hQ
      refine W.widen (k := 0) (n := 0) (Nat.le_of_ble_eq_true rfl) (Nat.le_of_ble_eq_true rfl) ?_
      exact W.vret hx hb hr (fun tS htS _ => ⟨⟨_, rfl, ⟨max_91, zwrx_92, rh, rc, frrx_93, frh, frc, rfl, ⟨(hf_94.1), (h5), (h6), (show max_91 ≤ tp by omega), (show ma ≤ max_91 by omega), (show rh ≤ 3 by omega), (show rc ≤ 3 by omega), (cqP_i (Or.inr ⟨0, by omega, hd_n hf_5 (he_lt hey_6.symm (by rw [cb_7]; decide)).1 ((he_lt hey_6.symm (by rw [cb_7]; decide)).2.trans cb_7) cb_49, (cq_i (cl := 0) rfl hf_5 hf_94.2.2.2.1 hf_94.2.2.2.2.1 (by omega) (by omega)).1, (cq_i (cl := 0) rfl hf_5 hf_94.2.2.2.1 hf_94.2.2.2.2.1 (by omega) (by omega)).2⟩)), (fun q9 => Or.inl ⟨hd_n hf_5 (he_lt hey_6.symm (by rw [cb_7]; decide)).1 ((he_lt hey_6.symm (by rw [cb_7]; decide)).2.trans cb_7) cb_49, cb_49, (by rw [← hf_5]; exact hf_94.2.2.2.2.2 q9), rfl, rfl⟩)⟩⟩, by rw [htS]; exact hP9, hD9⟩, hS.F htS⟩) hS.2.2 dX7_clause_146
