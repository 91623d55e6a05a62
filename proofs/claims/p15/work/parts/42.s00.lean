set_option maxHeartbeats 4000000 in
set_option maxRecDepth 100000 in
theorem k_X3_sendUpdate (l : Launch) (D : va_G) (g : Nat → ClassId) (sz : Nat) (Nn : Nat) (L0 : Nat) (cx : Nat) (hp : Nat) (cc : Nat) (zrs : Int32) (zad : Int32) (zpr : Int32) (t : Nat) (zlo : Int32) (zps : Int32) (Nl : Nat) (Nf : Nat) (Nb : Nat) (d0 : Nat) (fk0 : Nat → Int32) (fv0 : Nat → Int32) (L0c : Nat) (L0u : Nat) (L0p : Nat) (L0l : Nat) (fu0 : Nat → Int32) (L0a : Nat) (L0b : Nat) (L0d : Nat) (fa0 : Nat → Int32) (fb0 : Nat → Int32) (fd0 : Nat → Int32) (h0 : cx < 3) (h1 : t < 2 ^ 30) (h2 : d0 < 5) (h3 : okc (fv0 4)) : Met l yX3_sendUpdate wsX3_sendUpdate ({ frames := 0, cells := 0, slots := 0, locals := 0 }) (va_Pc [.ref Nn, .ref L0, .int (nI cx)] (pre D g sz [(Nn, .inr (3, [.int (nI hp), .int (nI cc), .int zrs, .int zad, .int zpr, .int (nI t), .int zlo, .int zps, .ref Nl, .ref Nf, .ref Nb])), (L0, .inr (2, [.int (nI d0), .int (fk0 1), .int (fk0 2), .int (fv0 3), .int (fv0 4), .int (fv0 5), .ref L0c, .ref L0u, .ref L0p, .ref L0l])), (L0u, .inl (g 0, 15, .inl fu0)), (L0l, .inl (g 2, 3, .inr (.inr (.inr (.inr (rf3 L0a L0b L0d)))))), (L0a, .inr (1, [.int (fa0 0), .int (fa0 1), .int (fa0 2), .int (fa0 3), .int (fa0 4), .int (fa0 5), .int (fa0 6)])), (L0b, .inr (1, [.int (fb0 0), .int (fb0 1), .int (fb0 2), .int (fb0 3), .int (fb0 4), .int (fb0 5), .int (fb0 6)])), (L0d, .inr (1, [.int (fd0 0), .int (fd0 1), .int (fd0 2), .int (fd0 3), .int (fd0 4), .int (fd0 5), .int (fd0 6)]))])) (va_Qv (fun (u : va_W) => ∃ (zlox : Int32) (fv0x : Nat → Int32) (fu0x : Nat → Int32), u = [(Nn, .inr (3, [.int (nI hp), .int (nI cc), .int zrs, .int zad, .int zpr, .int (nI t), .int zlox, .int zps, .ref Nl, .ref Nf, .ref Nb])), (L0, .inr (2, [.int (nI d0), .int (fk0 1), .int (fk0 2), .int (fv0x 3), .int (fv0x 4), .int (fv0x 5), .ref L0c, .ref L0u, .ref L0p, .ref L0l])), (L0u, .inl (g 0, 15, .inl fu0x)), (L0l, .inl (g 2, 3, .inr (.inr (.inr (.inr (rf3 L0a L0b L0d)))))), (L0a, .inr (1, [.int (fa0 0), .int (fa0 1), .int (fa0 2), .int (fa0 3), .int (fa0 4), .int (fa0 5), .int (fa0 6)])), (L0b, .inr (1, [.int (fb0 0), .int (fb0 1), .int (fb0 2), .int (fb0 3), .int (fb0 4), .int (fb0 5), .int (fb0 6)])), (L0d, .inr (1, [.int (fd0 0), .int (fd0 1), .int (fd0 2), .int (fd0 3), .int (fd0 4), .int (fd0 5), .int (fd0 6)]))] ∧ (okc (fv0x 4))) (wd D (va_A [(Nn, .inr (3, [.int (nI hp), .int (nI cc), .int zrs, .int zad, .int zpr, .int (nI t), .int zlo, .int zps, .ref Nl, .ref Nf, .ref Nb])), (L0, .inr (2, [.int (nI d0), .int (fk0 1), .int (fk0 2), .int (fv0 3), .int (fv0 4), .int (fv0 5), .ref L0c, .ref L0u, .ref L0p, .ref L0l])), (L0u, .inl (g 0, 15, .inl fu0)), (L0l, .inl (g 2, 3, .inr (.inr (.inr (.inr (rf3 L0a L0b L0d)))))), (L0a, .inr (1, [.int (fa0 0), .int (fa0 1), .int (fa0 2), .int (fa0 3), .int (fa0 4), .int (fa0 5), .int (fa0 6)])), (L0b, .inr (1, [.int (fb0 0), .int (fb0 1), .int (fb0 2), .int (fb0 3), .int (fb0 4), .int (fb0 5), .int (fb0 6)])), (L0d, .inr (1, [.int (fd0 0), .int (fd0 1), .int (fd0 2), .int (fd0 3), .int (fd0 4), .int (fd0 5), .int (fd0 6)]))] sz)) (va_A [(Nn, .inr (3, [.int (nI hp), .int (nI cc), .int zrs, .int zad, .int zpr, .int (nI t), .int zlo, .int zps, .ref Nl, .ref Nf, .ref Nb])), (L0, .inr (2, [.int (nI d0), .int (fk0 1), .int (fk0 2), .int (fv0 3), .int (fv0 4), .int (fv0 5), .ref L0c, .ref L0u, .ref L0p, .ref L0l])), (L0u, .inl (g 0, 15, .inl fu0)), (L0l, .inl (g 2, 3, .inr (.inr (.inr (.inr (rf3 L0a L0b L0d)))))), (L0a, .inr (1, [.int (fa0 0), .int (fa0 1), .int (fa0 2), .int (fa0 3), .int (fa0 4), .int (fa0 5), .int (fa0 6)])), (L0b, .inr (1, [.int (fb0 0), .int (fb0 1), .int (fb0 2), .int (fb0 3), .int (fb0 4), .int (fb0 5), .int (fb0 6)])), (L0d, .inr (1, [.int (fd0 0), .int (fd0 1), .int (fd0 2), .int (fd0 3), .int (fd0 4), .int (fd0 5), .int (fd0 6)]))] sz)) 0 0 (va_A [(Nn, .inr (3, [.int (nI hp), .int (nI cc), .int zrs, .int zad, .int zpr, .int (nI t), .int zlo, .int zps, .ref Nl, .ref Nf, .ref Nb])), (L0, .inr (2, [.int (nI d0), .int (fk0 1), .int (fk0 2), .int (fv0 3), .int (fv0 4), .int (fv0 5), .ref L0c, .ref L0u, .ref L0p, .ref L0l])), (L0u, .inl (g 0, 15, .inl fu0)), (L0l, .inl (g 2, 3, .inr (.inr (.inr (.inr (rf3 L0a L0b L0d)))))), (L0a, .inr (1, [.int (fa0 0), .int (fa0 1), .int (fa0 2), .int (fa0 3), .int (fa0 4), .int (fa0 5), .int (fa0 6)])), (L0b, .inr (1, [.int (fb0 0), .int (fb0 1), .int (fb0 2), .int (fb0 3), .int (fb0 4), .int (fb0 5), .int (fb0 6)])), (L0d, .inr (1, [.int (fd0 0), .int (fd0 1), .int (fd0 2), .int (fd0 3), .int (fd0 4), .int (fd0 5), .int (fd0 6)]))] sz) := by
  refine Met.ofW (cc := cX3_sendUpdate) (maxL := 3) (ret := none) (by decide) rfl ?_
  intro p e s m args below meth c s₁ B hml hv
  obtain ⟨rfl, hsz, hP, ⟨hK, hN⟩, hD0, hZ⟩ := hv
  have hx := B.exec
  have hb := B.bytes
  have hr := B.returns
  have hts := atoms_spec (ws := wsX3_sendUpdate) B.pre
  have hown : s.vm.findClass RX3 = some m.cls := findClass_of_methodNamed B.named
  have hlocks := B.notSynchronized
  clear B
  subst hsz
  have hD := hD0.self (sz := s.heap.size)
  clear hD0
  generalize hAe : va_A [(Nn, .inr (3, [.int (nI hp), .int (nI cc), .int zrs, .int zad, .int zpr, .int (nI t), .int zlo, .int zps, .ref Nl, .ref Nf, .ref Nb])), (L0, .inr (2, [.int (nI d0), .int (fk0 1), .int (fk0 2), .int (fv0 3), .int (fv0 4), .int (fv0 5), .ref L0c, .ref L0u, .ref L0p, .ref L0l])), (L0u, .inl (g 0, 15, .inl fu0)), (L0l, .inl (g 2, 3, .inr (.inr (.inr (.inr (rf3 L0a L0b L0d)))))), (L0a, .inr (1, [.int (fa0 0), .int (fa0 1), .int (fa0 2), .int (fa0 3), .int (fa0 4), .int (fa0 5), .int (fa0 6)])), (L0b, .inr (1, [.int (fb0 0), .int (fb0 1), .int (fb0 2), .int (fb0 3), .int (fb0 4), .int (fb0 5), .int (fb0 6)])), (L0d, .inr (1, [.int (fd0 0), .int (fd0 1), .int (fd0 2), .int (fd0 3), .int (fd0 4), .int (fd0 5), .int (fd0 6)]))] s.heap.size = A at hD hZ ⊢
  have hA : ∀ q : Nat, s.heap.size ≤ q → A q := fun q h => by rw [← hAe]; exact Or.inr h
  have hS : va_S A s.heap s.heap [] := va_S.rf
  have f125 := hts (.fieldLink RX3 125 "HopCredits$Link" "updateAt" "[I") (List.mem_of_getElem? (i := 3) rfl)
  have f128 := hts (.fieldLink RX3 128 "HopCredits$Link" "lanes" "[LHopCredits$Lane;") (List.mem_of_getElem? (i := 6) rfl)
  have f183 := hts (.fieldLink RX3 183 "HopCredits$Link" "delay" "I") (List.mem_of_getElem? (i := 5) rfl)
  have f198 := hts (.fieldLink RX3 198 "HopCredits$Lane" "gone" "I") (List.mem_of_getElem? (i := 7) rfl)
  have f207 := hts (.fieldLink RX3 207 "HopCredits$Link" "jammed" "I") (List.mem_of_getElem? (i := 1) rfl)
  have f78 := hts (.fieldLink RX3 78 "HopCredits$Net" "tick" "I") (List.mem_of_getElem? (i := 4) rfl)
  have f81 := hts (.fieldLink RX3 81 "HopCredits$Net" "lost" "I") (List.mem_of_getElem? (i := 2) rfl)
  have iX1 : ∀ w ∈ u_ws RX1 TX1 7, w ∈ wsX3_sendUpdate := fun w h => List.mem_cons_of_mem _ (List.mem_append_right _ (h))
  have iX2 : ∀ w ∈ u_ws RX2 TX2 10, w ∈ wsX3_sendUpdate := fun w h => List.mem_cons_of_mem _ (List.mem_append_left _ (List.mem_append_left _ (List.mem_append_right _ (h))))
  have iX3 : ∀ w ∈ u_ws RX3 TX3 11, w ∈ wsX3_sendUpdate := fun w h => List.mem_cons_of_mem _ (List.mem_append_left _ (List.mem_append_right _ (h)))
  have hl := lv_entry ([.ref Nn, .ref L0, .int (nI cx)]) (n := 3) (Nat.le_of_ble_eq_true rfl)
  rw [lg_entry_eq]
  generalize (lg_sl ([.ref Nn, .ref L0, .int (nI cx)]) ++ List.replicate (3 - (lg_sl ([.ref Nn, .ref L0, .int (nI cx)])).length) Slot.unset).toArray = ls at hl ⊢
  have hl : lv_has ls 3 [(0, .ref Nn), (1, .ref L0), (2, .int (nI cx))] := hl
  generalize hQ : MQ below _ _ s _ _ _ = Q
  generalize hH : s.heap = H at hP ⊢
  have hS : va_S A s.heap H [] := by rw [← hH]; exact hS
  clear hH
  refine lv_aload_n hx hb dX3_sendUpdate_0 rfl (lv_at hl 1 rfl) ?_
  refine va_get (D := D) (ci := 2) (v := .int (fv0 3)) (C := RX2) (T := TX2) (N := 10) hx hb hts iX2 hown hK hP 1 rfl rfl 3 (by decide) f207 (fun _ h9 => h9) rfl dX3_sendUpdate_1 ?_
  refine lv_if_le (tgt := 28) hx hb dX3_sendUpdate_4 (by decide) (fun cb_1 => ?_) (fun cb_1 => ?_)
  · skip
    refine lv_aload_n hx hb dX3_sendUpdate_28 rfl (lv_at hl 1 rfl) ?_
    refine va_get (D := D) (ci := 2) (v := .ref L0u) (C := RX2) (T := TX2) (N := 10) hx hb hts iX2 hown hK hP 1 rfl rfl 7 (by decide) f125 (fun _ h9 => h9) rfl dX3_sendUpdate_29 ?_
    refine lv_aload_n hx hb dX3_sendUpdate_32 rfl (lv_at hl 0 rfl) ?_
    refine va_get (D := D) (ci := 3) (v := .int (nI t)) (C := RX3) (T := TX3) (N := 11) hx hb hts iX3 hown hK hP 0 rfl rfl 5 (by decide) f78 (fun _ h9 => h9) rfl dX3_sendUpdate_33 ?_
    refine lv_aload_n hx hb dX3_sendUpdate_36 rfl (lv_at hl 1 rfl) ?_
    refine va_get (D := D) (ci := 2) (v := .int (nI d0)) (C := RX2) (T := TX2) (N := 10) hx hb hts iX2 hown hK hP 1 rfl rfl 0 (by decide) f183 (fun _ h9 => h9) rfl dX3_sendUpdate_37 ?_
    refine lv_iadd hx hb dX3_sendUpdate_40 ?_
    refine lv_eqi (y := (nI (t + d0))) (nI_add (t) (d0)) ?_
    refine lv_iconst (v := 5) hx hb dX3_sendUpdate_41 (by decide) ?_
    refine lv_irem hx hb dX3_sendUpdate_42 (by decide) ?_
    refine lv_eqi (y := (nI ((t + d0) % 5))) (pk_rem (show t + d0 < 2 ^ 31 by omega) (show 0 < 5 by omega) (show 5 < 2 ^ 31 by omega)) ?_
    refine lv_iconst (v := 3) hx hb dX3_sendUpdate_43 (by decide) ?_
    refine lv_imul hx hb dX3_sendUpdate_44 ?_
    refine lv_eqi (y := (nI (((t + d0) % 5) * 3))) (pk_mul ((t + d0) % 5) (3)) ?_
    refine lv_iload_n hx hb dX3_sendUpdate_45 rfl (lv_at hl 2 rfl) ?_
    refine lv_iadd hx hb dX3_sendUpdate_46 ?_
    refine lv_eqi (y := (nI (((t + d0) % 5) * 3 + cx))) (nI_add (((t + d0) % 5) * 3) (cx)) ?_
    refine lv_aload_n hx hb dX3_sendUpdate_47 rfl (lv_at hl 1 rfl) ?_
    refine va_get (D := D) (ci := 2) (v := .ref L0l) (C := RX2) (T := TX2) (N := 10) hx hb hts iX2 hown hK hP 1 rfl rfl 9 (by decide) f128 (fun _ h9 => h9) rfl dX3_sendUpdate_48 ?_
    refine lv_iload_n hx hb dX3_sendUpdate_51 rfl (lv_at hl 2 rfl) ?_
    have hPq_2 := hP; have hDq_2 := hD; have hSq_2 := hS; have hlq_2 := hl; clear hP hD hS hl
    rcases (show cx = 0 ∨ cx = 1 ∨ cx = 2 by omega) with rfl | rfl | rfl
    · skip
      have hP := hPq_2; have hD := hDq_2; have hS := hSq_2; have hl := hlq_2; clear hPq_2 hDq_2 hSq_2 hlq_2
      refine va_aldq (C := "HopCredits$Lane") hx hb hK hP 3 2 rfl rfl (by unfold vp_in; decide) dX3_sendUpdate_52 ?_
      refine lv_eqv (v2 := .ref L0a) rfl ?_
      refine va_get (D := D) (ci := 1) (v := .int (fa0 1)) (C := RX1) (T := TX1) (N := 7) hx hb hts iX1 hown hK hP 4 rfl rfl 1 (by decide) f198 (fun _ h9 => h9) rfl dX3_sendUpdate_53 ?_
      refine va_iast hx hb hK hP hD hS 2 0 rfl rfl (vp_in_nI (show ((t + d0) % 5) * 3 + 0 < 15 by omega) (by decide)) dX3_sendUpdate_56 (fun H locs hP2 hD2 hS2 => ?_)
      clear hP hD hS
      have hPD : PD D A [(Nn, .inr (3, [.int (nI hp), .int (nI cc), .int zrs, .int zad, .int zpr, .int (nI t), .int zlo, .int zps, .ref Nl, .ref Nf, .ref Nb])), (L0, .inr (2, [.int (nI d0), .int (fk0 1), .int (fk0 2), .int (fv0 3), .int (fv0 4), .int (fv0 5), .ref L0c, .ref L0u, .ref L0p, .ref L0l])), (L0u, .inl (g 0, 15, .inl (upd fu0 (nI (((t + d0) % 5) * 3 + 0)).toNatClampNeg (fa0 1)))), (L0l, .inl (g 2, 3, .inr (.inr (.inr (.inr (rf3 L0a L0b L0d)))))), (L0a, .inr (1, [.int (fa0 0), .int (fa0 1), .int (fa0 2), .int (fa0 3), .int (fa0 4), .int (fa0 5), .int (fa0 6)])), (L0b, .inr (1, [.int (fb0 0), .int (fb0 1), .int (fb0 2), .int (fb0 3), .int (fb0 4), .int (fb0 5), .int (fb0 6)])), (L0d, .inr (1, [.int (fd0 0), .int (fd0 1), .int (fd0 2), .int (fd0 3), .int (fd0 4), .int (fd0 5), .int (fd0 6)]))] H := ⟨hP2, hD2⟩
      have hS := hS2; clear hP2 hD2 hS2; have hP := hPD.1; have hD := hPD.2; clear hPD
      rw [nI_clamp (show ((t + d0) % 5) * 3 + 0 < 2 ^ 31 by omega)] at hP hD
      have hPD : PD D A [(Nn, .inr (3, [.int (nI hp), .int (nI cc), .int zrs, .int zad, .int zpr, .int (nI t), .int zlo, .int zps, .ref Nl, .ref Nf, .ref Nb])), (L0, .inr (2, [.int (nI d0), .int (fk0 1), .int (fk0 2), .int (fv0 3), .int (fv0 4), .int (fv0 5), .ref L0c, .ref L0u, .ref L0p, .ref L0l])), (L0u, .inl (g 0, 15, .inl (upd fu0 (((t + d0) % 5) * 3 + 0) (fa0 1)))), (L0l, .inl (g 2, 3, .inr (.inr (.inr (.inr (rf3 L0a L0b L0d)))))), (L0a, .inr (1, [.int (fa0 0), .int (fa0 1), .int (fa0 2), .int (fa0 3), .int (fa0 4), .int (fa0 5), .int (fa0 6)])), (L0b, .inr (1, [.int (fb0 0), .int (fb0 1), .int (fb0 2), .int (fb0 3), .int (fb0 4), .int (fb0 5), .int (fb0 6)])), (L0d, .inr (1, [.int (fd0 0), .int (fd0 1), .int (fd0 2), .int (fd0 3), .int (fd0 4), .int (fd0 5), .int (fd0 6)]))] H := ⟨hP, hD⟩
      clear hP hD; have hP := hPD.1; have hD := hPD.2; clear hPD
      generalize upd fu0 (((t + d0) % 5) * 3 + 0) (fa0 1) = F_3 at hP hD
      have hP9 := hP; have hD9 := hD
      subst hQ
      refine W.widen (k := 0) (n := 0) (Nat.le_of_ble_eq_true rfl) (Nat.le_of_ble_eq_true rfl) ?_
      exact W.vret hx hb hr (fun tS htS _ => ⟨⟨_, rfl, ⟨zlo, fv0, F_3, rfl, (h3)⟩, by rw [htS]; exact hP9, hD9⟩, hS.F htS⟩) hS.2.2 dX3_sendUpdate_57
    · skip
      have hP := hPq_2; have hD := hDq_2; have hS := hSq_2; have hl := hlq_2; clear hPq_2 hDq_2 hSq_2 hlq_2
      refine va_aldq (C := "HopCredits$Lane") hx hb hK hP 3 2 rfl rfl (by unfold vp_in; decide) dX3_sendUpdate_52 ?_
      refine lv_eqv (v2 := .ref L0b) rfl ?_
      refine va_get (D := D) (ci := 1) (v := .int (fb0 1)) (C := RX1) (T := TX1) (N := 7) hx hb hts iX1 hown hK hP 5 rfl rfl 1 (by decide) f198 (fun _ h9 => h9) rfl dX3_sendUpdate_53 ?_
      refine va_iast hx hb hK hP hD hS 2 0 rfl rfl (vp_in_nI (show ((t + d0) % 5) * 3 + 1 < 15 by omega) (by decide)) dX3_sendUpdate_56 (fun H locs hP2 hD2 hS2 => ?_)
      clear hP hD hS
      have hPD : PD D A [(Nn, .inr (3, [.int (nI hp), .int (nI cc), .int zrs, .int zad, .int zpr, .int (nI t), .int zlo, .int zps, .ref Nl, .ref Nf, .ref Nb])), (L0, .inr (2, [.int (nI d0), .int (fk0 1), .int (fk0 2), .int (fv0 3), .int (fv0 4), .int (fv0 5), .ref L0c, .ref L0u, .ref L0p, .ref L0l])), (L0u, .inl (g 0, 15, .inl (upd fu0 (nI (((t + d0) % 5) * 3 + 1)).toNatClampNeg (fb0 1)))), (L0l, .inl (g 2, 3, .inr (.inr (.inr (.inr (rf3 L0a L0b L0d)))))), (L0a, .inr (1, [.int (fa0 0), .int (fa0 1), .int (fa0 2), .int (fa0 3), .int (fa0 4), .int (fa0 5), .int (fa0 6)])), (L0b, .inr (1, [.int (fb0 0), .int (fb0 1), .int (fb0 2), .int (fb0 3), .int (fb0 4), .int (fb0 5), .int (fb0 6)])), (L0d, .inr (1, [.int (fd0 0), .int (fd0 1), .int (fd0 2), .int (fd0 3), .int (fd0 4), .int (fd0 5), .int (fd0 6)]))] H := ⟨hP2, hD2⟩
      have hS := hS2; clear hP2 hD2 hS2; have hP := hPD.1; have hD := hPD.2; clear hPD
      rw [nI_clamp (show ((t + d0) % 5) * 3 + 1 < 2 ^ 31 by omega)] at hP hD
      have hPD : PD D A [(Nn, .inr (3, [.int (nI hp), .int (nI cc), .int zrs, .int zad, .int zpr, .int (nI t), .int zlo, .int zps, .ref Nl, .ref Nf, .ref Nb])), (L0, .inr (2, [.int (nI d0), .int (fk0 1), .int (fk0 2), .int (fv0 3), .int (fv0 4), .int (fv0 5), .ref L0c, .ref L0u, .ref L0p, .ref L0l])), (L0u, .inl (g 0, 15, .inl (upd fu0 (((t + d0) % 5) * 3 + 1) (fb0 1)))), (L0l, .inl (g 2, 3, .inr (.inr (.inr (.inr (rf3 L0a L0b L0d)))))), (L0a, .inr (1, [.int (fa0 0), .int (fa0 1), .int (fa0 2), .int (fa0 3), .int (fa0 4), .int (fa0 5), .int (fa0 6)])), (L0b, .inr (1, [.int (fb0 0), .int (fb0 1), .int (fb0 2), .int (fb0 3), .int (fb0 4), .int (fb0 5), .int (fb0 6)])), (L0d, .inr (1, [.int (fd0 0), .int (fd0 1), .int (fd0 2), .int (fd0 3), .int (fd0 4), .int (fd0 5), .int (fd0 6)]))] H := ⟨hP, hD⟩
      clear hP hD; have hP := hPD.1; have hD := hPD.2; clear hPD
      generalize upd fu0 (((t + d0) % 5) * 3 + 1) (fb0 1) = F_4 at hP hD
      have hP9 := hP; have hD9 := hD
      subst hQ
      refine W.widen (k := 0) (n := 0) (Nat.le_of_ble_eq_true rfl) (Nat.le_of_ble_eq_true rfl) ?_
      exact W.vret hx hb hr (fun tS htS _ => ⟨⟨_, rfl, ⟨zlo, fv0, F_4, rfl, (h3)⟩, by rw [htS]; exact hP9, hD9⟩, hS.F htS⟩) hS.2.2 dX3_sendUpdate_57
    · skip
      have hP := hPq_2; have hD := hDq_2; have hS := hSq_2; have hl := hlq_2; clear hPq_2 hDq_2 hSq_2 hlq_2
      refine va_aldq (C := "HopCredits$Lane") hx hb hK hP 3 2 rfl rfl (by unfold vp_in; decide) dX3_sendUpdate_52 ?_
      refine lv_eqv (v2 := .ref L0d) rfl ?_
      refine va_get (D := D) (ci := 1) (v := .int (fd0 1)) (C := RX1) (T := TX1) (N := 7) hx hb hts iX1 hown hK hP 6 rfl rfl 1 (by decide) f198 (fun _ h9 => h9) rfl dX3_sendUpdate_53 ?_
      refine va_iast hx hb hK hP hD hS 2 0 rfl rfl (vp_in_nI (show ((t + d0) % 5) * 3 + 2 < 15 by omega) (by decide)) dX3_sendUpdate_56 (fun H locs hP2 hD2 hS2 => ?_)
      clear hP hD hS
      have hPD : PD D A [(Nn, .inr (3, [.int (nI hp), .int (nI cc), .int zrs, .int zad, .int zpr, .int (nI t), .int zlo, .int zps, .ref Nl, .ref Nf, .ref Nb])), (L0, .inr (2, [.int (nI d0), .int (fk0 1), .int (fk0 2), .int (fv0 3), .int (fv0 4), .int (fv0 5), .ref L0c, .ref L0u, .ref L0p, .ref L0l])), (L0u, .inl (g 0, 15, .inl (upd fu0 (nI (((t + d0) % 5) * 3 + 2)).toNatClampNeg (fd0 1)))), (L0l, .inl (g 2, 3, .inr (.inr (.inr (.inr (rf3 L0a L0b L0d)))))), (L0a, .inr (1, [.int (fa0 0), .int (fa0 1), .int (fa0 2), .int (fa0 3), .int (fa0 4), .int (fa0 5), .int (fa0 6)])), (L0b, .inr (1, [.int (fb0 0), .int (fb0 1), .int (fb0 2), .int (fb0 3), .int (fb0 4), .int (fb0 5), .int (fb0 6)])), (L0d, .inr (1, [.int (fd0 0), .int (fd0 1), .int (fd0 2), .int (fd0 3), .int (fd0 4), .int (fd0 5), .int (fd0 6)]))] H := ⟨hP2, hD2⟩
      have hS := hS2; clear hP2 hD2 hS2; have hP := hPD.1; have hD := hPD.2; clear hPD
      rw [nI_clamp (show ((t + d0) % 5) * 3 + 2 < 2 ^ 31 by omega)] at hP hD
      have hPD : PD D A [(Nn, .inr (3, [.int (nI hp), .int (nI cc), .int zrs, .int zad, .int zpr, .int (nI t), .int zlo, .int zps, .ref Nl, .ref Nf, .ref Nb])), (L0, .inr (2, [.int (nI d0), .int (fk0 1), .int (fk0 2), .int (fv0 3), .int (fv0 4), .int (fv0 5), .ref L0c, .ref L0u, .ref L0p, .ref L0l])), (L0u, .inl (g 0, 15, .inl (upd fu0 (((t + d0) % 5) * 3 + 2) (fd0 1)))), (L0l, .inl (g 2, 3, .inr (.inr (.inr (.inr (rf3 L0a L0b L0d)))))), (L0a, .inr (1, [.int (fa0 0), .int (fa0 1), .int (fa0 2), .int (fa0 3), .int (fa0 4), .int (fa0 5), .int (fa0 6)])), (L0b, .inr (1, [.int (fb0 0), .int (fb0 1), .int (fb0 2), .int (fb0 3), .int (fb0 4), .int (fb0 5), .int (fb0 6)])), (L0d, .inr (1, [.int (fd0 0), .int (fd0 1), .int (fd0 2), .int (fd0 3), .int (fd0 4), .int (fd0 5), .int (fd0 6)]))] H := ⟨hP, hD⟩
      clear hP hD; have hP := hPD.1; have hD := hPD.2; clear hPD
      generalize upd fu0 (((t + d0) % 5) * 3 + 2) (fd0 1) = F_5 at hP hD
      have hP9 := hP; have hD9 := hD
      subst hQ
      refine W.widen (k := 0) (n := 0) (Nat.le_of_ble_eq_true rfl) (Nat.le_of_ble_eq_true rfl) ?_
      exact W.vret hx hb hr (fun tS htS _ => ⟨⟨_, rfl, ⟨zlo, fv0, F_5, rfl, (h3)⟩, by rw [htS]; exact hP9, hD9⟩, hS.F htS⟩) hS.2.2 dX3_sendUpdate_57
  · skip
    refine lv_aload_n hx hb dX3_sendUpdate_7 rfl (lv_at hl 1 rfl) ?_
    refine lv_dup hx hb dX3_sendUpdate_8 rfl ?_
    refine va_get (D := D) (ci := 2) (v := .int (fv0 3)) (C := RX2) (T := TX2) (N := 10) hx hb hts iX2 hown hK hP 1 rfl rfl 3 (by decide) f207 (fun _ h9 => h9) rfl dX3_sendUpdate_9 ?_
    refine lv_iconst (v := 1) hx hb dX3_sendUpdate_12 (by decide) ?_
    refine lv_isub hx hb dX3_sendUpdate_13 ?_
    refine lv_topi (fun y_6 _ => ?_)
    refine va_put (D := D) (ci := 2) (v := .int y_6) (ty := .int) (C := RX2) (T := TX2) (N := 10) hx hb hts iX2 tyX2 tyX2_ok nmX2 hown hK hP hD hS 1 rfl rfl 3 (by decide) f207 (fun _ h9 => h9) rfl (by decide +kernel) (rfl) (rfl) (Nat.le_of_ble_eq_true rfl) dX3_sendUpdate_14 (fun H locs hP2 hD2 hS2 => ?_)
    clear hP hD hS
    have hPD : PD D A [(Nn, .inr (3, [.int (nI hp), .int (nI cc), .int zrs, .int zad, .int zpr, .int (nI t), .int zlo, .int zps, .ref Nl, .ref Nf, .ref Nb])), (L0, .inr (2, [.int (nI d0), .int (fk0 1), .int (fk0 2), .int y_6, .int (fv0 4), .int (fv0 5), .ref L0c, .ref L0u, .ref L0p, .ref L0l])), (L0u, .inl (g 0, 15, .inl fu0)), (L0l, .inl (g 2, 3, .inr (.inr (.inr (.inr (rf3 L0a L0b L0d)))))), (L0a, .inr (1, [.int (fa0 0), .int (fa0 1), .int (fa0 2), .int (fa0 3), .int (fa0 4), .int (fa0 5), .int (fa0 6)])), (L0b, .inr (1, [.int (fb0 0), .int (fb0 1), .int (fb0 2), .int (fb0 3), .int (fb0 4), .int (fb0 5), .int (fb0 6)])), (L0d, .inr (1, [.int (fd0 0), .int (fd0 1), .int (fd0 2), .int (fd0 3), .int (fd0 4), .int (fd0 5), .int (fd0 6)]))] H := ⟨hP2, hD2⟩
    have hS := hS2; clear hP2 hD2 hS2; have hP := hPD.1; have hD := hPD.2; clear hPD
    refine lv_aload_n hx hb dX3_sendUpdate_17 rfl (lv_at hl 0 rfl) ?_
    refine lv_dup hx hb dX3_sendUpdate_18 rfl ?_
    refine va_get (D := D) (ci := 3) (v := .int zlo) (C := RX3) (T := TX3) (N := 11) hx hb hts iX3 hown hK hP 0 rfl rfl 6 (by decide) f81 (fun _ h9 => h9) rfl dX3_sendUpdate_19 ?_
    refine lv_iconst (v := 1) hx hb dX3_sendUpdate_22 (by decide) ?_
    refine lv_iadd hx hb dX3_sendUpdate_23 ?_
    refine lv_topi (fun y_7 _ => ?_)
    refine va_put (D := D) (ci := 3) (v := .int y_7) (ty := .int) (C := RX3) (T := TX3) (N := 11) hx hb hts iX3 tyX3 tyX3_ok nmX3 hown hK hP hD hS 0 rfl rfl 6 (by decide) f81 (fun _ h9 => h9) rfl (by decide +kernel) (rfl) (rfl) (Nat.le_of_ble_eq_true rfl) dX3_sendUpdate_24 (fun H locs hP2 hD2 hS2 => ?_)
    clear hP hD hS
    have hPD : PD D A [(Nn, .inr (3, [.int (nI hp), .int (nI cc), .int zrs, .int zad, .int zpr, .int (nI t), .int y_7, .int zps, .ref Nl, .ref Nf, .ref Nb])), (L0, .inr (2, [.int (nI d0), .int (fk0 1), .int (fk0 2), .int y_6, .int (fv0 4), .int (fv0 5), .ref L0c, .ref L0u, .ref L0p, .ref L0l])), (L0u, .inl (g 0, 15, .inl fu0)), (L0l, .inl (g 2, 3, .inr (.inr (.inr (.inr (rf3 L0a L0b L0d)))))), (L0a, .inr (1, [.int (fa0 0), .int (fa0 1), .int (fa0 2), .int (fa0 3), .int (fa0 4), .int (fa0 5), .int (fa0 6)])), (L0b, .inr (1, [.int (fb0 0), .int (fb0 1), .int (fb0 2), .int (fb0 3), .int (fb0 4), .int (fb0 5), .int (fb0 6)])), (L0d, .inr (1, [.int (fd0 0), .int (fd0 1), .int (fd0 2), .int (fd0 3), .int (fd0 4), .int (fd0 5), .int (fd0 6)]))] H := ⟨hP2, hD2⟩
    have hS := hS2; clear hP2 hD2 hS2; have hP := hPD.1; have hD := hPD.2; clear hPD
    have hP9 := hP; have hD9 := hD
    subst hQ
    refine W.widen (k := 0) (n := 0) (Nat.le_of_ble_eq_true rfl) (Nat.le_of_ble_eq_true rfl) ?_
    exact W.vret hx hb hr (fun tS htS _ => ⟨⟨_, rfl, ⟨y_7, (lf [0, 0, 0, y_6, fv0 4, fv0 5]), fu0, rfl, (h3)⟩, by rw [htS]; exact hP9, hD9⟩, hS.F htS⟩) hS.2.2 dX3_sendUpdate_27

set_option maxHeartbeats 4000000 in
set_option maxRecDepth 100000 in
theorem k_X3_sendProbe (l : Launch) (D : va_G) (g : Nat → ClassId) (sz : Nat) (Nn : Nat) (L0 : Nat) (cx : Nat) (hp : Nat) (cc : Nat) (zrs : Int32) (zad : Int32) (zpr : Int32) (t : Nat) (zlo : Int32) (zps : Int32) (Nl : Nat) (Nf : Nat) (Nb : Nat) (d0 : Nat) (fk0 : Nat → Int32) (fv0 : Nat → Int32) (L0c : Nat) (L0u : Nat) (L0p : Nat) (L0l : Nat) (fp0 : Nat → Int32) (L0a : Nat) (L0b : Nat) (L0d : Nat) (fa0 : Nat → Int32) (fb0 : Nat → Int32) (fd0 : Nat → Int32) (h0 : cx < 3) (h1 : t < 2 ^ 30) (h2 : d0 < 5) (h3 : okc (fv0 4)) : Met l yX3_sendProbe wsX3_sendProbe ({ frames := 0, cells := 0, slots := 0, locals := 0 }) (va_Pc [.ref Nn, .ref L0, .int (nI cx)] (pre D g sz [(Nn, .inr (3, [.int (nI hp), .int (nI cc), .int zrs, .int zad, .int zpr, .int (nI t), .int zlo, .int zps, .ref Nl, .ref Nf, .ref Nb])), (L0, .inr (2, [.int (nI d0), .int (fk0 1), .int (fk0 2), .int (fv0 3), .int (fv0 4), .int (fv0 5), .ref L0c, .ref L0u, .ref L0p, .ref L0l])), (L0p, .inl (g 0, 15, .inl fp0)), (L0l, .inl (g 2, 3, .inr (.inr (.inr (.inr (rf3 L0a L0b L0d)))))), (L0a, .inr (1, [.int (fa0 0), .int (fa0 1), .int (fa0 2), .int (fa0 3), .int (fa0 4), .int (fa0 5), .int (fa0 6)])), (L0b, .inr (1, [.int (fb0 0), .int (fb0 1), .int (fb0 2), .int (fb0 3), .int (fb0 4), .int (fb0 5), .int (fb0 6)])), (L0d, .inr (1, [.int (fd0 0), .int (fd0 1), .int (fd0 2), .int (fd0 3), .int (fd0 4), .int (fd0 5), .int (fd0 6)]))])) (va_Qv (fun (u : va_W) => ∃ (zpsx : Int32) (fp0x : Nat → Int32) (fa0x : Nat → Int32) (fb0x : Nat → Int32) (fd0x : Nat → Int32), u = [(Nn, .inr (3, [.int (nI hp), .int (nI cc), .int zrs, .int zad, .int zpr, .int (nI t), .int zlo, .int zpsx, .ref Nl, .ref Nf, .ref Nb])), (L0, .inr (2, [.int (nI d0), .int (fk0 1), .int (fk0 2), .int (fv0 3), .int (fv0 4), .int (fv0 5), .ref L0c, .ref L0u, .ref L0p, .ref L0l])), (L0p, .inl (g 0, 15, .inl fp0x)), (L0l, .inl (g 2, 3, .inr (.inr (.inr (.inr (rf3 L0a L0b L0d)))))), (L0a, .inr (1, [.int (fa0x 0), .int (fa0x 1), .int (fa0x 2), .int (fa0 3), .int (fa0x 4), .int (fa0x 5), .int (fa0x 6)])), (L0b, .inr (1, [.int (fb0x 0), .int (fb0x 1), .int (fb0x 2), .int (fb0 3), .int (fb0x 4), .int (fb0x 5), .int (fb0x 6)])), (L0d, .inr (1, [.int (fd0x 0), .int (fd0x 1), .int (fd0x 2), .int (fd0 3), .int (fd0x 4), .int (fd0x 5), .int (fd0x 6)]))]) (wd D (va_A [(Nn, .inr (3, [.int (nI hp), .int (nI cc), .int zrs, .int zad, .int zpr, .int (nI t), .int zlo, .int zps, .ref Nl, .ref Nf, .ref Nb])), (L0, .inr (2, [.int (nI d0), .int (fk0 1), .int (fk0 2), .int (fv0 3), .int (fv0 4), .int (fv0 5), .ref L0c, .ref L0u, .ref L0p, .ref L0l])), (L0p, .inl (g 0, 15, .inl fp0)), (L0l, .inl (g 2, 3, .inr (.inr (.inr (.inr (rf3 L0a L0b L0d)))))), (L0a, .inr (1, [.int (fa0 0), .int (fa0 1), .int (fa0 2), .int (fa0 3), .int (fa0 4), .int (fa0 5), .int (fa0 6)])), (L0b, .inr (1, [.int (fb0 0), .int (fb0 1), .int (fb0 2), .int (fb0 3), .int (fb0 4), .int (fb0 5), .int (fb0 6)])), (L0d, .inr (1, [.int (fd0 0), .int (fd0 1), .int (fd0 2), .int (fd0 3), .int (fd0 4), .int (fd0 5), .int (fd0 6)]))] sz)) (va_A [(Nn, .inr (3, [.int (nI hp), .int (nI cc), .int zrs, .int zad, .int zpr, .int (nI t), .int zlo, .int zps, .ref Nl, .ref Nf, .ref Nb])), (L0, .inr (2, [.int (nI d0), .int (fk0 1), .int (fk0 2), .int (fv0 3), .int (fv0 4), .int (fv0 5), .ref L0c, .ref L0u, .ref L0p, .ref L0l])), (L0p, .inl (g 0, 15, .inl fp0)), (L0l, .inl (g 2, 3, .inr (.inr (.inr (.inr (rf3 L0a L0b L0d)))))), (L0a, .inr (1, [.int (fa0 0), .int (fa0 1), .int (fa0 2), .int (fa0 3), .int (fa0 4), .int (fa0 5), .int (fa0 6)])), (L0b, .inr (1, [.int (fb0 0), .int (fb0 1), .int (fb0 2), .int (fb0 3), .int (fb0 4), .int (fb0 5), .int (fb0 6)])), (L0d, .inr (1, [.int (fd0 0), .int (fd0 1), .int (fd0 2), .int (fd0 3), .int (fd0 4), .int (fd0 5), .int (fd0 6)]))] sz)) 0 0 (va_A [(Nn, .inr (3, [.int (nI hp), .int (nI cc), .int zrs, .int zad, .int zpr, .int (nI t), .int zlo, .int zps, .ref Nl, .ref Nf, .ref Nb])), (L0, .inr (2, [.int (nI d0), .int (fk0 1), .int (fk0 2), .int (fv0 3), .int (fv0 4), .int (fv0 5), .ref L0c, .ref L0u, .ref L0p, .ref L0l])), (L0p, .inl (g 0, 15, .inl fp0)), (L0l, .inl (g 2, 3, .inr (.inr (.inr (.inr (rf3 L0a L0b L0d)))))), (L0a, .inr (1, [.int (fa0 0), .int (fa0 1), .int (fa0 2), .int (fa0 3), .int (fa0 4), .int (fa0 5), .int (fa0 6)])), (L0b, .inr (1, [.int (fb0 0), .int (fb0 1), .int (fb0 2), .int (fb0 3), .int (fb0 4), .int (fb0 5), .int (fb0 6)])), (L0d, .inr (1, [.int (fd0 0), .int (fd0 1), .int (fd0 2), .int (fd0 3), .int (fd0 4), .int (fd0 5), .int (fd0 6)]))] sz) := by
  refine Met.ofW (cc := cX3_sendProbe) (maxL := 3) (ret := none) (by decide) rfl ?_
  intro p e s m args below meth c s₁ B hml hv
  obtain ⟨rfl, hsz, hP, ⟨hK, hN⟩, hD0, hZ⟩ := hv
  have hx := B.exec
  have hb := B.bytes
  have hr := B.returns
  have hts := atoms_spec (ws := wsX3_sendProbe) B.pre
  have hown : s.vm.findClass RX3 = some m.cls := findClass_of_methodNamed B.named
  have hlocks := B.notSynchronized
  clear B
  subst hsz
  have hD := hD0.self (sz := s.heap.size)
  clear hD0
  generalize hAe : va_A [(Nn, .inr (3, [.int (nI hp), .int (nI cc), .int zrs, .int zad, .int zpr, .int (nI t), .int zlo, .int zps, .ref Nl, .ref Nf, .ref Nb])), (L0, .inr (2, [.int (nI d0), .int (fk0 1), .int (fk0 2), .int (fv0 3), .int (fv0 4), .int (fv0 5), .ref L0c, .ref L0u, .ref L0p, .ref L0l])), (L0p, .inl (g 0, 15, .inl fp0)), (L0l, .inl (g 2, 3, .inr (.inr (.inr (.inr (rf3 L0a L0b L0d)))))), (L0a, .inr (1, [.int (fa0 0), .int (fa0 1), .int (fa0 2), .int (fa0 3), .int (fa0 4), .int (fa0 5), .int (fa0 6)])), (L0b, .inr (1, [.int (fb0 0), .int (fb0 1), .int (fb0 2), .int (fb0 3), .int (fb0 4), .int (fb0 5), .int (fb0 6)])), (L0d, .inr (1, [.int (fd0 0), .int (fd0 1), .int (fd0 2), .int (fd0 3), .int (fd0 4), .int (fd0 5), .int (fd0 6)]))] s.heap.size = A at hD hZ ⊢
  have hA : ∀ q : Nat, s.heap.size ≤ q → A q := fun q h => by rw [← hAe]; exact Or.inr h
  have hS : va_S A s.heap s.heap [] := va_S.rf
  have f128 := hts (.fieldLink RX3 128 "HopCredits$Link" "lanes" "[LHopCredits$Lane;") (List.mem_of_getElem? (i := 4) rfl)
  have f137 := hts (.fieldLink RX3 137 "HopCredits$Link" "probesAt" "[I") (List.mem_of_getElem? (i := 1) rfl)
  have f183 := hts (.fieldLink RX3 183 "HopCredits$Link" "delay" "I") (List.mem_of_getElem? (i := 3) rfl)
  have f210 := hts (.fieldLink RX3 210 "HopCredits$Lane" "waited" "I") (List.mem_of_getElem? (i := 5) rfl)
  have f78 := hts (.fieldLink RX3 78 "HopCredits$Net" "tick" "I") (List.mem_of_getElem? (i := 2) rfl)
  have f84 := hts (.fieldLink RX3 84 "HopCredits$Net" "probesSent" "I") (List.mem_of_getElem? (i := 6) rfl)
  have iX1 : ∀ w ∈ u_ws RX1 TX1 7, w ∈ wsX3_sendProbe := fun w h => List.mem_cons_of_mem _ (List.mem_append_right _ (h))
  have iX2 : ∀ w ∈ u_ws RX2 TX2 10, w ∈ wsX3_sendProbe := fun w h => List.mem_cons_of_mem _ (List.mem_append_left _ (List.mem_append_left _ (List.mem_append_right _ (h))))
  have iX3 : ∀ w ∈ u_ws RX3 TX3 11, w ∈ wsX3_sendProbe := fun w h => List.mem_cons_of_mem _ (List.mem_append_left _ (List.mem_append_right _ (h)))
  have hl := lv_entry ([.ref Nn, .ref L0, .int (nI cx)]) (n := 3) (Nat.le_of_ble_eq_true rfl)
  rw [lg_entry_eq]
  generalize (lg_sl ([.ref Nn, .ref L0, .int (nI cx)]) ++ List.replicate (3 - (lg_sl ([.ref Nn, .ref L0, .int (nI cx)])).length) Slot.unset).toArray = ls at hl ⊢
  have hl : lv_has ls 3 [(0, .ref Nn), (1, .ref L0), (2, .int (nI cx))] := hl
  generalize hQ : MQ below _ _ s _ _ _ = Q
  generalize hH : s.heap = H at hP ⊢
  have hS : va_S A s.heap H [] := by rw [← hH]; exact hS
  clear hH
  refine lv_aload_n hx hb dX3_sendProbe_0 rfl (lv_at hl 1 rfl) ?_
  refine va_get (D := D) (ci := 2) (v := .ref L0p) (C := RX2) (T := TX2) (N := 10) hx hb hts iX2 hown hK hP 1 rfl rfl 8 (by decide) f137 (fun _ h9 => h9) rfl dX3_sendProbe_1 ?_
  refine lv_aload_n hx hb dX3_sendProbe_4 rfl (lv_at hl 0 rfl) ?_
  refine va_get (D := D) (ci := 3) (v := .int (nI t)) (C := RX3) (T := TX3) (N := 11) hx hb hts iX3 hown hK hP 0 rfl rfl 5 (by decide) f78 (fun _ h9 => h9) rfl dX3_sendProbe_5 ?_
  refine lv_aload_n hx hb dX3_sendProbe_8 rfl (lv_at hl 1 rfl) ?_
  refine va_get (D := D) (ci := 2) (v := .int (nI d0)) (C := RX2) (T := TX2) (N := 10) hx hb hts iX2 hown hK hP 1 rfl rfl 0 (by decide) f183 (fun _ h9 => h9) rfl dX3_sendProbe_9 ?_
  refine lv_iadd hx hb dX3_sendProbe_12 ?_
  refine lv_eqi (y := (nI (t + d0))) (nI_add (t) (d0)) ?_
  refine lv_iconst (v := 5) hx hb dX3_sendProbe_13 (by decide) ?_
  refine lv_irem hx hb dX3_sendProbe_14 (by decide) ?_
  refine lv_eqi (y := (nI ((t + d0) % 5))) (pk_rem (show t + d0 < 2 ^ 31 by omega) (show 0 < 5 by omega) (show 5 < 2 ^ 31 by omega)) ?_
  refine lv_iconst (v := 3) hx hb dX3_sendProbe_15 (by decide) ?_
  refine lv_imul hx hb dX3_sendProbe_16 ?_
  refine lv_eqi (y := (nI (((t + d0) % 5) * 3))) (pk_mul ((t + d0) % 5) (3)) ?_
  refine lv_iload_n hx hb dX3_sendProbe_17 rfl (lv_at hl 2 rfl) ?_
  refine lv_iadd hx hb dX3_sendProbe_18 ?_
  refine lv_eqi (y := (nI (((t + d0) % 5) * 3 + cx))) (nI_add (((t + d0) % 5) * 3) (cx)) ?_
  refine lv_dup2_11 hx hb dX3_sendProbe_19 rfl rfl ?_
  refine va_iald hx hb hK hP 2 0 rfl rfl (vp_in_nI (show ((t + d0) % 5) * 3 + cx < 15 by omega) (by decide)) dX3_sendProbe_20 ?_
  refine lv_eqi (y := (fp0 (((t + d0) % 5) * 3 + cx))) (congrArg fp0 (nI_clamp (show ((t + d0) % 5) * 3 + cx < 2 ^ 31 by omega))) ?_
  refine lv_topi (fun y_1 _ => ?_)
  refine lv_iconst (v := 1) hx hb dX3_sendProbe_21 (by decide) ?_
  refine lv_iadd hx hb dX3_sendProbe_22 ?_
  refine lv_topi (fun y_2 _ => ?_)
  refine va_iast hx hb hK hP hD hS 2 0 rfl rfl (vp_in_nI (show ((t + d0) % 5) * 3 + cx < 15 by omega) (by decide)) dX3_sendProbe_23 (fun H locs hP2 hD2 hS2 => ?_)
  clear hP hD hS
  have hPD : PD D A [(Nn, .inr (3, [.int (nI hp), .int (nI cc), .int zrs, .int zad, .int zpr, .int (nI t), .int zlo, .int zps, .ref Nl, .ref Nf, .ref Nb])), (L0, .inr (2, [.int (nI d0), .int (fk0 1), .int (fk0 2), .int (fv0 3), .int (fv0 4), .int (fv0 5), .ref L0c, .ref L0u, .ref L0p, .ref L0l])), (L0p, .inl (g 0, 15, .inl (upd fp0 (nI (((t + d0) % 5) * 3 + cx)).toNatClampNeg y_2))), (L0l, .inl (g 2, 3, .inr (.inr (.inr (.inr (rf3 L0a L0b L0d)))))), (L0a, .inr (1, [.int (fa0 0), .int (fa0 1), .int (fa0 2), .int (fa0 3), .int (fa0 4), .int (fa0 5), .int (fa0 6)])), (L0b, .inr (1, [.int (fb0 0), .int (fb0 1), .int (fb0 2), .int (fb0 3), .int (fb0 4), .int (fb0 5), .int (fb0 6)])), (L0d, .inr (1, [.int (fd0 0), .int (fd0 1), .int (fd0 2), .int (fd0 3), .int (fd0 4), .int (fd0 5), .int (fd0 6)]))] H := ⟨hP2, hD2⟩
  have hS := hS2; clear hP2 hD2 hS2; have hP := hPD.1; have hD := hPD.2; clear hPD
  rw [nI_clamp (show ((t + d0) % 5) * 3 + cx < 2 ^ 31 by omega)] at hP hD
  have hPD : PD D A [(Nn, .inr (3, [.int (nI hp), .int (nI cc), .int zrs, .int zad, .int zpr, .int (nI t), .int zlo, .int zps, .ref Nl, .ref Nf, .ref Nb])), (L0, .inr (2, [.int (nI d0), .int (fk0 1), .int (fk0 2), .int (fv0 3), .int (fv0 4), .int (fv0 5), .ref L0c, .ref L0u, .ref L0p, .ref L0l])), (L0p, .inl (g 0, 15, .inl (upd fp0 (((t + d0) % 5) * 3 + cx) y_2))), (L0l, .inl (g 2, 3, .inr (.inr (.inr (.inr (rf3 L0a L0b L0d)))))), (L0a, .inr (1, [.int (fa0 0), .int (fa0 1), .int (fa0 2), .int (fa0 3), .int (fa0 4), .int (fa0 5), .int (fa0 6)])), (L0b, .inr (1, [.int (fb0 0), .int (fb0 1), .int (fb0 2), .int (fb0 3), .int (fb0 4), .int (fb0 5), .int (fb0 6)])), (L0d, .inr (1, [.int (fd0 0), .int (fd0 1), .int (fd0 2), .int (fd0 3), .int (fd0 4), .int (fd0 5), .int (fd0 6)]))] H := ⟨hP, hD⟩
  clear hP hD; have hP := hPD.1; have hD := hPD.2; clear hPD
  generalize upd fp0 (((t + d0) % 5) * 3 + cx) y_2 = F_3 at hP hD
  refine lv_aload_n hx hb dX3_sendProbe_24 rfl (lv_at hl 1 rfl) ?_
  refine va_get (D := D) (ci := 2) (v := .ref L0l) (C := RX2) (T := TX2) (N := 10) hx hb hts iX2 hown hK hP 1 rfl rfl 9 (by decide) f128 (fun _ h9 => h9) rfl dX3_sendProbe_25 ?_
  refine lv_iload_n hx hb dX3_sendProbe_28 rfl (lv_at hl 2 rfl) ?_
  have hPq_4 := hP; have hDq_4 := hD; have hSq_4 := hS; have hlq_4 := hl; clear hP hD hS hl
  rcases (show cx = 0 ∨ cx = 1 ∨ cx = 2 by omega) with rfl | rfl | rfl
  · skip
    have hP := hPq_4; have hD := hDq_4; have hS := hSq_4; have hl := hlq_4; clear hPq_4 hDq_4 hSq_4 hlq_4
    refine va_aldq (C := "HopCredits$Lane") hx hb hK hP 3 2 rfl rfl (by unfold vp_in; decide) dX3_sendProbe_29 ?_
    refine lv_eqv (v2 := .ref L0a) rfl ?_
    refine lv_iconst (v := 0) hx hb dX3_sendProbe_30 (by decide) ?_
    refine va_put (D := D) (ci := 1) (v := .int 0) (ty := .int) (C := RX1) (T := TX1) (N := 7) hx hb hts iX1 tyX1 tyX1_ok nmX1 hown hK hP hD hS 4 rfl rfl 4 (by decide) f210 (fun _ h9 => h9) rfl (by decide +kernel) (rfl) (rfl) (Nat.le_of_ble_eq_true rfl) dX3_sendProbe_31 (fun H locs hP2 hD2 hS2 => ?_)
    clear hP hD hS
    have hPD : PD D A [(Nn, .inr (3, [.int (nI hp), .int (nI cc), .int zrs, .int zad, .int zpr, .int (nI t), .int zlo, .int zps, .ref Nl, .ref Nf, .ref Nb])), (L0, .inr (2, [.int (nI d0), .int (fk0 1), .int (fk0 2), .int (fv0 3), .int (fv0 4), .int (fv0 5), .ref L0c, .ref L0u, .ref L0p, .ref L0l])), (L0p, .inl (g 0, 15, .inl F_3)), (L0l, .inl (g 2, 3, .inr (.inr (.inr (.inr (rf3 L0a L0b L0d)))))), (L0a, .inr (1, [.int (fa0 0), .int (fa0 1), .int (fa0 2), .int (fa0 3), .int 0, .int (fa0 5), .int (fa0 6)])), (L0b, .inr (1, [.int (fb0 0), .int (fb0 1), .int (fb0 2), .int (fb0 3), .int (fb0 4), .int (fb0 5), .int (fb0 6)])), (L0d, .inr (1, [.int (fd0 0), .int (fd0 1), .int (fd0 2), .int (fd0 3), .int (fd0 4), .int (fd0 5), .int (fd0 6)]))] H := ⟨hP2, hD2⟩
    have hS := hS2; clear hP2 hD2 hS2; have hP := hPD.1; have hD := hPD.2; clear hPD
    refine lv_aload_n hx hb dX3_sendProbe_34 rfl (lv_at hl 0 rfl) ?_
    refine lv_dup hx hb dX3_sendProbe_35 rfl ?_
    refine va_get (D := D) (ci := 3) (v := .int zps) (C := RX3) (T := TX3) (N := 11) hx hb hts iX3 hown hK hP 0 rfl rfl 7 (by decide) f84 (fun _ h9 => h9) rfl dX3_sendProbe_36 ?_
    refine lv_iconst (v := 1) hx hb dX3_sendProbe_39 (by decide) ?_
    refine lv_iadd hx hb dX3_sendProbe_40 ?_
    refine lv_topi (fun y_5 _ => ?_)
    refine va_put (D := D) (ci := 3) (v := .int y_5) (ty := .int) (C := RX3) (T := TX3) (N := 11) hx hb hts iX3 tyX3 tyX3_ok nmX3 hown hK hP hD hS 0 rfl rfl 7 (by decide) f84 (fun _ h9 => h9) rfl (by decide +kernel) (rfl) (rfl) (Nat.le_of_ble_eq_true rfl) dX3_sendProbe_41 (fun H locs hP2 hD2 hS2 => ?_)
    clear hP hD hS
    have hPD : PD D A [(Nn, .inr (3, [.int (nI hp), .int (nI cc), .int zrs, .int zad, .int zpr, .int (nI t), .int zlo, .int y_5, .ref Nl, .ref Nf, .ref Nb])), (L0, .inr (2, [.int (nI d0), .int (fk0 1), .int (fk0 2), .int (fv0 3), .int (fv0 4), .int (fv0 5), .ref L0c, .ref L0u, .ref L0p, .ref L0l])), (L0p, .inl (g 0, 15, .inl F_3)), (L0l, .inl (g 2, 3, .inr (.inr (.inr (.inr (rf3 L0a L0b L0d)))))), (L0a, .inr (1, [.int (fa0 0), .int (fa0 1), .int (fa0 2), .int (fa0 3), .int 0, .int (fa0 5), .int (fa0 6)])), (L0b, .inr (1, [.int (fb0 0), .int (fb0 1), .int (fb0 2), .int (fb0 3), .int (fb0 4), .int (fb0 5), .int (fb0 6)])), (L0d, .inr (1, [.int (fd0 0), .int (fd0 1), .int (fd0 2), .int (fd0 3), .int (fd0 4), .int (fd0 5), .int (fd0 6)]))] H := ⟨hP2, hD2⟩
    have hS := hS2; clear hP2 hD2 hS2; have hP := hPD.1; have hD := hPD.2; clear hPD
    have hP9 := hP; have hD9 := hD
    subst hQ
    refine W.widen (k := 0) (n := 0) (Nat.le_of_ble_eq_true rfl) (Nat.le_of_ble_eq_true rfl) ?_
    exact W.vret hx hb hr (fun tS htS _ => ⟨⟨_, rfl, ⟨y_5, F_3, (lf [fa0 0, fa0 1, fa0 2, 0, 0, fa0 5, fa0 6]), fb0, fd0, rfl⟩, by rw [htS]; exact hP9, hD9⟩, hS.F htS⟩) hS.2.2 dX3_sendProbe_44
  · skip
    have hP := hPq_4; have hD := hDq_4; have hS := hSq_4; have hl := hlq_4; clear hPq_4 hDq_4 hSq_4 hlq_4
    refine va_aldq (C := "HopCredits$Lane") hx hb hK hP 3 2 rfl rfl (by unfold vp_in; decide) dX3_sendProbe_29 ?_
    refine lv_eqv (v2 := .ref L0b) rfl ?_
    refine lv_iconst (v := 0) hx hb dX3_sendProbe_30 (by decide) ?_
    refine va_put (D := D) (ci := 1) (v := .int 0) (ty := .int) (C := RX1) (T := TX1) (N := 7) hx hb hts iX1 tyX1 tyX1_ok nmX1 hown hK hP hD hS 5 rfl rfl 4 (by decide) f210 (fun _ h9 => h9) rfl (by decide +kernel) (rfl) (rfl) (Nat.le_of_ble_eq_true rfl) dX3_sendProbe_31 (fun H locs hP2 hD2 hS2 => ?_)
    clear hP hD hS
    have hPD : PD D A [(Nn, .inr (3, [.int (nI hp), .int (nI cc), .int zrs, .int zad, .int zpr, .int (nI t), .int zlo, .int zps, .ref Nl, .ref Nf, .ref Nb])), (L0, .inr (2, [.int (nI d0), .int (fk0 1), .int (fk0 2), .int (fv0 3), .int (fv0 4), .int (fv0 5), .ref L0c, .ref L0u, .ref L0p, .ref L0l])), (L0p, .inl (g 0, 15, .inl F_3)), (L0l, .inl (g 2, 3, .inr (.inr (.inr (.inr (rf3 L0a L0b L0d)))))), (L0a, .inr (1, [.int (fa0 0), .int (fa0 1), .int (fa0 2), .int (fa0 3), .int (fa0 4), .int (fa0 5), .int (fa0 6)])), (L0b, .inr (1, [.int (fb0 0), .int (fb0 1), .int (fb0 2), .int (fb0 3), .int 0, .int (fb0 5), .int (fb0 6)])), (L0d, .inr (1, [.int (fd0 0), .int (fd0 1), .int (fd0 2), .int (fd0 3), .int (fd0 4), .int (fd0 5), .int (fd0 6)]))] H := ⟨hP2, hD2⟩
    have hS := hS2; clear hP2 hD2 hS2; have hP := hPD.1; have hD := hPD.2; clear hPD
    refine lv_aload_n hx hb dX3_sendProbe_34 rfl (lv_at hl 0 rfl) ?_
    refine lv_dup hx hb dX3_sendProbe_35 rfl ?_
    refine va_get (D := D) (ci := 3) (v := .int zps) (C := RX3) (T := TX3) (N := 11) hx hb hts iX3 hown hK hP 0 rfl rfl 7 (by decide) f84 (fun _ h9 => h9) rfl dX3_sendProbe_36 ?_
    refine lv_iconst (v := 1) hx hb dX3_sendProbe_39 (by decide) ?_
    refine lv_iadd hx hb dX3_sendProbe_40 ?_
    refine lv_topi (fun y_6 _ => ?_)
    refine va_put (D := D) (ci := 3) (v := .int y_6) (ty := .int) (C := RX3) (T := TX3) (N := 11) hx hb hts iX3 tyX3 tyX3_ok nmX3 hown hK hP hD hS 0 rfl rfl 7 (by decide) f84 (fun _ h9 => h9) rfl (by decide +kernel) (rfl) (rfl) (Nat.le_of_ble_eq_true rfl) dX3_sendProbe_41 (fun H locs hP2 hD2 hS2 => ?_)
    clear hP hD hS
    have hPD : PD D A [(Nn, .inr (3, [.int (nI hp), .int (nI cc), .int zrs, .int zad, .int zpr, .int (nI t), .int zlo, .int y_6, .ref Nl, .ref Nf, .ref Nb])), (L0, .inr (2, [.int (nI d0), .int (fk0 1), .int (fk0 2), .int (fv0 3), .int (fv0 4), .int (fv0 5), .ref L0c, .ref L0u, .ref L0p, .ref L0l])), (L0p, .inl (g 0, 15, .inl F_3)), (L0l, .inl (g 2, 3, .inr (.inr (.inr (.inr (rf3 L0a L0b L0d)))))), (L0a, .inr (1, [.int (fa0 0), .int (fa0 1), .int (fa0 2), .int (fa0 3), .int (fa0 4), .int (fa0 5), .int (fa0 6)])), (L0b, .inr (1, [.int (fb0 0), .int (fb0 1), .int (fb0 2), .int (fb0 3), .int 0, .int (fb0 5), .int (fb0 6)])), (L0d, .inr (1, [.int (fd0 0), .int (fd0 1), .int (fd0 2), .int (fd0 3), .int (fd0 4), .int (fd0 5), .int (fd0 6)]))] H := ⟨hP2, hD2⟩
    have hS := hS2; clear hP2 hD2 hS2; have hP := hPD.1; have hD := hPD.2; clear hPD
    have hP9 := hP; have hD9 := hD
    subst hQ
    refine W.widen (k := 0) (n := 0) (Nat.le_of_ble_eq_true rfl) (Nat.le_of_ble_eq_true rfl) ?_
    exact W.vret hx hb hr (fun tS htS _ => ⟨⟨_, rfl, ⟨y_6, F_3, fa0, (lf [fb0 0, fb0 1, fb0 2, 0, 0, fb0 5, fb0 6]), fd0, rfl⟩, by rw [htS]; exact hP9, hD9⟩, hS.F htS⟩) hS.2.2 dX3_sendProbe_44
  · skip
    have hP := hPq_4; have hD := hDq_4; have hS := hSq_4; have hl := hlq_4; clear hPq_4 hDq_4 hSq_4 hlq_4
    refine va_aldq (C := "HopCredits$Lane") hx hb hK hP 3 2 rfl rfl (by unfold vp_in; decide) dX3_sendProbe_29 ?_
    refine lv_eqv (v2 := .ref L0d) rfl ?_
    refine lv_iconst (v := 0) hx hb dX3_sendProbe_30 (by decide) ?_
    refine va_put (D := D) (ci := 1) (v := .int 0) (ty := .int) (C := RX1) (T := TX1) (N := 7) hx hb hts iX1 tyX1 tyX1_ok nmX1 hown hK hP hD hS 6 rfl rfl 4 (by decide) f210 (fun _ h9 => h9) rfl (by decide +kernel) (rfl) (rfl) (Nat.le_of_ble_eq_true rfl) dX3_sendProbe_31 (fun H locs hP2 hD2 hS2 => ?_)
    clear hP hD hS
    have hPD : PD D A [(Nn, .inr (3, [.int (nI hp), .int (nI cc), .int zrs, .int zad, .int zpr, .int (nI t), .int zlo, .int zps, .ref Nl, .ref Nf, .ref Nb])), (L0, .inr (2, [.int (nI d0), .int (fk0 1), .int (fk0 2), .int (fv0 3), .int (fv0 4), .int (fv0 5), .ref L0c, .ref L0u, .ref L0p, .ref L0l])), (L0p, .inl (g 0, 15, .inl F_3)), (L0l, .inl (g 2, 3, .inr (.inr (.inr (.inr (rf3 L0a L0b L0d)))))), (L0a, .inr (1, [.int (fa0 0), .int (fa0 1), .int (fa0 2), .int (fa0 3), .int (fa0 4), .int (fa0 5), .int (fa0 6)])), (L0b, .inr (1, [.int (fb0 0), .int (fb0 1), .int (fb0 2), .int (fb0 3), .int (fb0 4), .int (fb0 5), .int (fb0 6)])), (L0d, .inr (1, [.int (fd0 0), .int (fd0 1), .int (fd0 2), .int (fd0 3), .int 0, .int (fd0 5), .int (fd0 6)]))] H := ⟨hP2, hD2⟩
    have hS := hS2; clear hP2 hD2 hS2; have hP := hPD.1; have hD := hPD.2; clear hPD
    refine lv_aload_n hx hb dX3_sendProbe_34 rfl (lv_at hl 0 rfl) ?_
    refine lv_dup hx hb dX3_sendProbe_35 rfl ?_
    refine va_get (D := D) (ci := 3) (v := .int zps) (C := RX3) (T := TX3) (N := 11) hx hb hts iX3 hown hK hP 0 rfl rfl 7 (by decide) f84 (fun _ h9 => h9) rfl dX3_sendProbe_36 ?_
    refine lv_iconst (v := 1) hx hb dX3_sendProbe_39 (by decide) ?_
    refine lv_iadd hx hb dX3_sendProbe_40 ?_
    refine lv_topi (fun y_7 _ => ?_)
    refine va_put (D := D) (ci := 3) (v := .int y_7) (ty := .int) (C := RX3) (T := TX3) (N := 11) hx hb hts iX3 tyX3 tyX3_ok nmX3 hown hK hP hD hS 0 rfl rfl 7 (by decide) f84 (fun _ h9 => h9) rfl (by decide +kernel) (rfl) (rfl) (Nat.le_of_ble_eq_true rfl) dX3_sendProbe_41 (fun H locs hP2 hD2 hS2 => ?_)
    clear hP hD hS
    have hPD : PD D A [(Nn, .inr (3, [.int (nI hp), .int (nI cc), .int zrs, .int zad, .int zpr, .int (nI t), .int zlo, .int y_7, .ref Nl, .ref Nf, .ref Nb])), (L0, .inr (2, [.int (nI d0), .int (fk0 1), .int (fk0 2), .int (fv0 3), .int (fv0 4), .int (fv0 5), .ref L0c, .ref L0u, .ref L0p, .ref L0l])), (L0p, .inl (g 0, 15, .inl F_3)), (L0l, .inl (g 2, 3, .inr (.inr (.inr (.inr (rf3 L0a L0b L0d)))))), (L0a, .inr (1, [.int (fa0 0), .int (fa0 1), .int (fa0 2), .int (fa0 3), .int (fa0 4), .int (fa0 5), .int (fa0 6)])), (L0b, .inr (1, [.int (fb0 0), .int (fb0 1), .int (fb0 2), .int (fb0 3), .int (fb0 4), .int (fb0 5), .int (fb0 6)])), (L0d, .inr (1, [.int (fd0 0), .int (fd0 1), .int (fd0 2), .int (fd0 3), .int 0, .int (fd0 5), .int (fd0 6)]))] H := ⟨hP2, hD2⟩
    have hS := hS2; clear hP2 hD2 hS2; have hP := hPD.1; have hD := hPD.2; clear hPD
    have hP9 := hP; have hD9 := hD
    subst hQ
    refine W.widen (k := 0) (n := 0) (Nat.le_of_ble_eq_true rfl) (Nat.le_of_ble_eq_true rfl) ?_
    exact W.vret hx hb hr (fun tS htS _ => ⟨⟨_, rfl, ⟨y_7, F_3, fa0, fb0, (lf [fd0 0, fd0 1, fd0 2, 0, 0, fd0 5, fd0 6]), rfl⟩, by rw [htS]; exact hP9, hD9⟩, hS.F htS⟩) hS.2.2 dX3_sendProbe_44

set_option maxHeartbeats 4000000 in
set_option maxRecDepth 100000 in
theorem k_X3_goneFrom_0 (l : Launch) (D : va_G) (g : Nat → ClassId) (sz : Nat) (Nn : Nat) (cx : Nat) (hp : Nat) (cc : Nat) (zrs : Int32) (zad : Int32) (zpr : Int32) (t : Nat) (zlo : Int32) (zps : Int32) (Nl : Nat) (Nf : Nat) (Nb : Nat) (L0 : Nat) (M1 : Nat) (M2 : Nat) (d0 : Nat) (fk0 : Nat → Int32) (fv0 : Nat → Int32) (L0c : Nat) (L0u : Nat) (L0p : Nat) (L0l : Nat) (fu0 : Nat → Int32) (L0a : Nat) (L0b : Nat) (L0d : Nat) (fa0 : Nat → Int32) (fb0 : Nat → Int32) (fd0 : Nat → Int32) (h0 : cx < 3) (h1 : t < 2 ^ 30) (h2 : d0 < 5) (h3 : okc (fv0 4)) : Met l yX3_goneFrom wsX3_goneFrom ({ frames := 1, cells := 0, slots := 0, locals := 22 }) (va_Pc [.ref Nn, .int 0, .int (nI cx)] (pre D g sz [(Nn, .inr (3, [.int (nI hp), .int (nI cc), .int zrs, .int zad, .int zpr, .int (nI t), .int zlo, .int zps, .ref Nl, .ref Nf, .ref Nb])), (Nl, .inl (g 1, 3, .inr (.inr (.inr (.inr (rf3 L0 M1 M2)))))), (L0, .inr (2, [.int (nI d0), .int (fk0 1), .int (fk0 2), .int (fv0 3), .int (fv0 4), .int (fv0 5), .ref L0c, .ref L0u, .ref L0p, .ref L0l])), (L0u, .inl (g 0, 15, .inl fu0)), (L0l, .inl (g 2, 3, .inr (.inr (.inr (.inr (rf3 L0a L0b L0d)))))), (L0a, .inr (1, [.int (fa0 0), .int (fa0 1), .int (fa0 2), .int (fa0 3), .int (fa0 4), .int (fa0 5), .int (fa0 6)])), (L0b, .inr (1, [.int (fb0 0), .int (fb0 1), .int (fb0 2), .int (fb0 3), .int (fb0 4), .int (fb0 5), .int (fb0 6)])), (L0d, .inr (1, [.int (fd0 0), .int (fd0 1), .int (fd0 2), .int (fd0 3), .int (fd0 4), .int (fd0 5), .int (fd0 6)]))])) (va_Qv (fun (u : va_W) => ∃ (PF : Nat → Nat → Int32) (zlox : Int32), u = [(Nn, .inr (3, [.int (nI hp), .int (nI cc), .int zrs, .int zad, .int zpr, .int (nI t), .int zlox, .int zps, .ref Nl, .ref Nf, .ref Nb])), (Nl, .inl (g 1, 3, .inr (.inr (.inr (.inr (rf3 L0 M1 M2)))))), (L0, .inr (2, [.int (nI d0), .int (fk0 1), .int (fk0 2), .int ((PF 0) 3), .int ((PF 0) 4), .int ((PF 0) 5), .ref L0c, .ref L0u, .ref L0p, .ref L0l])), (L0u, .inl (g 0, 15, .inl (PF 1))), (L0l, .inl (g 2, 3, .inr (.inr (.inr (.inr (rf3 L0a L0b L0d)))))), (L0a, .inr (1, [.int ((PF 2) 0), .int ((PF 2) 1), .int ((PF 2) 2), .int (fa0 3), .int ((PF 2) 4), .int ((PF 2) 5), .int ((PF 2) 6)])), (L0b, .inr (1, [.int ((PF 3) 0), .int ((PF 3) 1), .int ((PF 3) 2), .int (fb0 3), .int ((PF 3) 4), .int ((PF 3) 5), .int ((PF 3) 6)])), (L0d, .inr (1, [.int ((PF 4) 0), .int ((PF 4) 1), .int ((PF 4) 2), .int (fd0 3), .int ((PF 4) 4), .int ((PF 4) 5), .int ((PF 4) 6)]))] ∧ (okc ((PF 0) 4))) (wd D (va_A [(Nn, .inr (3, [.int (nI hp), .int (nI cc), .int zrs, .int zad, .int zpr, .int (nI t), .int zlo, .int zps, .ref Nl, .ref Nf, .ref Nb])), (Nl, .inl (g 1, 3, .inr (.inr (.inr (.inr (rf3 L0 M1 M2)))))), (L0, .inr (2, [.int (nI d0), .int (fk0 1), .int (fk0 2), .int (fv0 3), .int (fv0 4), .int (fv0 5), .ref L0c, .ref L0u, .ref L0p, .ref L0l])), (L0u, .inl (g 0, 15, .inl fu0)), (L0l, .inl (g 2, 3, .inr (.inr (.inr (.inr (rf3 L0a L0b L0d)))))), (L0a, .inr (1, [.int (fa0 0), .int (fa0 1), .int (fa0 2), .int (fa0 3), .int (fa0 4), .int (fa0 5), .int (fa0 6)])), (L0b, .inr (1, [.int (fb0 0), .int (fb0 1), .int (fb0 2), .int (fb0 3), .int (fb0 4), .int (fb0 5), .int (fb0 6)])), (L0d, .inr (1, [.int (fd0 0), .int (fd0 1), .int (fd0 2), .int (fd0 3), .int (fd0 4), .int (fd0 5), .int (fd0 6)]))] sz)) (va_A [(Nn, .inr (3, [.int (nI hp), .int (nI cc), .int zrs, .int zad, .int zpr, .int (nI t), .int zlo, .int zps, .ref Nl, .ref Nf, .ref Nb])), (Nl, .inl (g 1, 3, .inr (.inr (.inr (.inr (rf3 L0 M1 M2)))))), (L0, .inr (2, [.int (nI d0), .int (fk0 1), .int (fk0 2), .int (fv0 3), .int (fv0 4), .int (fv0 5), .ref L0c, .ref L0u, .ref L0p, .ref L0l])), (L0u, .inl (g 0, 15, .inl fu0)), (L0l, .inl (g 2, 3, .inr (.inr (.inr (.inr (rf3 L0a L0b L0d)))))), (L0a, .inr (1, [.int (fa0 0), .int (fa0 1), .int (fa0 2), .int (fa0 3), .int (fa0 4), .int (fa0 5), .int (fa0 6)])), (L0b, .inr (1, [.int (fb0 0), .int (fb0 1), .int (fb0 2), .int (fb0 3), .int (fb0 4), .int (fb0 5), .int (fb0 6)])), (L0d, .inr (1, [.int (fd0 0), .int (fd0 1), .int (fd0 2), .int (fd0 3), .int (fd0 4), .int (fd0 5), .int (fd0 6)]))] sz)) 0 0 (va_A [(Nn, .inr (3, [.int (nI hp), .int (nI cc), .int zrs, .int zad, .int zpr, .int (nI t), .int zlo, .int zps, .ref Nl, .ref Nf, .ref Nb])), (Nl, .inl (g 1, 3, .inr (.inr (.inr (.inr (rf3 L0 M1 M2)))))), (L0, .inr (2, [.int (nI d0), .int (fk0 1), .int (fk0 2), .int (fv0 3), .int (fv0 4), .int (fv0 5), .ref L0c, .ref L0u, .ref L0p, .ref L0l])), (L0u, .inl (g 0, 15, .inl fu0)), (L0l, .inl (g 2, 3, .inr (.inr (.inr (.inr (rf3 L0a L0b L0d)))))), (L0a, .inr (1, [.int (fa0 0), .int (fa0 1), .int (fa0 2), .int (fa0 3), .int (fa0 4), .int (fa0 5), .int (fa0 6)])), (L0b, .inr (1, [.int (fb0 0), .int (fb0 1), .int (fb0 2), .int (fb0 3), .int (fb0 4), .int (fb0 5), .int (fb0 6)])), (L0d, .inr (1, [.int (fd0 0), .int (fd0 1), .int (fd0 2), .int (fd0 3), .int (fd0 4), .int (fd0 5), .int (fd0 6)]))] sz) := by
  refine Met.ofW (cc := cX3_goneFrom) (maxL := 5) (ret := none) (by decide) rfl ?_
  intro p e s m args below meth c s₁ B hml hv
  obtain ⟨rfl, hsz, hP, ⟨hK, hN⟩, hD0, hZ⟩ := hv
  have hx := B.exec
  have hb := B.bytes
  have hr := B.returns
  have hts := atoms_spec (ws := wsX3_goneFrom) B.pre
  have hown : s.vm.findClass RX3 = some m.cls := findClass_of_methodNamed B.named
  have hlocks := B.notSynchronized
  clear B
  subst hsz
  have hD := hD0.self (sz := s.heap.size)
  clear hD0
  generalize hAe : va_A [(Nn, .inr (3, [.int (nI hp), .int (nI cc), .int zrs, .int zad, .int zpr, .int (nI t), .int zlo, .int zps, .ref Nl, .ref Nf, .ref Nb])), (Nl, .inl (g 1, 3, .inr (.inr (.inr (.inr (rf3 L0 M1 M2)))))), (L0, .inr (2, [.int (nI d0), .int (fk0 1), .int (fk0 2), .int (fv0 3), .int (fv0 4), .int (fv0 5), .ref L0c, .ref L0u, .ref L0p, .ref L0l])), (L0u, .inl (g 0, 15, .inl fu0)), (L0l, .inl (g 2, 3, .inr (.inr (.inr (.inr (rf3 L0a L0b L0d)))))), (L0a, .inr (1, [.int (fa0 0), .int (fa0 1), .int (fa0 2), .int (fa0 3), .int (fa0 4), .int (fa0 5), .int (fa0 6)])), (L0b, .inr (1, [.int (fb0 0), .int (fb0 1), .int (fb0 2), .int (fb0 3), .int (fb0 4), .int (fb0 5), .int (fb0 6)])), (L0d, .inr (1, [.int (fd0 0), .int (fd0 1), .int (fd0 2), .int (fd0 3), .int (fd0 4), .int (fd0 5), .int (fd0 6)]))] s.heap.size = A at hD hZ ⊢
  have hA : ∀ q : Nat, s.heap.size ≤ q → A q := fun q h => by rw [← hAe]; exact Or.inr h
  have hS : va_S A s.heap s.heap [] := va_S.rf
  have f11 := hts (.fieldLink RX3 11 "HopCredits$Net" "links" "[LHopCredits$Link;") (List.mem_of_getElem? (i := 1) rfl)
  have f128 := hts (.fieldLink RX3 128 "HopCredits$Link" "lanes" "[LHopCredits$Lane;") (List.mem_of_getElem? (i := 2) rfl)
  have f198 := hts (.fieldLink RX3 198 "HopCredits$Lane" "gone" "I") (List.mem_of_getElem? (i := 3) rfl)
  have f201 := hts (.fieldLink RX3 201 "HopCredits$Lane" "sinceUpdate" "I") (List.mem_of_getElem? (i := 4) rfl)
  have f204 := hts (.fieldLink RX3 204 "HopCredits$Link" "every" "I") (List.mem_of_getElem? (i := 5) rfl)
  have iX1 : ∀ w ∈ u_ws RX1 TX1 7, w ∈ wsX3_goneFrom := fun w h => List.mem_cons_of_mem _ (List.mem_append_right _ (h))
  have iX2 : ∀ w ∈ u_ws RX2 TX2 10, w ∈ wsX3_goneFrom := fun w h => List.mem_cons_of_mem _ (List.mem_append_left _ (List.mem_append_right _ (h)))
  have iX3 : ∀ w ∈ u_ws RX3 TX3 11, w ∈ wsX3_goneFrom := fun w h => List.mem_cons_of_mem _ (List.mem_append_left _ (List.mem_append_left _ (List.mem_append_right _ (h))))
  have hl := lv_entry ([.ref Nn, .int 0, .int (nI cx)]) (n := 5) (Nat.le_of_ble_eq_true rfl)
  rw [lg_entry_eq]
  generalize (lg_sl ([.ref Nn, .int 0, .int (nI cx)]) ++ List.replicate (5 - (lg_sl ([.ref Nn, .int 0, .int (nI cx)])).length) Slot.unset).toArray = ls at hl ⊢
  have hl : lv_has ls 5 [(0, .ref Nn), (1, .int 0), (2, .int (nI cx))] := hl
  generalize hQ : MQ below _ _ s _ _ _ = Q
  generalize hH : s.heap = H at hP ⊢
  have hS : va_S A s.heap H [] := by rw [← hH]; exact hS
  clear hH
  refine lv_aload_n hx hb dX3_goneFrom_0 rfl (lv_at hl 0 rfl) ?_
  refine va_get (D := D) (ci := 3) (v := .ref Nl) (C := RX3) (T := TX3) (N := 11) hx hb hts iX3 hown hK hP 0 rfl rfl 8 (by decide) f11 (fun _ h9 => h9) rfl dX3_goneFrom_1 ?_
  refine lv_iload_n hx hb dX3_goneFrom_4 rfl (lv_at hl 1 rfl) ?_
  refine va_aldq (C := "HopCredits$Link") hx hb hK hP 1 1 rfl rfl (by unfold vp_in; decide) dX3_goneFrom_5 ?_
  refine lv_eqv (v2 := .ref L0) rfl ?_
  refine lv_astore_n (lv' := [(3, .ref L0), (0, .ref Nn), (1, .int 0), (2, .int (nI cx))]) hx hb dX3_goneFrom_6 rfl hl (by decide) rfl (fun ls hl => ?_)
  refine lv_aload_n hx hb dX3_goneFrom_7 rfl (lv_at hl 0 rfl) ?_
  refine va_get (D := D) (ci := 2) (v := .ref L0l) (C := RX2) (T := TX2) (N := 10) hx hb hts iX2 hown hK hP 2 rfl rfl 9 (by decide) f128 (fun _ h9 => h9) rfl dX3_goneFrom_8 ?_
  refine lv_iload_n hx hb dX3_goneFrom_11 rfl (lv_at hl 3 rfl) ?_
  have hPq_1 := hP; have hDq_1 := hD; have hSq_1 := hS; have hlq_1 := hl; clear hP hD hS hl
  rcases (show cx = 0 ∨ cx = 1 ∨ cx = 2 by omega) with rfl | rfl | rfl
  · skip
    have hP := hPq_1; have hD := hDq_1; have hS := hSq_1; have hl := hlq_1; clear hPq_1 hDq_1 hSq_1 hlq_1
    refine va_aldq (C := "HopCredits$Lane") hx hb hK hP 4 2 rfl rfl (by unfold vp_in; decide) dX3_goneFrom_12 ?_
    refine lv_eqv (v2 := .ref L0a) rfl ?_
    refine lv_astore (lv' := [(4, .ref L0a), (3, .ref L0), (0, .ref Nn), (1, .int 0), (2, .int (nI 0))]) hx hb dX3_goneFrom_13 hl (by decide) rfl (fun ls hl => ?_)
    refine lv_aload hx hb dX3_goneFrom_15 (lv_at hl 0 rfl) ?_
    refine lv_aload hx hb dX3_goneFrom_17 (lv_at hl 0 rfl) ?_
    refine va_get (D := D) (ci := 1) (v := .int (fa0 1)) (C := RX1) (T := TX1) (N := 7) hx hb hts iX1 hown hK hP 5 rfl rfl 1 (by decide) f198 (fun _ h9 => h9) rfl dX3_goneFrom_19 ?_
    refine lv_iconst (v := 1) hx hb dX3_goneFrom_22 (by decide) ?_
    refine lv_iadd hx hb dX3_goneFrom_23 ?_
    refine lv_topi (fun y_2 _ => ?_)
    refine lv_bipush (v := 63) hx hb dX3_goneFrom_24 (by decide) ?_
    refine lv_iand hx hb dX3_goneFrom_26 ?_
    refine lv_topi (fun y_3 _ => ?_)
    refine va_put (D := D) (ci := 1) (v := .int y_3) (ty := .int) (C := RX1) (T := TX1) (N := 7) hx hb hts iX1 tyX1 tyX1_ok nmX1 hown hK hP hD hS 5 rfl rfl 1 (by decide) f198 (fun _ h9 => h9) rfl (by decide +kernel) (rfl) (rfl) (Nat.le_of_ble_eq_true rfl) dX3_goneFrom_27 (fun H locs hP2 hD2 hS2 => ?_)
    clear hP hD hS
    have hPD : PD D A [(Nn, .inr (3, [.int (nI hp), .int (nI cc), .int zrs, .int zad, .int zpr, .int (nI t), .int zlo, .int zps, .ref Nl, .ref Nf, .ref Nb])), (Nl, .inl (g 1, 3, .inr (.inr (.inr (.inr (rf3 L0 M1 M2)))))), (L0, .inr (2, [.int (nI d0), .int (fk0 1), .int (fk0 2), .int (fv0 3), .int (fv0 4), .int (fv0 5), .ref L0c, .ref L0u, .ref L0p, .ref L0l])), (L0u, .inl (g 0, 15, .inl fu0)), (L0l, .inl (g 2, 3, .inr (.inr (.inr (.inr (rf3 L0a L0b L0d)))))), (L0a, .inr (1, [.int (fa0 0), .int y_3, .int (fa0 2), .int (fa0 3), .int (fa0 4), .int (fa0 5), .int (fa0 6)])), (L0b, .inr (1, [.int (fb0 0), .int (fb0 1), .int (fb0 2), .int (fb0 3), .int (fb0 4), .int (fb0 5), .int (fb0 6)])), (L0d, .inr (1, [.int (fd0 0), .int (fd0 1), .int (fd0 2), .int (fd0 3), .int (fd0 4), .int (fd0 5), .int (fd0 6)]))] H := ⟨hP2, hD2⟩
    have hS := hS2; clear hP2 hD2 hS2; have hP := hPD.1; have hD := hPD.2; clear hPD
    refine lv_aload hx hb dX3_goneFrom_30 (lv_at hl 0 rfl) ?_
    refine lv_dup hx hb dX3_goneFrom_32 rfl ?_
    refine va_get (D := D) (ci := 1) (v := .int (fa0 5)) (C := RX1) (T := TX1) (N := 7) hx hb hts iX1 hown hK hP 5 rfl rfl 5 (by decide) f201 (fun _ h9 => h9) rfl dX3_goneFrom_33 ?_
    refine lv_iconst (v := 1) hx hb dX3_goneFrom_36 (by decide) ?_
    refine lv_iadd hx hb dX3_goneFrom_37 ?_
    refine lv_topi (fun y_4 _ => ?_)
    refine va_put (D := D) (ci := 1) (v := .int y_4) (ty := .int) (C := RX1) (T := TX1) (N := 7) hx hb hts iX1 tyX1 tyX1_ok nmX1 hown hK hP hD hS 5 rfl rfl 5 (by decide) f201 (fun _ h9 => h9) rfl (by decide +kernel) (rfl) (rfl) (Nat.le_of_ble_eq_true rfl) dX3_goneFrom_38 (fun H locs hP2 hD2 hS2 => ?_)
    clear hP hD hS
    have hPD : PD D A [(Nn, .inr (3, [.int (nI hp), .int (nI cc), .int zrs, .int zad, .int zpr, .int (nI t), .int zlo, .int zps, .ref Nl, .ref Nf, .ref Nb])), (Nl, .inl (g 1, 3, .inr (.inr (.inr (.inr (rf3 L0 M1 M2)))))), (L0, .inr (2, [.int (nI d0), .int (fk0 1), .int (fk0 2), .int (fv0 3), .int (fv0 4), .int (fv0 5), .ref L0c, .ref L0u, .ref L0p, .ref L0l])), (L0u, .inl (g 0, 15, .inl fu0)), (L0l, .inl (g 2, 3, .inr (.inr (.inr (.inr (rf3 L0a L0b L0d)))))), (L0a, .inr (1, [.int (fa0 0), .int y_3, .int (fa0 2), .int (fa0 3), .int (fa0 4), .int y_4, .int (fa0 6)])), (L0b, .inr (1, [.int (fb0 0), .int (fb0 1), .int (fb0 2), .int (fb0 3), .int (fb0 4), .int (fb0 5), .int (fb0 6)])), (L0d, .inr (1, [.int (fd0 0), .int (fd0 1), .int (fd0 2), .int (fd0 3), .int (fd0 4), .int (fd0 5), .int (fd0 6)]))] H := ⟨hP2, hD2⟩
    have hS := hS2; clear hP2 hD2 hS2; have hP := hPD.1; have hD := hPD.2; clear hPD
    refine lv_aload hx hb dX3_goneFrom_41 (lv_at hl 0 rfl) ?_
    refine va_get (D := D) (ci := 1) (v := .int y_4) (C := RX1) (T := TX1) (N := 7) hx hb hts iX1 hown hK hP 5 rfl rfl 5 (by decide) f201 (fun _ h9 => h9) rfl dX3_goneFrom_43 ?_
    refine lv_aload_n hx hb dX3_goneFrom_46 rfl (lv_at hl 1 rfl) ?_
    refine va_get (D := D) (ci := 2) (v := .int (fk0 2)) (C := RX2) (T := TX2) (N := 10) hx hb hts iX2 hown hK hP 2 rfl rfl 2 (by decide) f204 (fun _ h9 => h9) rfl dX3_goneFrom_47 ?_
    refine lv_icmp_lt (tgt := 65) hx hb dX3_goneFrom_50 (by decide) (fun cb_5 => ?_) (fun cb_5 => ?_)
    · skip
      have hP9 := hP; have hD9 := hD
      subst hQ
      refine W.widen (k := 0) (n := 0) (Nat.le_of_ble_eq_true rfl) (Nat.le_of_ble_eq_true rfl) ?_
      exact W.vret hx hb hr (fun tS htS _ => ⟨⟨_, rfl, ⟨(lf2 [fv0, fu0, lf [fa0 0, y_3, fa0 2, 0, fa0 4, y_4, fa0 6], fb0, fd0]), zlo, rfl, (h3)⟩, by rw [htS]; exact hP9, hD9⟩, hS.F htS⟩) hS.2.2 dX3_goneFrom_65
    · skip
      refine lv_aload hx hb dX3_goneFrom_53 (lv_at hl 0 rfl) ?_
      refine lv_iconst (v := 0) hx hb dX3_goneFrom_55 (by decide) ?_
      refine va_put (D := D) (ci := 1) (v := .int 0) (ty := .int) (C := RX1) (T := TX1) (N := 7) hx hb hts iX1 tyX1 tyX1_ok nmX1 hown hK hP hD hS 5 rfl rfl 5 (by decide) f201 (fun _ h9 => h9) rfl (by decide +kernel) (rfl) (rfl) (Nat.le_of_ble_eq_true rfl) dX3_goneFrom_56 (fun H locs hP2 hD2 hS2 => ?_)
      clear hP hD hS
      have hPD : PD D A [(Nn, .inr (3, [.int (nI hp), .int (nI cc), .int zrs, .int zad, .int zpr, .int (nI t), .int zlo, .int zps, .ref Nl, .ref Nf, .ref Nb])), (Nl, .inl (g 1, 3, .inr (.inr (.inr (.inr (rf3 L0 M1 M2)))))), (L0, .inr (2, [.int (nI d0), .int (fk0 1), .int (fk0 2), .int (fv0 3), .int (fv0 4), .int (fv0 5), .ref L0c, .ref L0u, .ref L0p, .ref L0l])), (L0u, .inl (g 0, 15, .inl fu0)), (L0l, .inl (g 2, 3, .inr (.inr (.inr (.inr (rf3 L0a L0b L0d)))))), (L0a, .inr (1, [.int (fa0 0), .int y_3, .int (fa0 2), .int (fa0 3), .int (fa0 4), .int 0, .int (fa0 6)])), (L0b, .inr (1, [.int (fb0 0), .int (fb0 1), .int (fb0 2), .int (fb0 3), .int (fb0 4), .int (fb0 5), .int (fb0 6)])), (L0d, .inr (1, [.int (fd0 0), .int (fd0 1), .int (fd0 2), .int (fd0 3), .int (fd0 4), .int (fd0 5), .int (fd0 6)]))] H := ⟨hP2, hD2⟩
      have hS := hS2; clear hP2 hD2 hS2; have hP := hPD.1; have hD := hPD.2; clear hPD
      refine lv_aload_n hx hb dX3_goneFrom_59 rfl (lv_at hl 2 rfl) ?_
      refine lv_aload_n hx hb dX3_goneFrom_60 rfl (lv_at hl 1 rfl) ?_
      refine lv_iload_n hx hb dX3_goneFrom_61 rfl (lv_at hl 4 rfl) ?_
      refine ky_Vv (As := [.ref L0, .int (nI 0)]) (rest := []) ⟨hx, hb, hml, hown, hts⟩ ⟨hK, hN⟩ hZ hP hD hS hA [0, 2, 3, 4, 5, 6, 7] [1] (wc := [(Nn, .inr (3, [.int (nI hp), .int (nI cc), .int zrs, .int zad, .int zpr, .int (nI t), .int zlo, .int zps, .ref Nl, .ref Nf, .ref Nb])), (L0, .inr (2, [.int (nI d0), .int (fk0 1), .int (fk0 2), .int (fv0 3), .int (fv0 4), .int (fv0 5), .ref L0c, .ref L0u, .ref L0p, .ref L0l])), (L0u, .inl (g 0, 15, .inl fu0)), (L0l, .inl (g 2, 3, .inr (.inr (.inr (.inr (rf3 L0a L0b L0d)))))), (L0a, .inr (1, [.int (fa0 0), .int y_3, .int (fa0 2), .int (fa0 3), .int (fa0 4), .int 0, .int (fa0 6)])), (L0b, .inr (1, [.int (fb0 0), .int (fb0 1), .int (fb0 2), .int (fb0 3), .int (fb0 4), .int (fb0 5), .int (fb0 6)])), (L0d, .inr (1, [.int (fd0 0), .int (fd0 1), .int (fd0 2), .int (fd0 3), .int (fd0 4), .int (fd0 5), .int (fd0 6)]))]) (wr := [(Nl, .inl (g 1, 3, .inr (.inr (.inr (.inr (rf3 L0 M1 M2))))))]) rfl rfl rfl rfl (by decide) (k_X3_sendUpdate l D g H.size Nn L0 0 hp cc zrs zad zpr t zlo zps Nl Nf Nb d0 fk0 fv0 L0c L0u L0p L0l fu0 L0a L0b L0d (lf [fa0 0, y_3, fa0 2, fa0 3, fa0 4, 0, fa0 6]) fb0 fd0 (show 0 < 3 by omega) (show t < 2 ^ 30 by omega) (show d0 < 5 by omega) (h3)) (cwV 2 hts gX3_goneFrom_X3_sendUpdate rfl rfl rfl (by decide +kernel) ⟨(Nat.le_of_ble_eq_true rfl), (Nat.le_of_ble_eq_true rfl)⟩) 0 3 rfl rfl rfl rfl hl.1 rfl (Nat.le_of_ble_eq_true rfl) dX3_goneFrom_62 ⟨(Nat.le_of_ble_eq_true rfl), (Nat.le_of_ble_eq_true rfl)⟩ (fun u H locs hw hP2 hD2 hS2 => ?_)
      clear hP hD hS
      obtain ⟨zlox_7, fv0x_8, fu0x_9, rfl, hf_10⟩ := hw
      have hPD : PD D A [(Nl, .inl (g 1, 3, .inr (.inr (.inr (.inr (rf3 L0 M1 M2)))))), (Nn, .inr (3, [.int (nI hp), .int (nI cc), .int zrs, .int zad, .int zpr, .int (nI t), .int zlox_7, .int zps, .ref Nl, .ref Nf, .ref Nb])), (L0, .inr (2, [.int (nI d0), .int (fk0 1), .int (fk0 2), .int (fv0x_8 3), .int (fv0x_8 4), .int (fv0x_8 5), .ref L0c, .ref L0u, .ref L0p, .ref L0l])), (L0u, .inl (g 0, 15, .inl fu0x_9)), (L0l, .inl (g 2, 3, .inr (.inr (.inr (.inr (rf3 L0a L0b L0d)))))), (L0a, .inr (1, [.int (fa0 0), .int y_3, .int (fa0 2), .int (fa0 3), .int (fa0 4), .int 0, .int (fa0 6)])), (L0b, .inr (1, [.int (fb0 0), .int (fb0 1), .int (fb0 2), .int (fb0 3), .int (fb0 4), .int (fb0 5), .int (fb0 6)])), (L0d, .inr (1, [.int (fd0 0), .int (fd0 1), .int (fd0 2), .int (fd0 3), .int (fd0 4), .int (fd0 5), .int (fd0 6)]))] H := ⟨hP2, hD2⟩
      have hS := hS2; clear hP2 hD2 hS2; have hP := hPD.1; have hD := hPD.2; clear hPD
      refine W.widen (k := 0) (n := 0) (Nat.le_of_ble_eq_true rfl) (Nat.le_of_ble_eq_true rfl) ?_
      have hPD9 : PD D A [(Nn, .inr (3, [.int (nI hp), .int (nI cc), .int zrs, .int zad, .int zpr, .int (nI t), .int zlox_7, .int zps, .ref Nl, .ref Nf, .ref Nb])), (Nl, .inl (g 1, 3, .inr (.inr (.inr (.inr (rf3 L0 M1 M2)))))), (L0, .inr (2, [.int (nI d0), .int (fk0 1), .int (fk0 2), .int (fv0x_8 3), .int (fv0x_8 4), .int (fv0x_8 5), .ref L0c, .ref L0u, .ref L0p, .ref L0l])), (L0u, .inl (g 0, 15, .inl fu0x_9)), (L0l, .inl (g 2, 3, .inr (.inr (.inr (.inr (rf3 L0a L0b L0d)))))), (L0a, .inr (1, [.int (fa0 0), .int y_3, .int (fa0 2), .int (fa0 3), .int (fa0 4), .int 0, .int (fa0 6)])), (L0b, .inr (1, [.int (fb0 0), .int (fb0 1), .int (fb0 2), .int (fb0 3), .int (fb0 4), .int (fb0 5), .int (fb0 6)])), (L0d, .inr (1, [.int (fd0 0), .int (fd0 1), .int (fd0 2), .int (fd0 3), .int (fd0 4), .int (fd0 5), .int (fd0 6)]))] H := ⟨hP.sub [1, 0, 2, 3, 4, 5, 6, 7] rfl, hD.sub [1, 0, 2, 3, 4, 5, 6, 7] (by decide) rfl⟩
      have hP9 := hPD9.1; have hD9 := hPD9.2
      subst hQ
      refine W.widen (k := 0) (n := 0) (Nat.le_of_ble_eq_true rfl) (Nat.le_of_ble_eq_true rfl) ?_
      exact W.vret hx hb hr (fun tS htS _ => ⟨⟨_, rfl, ⟨(lf2 [fv0x_8, fu0x_9, lf [fa0 0, y_3, fa0 2, 0, fa0 4, 0, fa0 6], fb0, fd0]), zlox_7, rfl, (hf_10)⟩, by rw [htS]; exact hP9, hD9⟩, hS.F htS⟩) hS.2.2 dX3_goneFrom_65
  · skip
    have hP := hPq_1; have hD := hDq_1; have hS := hSq_1; have hl := hlq_1; clear hPq_1 hDq_1 hSq_1 hlq_1
    refine va_aldq (C := "HopCredits$Lane") hx hb hK hP 4 2 rfl rfl (by unfold vp_in; decide) dX3_goneFrom_12 ?_
    refine lv_eqv (v2 := .ref L0b) rfl ?_
    refine lv_astore (lv' := [(4, .ref L0b), (3, .ref L0), (0, .ref Nn), (1, .int 0), (2, .int (nI 1))]) hx hb dX3_goneFrom_13 hl (by decide) rfl (fun ls hl => ?_)
    refine lv_aload hx hb dX3_goneFrom_15 (lv_at hl 0 rfl) ?_
    refine lv_aload hx hb dX3_goneFrom_17 (lv_at hl 0 rfl) ?_
    refine va_get (D := D) (ci := 1) (v := .int (fb0 1)) (C := RX1) (T := TX1) (N := 7) hx hb hts iX1 hown hK hP 6 rfl rfl 1 (by decide) f198 (fun _ h9 => h9) rfl dX3_goneFrom_19 ?_
    refine lv_iconst (v := 1) hx hb dX3_goneFrom_22 (by decide) ?_
    refine lv_iadd hx hb dX3_goneFrom_23 ?_
    refine lv_topi (fun y_11 _ => ?_)
    refine lv_bipush (v := 63) hx hb dX3_goneFrom_24 (by decide) ?_
    refine lv_iand hx hb dX3_goneFrom_26 ?_
    refine lv_topi (fun y_12 _ => ?_)
    refine va_put (D := D) (ci := 1) (v := .int y_12) (ty := .int) (C := RX1) (T := TX1) (N := 7) hx hb hts iX1 tyX1 tyX1_ok nmX1 hown hK hP hD hS 6 rfl rfl 1 (by decide) f198 (fun _ h9 => h9) rfl (by decide +kernel) (rfl) (rfl) (Nat.le_of_ble_eq_true rfl) dX3_goneFrom_27 (fun H locs hP2 hD2 hS2 => ?_)
    clear hP hD hS
    have hPD : PD D A [(Nn, .inr (3, [.int (nI hp), .int (nI cc), .int zrs, .int zad, .int zpr, .int (nI t), .int zlo, .int zps, .ref Nl, .ref Nf, .ref Nb])), (Nl, .inl (g 1, 3, .inr (.inr (.inr (.inr (rf3 L0 M1 M2)))))), (L0, .inr (2, [.int (nI d0), .int (fk0 1), .int (fk0 2), .int (fv0 3), .int (fv0 4), .int (fv0 5), .ref L0c, .ref L0u, .ref L0p, .ref L0l])), (L0u, .inl (g 0, 15, .inl fu0)), (L0l, .inl (g 2, 3, .inr (.inr (.inr (.inr (rf3 L0a L0b L0d)))))), (L0a, .inr (1, [.int (fa0 0), .int (fa0 1), .int (fa0 2), .int (fa0 3), .int (fa0 4), .int (fa0 5), .int (fa0 6)])), (L0b, .inr (1, [.int (fb0 0), .int y_12, .int (fb0 2), .int (fb0 3), .int (fb0 4), .int (fb0 5), .int (fb0 6)])), (L0d, .inr (1, [.int (fd0 0), .int (fd0 1), .int (fd0 2), .int (fd0 3), .int (fd0 4), .int (fd0 5), .int (fd0 6)]))] H := ⟨hP2, hD2⟩
    have hS := hS2; clear hP2 hD2 hS2; have hP := hPD.1; have hD := hPD.2; clear hPD
    refine lv_aload hx hb dX3_goneFrom_30 (lv_at hl 0 rfl) ?_
    refine lv_dup hx hb dX3_goneFrom_32 rfl ?_
    refine va_get (D := D) (ci := 1) (v := .int (fb0 5)) (C := RX1) (T := TX1) (N := 7) hx hb hts iX1 hown hK hP 6 rfl rfl 5 (by decide) f201 (fun _ h9 => h9) rfl dX3_goneFrom_33 ?_
    refine lv_iconst (v := 1) hx hb dX3_goneFrom_36 (by decide) ?_
    refine lv_iadd hx hb dX3_goneFrom_37 ?_
    refine lv_topi (fun y_13 _ => ?_)
    refine va_put (D := D) (ci := 1) (v := .int y_13) (ty := .int) (C := RX1) (T := TX1) (N := 7) hx hb hts iX1 tyX1 tyX1_ok nmX1 hown hK hP hD hS 6 rfl rfl 5 (by decide) f201 (fun _ h9 => h9) rfl (by decide +kernel) (rfl) (rfl) (Nat.le_of_ble_eq_true rfl) dX3_goneFrom_38 (fun H locs hP2 hD2 hS2 => ?_)
    clear hP hD hS
    have hPD : PD D A [(Nn, .inr (3, [.int (nI hp), .int (nI cc), .int zrs, .int zad, .int zpr, .int (nI t), .int zlo, .int zps, .ref Nl, .ref Nf, .ref Nb])), (Nl, .inl (g 1, 3, .inr (.inr (.inr (.inr (rf3 L0 M1 M2)))))), (L0, .inr (2, [.int (nI d0), .int (fk0 1), .int (fk0 2), .int (fv0 3), .int (fv0 4), .int (fv0 5), .ref L0c, .ref L0u, .ref L0p, .ref L0l])), (L0u, .inl (g 0, 15, .inl fu0)), (L0l, .inl (g 2, 3, .inr (.inr (.inr (.inr (rf3 L0a L0b L0d)))))), (L0a, .inr (1, [.int (fa0 0), .int (fa0 1), .int (fa0 2), .int (fa0 3), .int (fa0 4), .int (fa0 5), .int (fa0 6)])), (L0b, .inr (1, [.int (fb0 0), .int y_12, .int (fb0 2), .int (fb0 3), .int (fb0 4), .int y_13, .int (fb0 6)])), (L0d, .inr (1, [.int (fd0 0), .int (fd0 1), .int (fd0 2), .int (fd0 3), .int (fd0 4), .int (fd0 5), .int (fd0 6)]))] H := ⟨hP2, hD2⟩
    have hS := hS2; clear hP2 hD2 hS2; have hP := hPD.1; have hD := hPD.2; clear hPD
    refine lv_aload hx hb dX3_goneFrom_41 (lv_at hl 0 rfl) ?_
    refine va_get (D := D) (ci := 1) (v := .int y_13) (C := RX1) (T := TX1) (N := 7) hx hb hts iX1 hown hK hP 6 rfl rfl 5 (by decide) f201 (fun _ h9 => h9) rfl dX3_goneFrom_43 ?_
    refine lv_aload_n hx hb dX3_goneFrom_46 rfl (lv_at hl 1 rfl) ?_
    refine va_get (D := D) (ci := 2) (v := .int (fk0 2)) (C := RX2) (T := TX2) (N := 10) hx hb hts iX2 hown hK hP 2 rfl rfl 2 (by decide) f204 (fun _ h9 => h9) rfl dX3_goneFrom_47 ?_
    refine lv_icmp_lt (tgt := 65) hx hb dX3_goneFrom_50 (by decide) (fun cb_14 => ?_) (fun cb_14 => ?_)
    · skip
      have hP9 := hP; have hD9 := hD
      subst hQ
      refine W.widen (k := 0) (n := 0) (Nat.le_of_ble_eq_true rfl) (Nat.le_of_ble_eq_true rfl) ?_
      exact W.vret hx hb hr (fun tS htS _ => ⟨⟨_, rfl, ⟨(lf2 [fv0, fu0, fa0, lf [fb0 0, y_12, fb0 2, 0, fb0 4, y_13, fb0 6], fd0]), zlo, rfl, (h3)⟩, by rw [htS]; exact hP9, hD9⟩, hS.F htS⟩) hS.2.2 dX3_goneFrom_65
    · skip
      refine lv_aload hx hb dX3_goneFrom_53 (lv_at hl 0 rfl) ?_
      refine lv_iconst (v := 0) hx hb dX3_goneFrom_55 (by decide) ?_
      refine va_put (D := D) (ci := 1) (v := .int 0) (ty := .int) (C := RX1) (T := TX1) (N := 7) hx hb hts iX1 tyX1 tyX1_ok nmX1 hown hK hP hD hS 6 rfl rfl 5 (by decide) f201 (fun _ h9 => h9) rfl (by decide +kernel) (rfl) (rfl) (Nat.le_of_ble_eq_true rfl) dX3_goneFrom_56 (fun H locs hP2 hD2 hS2 => ?_)
      clear hP hD hS
      have hPD : PD D A [(Nn, .inr (3, [.int (nI hp), .int (nI cc), .int zrs, .int zad, .int zpr, .int (nI t), .int zlo, .int zps, .ref Nl, .ref Nf, .ref Nb])), (Nl, .inl (g 1, 3, .inr (.inr (.inr (.inr (rf3 L0 M1 M2)))))), (L0, .inr (2, [.int (nI d0), .int (fk0 1), .int (fk0 2), .int (fv0 3), .int (fv0 4), .int (fv0 5), .ref L0c, .ref L0u, .ref L0p, .ref L0l])), (L0u, .inl (g 0, 15, .inl fu0)), (L0l, .inl (g 2, 3, .inr (.inr (.inr (.inr (rf3 L0a L0b L0d)))))), (L0a, .inr (1, [.int (fa0 0), .int (fa0 1), .int (fa0 2), .int (fa0 3), .int (fa0 4), .int (fa0 5), .int (fa0 6)])), (L0b, .inr (1, [.int (fb0 0), .int y_12, .int (fb0 2), .int (fb0 3), .int (fb0 4), .int 0, .int (fb0 6)])), (L0d, .inr (1, [.int (fd0 0), .int (fd0 1), .int (fd0 2), .int (fd0 3), .int (fd0 4), .int (fd0 5), .int (fd0 6)]))] H := ⟨hP2, hD2⟩
      have hS := hS2; clear hP2 hD2 hS2; have hP := hPD.1; have hD := hPD.2; clear hPD
      refine lv_aload_n hx hb dX3_goneFrom_59 rfl (lv_at hl 2 rfl) ?_
      refine lv_aload_n hx hb dX3_goneFrom_60 rfl (lv_at hl 1 rfl) ?_
      refine lv_iload_n hx hb dX3_goneFrom_61 rfl (lv_at hl 4 rfl) ?_
      refine ky_Vv (As := [.ref L0, .int (nI 1)]) (rest := []) ⟨hx, hb, hml, hown, hts⟩ ⟨hK, hN⟩ hZ hP hD hS hA [0, 2, 3, 4, 5, 6, 7] [1] (wc := [(Nn, .inr (3, [.int (nI hp), .int (nI cc), .int zrs, .int zad, .int zpr, .int (nI t), .int zlo, .int zps, .ref Nl, .ref Nf, .ref Nb])), (L0, .inr (2, [.int (nI d0), .int (fk0 1), .int (fk0 2), .int (fv0 3), .int (fv0 4), .int (fv0 5), .ref L0c, .ref L0u, .ref L0p, .ref L0l])), (L0u, .inl (g 0, 15, .inl fu0)), (L0l, .inl (g 2, 3, .inr (.inr (.inr (.inr (rf3 L0a L0b L0d)))))), (L0a, .inr (1, [.int (fa0 0), .int (fa0 1), .int (fa0 2), .int (fa0 3), .int (fa0 4), .int (fa0 5), .int (fa0 6)])), (L0b, .inr (1, [.int (fb0 0), .int y_12, .int (fb0 2), .int (fb0 3), .int (fb0 4), .int 0, .int (fb0 6)])), (L0d, .inr (1, [.int (fd0 0), .int (fd0 1), .int (fd0 2), .int (fd0 3), .int (fd0 4), .int (fd0 5), .int (fd0 6)]))]) (wr := [(Nl, .inl (g 1, 3, .inr (.inr (.inr (.inr (rf3 L0 M1 M2))))))]) rfl rfl rfl rfl (by decide) (k_X3_sendUpdate l D g H.size Nn L0 1 hp cc zrs zad zpr t zlo zps Nl Nf Nb d0 fk0 fv0 L0c L0u L0p L0l fu0 L0a L0b L0d fa0 (lf [fb0 0, y_12, fb0 2, fb0 3, fb0 4, 0, fb0 6]) fd0 (show 1 < 3 by omega) (show t < 2 ^ 30 by omega) (show d0 < 5 by omega) (h3)) (cwV 2 hts gX3_goneFrom_X3_sendUpdate rfl rfl rfl (by decide +kernel) ⟨(Nat.le_of_ble_eq_true rfl), (Nat.le_of_ble_eq_true rfl)⟩) 0 3 rfl rfl rfl rfl hl.1 rfl (Nat.le_of_ble_eq_true rfl) dX3_goneFrom_62 ⟨(Nat.le_of_ble_eq_true rfl), (Nat.le_of_ble_eq_true rfl)⟩ (fun u H locs hw hP2 hD2 hS2 => ?_)
      clear hP hD hS
      obtain ⟨zlox_16, fv0x_17, fu0x_18, rfl, hf_19⟩ := hw
      have hPD : PD D A [(Nl, .inl (g 1, 3, .inr (.inr (.inr (.inr (rf3 L0 M1 M2)))))), (Nn, .inr (3, [.int (nI hp), .int (nI cc), .int zrs, .int zad, .int zpr, .int (nI t), .int zlox_16, .int zps, .ref Nl, .ref Nf, .ref Nb])), (L0, .inr (2, [.int (nI d0), .int (fk0 1), .int (fk0 2), .int (fv0x_17 3), .int (fv0x_17 4), .int (fv0x_17 5), .ref L0c, .ref L0u, .ref L0p, .ref L0l])), (L0u, .inl (g 0, 15, .inl fu0x_18)), (L0l, .inl (g 2, 3, .inr (.inr (.inr (.inr (rf3 L0a L0b L0d)))))), (L0a, .inr (1, [.int (fa0 0), .int (fa0 1), .int (fa0 2), .int (fa0 3), .int (fa0 4), .int (fa0 5), .int (fa0 6)])), (L0b, .inr (1, [.int (fb0 0), .int y_12, .int (fb0 2), .int (fb0 3), .int (fb0 4), .int 0, .int (fb0 6)])), (L0d, .inr (1, [.int (fd0 0), .int (fd0 1), .int (fd0 2), .int (fd0 3), .int (fd0 4), .int (fd0 5), .int (fd0 6)]))] H := ⟨hP2, hD2⟩
      have hS := hS2; clear hP2 hD2 hS2; have hP := hPD.1; have hD := hPD.2; clear hPD
      refine W.widen (k := 0) (n := 0) (Nat.le_of_ble_eq_true rfl) (Nat.le_of_ble_eq_true rfl) ?_
      have hPD9 : PD D A [(Nn, .inr (3, [.int (nI hp), .int (nI cc), .int zrs, .int zad, .int zpr, .int (nI t), .int zlox_16, .int zps, .ref Nl, .ref Nf, .ref Nb])), (Nl, .inl (g 1, 3, .inr (.inr (.inr (.inr (rf3 L0 M1 M2)))))), (L0, .inr (2, [.int (nI d0), .int (fk0 1), .int (fk0 2), .int (fv0x_17 3), .int (fv0x_17 4), .int (fv0x_17 5), .ref L0c, .ref L0u, .ref L0p, .ref L0l])), (L0u, .inl (g 0, 15, .inl fu0x_18)), (L0l, .inl (g 2, 3, .inr (.inr (.inr (.inr (rf3 L0a L0b L0d)))))), (L0a, .inr (1, [.int (fa0 0), .int (fa0 1), .int (fa0 2), .int (fa0 3), .int (fa0 4), .int (fa0 5), .int (fa0 6)])), (L0b, .inr (1, [.int (fb0 0), .int y_12, .int (fb0 2), .int (fb0 3), .int (fb0 4), .int 0, .int (fb0 6)])), (L0d, .inr (1, [.int (fd0 0), .int (fd0 1), .int (fd0 2), .int (fd0 3), .int (fd0 4), .int (fd0 5), .int (fd0 6)]))] H := ⟨hP.sub [1, 0, 2, 3, 4, 5, 6, 7] rfl, hD.sub [1, 0, 2, 3, 4, 5, 6, 7] (by decide) rfl⟩
      have hP9 := hPD9.1; have hD9 := hPD9.2
      subst hQ
      refine W.widen (k := 0) (n := 0) (Nat.le_of_ble_eq_true rfl) (Nat.le_of_ble_eq_true rfl) ?_
      exact W.vret hx hb hr (fun tS htS _ => ⟨⟨_, rfl, ⟨(lf2 [fv0x_17, fu0x_18, fa0, lf [fb0 0, y_12, fb0 2, 0, fb0 4, 0, fb0 6], fd0]), zlox_16, rfl, (hf_19)⟩, by rw [htS]; exact hP9, hD9⟩, hS.F htS⟩) hS.2.2 dX3_goneFrom_65
  · skip
    have hP := hPq_1; have hD := hDq_1; have hS := hSq_1; have hl := hlq_1; clear hPq_1 hDq_1 hSq_1 hlq_1
    refine va_aldq (C := "HopCredits$Lane") hx hb hK hP 4 2 rfl rfl (by unfold vp_in; decide) dX3_goneFrom_12 ?_
    refine lv_eqv (v2 := .ref L0d) rfl ?_
    refine lv_astore (lv' := [(4, .ref L0d), (3, .ref L0), (0, .ref Nn), (1, .int 0), (2, .int (nI 2))]) hx hb dX3_goneFrom_13 hl (by decide) rfl (fun ls hl => ?_)
    refine lv_aload hx hb dX3_goneFrom_15 (lv_at hl 0 rfl) ?_
    refine lv_aload hx hb dX3_goneFrom_17 (lv_at hl 0 rfl) ?_
    refine va_get (D := D) (ci := 1) (v := .int (fd0 1)) (C := RX1) (T := TX1) (N := 7) hx hb hts iX1 hown hK hP 7 rfl rfl 1 (by decide) f198 (fun _ h9 => h9) rfl dX3_goneFrom_19 ?_
    refine lv_iconst (v := 1) hx hb dX3_goneFrom_22 (by decide) ?_
    refine lv_iadd hx hb dX3_goneFrom_23 ?_
    refine lv_topi (fun y_20 _ => ?_)
    refine lv_bipush (v := 63) hx hb dX3_goneFrom_24 (by decide) ?_
    refine lv_iand hx hb dX3_goneFrom_26 ?_
    refine lv_topi (fun y_21 _ => ?_)
    refine va_put (D := D) (ci := 1) (v := .int y_21) (ty := .int) (C := RX1) (T := TX1) (N := 7) hx hb hts iX1 tyX1 tyX1_ok nmX1 hown hK hP hD hS 7 rfl rfl 1 (by decide) f198 (fun _ h9 => h9) rfl (by decide +kernel) (rfl) (rfl) (Nat.le_of_ble_eq_true rfl) dX3_goneFrom_27 (fun H locs hP2 hD2 hS2 => ?_)
    clear hP hD hS
    have hPD : PD D A [(Nn, .inr (3, [.int (nI hp), .int (nI cc), .int zrs, .int zad, .int zpr, .int (nI t), .int zlo, .int zps, .ref Nl, .ref Nf, .ref Nb])), (Nl, .inl (g 1, 3, .inr (.inr (.inr (.inr (rf3 L0 M1 M2)))))), (L0, .inr (2, [.int (nI d0), .int (fk0 1), .int (fk0 2), .int (fv0 3), .int (fv0 4), .int (fv0 5), .ref L0c, .ref L0u, .ref L0p, .ref L0l])), (L0u, .inl (g 0, 15, .inl fu0)), (L0l, .inl (g 2, 3, .inr (.inr (.inr (.inr (rf3 L0a L0b L0d)))))), (L0a, .inr (1, [.int (fa0 0), .int (fa0 1), .int (fa0 2), .int (fa0 3), .int (fa0 4), .int (fa0 5), .int (fa0 6)])), (L0b, .inr (1, [.int (fb0 0), .int (fb0 1), .int (fb0 2), .int (fb0 3), .int (fb0 4), .int (fb0 5), .int (fb0 6)])), (L0d, .inr (1, [.int (fd0 0), .int y_21, .int (fd0 2), .int (fd0 3), .int (fd0 4), .int (fd0 5), .int (fd0 6)]))] H := ⟨hP2, hD2⟩
    have hS := hS2; clear hP2 hD2 hS2; have hP := hPD.1; have hD := hPD.2; clear hPD
    refine lv_aload hx hb dX3_goneFrom_30 (lv_at hl 0 rfl) ?_
    refine lv_dup hx hb dX3_goneFrom_32 rfl ?_
    refine va_get (D := D) (ci := 1) (v := .int (fd0 5)) (C := RX1) (T := TX1) (N := 7) hx hb hts iX1 hown hK hP 7 rfl rfl 5 (by decide) f201 (fun _ h9 => h9) rfl dX3_goneFrom_33 ?_
    refine lv_iconst (v := 1) hx hb dX3_goneFrom_36 (by decide) ?_
    refine lv_iadd hx hb dX3_goneFrom_37 ?_
    refine lv_topi (fun y_22 _ => ?_)
    refine va_put (D := D) (ci := 1) (v := .int y_22) (ty := .int) (C := RX1) (T := TX1) (N := 7) hx hb hts iX1 tyX1 tyX1_ok nmX1 hown hK hP hD hS 7 rfl rfl 5 (by decide) f201 (fun _ h9 => h9) rfl (by decide +kernel) (rfl) (rfl) (Nat.le_of_ble_eq_true rfl) dX3_goneFrom_38 (fun H locs hP2 hD2 hS2 => ?_)
    clear hP hD hS
    have hPD : PD D A [(Nn, .inr (3, [.int (nI hp), .int (nI cc), .int zrs, .int zad, .int zpr, .int (nI t), .int zlo, .int zps, .ref Nl, .ref Nf, .ref Nb])), (Nl, .inl (g 1, 3, .inr (.inr (.inr (.inr (rf3 L0 M1 M2)))))), (L0, .inr (2, [.int (nI d0), .int (fk0 1), .int (fk0 2), .int (fv0 3), .int (fv0 4), .int (fv0 5), .ref L0c, .ref L0u, .ref L0p, .ref L0l])), (L0u, .inl (g 0, 15, .inl fu0)), (L0l, .inl (g 2, 3, .inr (.inr (.inr (.inr (rf3 L0a L0b L0d)))))), (L0a, .inr (1, [.int (fa0 0), .int (fa0 1), .int (fa0 2), .int (fa0 3), .int (fa0 4), .int (fa0 5), .int (fa0 6)])), (L0b, .inr (1, [.int (fb0 0), .int (fb0 1), .int (fb0 2), .int (fb0 3), .int (fb0 4), .int (fb0 5), .int (fb0 6)])), (L0d, .inr (1, [.int (fd0 0), .int y_21, .int (fd0 2), .int (fd0 3), .int (fd0 4), .int y_22, .int (fd0 6)]))] H := ⟨hP2, hD2⟩
    have hS := hS2; clear hP2 hD2 hS2; have hP := hPD.1; have hD := hPD.2; clear hPD
    refine lv_aload hx hb dX3_goneFrom_41 (lv_at hl 0 rfl) ?_
    refine va_get (D := D) (ci := 1) (v := .int y_22) (C := RX1) (T := TX1) (N := 7) hx hb hts iX1 hown hK hP 7 rfl rfl 5 (by decide) f201 (fun _ h9 => h9) rfl dX3_goneFrom_43 ?_
    refine lv_aload_n hx hb dX3_goneFrom_46 rfl (lv_at hl 1 rfl) ?_
    refine va_get (D := D) (ci := 2) (v := .int (fk0 2)) (C := RX2) (T := TX2) (N := 10) hx hb hts iX2 hown hK hP 2 rfl rfl 2 (by decide) f204 (fun _ h9 => h9) rfl dX3_goneFrom_47 ?_
    refine lv_icmp_lt (tgt := 65) hx hb dX3_goneFrom_50 (by decide) (fun cb_23 => ?_) (fun cb_23 => ?_)
    · skip
      have hP9 := hP; have hD9 := hD
      subst hQ
      refine W.widen (k := 0) (n := 0) (Nat.le_of_ble_eq_true rfl) (Nat.le_of_ble_eq_true rfl) ?_
      exact W.vret hx hb hr (fun tS htS _ => ⟨⟨_, rfl, ⟨(lf2 [fv0, fu0, fa0, fb0, lf [fd0 0, y_21, fd0 2, 0, fd0 4, y_22, fd0 6]]), zlo, rfl, (h3)⟩, by rw [htS]; exact hP9, hD9⟩, hS.F htS⟩) hS.2.2 dX3_goneFrom_65
    · skip
      refine lv_aload hx hb dX3_goneFrom_53 (lv_at hl 0 rfl) ?_
      refine lv_iconst (v := 0) hx hb dX3_goneFrom_55 (by decide) ?_
      refine va_put (D := D) (ci := 1) (v := .int 0) (ty := .int) (C := RX1) (T := TX1) (N := 7) hx hb hts iX1 tyX1 tyX1_ok nmX1 hown hK hP hD hS 7 rfl rfl 5 (by decide) f201 (fun _ h9 => h9) rfl (by decide +kernel) (rfl) (rfl) (Nat.le_of_ble_eq_true rfl) dX3_goneFrom_56 (fun H locs hP2 hD2 hS2 => ?_)
      clear hP hD hS
      have hPD : PD D A [(Nn, .inr (3, [.int (nI hp), .int (nI cc), .int zrs, .int zad, .int zpr, .int (nI t), .int zlo, .int zps, .ref Nl, .ref Nf, .ref Nb])), (Nl, .inl (g 1, 3, .inr (.inr (.inr (.inr (rf3 L0 M1 M2)))))), (L0, .inr (2, [.int (nI d0), .int (fk0 1), .int (fk0 2), .int (fv0 3), .int (fv0 4), .int (fv0 5), .ref L0c, .ref L0u, .ref L0p, .ref L0l])), (L0u, .inl (g 0, 15, .inl fu0)), (L0l, .inl (g 2, 3, .inr (.inr (.inr (.inr (rf3 L0a L0b L0d)))))), (L0a, .inr (1, [.int (fa0 0), .int (fa0 1), .int (fa0 2), .int (fa0 3), .int (fa0 4), .int (fa0 5), .int (fa0 6)])), (L0b, .inr (1, [.int (fb0 0), .int (fb0 1), .int (fb0 2), .int (fb0 3), .int (fb0 4), .int (fb0 5), .int (fb0 6)])), (L0d, .inr (1, [.int (fd0 0), .int y_21, .int (fd0 2), .int (fd0 3), .int (fd0 4), .int 0, .int (fd0 6)]))] H := ⟨hP2, hD2⟩
      have hS := hS2; clear hP2 hD2 hS2; have hP := hPD.1; have hD := hPD.2; clear hPD
      refine lv_aload_n hx hb dX3_goneFrom_59 rfl (lv_at hl 2 rfl) ?_
      refine lv_aload_n hx hb dX3_goneFrom_60 rfl (lv_at hl 1 rfl) ?_
      refine lv_iload_n hx hb dX3_goneFrom_61 rfl (lv_at hl 4 rfl) ?_
      refine ky_Vv (As := [.ref L0, .int (nI 2)]) (rest := []) ⟨hx, hb, hml, hown, hts⟩ ⟨hK, hN⟩ hZ hP hD hS hA [0, 2, 3, 4, 5, 6, 7] [1] (wc := [(Nn, .inr (3, [.int (nI hp), .int (nI cc), .int zrs, .int zad, .int zpr, .int (nI t), .int zlo, .int zps, .ref Nl, .ref Nf, .ref Nb])), (L0, .inr (2, [.int (nI d0), .int (fk0 1), .int (fk0 2), .int (fv0 3), .int (fv0 4), .int (fv0 5), .ref L0c, .ref L0u, .ref L0p, .ref L0l])), (L0u, .inl (g 0, 15, .inl fu0)), (L0l, .inl (g 2, 3, .inr (.inr (.inr (.inr (rf3 L0a L0b L0d)))))), (L0a, .inr (1, [.int (fa0 0), .int (fa0 1), .int (fa0 2), .int (fa0 3), .int (fa0 4), .int (fa0 5), .int (fa0 6)])), (L0b, .inr (1, [.int (fb0 0), .int (fb0 1), .int (fb0 2), .int (fb0 3), .int (fb0 4), .int (fb0 5), .int (fb0 6)])), (L0d, .inr (1, [.int (fd0 0), .int y_21, .int (fd0 2), .int (fd0 3), .int (fd0 4), .int 0, .int (fd0 6)]))]) (wr := [(Nl, .inl (g 1, 3, .inr (.inr (.inr (.inr (rf3 L0 M1 M2))))))]) rfl rfl rfl rfl (by decide) (k_X3_sendUpdate l D g H.size Nn L0 2 hp cc zrs zad zpr t zlo zps Nl Nf Nb d0 fk0 fv0 L0c L0u L0p L0l fu0 L0a L0b L0d fa0 fb0 (lf [fd0 0, y_21, fd0 2, fd0 3, fd0 4, 0, fd0 6]) (show 2 < 3 by omega) (show t < 2 ^ 30 by omega) (show d0 < 5 by omega) (h3)) (cwV 2 hts gX3_goneFrom_X3_sendUpdate rfl rfl rfl (by decide +kernel) ⟨(Nat.le_of_ble_eq_true rfl), (Nat.le_of_ble_eq_true rfl)⟩) 0 3 rfl rfl rfl rfl hl.1 rfl (Nat.le_of_ble_eq_true rfl) dX3_goneFrom_62 ⟨(Nat.le_of_ble_eq_true rfl), (Nat.le_of_ble_eq_true rfl)⟩ (fun u H locs hw hP2 hD2 hS2 => ?_)
      clear hP hD hS
      obtain ⟨zlox_25, fv0x_26, fu0x_27, rfl, hf_28⟩ := hw
      have hPD : PD D A [(Nl, .inl (g 1, 3, .inr (.inr (.inr (.inr (rf3 L0 M1 M2)))))), (Nn, .inr (3, [.int (nI hp), .int (nI cc), .int zrs, .int zad, .int zpr, .int (nI t), .int zlox_25, .int zps, .ref Nl, .ref Nf, .ref Nb])), (L0, .inr (2, [.int (nI d0), .int (fk0 1), .int (fk0 2), .int (fv0x_26 3), .int (fv0x_26 4), .int (fv0x_26 5), .ref L0c, .ref L0u, .ref L0p, .ref L0l])), (L0u, .inl (g 0, 15, .inl fu0x_27)), (L0l, .inl (g 2, 3, .inr (.inr (.inr (.inr (rf3 L0a L0b L0d)))))), (L0a, .inr (1, [.int (fa0 0), .int (fa0 1), .int (fa0 2), .int (fa0 3), .int (fa0 4), .int (fa0 5), .int (fa0 6)])), (L0b, .inr (1, [.int (fb0 0), .int (fb0 1), .int (fb0 2), .int (fb0 3), .int (fb0 4), .int (fb0 5), .int (fb0 6)])), (L0d, .inr (1, [.int (fd0 0), .int y_21, .int (fd0 2), .int (fd0 3), .int (fd0 4), .int 0, .int (fd0 6)]))] H := ⟨hP2, hD2⟩
      have hS := hS2; clear hP2 hD2 hS2; have hP := hPD.1; have hD := hPD.2; clear hPD
      refine W.widen (k := 0) (n := 0) (Nat.le_of_ble_eq_true rfl) (Nat.le_of_ble_eq_true rfl) ?_
      have hPD9 : PD D A [(Nn, .inr (3, [.int (nI hp), .int (nI cc), .int zrs, .int zad, .int zpr, .int (nI t), .int zlox_25, .int zps, .ref Nl, .ref Nf, .ref Nb])), (Nl, .inl (g 1, 3, .inr (.inr (.inr (.inr (rf3 L0 M1 M2)))))), (L0, .inr (2, [.int (nI d0), .int (fk0 1), .int (fk0 2), .int (fv0x_26 3), .int (fv0x_26 4), .int (fv0x_26 5), .ref L0c, .ref L0u, .ref L0p, .ref L0l])), (L0u, .inl (g 0, 15, .inl fu0x_27)), (L0l, .inl (g 2, 3, .inr (.inr (.inr (.inr (rf3 L0a L0b L0d)))))), (L0a, .inr (1, [.int (fa0 0), .int (fa0 1), .int (fa0 2), .int (fa0 3), .int (fa0 4), .int (fa0 5), .int (fa0 6)])), (L0b, .inr (1, [.int (fb0 0), .int (fb0 1), .int (fb0 2), .int (fb0 3), .int (fb0 4), .int (fb0 5), .int (fb0 6)])), (L0d, .inr (1, [.int (fd0 0), .int y_21, .int (fd0 2), .int (fd0 3), .int (fd0 4), .int 0, .int (fd0 6)]))] H := ⟨hP.sub [1, 0, 2, 3, 4, 5, 6, 7] rfl, hD.sub [1, 0, 2, 3, 4, 5, 6, 7] (by decide) rfl⟩
      have hP9 := hPD9.1; have hD9 := hPD9.2
      subst hQ
      refine W.widen (k := 0) (n := 0) (Nat.le_of_ble_eq_true rfl) (Nat.le_of_ble_eq_true rfl) ?_
      exact W.vret hx hb hr (fun tS htS _ => ⟨⟨_, rfl, ⟨(lf2 [fv0x_26, fu0x_27, fa0, fb0, lf [fd0 0, y_21, fd0 2, 0, fd0 4, 0, fd0 6]]), zlox_25, rfl, (hf_28)⟩, by rw [htS]; exact hP9, hD9⟩, hS.F htS⟩) hS.2.2 dX3_goneFrom_65

set_option maxHeartbeats 4000000 in
set_option maxRecDepth 100000 in
theorem k_X3_goneFrom_1 (l : Launch) (D : va_G) (g : Nat → ClassId) (sz : Nat) (Nn : Nat) (cx : Nat) (hp : Nat) (cc : Nat) (zrs : Int32) (zad : Int32) (zpr : Int32) (t : Nat) (zlo : Int32) (zps : Int32) (Nl : Nat) (Nf : Nat) (Nb : Nat) (M0 : Nat) (L0 : Nat) (M2 : Nat) (d0 : Nat) (fk0 : Nat → Int32) (fv0 : Nat → Int32) (L0c : Nat) (L0u : Nat) (L0p : Nat) (L0l : Nat) (fu0 : Nat → Int32) (L0a : Nat) (L0b : Nat) (L0d : Nat) (fa0 : Nat → Int32) (fb0 : Nat → Int32) (fd0 : Nat → Int32) (h0 : cx < 3) (h1 : t < 2 ^ 30) (h2 : d0 < 5) (h3 : okc (fv0 4)) : Met l yX3_goneFrom wsX3_goneFrom ({ frames := 1, cells := 0, slots := 0, locals := 22 }) (va_Pc [.ref Nn, .int 1, .int (nI cx)] (pre D g sz [(Nn, .inr (3, [.int (nI hp), .int (nI cc), .int zrs, .int zad, .int zpr, .int (nI t), .int zlo, .int zps, .ref Nl, .ref Nf, .ref Nb])), (Nl, .inl (g 1, 3, .inr (.inr (.inr (.inr (rf3 M0 L0 M2)))))), (L0, .inr (2, [.int (nI d0), .int (fk0 1), .int (fk0 2), .int (fv0 3), .int (fv0 4), .int (fv0 5), .ref L0c, .ref L0u, .ref L0p, .ref L0l])), (L0u, .inl (g 0, 15, .inl fu0)), (L0l, .inl (g 2, 3, .inr (.inr (.inr (.inr (rf3 L0a L0b L0d)))))), (L0a, .inr (1, [.int (fa0 0), .int (fa0 1), .int (fa0 2), .int (fa0 3), .int (fa0 4), .int (fa0 5), .int (fa0 6)])), (L0b, .inr (1, [.int (fb0 0), .int (fb0 1), .int (fb0 2), .int (fb0 3), .int (fb0 4), .int (fb0 5), .int (fb0 6)])), (L0d, .inr (1, [.int (fd0 0), .int (fd0 1), .int (fd0 2), .int (fd0 3), .int (fd0 4), .int (fd0 5), .int (fd0 6)]))])) (va_Qv (fun (u : va_W) => ∃ (PF : Nat → Nat → Int32) (zlox : Int32), u = [(Nn, .inr (3, [.int (nI hp), .int (nI cc), .int zrs, .int zad, .int zpr, .int (nI t), .int zlox, .int zps, .ref Nl, .ref Nf, .ref Nb])), (Nl, .inl (g 1, 3, .inr (.inr (.inr (.inr (rf3 M0 L0 M2)))))), (L0, .inr (2, [.int (nI d0), .int (fk0 1), .int (fk0 2), .int ((PF 0) 3), .int ((PF 0) 4), .int ((PF 0) 5), .ref L0c, .ref L0u, .ref L0p, .ref L0l])), (L0u, .inl (g 0, 15, .inl (PF 1))), (L0l, .inl (g 2, 3, .inr (.inr (.inr (.inr (rf3 L0a L0b L0d)))))), (L0a, .inr (1, [.int ((PF 2) 0), .int ((PF 2) 1), .int ((PF 2) 2), .int (fa0 3), .int ((PF 2) 4), .int ((PF 2) 5), .int ((PF 2) 6)])), (L0b, .inr (1, [.int ((PF 3) 0), .int ((PF 3) 1), .int ((PF 3) 2), .int (fb0 3), .int ((PF 3) 4), .int ((PF 3) 5), .int ((PF 3) 6)])), (L0d, .inr (1, [.int ((PF 4) 0), .int ((PF 4) 1), .int ((PF 4) 2), .int (fd0 3), .int ((PF 4) 4), .int ((PF 4) 5), .int ((PF 4) 6)]))] ∧ (okc ((PF 0) 4))) (wd D (va_A [(Nn, .inr (3, [.int (nI hp), .int (nI cc), .int zrs, .int zad, .int zpr, .int (nI t), .int zlo, .int zps, .ref Nl, .ref Nf, .ref Nb])), (Nl, .inl (g 1, 3, .inr (.inr (.inr (.inr (rf3 M0 L0 M2)))))), (L0, .inr (2, [.int (nI d0), .int (fk0 1), .int (fk0 2), .int (fv0 3), .int (fv0 4), .int (fv0 5), .ref L0c, .ref L0u, .ref L0p, .ref L0l])), (L0u, .inl (g 0, 15, .inl fu0)), (L0l, .inl (g 2, 3, .inr (.inr (.inr (.inr (rf3 L0a L0b L0d)))))), (L0a, .inr (1, [.int (fa0 0), .int (fa0 1), .int (fa0 2), .int (fa0 3), .int (fa0 4), .int (fa0 5), .int (fa0 6)])), (L0b, .inr (1, [.int (fb0 0), .int (fb0 1), .int (fb0 2), .int (fb0 3), .int (fb0 4), .int (fb0 5), .int (fb0 6)])), (L0d, .inr (1, [.int (fd0 0), .int (fd0 1), .int (fd0 2), .int (fd0 3), .int (fd0 4), .int (fd0 5), .int (fd0 6)]))] sz)) (va_A [(Nn, .inr (3, [.int (nI hp), .int (nI cc), .int zrs, .int zad, .int zpr, .int (nI t), .int zlo, .int zps, .ref Nl, .ref Nf, .ref Nb])), (Nl, .inl (g 1, 3, .inr (.inr (.inr (.inr (rf3 M0 L0 M2)))))), (L0, .inr (2, [.int (nI d0), .int (fk0 1), .int (fk0 2), .int (fv0 3), .int (fv0 4), .int (fv0 5), .ref L0c, .ref L0u, .ref L0p, .ref L0l])), (L0u, .inl (g 0, 15, .inl fu0)), (L0l, .inl (g 2, 3, .inr (.inr (.inr (.inr (rf3 L0a L0b L0d)))))), (L0a, .inr (1, [.int (fa0 0), .int (fa0 1), .int (fa0 2), .int (fa0 3), .int (fa0 4), .int (fa0 5), .int (fa0 6)])), (L0b, .inr (1, [.int (fb0 0), .int (fb0 1), .int (fb0 2), .int (fb0 3), .int (fb0 4), .int (fb0 5), .int (fb0 6)])), (L0d, .inr (1, [.int (fd0 0), .int (fd0 1), .int (fd0 2), .int (fd0 3), .int (fd0 4), .int (fd0 5), .int (fd0 6)]))] sz)) 0 0 (va_A [(Nn, .inr (3, [.int (nI hp), .int (nI cc), .int zrs, .int zad, .int zpr, .int (nI t), .int zlo, .int zps, .ref Nl, .ref Nf, .ref Nb])), (Nl, .inl (g 1, 3, .inr (.inr (.inr (.inr (rf3 M0 L0 M2)))))), (L0, .inr (2, [.int (nI d0), .int (fk0 1), .int (fk0 2), .int (fv0 3), .int (fv0 4), .int (fv0 5), .ref L0c, .ref L0u, .ref L0p, .ref L0l])), (L0u, .inl (g 0, 15, .inl fu0)), (L0l, .inl (g 2, 3, .inr (.inr (.inr (.inr (rf3 L0a L0b L0d)))))), (L0a, .inr (1, [.int (fa0 0), .int (fa0 1), .int (fa0 2), .int (fa0 3), .int (fa0 4), .int (fa0 5), .int (fa0 6)])), (L0b, .inr (1, [.int (fb0 0), .int (fb0 1), .int (fb0 2), .int (fb0 3), .int (fb0 4), .int (fb0 5), .int (fb0 6)])), (L0d, .inr (1, [.int (fd0 0), .int (fd0 1), .int (fd0 2), .int (fd0 3), .int (fd0 4), .int (fd0 5), .int (fd0 6)]))] sz) := by
  refine Met.ofW (cc := cX3_goneFrom) (maxL := 5) (ret := none) (by decide) rfl ?_
  intro p e s m args below meth c s₁ B hml hv
  obtain ⟨rfl, hsz, hP, ⟨hK, hN⟩, hD0, hZ⟩ := hv
  have hx := B.exec
  have hb := B.bytes
  have hr := B.returns
  have hts := atoms_spec (ws := wsX3_goneFrom) B.pre
  have hown : s.vm.findClass RX3 = some m.cls := findClass_of_methodNamed B.named
  have hlocks := B.notSynchronized
  clear B
  subst hsz
  have hD := hD0.self (sz := s.heap.size)
  clear hD0
  generalize hAe : va_A [(Nn, .inr (3, [.int (nI hp), .int (nI cc), .int zrs, .int zad, .int zpr, .int (nI t), .int zlo, .int zps, .ref Nl, .ref Nf, .ref Nb])), (Nl, .inl (g 1, 3, .inr (.inr (.inr (.inr (rf3 M0 L0 M2)))))), (L0, .inr (2, [.int (nI d0), .int (fk0 1), .int (fk0 2), .int (fv0 3), .int (fv0 4), .int (fv0 5), .ref L0c, .ref L0u, .ref L0p, .ref L0l])), (L0u, .inl (g 0, 15, .inl fu0)), (L0l, .inl (g 2, 3, .inr (.inr (.inr (.inr (rf3 L0a L0b L0d)))))), (L0a, .inr (1, [.int (fa0 0), .int (fa0 1), .int (fa0 2), .int (fa0 3), .int (fa0 4), .int (fa0 5), .int (fa0 6)])), (L0b, .inr (1, [.int (fb0 0), .int (fb0 1), .int (fb0 2), .int (fb0 3), .int (fb0 4), .int (fb0 5), .int (fb0 6)])), (L0d, .inr (1, [.int (fd0 0), .int (fd0 1), .int (fd0 2), .int (fd0 3), .int (fd0 4), .int (fd0 5), .int (fd0 6)]))] s.heap.size = A at hD hZ ⊢
  have hA : ∀ q : Nat, s.heap.size ≤ q → A q := fun q h => by rw [← hAe]; exact Or.inr h
  have hS : va_S A s.heap s.heap [] := va_S.rf
  have f11 := hts (.fieldLink RX3 11 "HopCredits$Net" "links" "[LHopCredits$Link;") (List.mem_of_getElem? (i := 1) rfl)
  have f128 := hts (.fieldLink RX3 128 "HopCredits$Link" "lanes" "[LHopCredits$Lane;") (List.mem_of_getElem? (i := 2) rfl)
  have f198 := hts (.fieldLink RX3 198 "HopCredits$Lane" "gone" "I") (List.mem_of_getElem? (i := 3) rfl)
  have f201 := hts (.fieldLink RX3 201 "HopCredits$Lane" "sinceUpdate" "I") (List.mem_of_getElem? (i := 4) rfl)
  have f204 := hts (.fieldLink RX3 204 "HopCredits$Link" "every" "I") (List.mem_of_getElem? (i := 5) rfl)
  have iX1 : ∀ w ∈ u_ws RX1 TX1 7, w ∈ wsX3_goneFrom := fun w h => List.mem_cons_of_mem _ (List.mem_append_right _ (h))
  have iX2 : ∀ w ∈ u_ws RX2 TX2 10, w ∈ wsX3_goneFrom := fun w h => List.mem_cons_of_mem _ (List.mem_append_left _ (List.mem_append_right _ (h)))
  have iX3 : ∀ w ∈ u_ws RX3 TX3 11, w ∈ wsX3_goneFrom := fun w h => List.mem_cons_of_mem _ (List.mem_append_left _ (List.mem_append_left _ (List.mem_append_right _ (h))))
  have hl := lv_entry ([.ref Nn, .int 1, .int (nI cx)]) (n := 5) (Nat.le_of_ble_eq_true rfl)
  rw [lg_entry_eq]
  generalize (lg_sl ([.ref Nn, .int 1, .int (nI cx)]) ++ List.replicate (5 - (lg_sl ([.ref Nn, .int 1, .int (nI cx)])).length) Slot.unset).toArray = ls at hl ⊢
  have hl : lv_has ls 5 [(0, .ref Nn), (1, .int 1), (2, .int (nI cx))] := hl
  generalize hQ : MQ below _ _ s _ _ _ = Q
  generalize hH : s.heap = H at hP ⊢
  have hS : va_S A s.heap H [] := by rw [← hH]; exact hS
  clear hH
  refine lv_aload_n hx hb dX3_goneFrom_0 rfl (lv_at hl 0 rfl) ?_
  refine va_get (D := D) (ci := 3) (v := .ref Nl) (C := RX3) (T := TX3) (N := 11) hx hb hts iX3 hown hK hP 0 rfl rfl 8 (by decide) f11 (fun _ h9 => h9) rfl dX3_goneFrom_1 ?_
  refine lv_iload_n hx hb dX3_goneFrom_4 rfl (lv_at hl 1 rfl) ?_
  refine va_aldq (C := "HopCredits$Link") hx hb hK hP 1 1 rfl rfl (by unfold vp_in; decide) dX3_goneFrom_5 ?_
  refine lv_eqv (v2 := .ref L0) rfl ?_
  refine lv_astore_n (lv' := [(3, .ref L0), (0, .ref Nn), (1, .int 1), (2, .int (nI cx))]) hx hb dX3_goneFrom_6 rfl hl (by decide) rfl (fun ls hl => ?_)
  refine lv_aload_n hx hb dX3_goneFrom_7 rfl (lv_at hl 0 rfl) ?_
  refine va_get (D := D) (ci := 2) (v := .ref L0l) (C := RX2) (T := TX2) (N := 10) hx hb hts iX2 hown hK hP 2 rfl rfl 9 (by decide) f128 (fun _ h9 => h9) rfl dX3_goneFrom_8 ?_
  refine lv_iload_n hx hb dX3_goneFrom_11 rfl (lv_at hl 3 rfl) ?_
  have hPq_1 := hP; have hDq_1 := hD; have hSq_1 := hS; have hlq_1 := hl; clear hP hD hS hl
  rcases (show cx = 0 ∨ cx = 1 ∨ cx = 2 by omega) with rfl | rfl | rfl
  · skip
    have hP := hPq_1; have hD := hDq_1; have hS := hSq_1; have hl := hlq_1; clear hPq_1 hDq_1 hSq_1 hlq_1
    refine va_aldq (C := "HopCredits$Lane") hx hb hK hP 4 2 rfl rfl (by unfold vp_in; decide) dX3_goneFrom_12 ?_
    refine lv_eqv (v2 := .ref L0a) rfl ?_
    refine lv_astore (lv' := [(4, .ref L0a), (3, .ref L0), (0, .ref Nn), (1, .int 1), (2, .int (nI 0))]) hx hb dX3_goneFrom_13 hl (by decide) rfl (fun ls hl => ?_)
    refine lv_aload hx hb dX3_goneFrom_15 (lv_at hl 0 rfl) ?_
    refine lv_aload hx hb dX3_goneFrom_17 (lv_at hl 0 rfl) ?_
    refine va_get (D := D) (ci := 1) (v := .int (fa0 1)) (C := RX1) (T := TX1) (N := 7) hx hb hts iX1 hown hK hP 5 rfl rfl 1 (by decide) f198 (fun _ h9 => h9) rfl dX3_goneFrom_19 ?_
    refine lv_iconst (v := 1) hx hb dX3_goneFrom_22 (by decide) ?_
    refine lv_iadd hx hb dX3_goneFrom_23 ?_
    refine lv_topi (fun y_2 _ => ?_)
    refine lv_bipush (v := 63) hx hb dX3_goneFrom_24 (by decide) ?_
    refine lv_iand hx hb dX3_goneFrom_26 ?_
    refine lv_topi (fun y_3 _ => ?_)
    refine va_put (D := D) (ci := 1) (v := .int y_3) (ty := .int) (C := RX1) (T := TX1) (N := 7) hx hb hts iX1 tyX1 tyX1_ok nmX1 hown hK hP hD hS 5 rfl rfl 1 (by decide) f198 (fun _ h9 => h9) rfl (by decide +kernel) (rfl) (rfl) (Nat.le_of_ble_eq_true rfl) dX3_goneFrom_27 (fun H locs hP2 hD2 hS2 => ?_)
    clear hP hD hS
    have hPD : PD D A [(Nn, .inr (3, [.int (nI hp), .int (nI cc), .int zrs, .int zad, .int zpr, .int (nI t), .int zlo, .int zps, .ref Nl, .ref Nf, .ref Nb])), (Nl, .inl (g 1, 3, .inr (.inr (.inr (.inr (rf3 M0 L0 M2)))))), (L0, .inr (2, [.int (nI d0), .int (fk0 1), .int (fk0 2), .int (fv0 3), .int (fv0 4), .int (fv0 5), .ref L0c, .ref L0u, .ref L0p, .ref L0l])), (L0u, .inl (g 0, 15, .inl fu0)), (L0l, .inl (g 2, 3, .inr (.inr (.inr (.inr (rf3 L0a L0b L0d)))))), (L0a, .inr (1, [.int (fa0 0), .int y_3, .int (fa0 2), .int (fa0 3), .int (fa0 4), .int (fa0 5), .int (fa0 6)])), (L0b, .inr (1, [.int (fb0 0), .int (fb0 1), .int (fb0 2), .int (fb0 3), .int (fb0 4), .int (fb0 5), .int (fb0 6)])), (L0d, .inr (1, [.int (fd0 0), .int (fd0 1), .int (fd0 2), .int (fd0 3), .int (fd0 4), .int (fd0 5), .int (fd0 6)]))] H := ⟨hP2, hD2⟩
    have hS := hS2; clear hP2 hD2 hS2; have hP := hPD.1; have hD := hPD.2; clear hPD
    refine lv_aload hx hb dX3_goneFrom_30 (lv_at hl 0 rfl) ?_
    refine lv_dup hx hb dX3_goneFrom_32 rfl ?_
    refine va_get (D := D) (ci := 1) (v := .int (fa0 5)) (C := RX1) (T := TX1) (N := 7) hx hb hts iX1 hown hK hP 5 rfl rfl 5 (by decide) f201 (fun _ h9 => h9) rfl dX3_goneFrom_33 ?_
    refine lv_iconst (v := 1) hx hb dX3_goneFrom_36 (by decide) ?_
    refine lv_iadd hx hb dX3_goneFrom_37 ?_
    refine lv_topi (fun y_4 _ => ?_)
    refine va_put (D := D) (ci := 1) (v := .int y_4) (ty := .int) (C := RX1) (T := TX1) (N := 7) hx hb hts iX1 tyX1 tyX1_ok nmX1 hown hK hP hD hS 5 rfl rfl 5 (by decide) f201 (fun _ h9 => h9) rfl (by decide +kernel) (rfl) (rfl) (Nat.le_of_ble_eq_true rfl) dX3_goneFrom_38 (fun H locs hP2 hD2 hS2 => ?_)
    clear hP hD hS
    have hPD : PD D A [(Nn, .inr (3, [.int (nI hp), .int (nI cc), .int zrs, .int zad, .int zpr, .int (nI t), .int zlo, .int zps, .ref Nl, .ref Nf, .ref Nb])), (Nl, .inl (g 1, 3, .inr (.inr (.inr (.inr (rf3 M0 L0 M2)))))), (L0, .inr (2, [.int (nI d0), .int (fk0 1), .int (fk0 2), .int (fv0 3), .int (fv0 4), .int (fv0 5), .ref L0c, .ref L0u, .ref L0p, .ref L0l])), (L0u, .inl (g 0, 15, .inl fu0)), (L0l, .inl (g 2, 3, .inr (.inr (.inr (.inr (rf3 L0a L0b L0d)))))), (L0a, .inr (1, [.int (fa0 0), .int y_3, .int (fa0 2), .int (fa0 3), .int (fa0 4), .int y_4, .int (fa0 6)])), (L0b, .inr (1, [.int (fb0 0), .int (fb0 1), .int (fb0 2), .int (fb0 3), .int (fb0 4), .int (fb0 5), .int (fb0 6)])), (L0d, .inr (1, [.int (fd0 0), .int (fd0 1), .int (fd0 2), .int (fd0 3), .int (fd0 4), .int (fd0 5), .int (fd0 6)]))] H := ⟨hP2, hD2⟩
    have hS := hS2; clear hP2 hD2 hS2; have hP := hPD.1; have hD := hPD.2; clear hPD
    refine lv_aload hx hb dX3_goneFrom_41 (lv_at hl 0 rfl) ?_
    refine va_get (D := D) (ci := 1) (v := .int y_4) (C := RX1) (T := TX1) (N := 7) hx hb hts iX1 hown hK hP 5 rfl rfl 5 (by decide) f201 (fun _ h9 => h9) rfl dX3_goneFrom_43 ?_
    refine lv_aload_n hx hb dX3_goneFrom_46 rfl (lv_at hl 1 rfl) ?_
    refine va_get (D := D) (ci := 2) (v := .int (fk0 2)) (C := RX2) (T := TX2) (N := 10) hx hb hts iX2 hown hK hP 2 rfl rfl 2 (by decide) f204 (fun _ h9 => h9) rfl dX3_goneFrom_47 ?_
    refine lv_icmp_lt (tgt := 65) hx hb dX3_goneFrom_50 (by decide) (fun cb_5 => ?_) (fun cb_5 => ?_)
    · skip
      have hP9 := hP; have hD9 := hD
      subst hQ
      refine W.widen (k := 0) (n := 0) (Nat.le_of_ble_eq_true rfl) (Nat.le_of_ble_eq_true rfl) ?_
      exact W.vret hx hb hr (fun tS htS _ => ⟨⟨_, rfl, ⟨(lf2 [fv0, fu0, lf [fa0 0, y_3, fa0 2, 0, fa0 4, y_4, fa0 6], fb0, fd0]), zlo, rfl, (h3)⟩, by rw [htS]; exact hP9, hD9⟩, hS.F htS⟩) hS.2.2 dX3_goneFrom_65
    · skip
      refine lv_aload hx hb dX3_goneFrom_53 (lv_at hl 0 rfl) ?_
      refine lv_iconst (v := 0) hx hb dX3_goneFrom_55 (by decide) ?_
      refine va_put (D := D) (ci := 1) (v := .int 0) (ty := .int) (C := RX1) (T := TX1) (N := 7) hx hb hts iX1 tyX1 tyX1_ok nmX1 hown hK hP hD hS 5 rfl rfl 5 (by decide) f201 (fun _ h9 => h9) rfl (by decide +kernel) (rfl) (rfl) (Nat.le_of_ble_eq_true rfl) dX3_goneFrom_56 (fun H locs hP2 hD2 hS2 => ?_)
      clear hP hD hS
      have hPD : PD D A [(Nn, .inr (3, [.int (nI hp), .int (nI cc), .int zrs, .int zad, .int zpr, .int (nI t), .int zlo, .int zps, .ref Nl, .ref Nf, .ref Nb])), (Nl, .inl (g 1, 3, .inr (.inr (.inr (.inr (rf3 M0 L0 M2)))))), (L0, .inr (2, [.int (nI d0), .int (fk0 1), .int (fk0 2), .int (fv0 3), .int (fv0 4), .int (fv0 5), .ref L0c, .ref L0u, .ref L0p, .ref L0l])), (L0u, .inl (g 0, 15, .inl fu0)), (L0l, .inl (g 2, 3, .inr (.inr (.inr (.inr (rf3 L0a L0b L0d)))))), (L0a, .inr (1, [.int (fa0 0), .int y_3, .int (fa0 2), .int (fa0 3), .int (fa0 4), .int 0, .int (fa0 6)])), (L0b, .inr (1, [.int (fb0 0), .int (fb0 1), .int (fb0 2), .int (fb0 3), .int (fb0 4), .int (fb0 5), .int (fb0 6)])), (L0d, .inr (1, [.int (fd0 0), .int (fd0 1), .int (fd0 2), .int (fd0 3), .int (fd0 4), .int (fd0 5), .int (fd0 6)]))] H := ⟨hP2, hD2⟩
      have hS := hS2; clear hP2 hD2 hS2; have hP := hPD.1; have hD := hPD.2; clear hPD
      refine lv_aload_n hx hb dX3_goneFrom_59 rfl (lv_at hl 2 rfl) ?_
      refine lv_aload_n hx hb dX3_goneFrom_60 rfl (lv_at hl 1 rfl) ?_
      refine lv_iload_n hx hb dX3_goneFrom_61 rfl (lv_at hl 4 rfl) ?_
      refine ky_Vv (As := [.ref L0, .int (nI 0)]) (rest := []) ⟨hx, hb, hml, hown, hts⟩ ⟨hK, hN⟩ hZ hP hD hS hA [0, 2, 3, 4, 5, 6, 7] [1] (wc := [(Nn, .inr (3, [.int (nI hp), .int (nI cc), .int zrs, .int zad, .int zpr, .int (nI t), .int zlo, .int zps, .ref Nl, .ref Nf, .ref Nb])), (L0, .inr (2, [.int (nI d0), .int (fk0 1), .int (fk0 2), .int (fv0 3), .int (fv0 4), .int (fv0 5), .ref L0c, .ref L0u, .ref L0p, .ref L0l])), (L0u, .inl (g 0, 15, .inl fu0)), (L0l, .inl (g 2, 3, .inr (.inr (.inr (.inr (rf3 L0a L0b L0d)))))), (L0a, .inr (1, [.int (fa0 0), .int y_3, .int (fa0 2), .int (fa0 3), .int (fa0 4), .int 0, .int (fa0 6)])), (L0b, .inr (1, [.int (fb0 0), .int (fb0 1), .int (fb0 2), .int (fb0 3), .int (fb0 4), .int (fb0 5), .int (fb0 6)])), (L0d, .inr (1, [.int (fd0 0), .int (fd0 1), .int (fd0 2), .int (fd0 3), .int (fd0 4), .int (fd0 5), .int (fd0 6)]))]) (wr := [(Nl, .inl (g 1, 3, .inr (.inr (.inr (.inr (rf3 M0 L0 M2))))))]) rfl rfl rfl rfl (by decide) (k_X3_sendUpdate l D g H.size Nn L0 0 hp cc zrs zad zpr t zlo zps Nl Nf Nb d0 fk0 fv0 L0c L0u L0p L0l fu0 L0a L0b L0d (lf [fa0 0, y_3, fa0 2, fa0 3, fa0 4, 0, fa0 6]) fb0 fd0 (show 0 < 3 by omega) (show t < 2 ^ 30 by omega) (show d0 < 5 by omega) (h3)) (cwV 2 hts gX3_goneFrom_X3_sendUpdate rfl rfl rfl (by decide +kernel) ⟨(Nat.le_of_ble_eq_true rfl), (Nat.le_of_ble_eq_true rfl)⟩) 0 3 rfl rfl rfl rfl hl.1 rfl (Nat.le_of_ble_eq_true rfl) dX3_goneFrom_62 ⟨(Nat.le_of_ble_eq_true rfl), (Nat.le_of_ble_eq_true rfl)⟩ (fun u H locs hw hP2 hD2 hS2 => ?_)
      clear hP hD hS
      obtain ⟨zlox_7, fv0x_8, fu0x_9, rfl, hf_10⟩ := hw
      have hPD : PD D A [(Nl, .inl (g 1, 3, .inr (.inr (.inr (.inr (rf3 M0 L0 M2)))))), (Nn, .inr (3, [.int (nI hp), .int (nI cc), .int zrs, .int zad, .int zpr, .int (nI t), .int zlox_7, .int zps, .ref Nl, .ref Nf, .ref Nb])), (L0, .inr (2, [.int (nI d0), .int (fk0 1), .int (fk0 2), .int (fv0x_8 3), .int (fv0x_8 4), .int (fv0x_8 5), .ref L0c, .ref L0u, .ref L0p, .ref L0l])), (L0u, .inl (g 0, 15, .inl fu0x_9)), (L0l, .inl (g 2, 3, .inr (.inr (.inr (.inr (rf3 L0a L0b L0d)))))), (L0a, .inr (1, [.int (fa0 0), .int y_3, .int (fa0 2), .int (fa0 3), .int (fa0 4), .int 0, .int (fa0 6)])), (L0b, .inr (1, [.int (fb0 0), .int (fb0 1), .int (fb0 2), .int (fb0 3), .int (fb0 4), .int (fb0 5), .int (fb0 6)])), (L0d, .inr (1, [.int (fd0 0), .int (fd0 1), .int (fd0 2), .int (fd0 3), .int (fd0 4), .int (fd0 5), .int (fd0 6)]))] H := ⟨hP2, hD2⟩
      have hS := hS2; clear hP2 hD2 hS2; have hP := hPD.1; have hD := hPD.2; clear hPD
      refine W.widen (k := 0) (n := 0) (Nat.le_of_ble_eq_true rfl) (Nat.le_of_ble_eq_true rfl) ?_
      have hPD9 : PD D A [(Nn, .inr (3, [.int (nI hp), .int (nI cc), .int zrs, .int zad, .int zpr, .int (nI t), .int zlox_7, .int zps, .ref Nl, .ref Nf, .ref Nb])), (Nl, .inl (g 1, 3, .inr (.inr (.inr (.inr (rf3 M0 L0 M2)))))), (L0, .inr (2, [.int (nI d0), .int (fk0 1), .int (fk0 2), .int (fv0x_8 3), .int (fv0x_8 4), .int (fv0x_8 5), .ref L0c, .ref L0u, .ref L0p, .ref L0l])), (L0u, .inl (g 0, 15, .inl fu0x_9)), (L0l, .inl (g 2, 3, .inr (.inr (.inr (.inr (rf3 L0a L0b L0d)))))), (L0a, .inr (1, [.int (fa0 0), .int y_3, .int (fa0 2), .int (fa0 3), .int (fa0 4), .int 0, .int (fa0 6)])), (L0b, .inr (1, [.int (fb0 0), .int (fb0 1), .int (fb0 2), .int (fb0 3), .int (fb0 4), .int (fb0 5), .int (fb0 6)])), (L0d, .inr (1, [.int (fd0 0), .int (fd0 1), .int (fd0 2), .int (fd0 3), .int (fd0 4), .int (fd0 5), .int (fd0 6)]))] H := ⟨hP.sub [1, 0, 2, 3, 4, 5, 6, 7] rfl, hD.sub [1, 0, 2, 3, 4, 5, 6, 7] (by decide) rfl⟩
      have hP9 := hPD9.1; have hD9 := hPD9.2
      subst hQ
      refine W.widen (k := 0) (n := 0) (Nat.le_of_ble_eq_true rfl) (Nat.le_of_ble_eq_true rfl) ?_
      exact W.vret hx hb hr (fun tS htS _ => ⟨⟨_, rfl, ⟨(lf2 [fv0x_8, fu0x_9, lf [fa0 0, y_3, fa0 2, 0, fa0 4, 0, fa0 6], fb0, fd0]), zlox_7, rfl, (hf_10)⟩, by rw [htS]; exact hP9, hD9⟩, hS.F htS⟩) hS.2.2 dX3_goneFrom_65
  · skip
    have hP := hPq_1; have hD := hDq_1; have hS := hSq_1; have hl := hlq_1; clear hPq_1 hDq_1 hSq_1 hlq_1
    refine va_aldq (C := "HopCredits$Lane") hx hb hK hP 4 2 rfl rfl (by unfold vp_in; decide) dX3_goneFrom_12 ?_
    refine lv_eqv (v2 := .ref L0b) rfl ?_
    refine lv_astore (lv' := [(4, .ref L0b), (3, .ref L0), (0, .ref Nn), (1, .int 1), (2, .int (nI 1))]) hx hb dX3_goneFrom_13 hl (by decide) rfl (fun ls hl => ?_)
    refine lv_aload hx hb dX3_goneFrom_15 (lv_at hl 0 rfl) ?_
    refine lv_aload hx hb dX3_goneFrom_17 (lv_at hl 0 rfl) ?_
    refine va_get (D := D) (ci := 1) (v := .int (fb0 1)) (C := RX1) (T := TX1) (N := 7) hx hb hts iX1 hown hK hP 6 rfl rfl 1 (by decide) f198 (fun _ h9 => h9) rfl dX3_goneFrom_19 ?_
    refine lv_iconst (v := 1) hx hb dX3_goneFrom_22 (by decide) ?_
    refine lv_iadd hx hb dX3_goneFrom_23 ?_
    refine lv_topi (fun y_11 _ => ?_)
    refine lv_bipush (v := 63) hx hb dX3_goneFrom_24 (by decide) ?_
    refine lv_iand hx hb dX3_goneFrom_26 ?_
    refine lv_topi (fun y_12 _ => ?_)
    refine va_put (D := D) (ci := 1) (v := .int y_12) (ty := .int) (C := RX1) (T := TX1) (N := 7) hx hb hts iX1 tyX1 tyX1_ok nmX1 hown hK hP hD hS 6 rfl rfl 1 (by decide) f198 (fun _ h9 => h9) rfl (by decide +kernel) (rfl) (rfl) (Nat.le_of_ble_eq_true rfl) dX3_goneFrom_27 (fun H locs hP2 hD2 hS2 => ?_)
    clear hP hD hS
    have hPD : PD D A [(Nn, .inr (3, [.int (nI hp), .int (nI cc), .int zrs, .int zad, .int zpr, .int (nI t), .int zlo, .int zps, .ref Nl, .ref Nf, .ref Nb])), (Nl, .inl (g 1, 3, .inr (.inr (.inr (.inr (rf3 M0 L0 M2)))))), (L0, .inr (2, [.int (nI d0), .int (fk0 1), .int (fk0 2), .int (fv0 3), .int (fv0 4), .int (fv0 5), .ref L0c, .ref L0u, .ref L0p, .ref L0l])), (L0u, .inl (g 0, 15, .inl fu0)), (L0l, .inl (g 2, 3, .inr (.inr (.inr (.inr (rf3 L0a L0b L0d)))))), (L0a, .inr (1, [.int (fa0 0), .int (fa0 1), .int (fa0 2), .int (fa0 3), .int (fa0 4), .int (fa0 5), .int (fa0 6)])), (L0b, .inr (1, [.int (fb0 0), .int y_12, .int (fb0 2), .int (fb0 3), .int (fb0 4), .int (fb0 5), .int (fb0 6)])), (L0d, .inr (1, [.int (fd0 0), .int (fd0 1), .int (fd0 2), .int (fd0 3), .int (fd0 4), .int (fd0 5), .int (fd0 6)]))] H := ⟨hP2, hD2⟩
    have hS := hS2; clear hP2 hD2 hS2; have hP := hPD.1; have hD := hPD.2; clear hPD
    refine lv_aload hx hb dX3_goneFrom_30 (lv_at hl 0 rfl) ?_
    refine lv_dup hx hb dX3_goneFrom_32 rfl ?_
    refine va_get (D := D) (ci := 1) (v := .int (fb0 5)) (C := RX1) (T := TX1) (N := 7) hx hb hts iX1 hown hK hP 6 rfl rfl 5 (by decide) f201 (fun _ h9 => h9) rfl dX3_goneFrom_33 ?_
    refine lv_iconst (v := 1) hx hb dX3_goneFrom_36 (by decide) ?_
    refine lv_iadd hx hb dX3_goneFrom_37 ?_
    refine lv_topi (fun y_13 _ => ?_)
    refine va_put (D := D) (ci := 1) (v := .int y_13) (ty := .int) (C := RX1) (T := TX1) (N := 7) hx hb hts iX1 tyX1 tyX1_ok nmX1 hown hK hP hD hS 6 rfl rfl 5 (by decide) f201 (fun _ h9 => h9) rfl (by decide +kernel) (rfl) (rfl) (Nat.le_of_ble_eq_true rfl) dX3_goneFrom_38 (fun H locs hP2 hD2 hS2 => ?_)
    clear hP hD hS
    have hPD : PD D A [(Nn, .inr (3, [.int (nI hp), .int (nI cc), .int zrs, .int zad, .int zpr, .int (nI t), .int zlo, .int zps, .ref Nl, .ref Nf, .ref Nb])), (Nl, .inl (g 1, 3, .inr (.inr (.inr (.inr (rf3 M0 L0 M2)))))), (L0, .inr (2, [.int (nI d0), .int (fk0 1), .int (fk0 2), .int (fv0 3), .int (fv0 4), .int (fv0 5), .ref L0c, .ref L0u, .ref L0p, .ref L0l])), (L0u, .inl (g 0, 15, .inl fu0)), (L0l, .inl (g 2, 3, .inr (.inr (.inr (.inr (rf3 L0a L0b L0d)))))), (L0a, .inr (1, [.int (fa0 0), .int (fa0 1), .int (fa0 2), .int (fa0 3), .int (fa0 4), .int (fa0 5), .int (fa0 6)])), (L0b, .inr (1, [.int (fb0 0), .int y_12, .int (fb0 2), .int (fb0 3), .int (fb0 4), .int y_13, .int (fb0 6)])), (L0d, .inr (1, [.int (fd0 0), .int (fd0 1), .int (fd0 2), .int (fd0 3), .int (fd0 4), .int (fd0 5), .int (fd0 6)]))] H := ⟨hP2, hD2⟩
    have hS := hS2; clear hP2 hD2 hS2; have hP := hPD.1; have hD := hPD.2; clear hPD
    refine lv_aload hx hb dX3_goneFrom_41 (lv_at hl 0 rfl) ?_
    refine va_get (D := D) (ci := 1) (v := .int y_13) (C := RX1) (T := TX1) (N := 7) hx hb hts iX1 hown hK hP 6 rfl rfl 5 (by decide) f201 (fun _ h9 => h9) rfl dX3_goneFrom_43 ?_
    refine lv_aload_n hx hb dX3_goneFrom_46 rfl (lv_at hl 1 rfl) ?_
    refine va_get (D := D) (ci := 2) (v := .int (fk0 2)) (C := RX2) (T := TX2) (N := 10) hx hb hts iX2 hown hK hP 2 rfl rfl 2 (by decide) f204 (fun _ h9 => h9) rfl dX3_goneFrom_47 ?_
    refine lv_icmp_lt (tgt := 65) hx hb dX3_goneFrom_50 (by decide) (fun cb_14 => ?_) (fun cb_14 => ?_)
    · skip
      have hP9 := hP; have hD9 := hD
      subst hQ
      refine W.widen (k := 0) (n := 0) (Nat.le_of_ble_eq_true rfl) (Nat.le_of_ble_eq_true rfl) ?_
      exact W.vret hx hb hr (fun tS htS _ => ⟨⟨_, rfl, ⟨(lf2 [fv0, fu0, fa0, lf [fb0 0, y_12, fb0 2, 0, fb0 4, y_13, fb0 6], fd0]), zlo, rfl, (h3)⟩, by rw [htS]; exact hP9, hD9⟩, hS.F htS⟩) hS.2.2 dX3_goneFrom_65
    · skip
      refine lv_aload hx hb dX3_goneFrom_53 (lv_at hl 0 rfl) ?_
      refine lv_iconst (v := 0) hx hb dX3_goneFrom_55 (by decide) ?_
      refine va_put (D := D) (ci := 1) (v := .int 0) (ty := .int) (C := RX1) (T := TX1) (N := 7) hx hb hts iX1 tyX1 tyX1_ok nmX1 hown hK hP hD hS 6 rfl rfl 5 (by decide) f201 (fun _ h9 => h9) rfl (by decide +kernel) (rfl) (rfl) (Nat.le_of_ble_eq_true rfl) dX3_goneFrom_56 (fun H locs hP2 hD2 hS2 => ?_)
      clear hP hD hS
      have hPD : PD D A [(Nn, .inr (3, [.int (nI hp), .int (nI cc), .int zrs, .int zad, .int zpr, .int (nI t), .int zlo, .int zps, .ref Nl, .ref Nf, .ref Nb])), (Nl, .inl (g 1, 3, .inr (.inr (.inr (.inr (rf3 M0 L0 M2)))))), (L0, .inr (2, [.int (nI d0), .int (fk0 1), .int (fk0 2), .int (fv0 3), .int (fv0 4), .int (fv0 5), .ref L0c, .ref L0u, .ref L0p, .ref L0l])), (L0u, .inl (g 0, 15, .inl fu0)), (L0l, .inl (g 2, 3, .inr (.inr (.inr (.inr (rf3 L0a L0b L0d)))))), (L0a, .inr (1, [.int (fa0 0), .int (fa0 1), .int (fa0 2), .int (fa0 3), .int (fa0 4), .int (fa0 5), .int (fa0 6)])), (L0b, .inr (1, [.int (fb0 0), .int y_12, .int (fb0 2), .int (fb0 3), .int (fb0 4), .int 0, .int (fb0 6)])), (L0d, .inr (1, [.int (fd0 0), .int (fd0 1), .int (fd0 2), .int (fd0 3), .int (fd0 4), .int (fd0 5), .int (fd0 6)]))] H := ⟨hP2, hD2⟩
      have hS := hS2; clear hP2 hD2 hS2; have hP := hPD.1; have hD := hPD.2; clear hPD
      refine lv_aload_n hx hb dX3_goneFrom_59 rfl (lv_at hl 2 rfl) ?_
      refine lv_aload_n hx hb dX3_goneFrom_60 rfl (lv_at hl 1 rfl) ?_
      refine lv_iload_n hx hb dX3_goneFrom_61 rfl (lv_at hl 4 rfl) ?_
      refine ky_Vv (As := [.ref L0, .int (nI 1)]) (rest := []) ⟨hx, hb, hml, hown, hts⟩ ⟨hK, hN⟩ hZ hP hD hS hA [0, 2, 3, 4, 5, 6, 7] [1] (wc := [(Nn, .inr (3, [.int (nI hp), .int (nI cc), .int zrs, .int zad, .int zpr, .int (nI t), .int zlo, .int zps, .ref Nl, .ref Nf, .ref Nb])), (L0, .inr (2, [.int (nI d0), .int (fk0 1), .int (fk0 2), .int (fv0 3), .int (fv0 4), .int (fv0 5), .ref L0c, .ref L0u, .ref L0p, .ref L0l])), (L0u, .inl (g 0, 15, .inl fu0)), (L0l, .inl (g 2, 3, .inr (.inr (.inr (.inr (rf3 L0a L0b L0d)))))), (L0a, .inr (1, [.int (fa0 0), .int (fa0 1), .int (fa0 2), .int (fa0 3), .int (fa0 4), .int (fa0 5), .int (fa0 6)])), (L0b, .inr (1, [.int (fb0 0), .int y_12, .int (fb0 2), .int (fb0 3), .int (fb0 4), .int 0, .int (fb0 6)])), (L0d, .inr (1, [.int (fd0 0), .int (fd0 1), .int (fd0 2), .int (fd0 3), .int (fd0 4), .int (fd0 5), .int (fd0 6)]))]) (wr := [(Nl, .inl (g 1, 3, .inr (.inr (.inr (.inr (rf3 M0 L0 M2))))))]) rfl rfl rfl rfl (by decide) (k_X3_sendUpdate l D g H.size Nn L0 1 hp cc zrs zad zpr t zlo zps Nl Nf Nb d0 fk0 fv0 L0c L0u L0p L0l fu0 L0a L0b L0d fa0 (lf [fb0 0, y_12, fb0 2, fb0 3, fb0 4, 0, fb0 6]) fd0 (show 1 < 3 by omega) (show t < 2 ^ 30 by omega) (show d0 < 5 by omega) (h3)) (cwV 2 hts gX3_goneFrom_X3_sendUpdate rfl rfl rfl (by decide +kernel) ⟨(Nat.le_of_ble_eq_true rfl), (Nat.le_of_ble_eq_true rfl)⟩) 0 3 rfl rfl rfl rfl hl.1 rfl (Nat.le_of_ble_eq_true rfl) dX3_goneFrom_62 ⟨(Nat.le_of_ble_eq_true rfl), (Nat.le_of_ble_eq_true rfl)⟩ (fun u H locs hw hP2 hD2 hS2 => ?_)
      clear hP hD hS
      obtain ⟨zlox_16, fv0x_17, fu0x_18, rfl, hf_19⟩ := hw
      have hPD : PD D A [(Nl, .inl (g 1, 3, .inr (.inr (.inr (.inr (rf3 M0 L0 M2)))))), (Nn, .inr (3, [.int (nI hp), .int (nI cc), .int zrs, .int zad, .int zpr, .int (nI t), .int zlox_16, .int zps, .ref Nl, .ref Nf, .ref Nb])), (L0, .inr (2, [.int (nI d0), .int (fk0 1), .int (fk0 2), .int (fv0x_17 3), .int (fv0x_17 4), .int (fv0x_17 5), .ref L0c, .ref L0u, .ref L0p, .ref L0l])), (L0u, .inl (g 0, 15, .inl fu0x_18)), (L0l, .inl (g 2, 3, .inr (.inr (.inr (.inr (rf3 L0a L0b L0d)))))), (L0a, .inr (1, [.int (fa0 0), .int (fa0 1), .int (fa0 2), .int (fa0 3), .int (fa0 4), .int (fa0 5), .int (fa0 6)])), (L0b, .inr (1, [.int (fb0 0), .int y_12, .int (fb0 2), .int (fb0 3), .int (fb0 4), .int 0, .int (fb0 6)])), (L0d, .inr (1, [.int (fd0 0), .int (fd0 1), .int (fd0 2), .int (fd0 3), .int (fd0 4), .int (fd0 5), .int (fd0 6)]))] H := ⟨hP2, hD2⟩
      have hS := hS2; clear hP2 hD2 hS2; have hP := hPD.1; have hD := hPD.2; clear hPD
      refine W.widen (k := 0) (n := 0) (Nat.le_of_ble_eq_true rfl) (Nat.le_of_ble_eq_true rfl) ?_
      have hPD9 : PD D A [(Nn, .inr (3, [.int (nI hp), .int (nI cc), .int zrs, .int zad, .int zpr, .int (nI t), .int zlox_16, .int zps, .ref Nl, .ref Nf, .ref Nb])), (Nl, .inl (g 1, 3, .inr (.inr (.inr (.inr (rf3 M0 L0 M2)))))), (L0, .inr (2, [.int (nI d0), .int (fk0 1), .int (fk0 2), .int (fv0x_17 3), .int (fv0x_17 4), .int (fv0x_17 5), .ref L0c, .ref L0u, .ref L0p, .ref L0l])), (L0u, .inl (g 0, 15, .inl fu0x_18)), (L0l, .inl (g 2, 3, .inr (.inr (.inr (.inr (rf3 L0a L0b L0d)))))), (L0a, .inr (1, [.int (fa0 0), .int (fa0 1), .int (fa0 2), .int (fa0 3), .int (fa0 4), .int (fa0 5), .int (fa0 6)])), (L0b, .inr (1, [.int (fb0 0), .int y_12, .int (fb0 2), .int (fb0 3), .int (fb0 4), .int 0, .int (fb0 6)])), (L0d, .inr (1, [.int (fd0 0), .int (fd0 1), .int (fd0 2), .int (fd0 3), .int (fd0 4), .int (fd0 5), .int (fd0 6)]))] H := ⟨hP.sub [1, 0, 2, 3, 4, 5, 6, 7] rfl, hD.sub [1, 0, 2, 3, 4, 5, 6, 7] (by decide) rfl⟩
      have hP9 := hPD9.1; have hD9 := hPD9.2
      subst hQ
      refine W.widen (k := 0) (n := 0) (Nat.le_of_ble_eq_true rfl) (Nat.le_of_ble_eq_true rfl) ?_
      exact W.vret hx hb hr (fun tS htS _ => ⟨⟨_, rfl, ⟨(lf2 [fv0x_17, fu0x_18, fa0, lf [fb0 0, y_12, fb0 2, 0, fb0 4, 0, fb0 6], fd0]), zlox_16, rfl, (hf_19)⟩, by rw [htS]; exact hP9, hD9⟩, hS.F htS⟩) hS.2.2 dX3_goneFrom_65
  · skip
    have hP := hPq_1; have hD := hDq_1; have hS := hSq_1; have hl := hlq_1; clear hPq_1 hDq_1 hSq_1 hlq_1
    refine va_aldq (C := "HopCredits$Lane") hx hb hK hP 4 2 rfl rfl (by unfold vp_in; decide) dX3_goneFrom_12 ?_
    refine lv_eqv (v2 := .ref L0d) rfl ?_
    refine lv_astore (lv' := [(4, .ref L0d), (3, .ref L0), (0, .ref Nn), (1, .int 1), (2, .int (nI 2))]) hx hb dX3_goneFrom_13 hl (by decide) rfl (fun ls hl => ?_)
    refine lv_aload hx hb dX3_goneFrom_15 (lv_at hl 0 rfl) ?_
    refine lv_aload hx hb dX3_goneFrom_17 (lv_at hl 0 rfl) ?_
    refine va_get (D := D) (ci := 1) (v := .int (fd0 1)) (C := RX1) (T := TX1) (N := 7) hx hb hts iX1 hown hK hP 7 rfl rfl 1 (by decide) f198 (fun _ h9 => h9) rfl dX3_goneFrom_19 ?_
    refine lv_iconst (v := 1) hx hb dX3_goneFrom_22 (by decide) ?_
    refine lv_iadd hx hb dX3_goneFrom_23 ?_
    refine lv_topi (fun y_20 _ => ?_)
    refine lv_bipush (v := 63) hx hb dX3_goneFrom_24 (by decide) ?_
    refine lv_iand hx hb dX3_goneFrom_26 ?_
    refine lv_topi (fun y_21 _ => ?_)
    refine va_put (D := D) (ci := 1) (v := .int y_21) (ty := .int) (C := RX1) (T := TX1) (N := 7) hx hb hts iX1 tyX1 tyX1_ok nmX1 hown hK hP hD hS 7 rfl rfl 1 (by decide) f198 (fun _ h9 => h9) rfl (by decide +kernel) (rfl) (rfl) (Nat.le_of_ble_eq_true rfl) dX3_goneFrom_27 (fun H locs hP2 hD2 hS2 => ?_)
    clear hP hD hS
    have hPD : PD D A [(Nn, .inr (3, [.int (nI hp), .int (nI cc), .int zrs, .int zad, .int zpr, .int (nI t), .int zlo, .int zps, .ref Nl, .ref Nf, .ref Nb])), (Nl, .inl (g 1, 3, .inr (.inr (.inr (.inr (rf3 M0 L0 M2)))))), (L0, .inr (2, [.int (nI d0), .int (fk0 1), .int (fk0 2), .int (fv0 3), .int (fv0 4), .int (fv0 5), .ref L0c, .ref L0u, .ref L0p, .ref L0l])), (L0u, .inl (g 0, 15, .inl fu0)), (L0l, .inl (g 2, 3, .inr (.inr (.inr (.inr (rf3 L0a L0b L0d)))))), (L0a, .inr (1, [.int (fa0 0), .int (fa0 1), .int (fa0 2), .int (fa0 3), .int (fa0 4), .int (fa0 5), .int (fa0 6)])), (L0b, .inr (1, [.int (fb0 0), .int (fb0 1), .int (fb0 2), .int (fb0 3), .int (fb0 4), .int (fb0 5), .int (fb0 6)])), (L0d, .inr (1, [.int (fd0 0), .int y_21, .int (fd0 2), .int (fd0 3), .int (fd0 4), .int (fd0 5), .int (fd0 6)]))] H := ⟨hP2, hD2⟩
    have hS := hS2; clear hP2 hD2 hS2; have hP := hPD.1; have hD := hPD.2; clear hPD
    refine lv_aload hx hb dX3_goneFrom_30 (lv_at hl 0 rfl) ?_
    refine lv_dup hx hb dX3_goneFrom_32 rfl ?_
    refine va_get (D := D) (ci := 1) (v := .int (fd0 5)) (C := RX1) (T := TX1) (N := 7) hx hb hts iX1 hown hK hP 7 rfl rfl 5 (by decide) f201 (fun _ h9 => h9) rfl dX3_goneFrom_33 ?_
    refine lv_iconst (v := 1) hx hb dX3_goneFrom_36 (by decide) ?_
    refine lv_iadd hx hb dX3_goneFrom_37 ?_
    refine lv_topi (fun y_22 _ => ?_)
    refine va_put (D := D) (ci := 1) (v := .int y_22) (ty := .int) (C := RX1) (T := TX1) (N := 7) hx hb hts iX1 tyX1 tyX1_ok nmX1 hown hK hP hD hS 7 rfl rfl 5 (by decide) f201 (fun _ h9 => h9) rfl (by decide +kernel) (rfl) (rfl) (Nat.le_of_ble_eq_true rfl) dX3_goneFrom_38 (fun H locs hP2 hD2 hS2 => ?_)
    clear hP hD hS
    have hPD : PD D A [(Nn, .inr (3, [.int (nI hp), .int (nI cc), .int zrs, .int zad, .int zpr, .int (nI t), .int zlo, .int zps, .ref Nl, .ref Nf, .ref Nb])), (Nl, .inl (g 1, 3, .inr (.inr (.inr (.inr (rf3 M0 L0 M2)))))), (L0, .inr (2, [.int (nI d0), .int (fk0 1), .int (fk0 2), .int (fv0 3), .int (fv0 4), .int (fv0 5), .ref L0c, .ref L0u, .ref L0p, .ref L0l])), (L0u, .inl (g 0, 15, .inl fu0)), (L0l, .inl (g 2, 3, .inr (.inr (.inr (.inr (rf3 L0a L0b L0d)))))), (L0a, .inr (1, [.int (fa0 0), .int (fa0 1), .int (fa0 2), .int (fa0 3), .int (fa0 4), .int (fa0 5), .int (fa0 6)])), (L0b, .inr (1, [.int (fb0 0), .int (fb0 1), .int (fb0 2), .int (fb0 3), .int (fb0 4), .int (fb0 5), .int (fb0 6)])), (L0d, .inr (1, [.int (fd0 0), .int y_21, .int (fd0 2), .int (fd0 3), .int (fd0 4), .int y_22, .int (fd0 6)]))] H := ⟨hP2, hD2⟩
    have hS := hS2; clear hP2 hD2 hS2; have hP := hPD.1; have hD := hPD.2; clear hPD
    refine lv_aload hx hb dX3_goneFrom_41 (lv_at hl 0 rfl) ?_
    refine va_get (D := D) (ci := 1) (v := .int y_22) (C := RX1) (T := TX1) (N := 7) hx hb hts iX1 hown hK hP 7 rfl rfl 5 (by decide) f201 (fun _ h9 => h9) rfl dX3_goneFrom_43 ?_
    refine lv_aload_n hx hb dX3_goneFrom_46 rfl (lv_at hl 1 rfl) ?_
    refine va_get (D := D) (ci := 2) (v := .int (fk0 2)) (C := RX2) (T := TX2) (N := 10) hx hb hts iX2 hown hK hP 2 rfl rfl 2 (by decide) f204 (fun _ h9 => h9) rfl dX3_goneFrom_47 ?_
    refine lv_icmp_lt (tgt := 65) hx hb dX3_goneFrom_50 (by decide) (fun cb_23 => ?_) (fun cb_23 => ?_)
    · skip
      have hP9 := hP; have hD9 := hD
      subst hQ
      refine W.widen (k := 0) (n := 0) (Nat.le_of_ble_eq_true rfl) (Nat.le_of_ble_eq_true rfl) ?_
      exact W.vret hx hb hr (fun tS htS _ => ⟨⟨_, rfl, ⟨(lf2 [fv0, fu0, fa0, fb0, lf [fd0 0, y_21, fd0 2, 0, fd0 4, y_22, fd0 6]]), zlo, rfl, (h3)⟩, by rw [htS]; exact hP9, hD9⟩, hS.F htS⟩) hS.2.2 dX3_goneFrom_65
    · skip
      refine lv_aload hx hb dX3_goneFrom_53 (lv_at hl 0 rfl) ?_
      refine lv_iconst (v := 0) hx hb dX3_goneFrom_55 (by decide) ?_
      refine va_put (D := D) (ci := 1) (v := .int 0) (ty := .int) (C := RX1) (T := TX1) (N := 7) hx hb hts iX1 tyX1 tyX1_ok nmX1 hown hK hP hD hS 7 rfl rfl 5 (by decide) f201 (fun _ h9 => h9) rfl (by decide +kernel) (rfl) (rfl) (Nat.le_of_ble_eq_true rfl) dX3_goneFrom_56 (fun H locs hP2 hD2 hS2 => ?_)
      clear hP hD hS
      have hPD : PD D A [(Nn, .inr (3, [.int (nI hp), .int (nI cc), .int zrs, .int zad, .int zpr, .int (nI t), .int zlo, .int zps, .ref Nl, .ref Nf, .ref Nb])), (Nl, .inl (g 1, 3, .inr (.inr (.inr (.inr (rf3 M0 L0 M2)))))), (L0, .inr (2, [.int (nI d0), .int (fk0 1), .int (fk0 2), .int (fv0 3), .int (fv0 4), .int (fv0 5), .ref L0c, .ref L0u, .ref L0p, .ref L0l])), (L0u, .inl (g 0, 15, .inl fu0)), (L0l, .inl (g 2, 3, .inr (.inr (.inr (.inr (rf3 L0a L0b L0d)))))), (L0a, .inr (1, [.int (fa0 0), .int (fa0 1), .int (fa0 2), .int (fa0 3), .int (fa0 4), .int (fa0 5), .int (fa0 6)])), (L0b, .inr (1, [.int (fb0 0), .int (fb0 1), .int (fb0 2), .int (fb0 3), .int (fb0 4), .int (fb0 5), .int (fb0 6)])), (L0d, .inr (1, [.int (fd0 0), .int y_21, .int (fd0 2), .int (fd0 3), .int (fd0 4), .int 0, .int (fd0 6)]))] H := ⟨hP2, hD2⟩
      have hS := hS2; clear hP2 hD2 hS2; have hP := hPD.1; have hD := hPD.2; clear hPD
      refine lv_aload_n hx hb dX3_goneFrom_59 rfl (lv_at hl 2 rfl) ?_
      refine lv_aload_n hx hb dX3_goneFrom_60 rfl (lv_at hl 1 rfl) ?_
      refine lv_iload_n hx hb dX3_goneFrom_61 rfl (lv_at hl 4 rfl) ?_
      refine ky_Vv (As := [.ref L0, .int (nI 2)]) (rest := []) ⟨hx, hb, hml, hown, hts⟩ ⟨hK, hN⟩ hZ hP hD hS hA [0, 2, 3, 4, 5, 6, 7] [1] (wc := [(Nn, .inr (3, [.int (nI hp), .int (nI cc), .int zrs, .int zad, .int zpr, .int (nI t), .int zlo, .int zps, .ref Nl, .ref Nf, .ref Nb])), (L0, .inr (2, [.int (nI d0), .int (fk0 1), .int (fk0 2), .int (fv0 3), .int (fv0 4), .int (fv0 5), .ref L0c, .ref L0u, .ref L0p, .ref L0l])), (L0u, .inl (g 0, 15, .inl fu0)), (L0l, .inl (g 2, 3, .inr (.inr (.inr (.inr (rf3 L0a L0b L0d)))))), (L0a, .inr (1, [.int (fa0 0), .int (fa0 1), .int (fa0 2), .int (fa0 3), .int (fa0 4), .int (fa0 5), .int (fa0 6)])), (L0b, .inr (1, [.int (fb0 0), .int (fb0 1), .int (fb0 2), .int (fb0 3), .int (fb0 4), .int (fb0 5), .int (fb0 6)])), (L0d, .inr (1, [.int (fd0 0), .int y_21, .int (fd0 2), .int (fd0 3), .int (fd0 4), .int 0, .int (fd0 6)]))]) (wr := [(Nl, .inl (g 1, 3, .inr (.inr (.inr (.inr (rf3 M0 L0 M2))))))]) rfl rfl rfl rfl (by decide) (k_X3_sendUpdate l D g H.size Nn L0 2 hp cc zrs zad zpr t zlo zps Nl Nf Nb d0 fk0 fv0 L0c L0u L0p L0l fu0 L0a L0b L0d fa0 fb0 (lf [fd0 0, y_21, fd0 2, fd0 3, fd0 4, 0, fd0 6]) (show 2 < 3 by omega) (show t < 2 ^ 30 by omega) (show d0 < 5 by omega) (h3)) (cwV 2 hts gX3_goneFrom_X3_sendUpdate rfl rfl rfl (by decide +kernel) ⟨(Nat.le_of_ble_eq_true rfl), (Nat.le_of_ble_eq_true rfl)⟩) 0 3 rfl rfl rfl rfl hl.1 rfl (Nat.le_of_ble_eq_true rfl) dX3_goneFrom_62 ⟨(Nat.le_of_ble_eq_true rfl), (Nat.le_of_ble_eq_true rfl)⟩ (fun u H locs hw hP2 hD2 hS2 => ?_)
      clear hP hD hS
      obtain ⟨zlox_25, fv0x_26, fu0x_27, rfl, hf_28⟩ := hw
      have hPD : PD D A [(Nl, .inl (g 1, 3, .inr (.inr (.inr (.inr (rf3 M0 L0 M2)))))), (Nn, .inr (3, [.int (nI hp), .int (nI cc), .int zrs, .int zad, .int zpr, .int (nI t), .int zlox_25, .int zps, .ref Nl, .ref Nf, .ref Nb])), (L0, .inr (2, [.int (nI d0), .int (fk0 1), .int (fk0 2), .int (fv0x_26 3), .int (fv0x_26 4), .int (fv0x_26 5), .ref L0c, .ref L0u, .ref L0p, .ref L0l])), (L0u, .inl (g 0, 15, .inl fu0x_27)), (L0l, .inl (g 2, 3, .inr (.inr (.inr (.inr (rf3 L0a L0b L0d)))))), (L0a, .inr (1, [.int (fa0 0), .int (fa0 1), .int (fa0 2), .int (fa0 3), .int (fa0 4), .int (fa0 5), .int (fa0 6)])), (L0b, .inr (1, [.int (fb0 0), .int (fb0 1), .int (fb0 2), .int (fb0 3), .int (fb0 4), .int (fb0 5), .int (fb0 6)])), (L0d, .inr (1, [.int (fd0 0), .int y_21, .int (fd0 2), .int (fd0 3), .int (fd0 4), .int 0, .int (fd0 6)]))] H := ⟨hP2, hD2⟩
      have hS := hS2; clear hP2 hD2 hS2; have hP := hPD.1; have hD := hPD.2; clear hPD
      refine W.widen (k := 0) (n := 0) (Nat.le_of_ble_eq_true rfl) (Nat.le_of_ble_eq_true rfl) ?_
      have hPD9 : PD D A [(Nn, .inr (3, [.int (nI hp), .int (nI cc), .int zrs, .int zad, .int zpr, .int (nI t), .int zlox_25, .int zps, .ref Nl, .ref Nf, .ref Nb])), (Nl, .inl (g 1, 3, .inr (.inr (.inr (.inr (rf3 M0 L0 M2)))))), (L0, .inr (2, [.int (nI d0), .int (fk0 1), .int (fk0 2), .int (fv0x_26 3), .int (fv0x_26 4), .int (fv0x_26 5), .ref L0c, .ref L0u, .ref L0p, .ref L0l])), (L0u, .inl (g 0, 15, .inl fu0x_27)), (L0l, .inl (g 2, 3, .inr (.inr (.inr (.inr (rf3 L0a L0b L0d)))))), (L0a, .inr (1, [.int (fa0 0), .int (fa0 1), .int (fa0 2), .int (fa0 3), .int (fa0 4), .int (fa0 5), .int (fa0 6)])), (L0b, .inr (1, [.int (fb0 0), .int (fb0 1), .int (fb0 2), .int (fb0 3), .int (fb0 4), .int (fb0 5), .int (fb0 6)])), (L0d, .inr (1, [.int (fd0 0), .int y_21, .int (fd0 2), .int (fd0 3), .int (fd0 4), .int 0, .int (fd0 6)]))] H := ⟨hP.sub [1, 0, 2, 3, 4, 5, 6, 7] rfl, hD.sub [1, 0, 2, 3, 4, 5, 6, 7] (by decide) rfl⟩
      have hP9 := hPD9.1; have hD9 := hPD9.2
      subst hQ
      refine W.widen (k := 0) (n := 0) (Nat.le_of_ble_eq_true rfl) (Nat.le_of_ble_eq_true rfl) ?_
      exact W.vret hx hb hr (fun tS htS _ => ⟨⟨_, rfl, ⟨(lf2 [fv0x_26, fu0x_27, fa0, fb0, lf [fd0 0, y_21, fd0 2, 0, fd0 4, 0, fd0 6]]), zlox_25, rfl, (hf_28)⟩, by rw [htS]; exact hP9, hD9⟩, hS.F htS⟩) hS.2.2 dX3_goneFrom_65

set_option maxHeartbeats 4000000 in
set_option maxRecDepth 100000 in
theorem k_X3_goneFrom_2 (l : Launch) (D : va_G) (g : Nat → ClassId) (sz : Nat) (Nn : Nat) (cx : Nat) (hp : Nat) (cc : Nat) (zrs : Int32) (zad : Int32) (zpr : Int32) (t : Nat) (zlo : Int32) (zps : Int32) (Nl : Nat) (Nf : Nat) (Nb : Nat) (M0 : Nat) (M1 : Nat) (L0 : Nat) (d0 : Nat) (fk0 : Nat → Int32) (fv0 : Nat → Int32) (L0c : Nat) (L0u : Nat) (L0p : Nat) (L0l : Nat) (fu0 : Nat → Int32) (L0a : Nat) (L0b : Nat) (L0d : Nat) (fa0 : Nat → Int32) (fb0 : Nat → Int32) (fd0 : Nat → Int32) (h0 : cx < 3) (h1 : t < 2 ^ 30) (h2 : d0 < 5) (h3 : okc (fv0 4)) : Met l yX3_goneFrom wsX3_goneFrom ({ frames := 1, cells := 0, slots := 0, locals := 22 }) (va_Pc [.ref Nn, .int 2, .int (nI cx)] (pre D g sz [(Nn, .inr (3, [.int (nI hp), .int (nI cc), .int zrs, .int zad, .int zpr, .int (nI t), .int zlo, .int zps, .ref Nl, .ref Nf, .ref Nb])), (Nl, .inl (g 1, 3, .inr (.inr (.inr (.inr (rf3 M0 M1 L0)))))), (L0, .inr (2, [.int (nI d0), .int (fk0 1), .int (fk0 2), .int (fv0 3), .int (fv0 4), .int (fv0 5), .ref L0c, .ref L0u, .ref L0p, .ref L0l])), (L0u, .inl (g 0, 15, .inl fu0)), (L0l, .inl (g 2, 3, .inr (.inr (.inr (.inr (rf3 L0a L0b L0d)))))), (L0a, .inr (1, [.int (fa0 0), .int (fa0 1), .int (fa0 2), .int (fa0 3), .int (fa0 4), .int (fa0 5), .int (fa0 6)])), (L0b, .inr (1, [.int (fb0 0), .int (fb0 1), .int (fb0 2), .int (fb0 3), .int (fb0 4), .int (fb0 5), .int (fb0 6)])), (L0d, .inr (1, [.int (fd0 0), .int (fd0 1), .int (fd0 2), .int (fd0 3), .int (fd0 4), .int (fd0 5), .int (fd0 6)]))])) (va_Qv (fun (u : va_W) => ∃ (PF : Nat → Nat → Int32) (zlox : Int32), u = [(Nn, .inr (3, [.int (nI hp), .int (nI cc), .int zrs, .int zad, .int zpr, .int (nI t), .int zlox, .int zps, .ref Nl, .ref Nf, .ref Nb])), (Nl, .inl (g 1, 3, .inr (.inr (.inr (.inr (rf3 M0 M1 L0)))))), (L0, .inr (2, [.int (nI d0), .int (fk0 1), .int (fk0 2), .int ((PF 0) 3), .int ((PF 0) 4), .int ((PF 0) 5), .ref L0c, .ref L0u, .ref L0p, .ref L0l])), (L0u, .inl (g 0, 15, .inl (PF 1))), (L0l, .inl (g 2, 3, .inr (.inr (.inr (.inr (rf3 L0a L0b L0d)))))), (L0a, .inr (1, [.int ((PF 2) 0), .int ((PF 2) 1), .int ((PF 2) 2), .int (fa0 3), .int ((PF 2) 4), .int ((PF 2) 5), .int ((PF 2) 6)])), (L0b, .inr (1, [.int ((PF 3) 0), .int ((PF 3) 1), .int ((PF 3) 2), .int (fb0 3), .int ((PF 3) 4), .int ((PF 3) 5), .int ((PF 3) 6)])), (L0d, .inr (1, [.int ((PF 4) 0), .int ((PF 4) 1), .int ((PF 4) 2), .int (fd0 3), .int ((PF 4) 4), .int ((PF 4) 5), .int ((PF 4) 6)]))] ∧ (okc ((PF 0) 4))) (wd D (va_A [(Nn, .inr (3, [.int (nI hp), .int (nI cc), .int zrs, .int zad, .int zpr, .int (nI t), .int zlo, .int zps, .ref Nl, .ref Nf, .ref Nb])), (Nl, .inl (g 1, 3, .inr (.inr (.inr (.inr (rf3 M0 M1 L0)))))), (L0, .inr (2, [.int (nI d0), .int (fk0 1), .int (fk0 2), .int (fv0 3), .int (fv0 4), .int (fv0 5), .ref L0c, .ref L0u, .ref L0p, .ref L0l])), (L0u, .inl (g 0, 15, .inl fu0)), (L0l, .inl (g 2, 3, .inr (.inr (.inr (.inr (rf3 L0a L0b L0d)))))), (L0a, .inr (1, [.int (fa0 0), .int (fa0 1), .int (fa0 2), .int (fa0 3), .int (fa0 4), .int (fa0 5), .int (fa0 6)])), (L0b, .inr (1, [.int (fb0 0), .int (fb0 1), .int (fb0 2), .int (fb0 3), .int (fb0 4), .int (fb0 5), .int (fb0 6)])), (L0d, .inr (1, [.int (fd0 0), .int (fd0 1), .int (fd0 2), .int (fd0 3), .int (fd0 4), .int (fd0 5), .int (fd0 6)]))] sz)) (va_A [(Nn, .inr (3, [.int (nI hp), .int (nI cc), .int zrs, .int zad, .int zpr, .int (nI t), .int zlo, .int zps, .ref Nl, .ref Nf, .ref Nb])), (Nl, .inl (g 1, 3, .inr (.inr (.inr (.inr (rf3 M0 M1 L0)))))), (L0, .inr (2, [.int (nI d0), .int (fk0 1), .int (fk0 2), .int (fv0 3), .int (fv0 4), .int (fv0 5), .ref L0c, .ref L0u, .ref L0p, .ref L0l])), (L0u, .inl (g 0, 15, .inl fu0)), (L0l, .inl (g 2, 3, .inr (.inr (.inr (.inr (rf3 L0a L0b L0d)))))), (L0a, .inr (1, [.int (fa0 0), .int (fa0 1), .int (fa0 2), .int (fa0 3), .int (fa0 4), .int (fa0 5), .int (fa0 6)])), (L0b, .inr (1, [.int (fb0 0), .int (fb0 1), .int (fb0 2), .int (fb0 3), .int (fb0 4), .int (fb0 5), .int (fb0 6)])), (L0d, .inr (1, [.int (fd0 0), .int (fd0 1), .int (fd0 2), .int (fd0 3), .int (fd0 4), .int (fd0 5), .int (fd0 6)]))] sz)) 0 0 (va_A [(Nn, .inr (3, [.int (nI hp), .int (nI cc), .int zrs, .int zad, .int zpr, .int (nI t), .int zlo, .int zps, .ref Nl, .ref Nf, .ref Nb])), (Nl, .inl (g 1, 3, .inr (.inr (.inr (.inr (rf3 M0 M1 L0)))))), (L0, .inr (2, [.int (nI d0), .int (fk0 1), .int (fk0 2), .int (fv0 3), .int (fv0 4), .int (fv0 5), .ref L0c, .ref L0u, .ref L0p, .ref L0l])), (L0u, .inl (g 0, 15, .inl fu0)), (L0l, .inl (g 2, 3, .inr (.inr (.inr (.inr (rf3 L0a L0b L0d)))))), (L0a, .inr (1, [.int (fa0 0), .int (fa0 1), .int (fa0 2), .int (fa0 3), .int (fa0 4), .int (fa0 5), .int (fa0 6)])), (L0b, .inr (1, [.int (fb0 0), .int (fb0 1), .int (fb0 2), .int (fb0 3), .int (fb0 4), .int (fb0 5), .int (fb0 6)])), (L0d, .inr (1, [.int (fd0 0), .int (fd0 1), .int (fd0 2), .int (fd0 3), .int (fd0 4), .int (fd0 5), .int (fd0 6)]))] sz) := by
  refine Met.ofW (cc := cX3_goneFrom) (maxL := 5) (ret := none) (by decide) rfl ?_
  intro p e s m args below meth c s₁ B hml hv
  obtain ⟨rfl, hsz, hP, ⟨hK, hN⟩, hD0, hZ⟩ := hv
  have hx := B.exec
  have hb := B.bytes
  have hr := B.returns
  have hts := atoms_spec (ws := wsX3_goneFrom) B.pre
  have hown : s.vm.findClass RX3 = some m.cls := findClass_of_methodNamed B.named
  have hlocks := B.notSynchronized
  clear B
  subst hsz
  have hD := hD0.self (sz := s.heap.size)
  clear hD0
  generalize hAe : va_A [(Nn, .inr (3, [.int (nI hp), .int (nI cc), .int zrs, .int zad, .int zpr, .int (nI t), .int zlo, .int zps, .ref Nl, .ref Nf, .ref Nb])), (Nl, .inl (g 1, 3, .inr (.inr (.inr (.inr (rf3 M0 M1 L0)))))), (L0, .inr (2, [.int (nI d0), .int (fk0 1), .int (fk0 2), .int (fv0 3), .int (fv0 4), .int (fv0 5), .ref L0c, .ref L0u, .ref L0p, .ref L0l])), (L0u, .inl (g 0, 15, .inl fu0)), (L0l, .inl (g 2, 3, .inr (.inr (.inr (.inr (rf3 L0a L0b L0d)))))), (L0a, .inr (1, [.int (fa0 0), .int (fa0 1), .int (fa0 2), .int (fa0 3), .int (fa0 4), .int (fa0 5), .int (fa0 6)])), (L0b, .inr (1, [.int (fb0 0), .int (fb0 1), .int (fb0 2), .int (fb0 3), .int (fb0 4), .int (fb0 5), .int (fb0 6)])), (L0d, .inr (1, [.int (fd0 0), .int (fd0 1), .int (fd0 2), .int (fd0 3), .int (fd0 4), .int (fd0 5), .int (fd0 6)]))] s.heap.size = A at hD hZ ⊢
  have hA : ∀ q : Nat, s.heap.size ≤ q → A q := fun q h => by rw [← hAe]; exact Or.inr h
  have hS : va_S A s.heap s.heap [] := va_S.rf
  have f11 := hts (.fieldLink RX3 11 "HopCredits$Net" "links" "[LHopCredits$Link;") (List.mem_of_getElem? (i := 1) rfl)
  have f128 := hts (.fieldLink RX3 128 "HopCredits$Link" "lanes" "[LHopCredits$Lane;") (List.mem_of_getElem? (i := 2) rfl)
  have f198 := hts (.fieldLink RX3 198 "HopCredits$Lane" "gone" "I") (List.mem_of_getElem? (i := 3) rfl)
  have f201 := hts (.fieldLink RX3 201 "HopCredits$Lane" "sinceUpdate" "I") (List.mem_of_getElem? (i := 4) rfl)
  have f204 := hts (.fieldLink RX3 204 "HopCredits$Link" "every" "I") (List.mem_of_getElem? (i := 5) rfl)
  have iX1 : ∀ w ∈ u_ws RX1 TX1 7, w ∈ wsX3_goneFrom := fun w h => List.mem_cons_of_mem _ (List.mem_append_right _ (h))
  have iX2 : ∀ w ∈ u_ws RX2 TX2 10, w ∈ wsX3_goneFrom := fun w h => List.mem_cons_of_mem _ (List.mem_append_left _ (List.mem_append_right _ (h)))
  have iX3 : ∀ w ∈ u_ws RX3 TX3 11, w ∈ wsX3_goneFrom := fun w h => List.mem_cons_of_mem _ (List.mem_append_left _ (List.mem_append_left _ (List.mem_append_right _ (h))))
  have hl := lv_entry ([.ref Nn, .int 2, .int (nI cx)]) (n := 5) (Nat.le_of_ble_eq_true rfl)
  rw [lg_entry_eq]
  generalize (lg_sl ([.ref Nn, .int 2, .int (nI cx)]) ++ List.replicate (5 - (lg_sl ([.ref Nn, .int 2, .int (nI cx)])).length) Slot.unset).toArray = ls at hl ⊢
  have hl : lv_has ls 5 [(0, .ref Nn), (1, .int 2), (2, .int (nI cx))] := hl
  generalize hQ : MQ below _ _ s _ _ _ = Q
  generalize hH : s.heap = H at hP ⊢
  have hS : va_S A s.heap H [] := by rw [← hH]; exact hS
  clear hH
  refine lv_aload_n hx hb dX3_goneFrom_0 rfl (lv_at hl 0 rfl) ?_
  refine va_get (D := D) (ci := 3) (v := .ref Nl) (C := RX3) (T := TX3) (N := 11) hx hb hts iX3 hown hK hP 0 rfl rfl 8 (by decide) f11 (fun _ h9 => h9) rfl dX3_goneFrom_1 ?_
  refine lv_iload_n hx hb dX3_goneFrom_4 rfl (lv_at hl 1 rfl) ?_
  refine va_aldq (C := "HopCredits$Link") hx hb hK hP 1 1 rfl rfl (by unfold vp_in; decide) dX3_goneFrom_5 ?_
  refine lv_eqv (v2 := .ref L0) rfl ?_
  refine lv_astore_n (lv' := [(3, .ref L0), (0, .ref Nn), (1, .int 2), (2, .int (nI cx))]) hx hb dX3_goneFrom_6 rfl hl (by decide) rfl (fun ls hl => ?_)
  refine lv_aload_n hx hb dX3_goneFrom_7 rfl (lv_at hl 0 rfl) ?_
  refine va_get (D := D) (ci := 2) (v := .ref L0l) (C := RX2) (T := TX2) (N := 10) hx hb hts iX2 hown hK hP 2 rfl rfl 9 (by decide) f128 (fun _ h9 => h9) rfl dX3_goneFrom_8 ?_
  refine lv_iload_n hx hb dX3_goneFrom_11 rfl (lv_at hl 3 rfl) ?_
  have hPq_1 := hP; have hDq_1 := hD; have hSq_1 := hS; have hlq_1 := hl; clear hP hD hS hl
  rcases (show cx = 0 ∨ cx = 1 ∨ cx = 2 by omega) with rfl | rfl | rfl
  · skip
    have hP := hPq_1; have hD := hDq_1; have hS := hSq_1; have hl := hlq_1; clear hPq_1 hDq_1 hSq_1 hlq_1
    refine va_aldq (C := "HopCredits$Lane") hx hb hK hP 4 2 rfl rfl (by unfold vp_in; decide) dX3_goneFrom_12 ?_
    refine lv_eqv (v2 := .ref L0a) rfl ?_
    refine lv_astore (lv' := [(4, .ref L0a), (3, .ref L0), (0, .ref Nn), (1, .int 2), (2, .int (nI 0))]) hx hb dX3_goneFrom_13 hl (by decide) rfl (fun ls hl => ?_)
    refine lv_aload hx hb dX3_goneFrom_15 (lv_at hl 0 rfl) ?_
    refine lv_aload hx hb dX3_goneFrom_17 (lv_at hl 0 rfl) ?_
    refine va_get (D := D) (ci := 1) (v := .int (fa0 1)) (C := RX1) (T := TX1) (N := 7) hx hb hts iX1 hown hK hP 5 rfl rfl 1 (by decide) f198 (fun _ h9 => h9) rfl dX3_goneFrom_19 ?_
    refine lv_iconst (v := 1) hx hb dX3_goneFrom_22 (by decide) ?_
    refine lv_iadd hx hb dX3_goneFrom_23 ?_
    refine lv_topi (fun y_2 _ => ?_)
    refine lv_bipush (v := 63) hx hb dX3_goneFrom_24 (by decide) ?_
    refine lv_iand hx hb dX3_goneFrom_26 ?_
    refine lv_topi (fun y_3 _ => ?_)
    refine va_put (D := D) (ci := 1) (v := .int y_3) (ty := .int) (C := RX1) (T := TX1) (N := 7) hx hb hts iX1 tyX1 tyX1_ok nmX1 hown hK hP hD hS 5 rfl rfl 1 (by decide) f198 (fun _ h9 => h9) rfl (by decide +kernel) (rfl) (rfl) (Nat.le_of_ble_eq_true rfl) dX3_goneFrom_27 (fun H locs hP2 hD2 hS2 => ?_)
    clear hP hD hS
    have hPD : PD D A [(Nn, .inr (3, [.int (nI hp), .int (nI cc), .int zrs, .int zad, .int zpr, .int (nI t), .int zlo, .int zps, .ref Nl, .ref Nf, .ref Nb])), (Nl, .inl (g 1, 3, .inr (.inr (.inr (.inr (rf3 M0 M1 L0)))))), (L0, .inr (2, [.int (nI d0), .int (fk0 1), .int (fk0 2), .int (fv0 3), .int (fv0 4), .int (fv0 5), .ref L0c, .ref L0u, .ref L0p, .ref L0l])), (L0u, .inl (g 0, 15, .inl fu0)), (L0l, .inl (g 2, 3, .inr (.inr (.inr (.inr (rf3 L0a L0b L0d)))))), (L0a, .inr (1, [.int (fa0 0), .int y_3, .int (fa0 2), .int (fa0 3), .int (fa0 4), .int (fa0 5), .int (fa0 6)])), (L0b, .inr (1, [.int (fb0 0), .int (fb0 1), .int (fb0 2), .int (fb0 3), .int (fb0 4), .int (fb0 5), .int (fb0 6)])), (L0d, .inr (1, [.int (fd0 0), .int (fd0 1), .int (fd0 2), .int (fd0 3), .int (fd0 4), .int (fd0 5), .int (fd0 6)]))] H := ⟨hP2, hD2⟩
    have hS := hS2; clear hP2 hD2 hS2; have hP := hPD.1; have hD := hPD.2; clear hPD
    refine lv_aload hx hb dX3_goneFrom_30 (lv_at hl 0 rfl) ?_
    refine lv_dup hx hb dX3_goneFrom_32 rfl ?_
    refine va_get (D := D) (ci := 1) (v := .int (fa0 5)) (C := RX1) (T := TX1) (N := 7) hx hb hts iX1 hown hK hP 5 rfl rfl 5 (by decide) f201 (fun _ h9 => h9) rfl dX3_goneFrom_33 ?_
    refine lv_iconst (v := 1) hx hb dX3_goneFrom_36 (by decide) ?_
    refine lv_iadd hx hb dX3_goneFrom_37 ?_
    refine lv_topi (fun y_4 _ => ?_)
    refine va_put (D := D) (ci := 1) (v := .int y_4) (ty := .int) (C := RX1) (T := TX1) (N := 7) hx hb hts iX1 tyX1 tyX1_ok nmX1 hown hK hP hD hS 5 rfl rfl 5 (by decide) f201 (fun _ h9 => h9) rfl (by decide +kernel) (rfl) (rfl) (Nat.le_of_ble_eq_true rfl) dX3_goneFrom_38 (fun H locs hP2 hD2 hS2 => ?_)
    clear hP hD hS
    have hPD : PD D A [(Nn, .inr (3, [.int (nI hp), .int (nI cc), .int zrs, .int zad, .int zpr, .int (nI t), .int zlo, .int zps, .ref Nl, .ref Nf, .ref Nb])), (Nl, .inl (g 1, 3, .inr (.inr (.inr (.inr (rf3 M0 M1 L0)))))), (L0, .inr (2, [.int (nI d0), .int (fk0 1), .int (fk0 2), .int (fv0 3), .int (fv0 4), .int (fv0 5), .ref L0c, .ref L0u, .ref L0p, .ref L0l])), (L0u, .inl (g 0, 15, .inl fu0)), (L0l, .inl (g 2, 3, .inr (.inr (.inr (.inr (rf3 L0a L0b L0d)))))), (L0a, .inr (1, [.int (fa0 0), .int y_3, .int (fa0 2), .int (fa0 3), .int (fa0 4), .int y_4, .int (fa0 6)])), (L0b, .inr (1, [.int (fb0 0), .int (fb0 1), .int (fb0 2), .int (fb0 3), .int (fb0 4), .int (fb0 5), .int (fb0 6)])), (L0d, .inr (1, [.int (fd0 0), .int (fd0 1), .int (fd0 2), .int (fd0 3), .int (fd0 4), .int (fd0 5), .int (fd0 6)]))] H := ⟨hP2, hD2⟩
    have hS := hS2; clear hP2 hD2 hS2; have hP := hPD.1; have hD := hPD.2; clear hPD
    refine lv_aload hx hb dX3_goneFrom_41 (lv_at hl 0 rfl) ?_
    refine va_get (D := D) (ci := 1) (v := .int y_4) (C := RX1) (T := TX1) (N := 7) hx hb hts iX1 hown hK hP 5 rfl rfl 5 (by decide) f201 (fun _ h9 => h9) rfl dX3_goneFrom_43 ?_
    refine lv_aload_n hx hb dX3_goneFrom_46 rfl (lv_at hl 1 rfl) ?_
    refine va_get (D := D) (ci := 2) (v := .int (fk0 2)) (C := RX2) (T := TX2) (N := 10) hx hb hts iX2 hown hK hP 2 rfl rfl 2 (by decide) f204 (fun _ h9 => h9) rfl dX3_goneFrom_47 ?_
    refine lv_icmp_lt (tgt := 65) hx hb dX3_goneFrom_50 (by decide) (fun cb_5 => ?_) (fun cb_5 => ?_)
    · skip
      have hP9 := hP; have hD9 := hD
      subst hQ
      refine W.widen (k := 0) (n := 0) (Nat.le_of_ble_eq_true rfl) (Nat.le_of_ble_eq_true rfl) ?_
      exact W.vret hx hb hr (fun tS htS _ => ⟨⟨_, rfl, ⟨(lf2 [fv0, fu0, lf [fa0 0, y_3, fa0 2, 0, fa0 4, y_4, fa0 6], fb0, fd0]), zlo, rfl, (h3)⟩, by rw [htS]; exact hP9, hD9⟩, hS.F htS⟩) hS.2.2 dX3_goneFrom_65
    · skip
      refine lv_aload hx hb dX3_goneFrom_53 (lv_at hl 0 rfl) ?_
      refine lv_iconst (v := 0) hx hb dX3_goneFrom_55 (by decide) ?_
      refine va_put (D := D) (ci := 1) (v := .int 0) (ty := .int) (C := RX1) (T := TX1) (N := 7) hx hb hts iX1 tyX1 tyX1_ok nmX1 hown hK hP hD hS 5 rfl rfl 5 (by decide) f201 (fun _ h9 => h9) rfl (by decide +kernel) (rfl) (rfl) (Nat.le_of_ble_eq_true rfl) dX3_goneFrom_56 (fun H locs hP2 hD2 hS2 => ?_)
      clear hP hD hS
      have hPD : PD D A [(Nn, .inr (3, [.int (nI hp), .int (nI cc), .int zrs, .int zad, .int zpr, .int (nI t), .int zlo, .int zps, .ref Nl, .ref Nf, .ref Nb])), (Nl, .inl (g 1, 3, .inr (.inr (.inr (.inr (rf3 M0 M1 L0)))))), (L0, .inr (2, [.int (nI d0), .int (fk0 1), .int (fk0 2), .int (fv0 3), .int (fv0 4), .int (fv0 5), .ref L0c, .ref L0u, .ref L0p, .ref L0l])), (L0u, .inl (g 0, 15, .inl fu0)), (L0l, .inl (g 2, 3, .inr (.inr (.inr (.inr (rf3 L0a L0b L0d)))))), (L0a, .inr (1, [.int (fa0 0), .int y_3, .int (fa0 2), .int (fa0 3), .int (fa0 4), .int 0, .int (fa0 6)])), (L0b, .inr (1, [.int (fb0 0), .int (fb0 1), .int (fb0 2), .int (fb0 3), .int (fb0 4), .int (fb0 5), .int (fb0 6)])), (L0d, .inr (1, [.int (fd0 0), .int (fd0 1), .int (fd0 2), .int (fd0 3), .int (fd0 4), .int (fd0 5), .int (fd0 6)]))] H := ⟨hP2, hD2⟩
      have hS := hS2; clear hP2 hD2 hS2; have hP := hPD.1; have hD := hPD.2; clear hPD
      refine lv_aload_n hx hb dX3_goneFrom_59 rfl (lv_at hl 2 rfl) ?_
      refine lv_aload_n hx hb dX3_goneFrom_60 rfl (lv_at hl 1 rfl) ?_
      refine lv_iload_n hx hb dX3_goneFrom_61 rfl (lv_at hl 4 rfl) ?_
      refine ky_Vv (As := [.ref L0, .int (nI 0)]) (rest := []) ⟨hx, hb, hml, hown, hts⟩ ⟨hK, hN⟩ hZ hP hD hS hA [0, 2, 3, 4, 5, 6, 7] [1] (wc := [(Nn, .inr (3, [.int (nI hp), .int (nI cc), .int zrs, .int zad, .int zpr, .int (nI t), .int zlo, .int zps, .ref Nl, .ref Nf, .ref Nb])), (L0, .inr (2, [.int (nI d0), .int (fk0 1), .int (fk0 2), .int (fv0 3), .int (fv0 4), .int (fv0 5), .ref L0c, .ref L0u, .ref L0p, .ref L0l])), (L0u, .inl (g 0, 15, .inl fu0)), (L0l, .inl (g 2, 3, .inr (.inr (.inr (.inr (rf3 L0a L0b L0d)))))), (L0a, .inr (1, [.int (fa0 0), .int y_3, .int (fa0 2), .int (fa0 3), .int (fa0 4), .int 0, .int (fa0 6)])), (L0b, .inr (1, [.int (fb0 0), .int (fb0 1), .int (fb0 2), .int (fb0 3), .int (fb0 4), .int (fb0 5), .int (fb0 6)])), (L0d, .inr (1, [.int (fd0 0), .int (fd0 1), .int (fd0 2), .int (fd0 3), .int (fd0 4), .int (fd0 5), .int (fd0 6)]))]) (wr := [(Nl, .inl (g 1, 3, .inr (.inr (.inr (.inr (rf3 M0 M1 L0))))))]) rfl rfl rfl rfl (by decide) (k_X3_sendUpdate l D g H.size Nn L0 0 hp cc zrs zad zpr t zlo zps Nl Nf Nb d0 fk0 fv0 L0c L0u L0p L0l fu0 L0a L0b L0d (lf [fa0 0, y_3, fa0 2, fa0 3, fa0 4, 0, fa0 6]) fb0 fd0 (show 0 < 3 by omega) (show t < 2 ^ 30 by omega) (show d0 < 5 by omega) (h3)) (cwV 2 hts gX3_goneFrom_X3_sendUpdate rfl rfl rfl (by decide +kernel) ⟨(Nat.le_of_ble_eq_true rfl), (Nat.le_of_ble_eq_true rfl)⟩) 0 3 rfl rfl rfl rfl hl.1 rfl (Nat.le_of_ble_eq_true rfl) dX3_goneFrom_62 ⟨(Nat.le_of_ble_eq_true rfl), (Nat.le_of_ble_eq_true rfl)⟩ (fun u H locs hw hP2 hD2 hS2 => ?_)
      clear hP hD hS
      obtain ⟨zlox_7, fv0x_8, fu0x_9, rfl, hf_10⟩ := hw
      have hPD : PD D A [(Nl, .inl (g 1, 3, .inr (.inr (.inr (.inr (rf3 M0 M1 L0)))))), (Nn, .inr (3, [.int (nI hp), .int (nI cc), .int zrs, .int zad, .int zpr, .int (nI t), .int zlox_7, .int zps, .ref Nl, .ref Nf, .ref Nb])), (L0, .inr (2, [.int (nI d0), .int (fk0 1), .int (fk0 2), .int (fv0x_8 3), .int (fv0x_8 4), .int (fv0x_8 5), .ref L0c, .ref L0u, .ref L0p, .ref L0l])), (L0u, .inl (g 0, 15, .inl fu0x_9)), (L0l, .inl (g 2, 3, .inr (.inr (.inr (.inr (rf3 L0a L0b L0d)))))), (L0a, .inr (1, [.int (fa0 0), .int y_3, .int (fa0 2), .int (fa0 3), .int (fa0 4), .int 0, .int (fa0 6)])), (L0b, .inr (1, [.int (fb0 0), .int (fb0 1), .int (fb0 2), .int (fb0 3), .int (fb0 4), .int (fb0 5), .int (fb0 6)])), (L0d, .inr (1, [.int (fd0 0), .int (fd0 1), .int (fd0 2), .int (fd0 3), .int (fd0 4), .int (fd0 5), .int (fd0 6)]))] H := ⟨hP2, hD2⟩
      have hS := hS2; clear hP2 hD2 hS2; have hP := hPD.1; have hD := hPD.2; clear hPD
      refine W.widen (k := 0) (n := 0) (Nat.le_of_ble_eq_true rfl) (Nat.le_of_ble_eq_true rfl) ?_
      have hPD9 : PD D A [(Nn, .inr (3, [.int (nI hp), .int (nI cc), .int zrs, .int zad, .int zpr, .int (nI t), .int zlox_7, .int zps, .ref Nl, .ref Nf, .ref Nb])), (Nl, .inl (g 1, 3, .inr (.inr (.inr (.inr (rf3 M0 M1 L0)))))), (L0, .inr (2, [.int (nI d0), .int (fk0 1), .int (fk0 2), .int (fv0x_8 3), .int (fv0x_8 4), .int (fv0x_8 5), .ref L0c, .ref L0u, .ref L0p, .ref L0l])), (L0u, .inl (g 0, 15, .inl fu0x_9)), (L0l, .inl (g 2, 3, .inr (.inr (.inr (.inr (rf3 L0a L0b L0d)))))), (L0a, .inr (1, [.int (fa0 0), .int y_3, .int (fa0 2), .int (fa0 3), .int (fa0 4), .int 0, .int (fa0 6)])), (L0b, .inr (1, [.int (fb0 0), .int (fb0 1), .int (fb0 2), .int (fb0 3), .int (fb0 4), .int (fb0 5), .int (fb0 6)])), (L0d, .inr (1, [.int (fd0 0), .int (fd0 1), .int (fd0 2), .int (fd0 3), .int (fd0 4), .int (fd0 5), .int (fd0 6)]))] H := ⟨hP.sub [1, 0, 2, 3, 4, 5, 6, 7] rfl, hD.sub [1, 0, 2, 3, 4, 5, 6, 7] (by decide) rfl⟩
      have hP9 := hPD9.1; have hD9 := hPD9.2
      subst hQ
      refine W.widen (k := 0) (n := 0) (Nat.le_of_ble_eq_true rfl) (Nat.le_of_ble_eq_true rfl) ?_
      exact W.vret hx hb hr (fun tS htS _ => ⟨⟨_, rfl, ⟨(lf2 [fv0x_8, fu0x_9, lf [fa0 0, y_3, fa0 2, 0, fa0 4, 0, fa0 6], fb0, fd0]), zlox_7, rfl, (hf_10)⟩, by rw [htS]; exact hP9, hD9⟩, hS.F htS⟩) hS.2.2 dX3_goneFrom_65
  · skip
    have hP := hPq_1; have hD := hDq_1; have hS := hSq_1; have hl := hlq_1; clear hPq_1 hDq_1 hSq_1 hlq_1
    refine va_aldq (C := "HopCredits$Lane") hx hb hK hP 4 2 rfl rfl (by unfold vp_in; decide) dX3_goneFrom_12 ?_
    refine lv_eqv (v2 := .ref L0b) rfl ?_
    refine lv_astore (lv' := [(4, .ref L0b), (3, .ref L0), (0, .ref Nn), (1, .int 2), (2, .int (nI 1))]) hx hb dX3_goneFrom_13 hl (by decide) rfl (fun ls hl => ?_)
    refine lv_aload hx hb dX3_goneFrom_15 (lv_at hl 0 rfl) ?_
    refine lv_aload hx hb dX3_goneFrom_17 (lv_at hl 0 rfl) ?_
    refine va_get (D := D) (ci := 1) (v := .int (fb0 1)) (C := RX1) (T := TX1) (N := 7) hx hb hts iX1 hown hK hP 6 rfl rfl 1 (by decide) f198 (fun _ h9 => h9) rfl dX3_goneFrom_19 ?_
    refine lv_iconst (v := 1) hx hb dX3_goneFrom_22 (by decide) ?_
    refine lv_iadd hx hb dX3_goneFrom_23 ?_
    refine lv_topi (fun y_11 _ => ?_)
    refine lv_bipush (v := 63) hx hb dX3_goneFrom_24 (by decide) ?_
    refine lv_iand hx hb dX3_goneFrom_26 ?_
    refine lv_topi (fun y_12 _ => ?_)
    refine va_put (D := D) (ci := 1) (v := .int y_12) (ty := .int) (C := RX1) (T := TX1) (N := 7) hx hb hts iX1 tyX1 tyX1_ok nmX1 hown hK hP hD hS 6 rfl rfl 1 (by decide) f198 (fun _ h9 => h9) rfl (by decide +kernel) (rfl) (rfl) (Nat.le_of_ble_eq_true rfl) dX3_goneFrom_27 (fun H locs hP2 hD2 hS2 => ?_)
    clear hP hD hS
    have hPD : PD D A [(Nn, .inr (3, [.int (nI hp), .int (nI cc), .int zrs, .int zad, .int zpr, .int (nI t), .int zlo, .int zps, .ref Nl, .ref Nf, .ref Nb])), (Nl, .inl (g 1, 3, .inr (.inr (.inr (.inr (rf3 M0 M1 L0)))))), (L0, .inr (2, [.int (nI d0), .int (fk0 1), .int (fk0 2), .int (fv0 3), .int (fv0 4), .int (fv0 5), .ref L0c, .ref L0u, .ref L0p, .ref L0l])), (L0u, .inl (g 0, 15, .inl fu0)), (L0l, .inl (g 2, 3, .inr (.inr (.inr (.inr (rf3 L0a L0b L0d)))))), (L0a, .inr (1, [.int (fa0 0), .int (fa0 1), .int (fa0 2), .int (fa0 3), .int (fa0 4), .int (fa0 5), .int (fa0 6)])), (L0b, .inr (1, [.int (fb0 0), .int y_12, .int (fb0 2), .int (fb0 3), .int (fb0 4), .int (fb0 5), .int (fb0 6)])), (L0d, .inr (1, [.int (fd0 0), .int (fd0 1), .int (fd0 2), .int (fd0 3), .int (fd0 4), .int (fd0 5), .int (fd0 6)]))] H := ⟨hP2, hD2⟩
    have hS := hS2; clear hP2 hD2 hS2; have hP := hPD.1; have hD := hPD.2; clear hPD
    refine lv_aload hx hb dX3_goneFrom_30 (lv_at hl 0 rfl) ?_
    refine lv_dup hx hb dX3_goneFrom_32 rfl ?_
    refine va_get (D := D) (ci := 1) (v := .int (fb0 5)) (C := RX1) (T := TX1) (N := 7) hx hb hts iX1 hown hK hP 6 rfl rfl 5 (by decide) f201 (fun _ h9 => h9) rfl dX3_goneFrom_33 ?_
    refine lv_iconst (v := 1) hx hb dX3_goneFrom_36 (by decide) ?_
    refine lv_iadd hx hb dX3_goneFrom_37 ?_
    refine lv_topi (fun y_13 _ => ?_)
    refine va_put (D := D) (ci := 1) (v := .int y_13) (ty := .int) (C := RX1) (T := TX1) (N := 7) hx hb hts iX1 tyX1 tyX1_ok nmX1 hown hK hP hD hS 6 rfl rfl 5 (by decide) f201 (fun _ h9 => h9) rfl (by decide +kernel) (rfl) (rfl) (Nat.le_of_ble_eq_true rfl) dX3_goneFrom_38 (fun H locs hP2 hD2 hS2 => ?_)
    clear hP hD hS
    have hPD : PD D A [(Nn, .inr (3, [.int (nI hp), .int (nI cc), .int zrs, .int zad, .int zpr, .int (nI t), .int zlo, .int zps, .ref Nl, .ref Nf, .ref Nb])), (Nl, .inl (g 1, 3, .inr (.inr (.inr (.inr (rf3 M0 M1 L0)))))), (L0, .inr (2, [.int (nI d0), .int (fk0 1), .int (fk0 2), .int (fv0 3), .int (fv0 4), .int (fv0 5), .ref L0c, .ref L0u, .ref L0p, .ref L0l])), (L0u, .inl (g 0, 15, .inl fu0)), (L0l, .inl (g 2, 3, .inr (.inr (.inr (.inr (rf3 L0a L0b L0d)))))), (L0a, .inr (1, [.int (fa0 0), .int (fa0 1), .int (fa0 2), .int (fa0 3), .int (fa0 4), .int (fa0 5), .int (fa0 6)])), (L0b, .inr (1, [.int (fb0 0), .int y_12, .int (fb0 2), .int (fb0 3), .int (fb0 4), .int y_13, .int (fb0 6)])), (L0d, .inr (1, [.int (fd0 0), .int (fd0 1), .int (fd0 2), .int (fd0 3), .int (fd0 4), .int (fd0 5), .int (fd0 6)]))] H := ⟨hP2, hD2⟩
    have hS := hS2; clear hP2 hD2 hS2; have hP := hPD.1; have hD := hPD.2; clear hPD
    refine lv_aload hx hb dX3_goneFrom_41 (lv_at hl 0 rfl) ?_
    refine va_get (D := D) (ci := 1) (v := .int y_13) (C := RX1) (T := TX1) (N := 7) hx hb hts iX1 hown hK hP 6 rfl rfl 5 (by decide) f201 (fun _ h9 => h9) rfl dX3_goneFrom_43 ?_
    refine lv_aload_n hx hb dX3_goneFrom_46 rfl (lv_at hl 1 rfl) ?_
    refine va_get (D := D) (ci := 2) (v := .int (fk0 2)) (C := RX2) (T := TX2) (N := 10) hx hb hts iX2 hown hK hP 2 rfl rfl 2 (by decide) f204 (fun _ h9 => h9) rfl dX3_goneFrom_47 ?_
    refine lv_icmp_lt (tgt := 65) hx hb dX3_goneFrom_50 (by decide) (fun cb_14 => ?_) (fun cb_14 => ?_)
    · skip
      have hP9 := hP; have hD9 := hD
      subst hQ
      refine W.widen (k := 0) (n := 0) (Nat.le_of_ble_eq_true rfl) (Nat.le_of_ble_eq_true rfl) ?_
      exact W.vret hx hb hr (fun tS htS _ => ⟨⟨_, rfl, ⟨(lf2 [fv0, fu0, fa0, lf [fb0 0, y_12, fb0 2, 0, fb0 4, y_13, fb0 6], fd0]), zlo, rfl, (h3)⟩, by rw [htS]; exact hP9, hD9⟩, hS.F htS⟩) hS.2.2 dX3_goneFrom_65
    · skip
      refine lv_aload hx hb dX3_goneFrom_53 (lv_at hl 0 rfl) ?_
      refine lv_iconst (v := 0) hx hb dX3_goneFrom_55 (by decide) ?_
      refine va_put (D := D) (ci := 1) (v := .int 0) (ty := .int) (C := RX1) (T := TX1) (N := 7) hx hb hts iX1 tyX1 tyX1_ok nmX1 hown hK hP hD hS 6 rfl rfl 5 (by decide) f201 (fun _ h9 => h9) rfl (by decide +kernel) (rfl) (rfl) (Nat.le_of_ble_eq_true rfl) dX3_goneFrom_56 (fun H locs hP2 hD2 hS2 => ?_)
      clear hP hD hS
      have hPD : PD D A [(Nn, .inr (3, [.int (nI hp), .int (nI cc), .int zrs, .int zad, .int zpr, .int (nI t), .int zlo, .int zps, .ref Nl, .ref Nf, .ref Nb])), (Nl, .inl (g 1, 3, .inr (.inr (.inr (.inr (rf3 M0 M1 L0)))))), (L0, .inr (2, [.int (nI d0), .int (fk0 1), .int (fk0 2), .int (fv0 3), .int (fv0 4), .int (fv0 5), .ref L0c, .ref L0u, .ref L0p, .ref L0l])), (L0u, .inl (g 0, 15, .inl fu0)), (L0l, .inl (g 2, 3, .inr (.inr (.inr (.inr (rf3 L0a L0b L0d)))))), (L0a, .inr (1, [.int (fa0 0), .int (fa0 1), .int (fa0 2), .int (fa0 3), .int (fa0 4), .int (fa0 5), .int (fa0 6)])), (L0b, .inr (1, [.int (fb0 0), .int y_12, .int (fb0 2), .int (fb0 3), .int (fb0 4), .int 0, .int (fb0 6)])), (L0d, .inr (1, [.int (fd0 0), .int (fd0 1), .int (fd0 2), .int (fd0 3), .int (fd0 4), .int (fd0 5), .int (fd0 6)]))] H := ⟨hP2, hD2⟩
      have hS := hS2; clear hP2 hD2 hS2; have hP := hPD.1; have hD := hPD.2; clear hPD
      refine lv_aload_n hx hb dX3_goneFrom_59 rfl (lv_at hl 2 rfl) ?_
      refine lv_aload_n hx hb dX3_goneFrom_60 rfl (lv_at hl 1 rfl) ?_
      refine lv_iload_n hx hb dX3_goneFrom_61 rfl (lv_at hl 4 rfl) ?_
      refine ky_Vv (As := [.ref L0, .int (nI 1)]) (rest := []) ⟨hx, hb, hml, hown, hts⟩ ⟨hK, hN⟩ hZ hP hD hS hA [0, 2, 3, 4, 5, 6, 7] [1] (wc := [(Nn, .inr (3, [.int (nI hp), .int (nI cc), .int zrs, .int zad, .int zpr, .int (nI t), .int zlo, .int zps, .ref Nl, .ref Nf, .ref Nb])), (L0, .inr (2, [.int (nI d0), .int (fk0 1), .int (fk0 2), .int (fv0 3), .int (fv0 4), .int (fv0 5), .ref L0c, .ref L0u, .ref L0p, .ref L0l])), (L0u, .inl (g 0, 15, .inl fu0)), (L0l, .inl (g 2, 3, .inr (.inr (.inr (.inr (rf3 L0a L0b L0d)))))), (L0a, .inr (1, [.int (fa0 0), .int (fa0 1), .int (fa0 2), .int (fa0 3), .int (fa0 4), .int (fa0 5), .int (fa0 6)])), (L0b, .inr (1, [.int (fb0 0), .int y_12, .int (fb0 2), .int (fb0 3), .int (fb0 4), .int 0, .int (fb0 6)])), (L0d, .inr (1, [.int (fd0 0), .int (fd0 1), .int (fd0 2), .int (fd0 3), .int (fd0 4), .int (fd0 5), .int (fd0 6)]))]) (wr := [(Nl, .inl (g 1, 3, .inr (.inr (.inr (.inr (rf3 M0 M1 L0))))))]) rfl rfl rfl rfl (by decide) (k_X3_sendUpdate l D g H.size Nn L0 1 hp cc zrs zad zpr t zlo zps Nl Nf Nb d0 fk0 fv0 L0c L0u L0p L0l fu0 L0a L0b L0d fa0 (lf [fb0 0, y_12, fb0 2, fb0 3, fb0 4, 0, fb0 6]) fd0 (show 1 < 3 by omega) (show t < 2 ^ 30 by omega) (show d0 < 5 by omega) (h3)) (cwV 2 hts gX3_goneFrom_X3_sendUpdate rfl rfl rfl (by decide +kernel) ⟨(Nat.le_of_ble_eq_true rfl), (Nat.le_of_ble_eq_true rfl)⟩) 0 3 rfl rfl rfl rfl hl.1 rfl (Nat.le_of_ble_eq_true rfl) dX3_goneFrom_62 ⟨(Nat.le_of_ble_eq_true rfl), (Nat.le_of_ble_eq_true rfl)⟩ (fun u H locs hw hP2 hD2 hS2 => ?_)
      clear hP hD hS
      obtain ⟨zlox_16, fv0x_17, fu0x_18, rfl, hf_19⟩ := hw
      have hPD : PD D A [(Nl, .inl (g 1, 3, .inr (.inr (.inr (.inr (rf3 M0 M1 L0)))))), (Nn, .inr (3, [.int (nI hp), .int (nI cc), .int zrs, .int zad, .int zpr, .int (nI t), .int zlox_16, .int zps, .ref Nl, .ref Nf, .ref Nb])), (L0, .inr (2, [.int (nI d0), .int (fk0 1), .int (fk0 2), .int (fv0x_17 3), .int (fv0x_17 4), .int (fv0x_17 5), .ref L0c, .ref L0u, .ref L0p, .ref L0l])), (L0u, .inl (g 0, 15, .inl fu0x_18)), (L0l, .inl (g 2, 3, .inr (.inr (.inr (.inr (rf3 L0a L0b L0d)))))), (L0a, .inr (1, [.int (fa0 0), .int (fa0 1), .int (fa0 2), .int (fa0 3), .int (fa0 4), .int (fa0 5), .int (fa0 6)])), (L0b, .inr (1, [.int (fb0 0), .int y_12, .int (fb0 2), .int (fb0 3), .int (fb0 4), .int 0, .int (fb0 6)])), (L0d, .inr (1, [.int (fd0 0), .int (fd0 1), .int (fd0 2), .int (fd0 3), .int (fd0 4), .int (fd0 5), .int (fd0 6)]))] H := ⟨hP2, hD2⟩
      have hS := hS2; clear hP2 hD2 hS2; have hP := hPD.1; have hD := hPD.2; clear hPD
      refine W.widen (k := 0) (n := 0) (Nat.le_of_ble_eq_true rfl) (Nat.le_of_ble_eq_true rfl) ?_
      have hPD9 : PD D A [(Nn, .inr (3, [.int (nI hp), .int (nI cc), .int zrs, .int zad, .int zpr, .int (nI t), .int zlox_16, .int zps, .ref Nl, .ref Nf, .ref Nb])), (Nl, .inl (g 1, 3, .inr (.inr (.inr (.inr (rf3 M0 M1 L0)))))), (L0, .inr (2, [.int (nI d0), .int (fk0 1), .int (fk0 2), .int (fv0x_17 3), .int (fv0x_17 4), .int (fv0x_17 5), .ref L0c, .ref L0u, .ref L0p, .ref L0l])), (L0u, .inl (g 0, 15, .inl fu0x_18)), (L0l, .inl (g 2, 3, .inr (.inr (.inr (.inr (rf3 L0a L0b L0d)))))), (L0a, .inr (1, [.int (fa0 0), .int (fa0 1), .int (fa0 2), .int (fa0 3), .int (fa0 4), .int (fa0 5), .int (fa0 6)])), (L0b, .inr (1, [.int (fb0 0), .int y_12, .int (fb0 2), .int (fb0 3), .int (fb0 4), .int 0, .int (fb0 6)])), (L0d, .inr (1, [.int (fd0 0), .int (fd0 1), .int (fd0 2), .int (fd0 3), .int (fd0 4), .int (fd0 5), .int (fd0 6)]))] H := ⟨hP.sub [1, 0, 2, 3, 4, 5, 6, 7] rfl, hD.sub [1, 0, 2, 3, 4, 5, 6, 7] (by decide) rfl⟩
      have hP9 := hPD9.1; have hD9 := hPD9.2
      subst hQ
      refine W.widen (k := 0) (n := 0) (Nat.le_of_ble_eq_true rfl) (Nat.le_of_ble_eq_true rfl) ?_
      exact W.vret hx hb hr (fun tS htS _ => ⟨⟨_, rfl, ⟨(lf2 [fv0x_17, fu0x_18, fa0, lf [fb0 0, y_12, fb0 2, 0, fb0 4, 0, fb0 6], fd0]), zlox_16, rfl, (hf_19)⟩, by rw [htS]; exact hP9, hD9⟩, hS.F htS⟩) hS.2.2 dX3_goneFrom_65
  · skip
    have hP := hPq_1; have hD := hDq_1; have hS := hSq_1; have hl := hlq_1; clear hPq_1 hDq_1 hSq_1 hlq_1
    refine va_aldq (C := "HopCredits$Lane") hx hb hK hP 4 2 rfl rfl (by unfold vp_in; decide) dX3_goneFrom_12 ?_
    refine lv_eqv (v2 := .ref L0d) rfl ?_
    refine lv_astore (lv' := [(4, .ref L0d), (3, .ref L0), (0, .ref Nn), (1, .int 2), (2, .int (nI 2))]) hx hb dX3_goneFrom_13 hl (by decide) rfl (fun ls hl => ?_)
    refine lv_aload hx hb dX3_goneFrom_15 (lv_at hl 0 rfl) ?_
    refine lv_aload hx hb dX3_goneFrom_17 (lv_at hl 0 rfl) ?_
    refine va_get (D := D) (ci := 1) (v := .int (fd0 1)) (C := RX1) (T := TX1) (N := 7) hx hb hts iX1 hown hK hP 7 rfl rfl 1 (by decide) f198 (fun _ h9 => h9) rfl dX3_goneFrom_19 ?_
    refine lv_iconst (v := 1) hx hb dX3_goneFrom_22 (by decide) ?_
    refine lv_iadd hx hb dX3_goneFrom_23 ?_
    refine lv_topi (fun y_20 _ => ?_)
    refine lv_bipush (v := 63) hx hb dX3_goneFrom_24 (by decide) ?_
    refine lv_iand hx hb dX3_goneFrom_26 ?_
    refine lv_topi (fun y_21 _ => ?_)
    refine va_put (D := D) (ci := 1) (v := .int y_21) (ty := .int) (C := RX1) (T := TX1) (N := 7) hx hb hts iX1 tyX1 tyX1_ok nmX1 hown hK hP hD hS 7 rfl rfl 1 (by decide) f198 (fun _ h9 => h9) rfl (by decide +kernel) (rfl) (rfl) (Nat.le_of_ble_eq_true rfl) dX3_goneFrom_27 (fun H locs hP2 hD2 hS2 => ?_)
    clear hP hD hS
    have hPD : PD D A [(Nn, .inr (3, [.int (nI hp), .int (nI cc), .int zrs, .int zad, .int zpr, .int (nI t), .int zlo, .int zps, .ref Nl, .ref Nf, .ref Nb])), (Nl, .inl (g 1, 3, .inr (.inr (.inr (.inr (rf3 M0 M1 L0)))))), (L0, .inr (2, [.int (nI d0), .int (fk0 1), .int (fk0 2), .int (fv0 3), .int (fv0 4), .int (fv0 5), .ref L0c, .ref L0u, .ref L0p, .ref L0l])), (L0u, .inl (g 0, 15, .inl fu0)), (L0l, .inl (g 2, 3, .inr (.inr (.inr (.inr (rf3 L0a L0b L0d)))))), (L0a, .inr (1, [.int (fa0 0), .int (fa0 1), .int (fa0 2), .int (fa0 3), .int (fa0 4), .int (fa0 5), .int (fa0 6)])), (L0b, .inr (1, [.int (fb0 0), .int (fb0 1), .int (fb0 2), .int (fb0 3), .int (fb0 4), .int (fb0 5), .int (fb0 6)])), (L0d, .inr (1, [.int (fd0 0), .int y_21, .int (fd0 2), .int (fd0 3), .int (fd0 4), .int (fd0 5), .int (fd0 6)]))] H := ⟨hP2, hD2⟩
    have hS := hS2; clear hP2 hD2 hS2; have hP := hPD.1; have hD := hPD.2; clear hPD
    refine lv_aload hx hb dX3_goneFrom_30 (lv_at hl 0 rfl) ?_
    refine lv_dup hx hb dX3_goneFrom_32 rfl ?_
    refine va_get (D := D) (ci := 1) (v := .int (fd0 5)) (C := RX1) (T := TX1) (N := 7) hx hb hts iX1 hown hK hP 7 rfl rfl 5 (by decide) f201 (fun _ h9 => h9) rfl dX3_goneFrom_33 ?_
    refine lv_iconst (v := 1) hx hb dX3_goneFrom_36 (by decide) ?_
    refine lv_iadd hx hb dX3_goneFrom_37 ?_
    refine lv_topi (fun y_22 _ => ?_)
    refine va_put (D := D) (ci := 1) (v := .int y_22) (ty := .int) (C := RX1) (T := TX1) (N := 7) hx hb hts iX1 tyX1 tyX1_ok nmX1 hown hK hP hD hS 7 rfl rfl 5 (by decide) f201 (fun _ h9 => h9) rfl (by decide +kernel) (rfl) (rfl) (Nat.le_of_ble_eq_true rfl) dX3_goneFrom_38 (fun H locs hP2 hD2 hS2 => ?_)
    clear hP hD hS
    have hPD : PD D A [(Nn, .inr (3, [.int (nI hp), .int (nI cc), .int zrs, .int zad, .int zpr, .int (nI t), .int zlo, .int zps, .ref Nl, .ref Nf, .ref Nb])), (Nl, .inl (g 1, 3, .inr (.inr (.inr (.inr (rf3 M0 M1 L0)))))), (L0, .inr (2, [.int (nI d0), .int (fk0 1), .int (fk0 2), .int (fv0 3), .int (fv0 4), .int (fv0 5), .ref L0c, .ref L0u, .ref L0p, .ref L0l])), (L0u, .inl (g 0, 15, .inl fu0)), (L0l, .inl (g 2, 3, .inr (.inr (.inr (.inr (rf3 L0a L0b L0d)))))), (L0a, .inr (1, [.int (fa0 0), .int (fa0 1), .int (fa0 2), .int (fa0 3), .int (fa0 4), .int (fa0 5), .int (fa0 6)])), (L0b, .inr (1, [.int (fb0 0), .int (fb0 1), .int (fb0 2), .int (fb0 3), .int (fb0 4), .int (fb0 5), .int (fb0 6)])), (L0d, .inr (1, [.int (fd0 0), .int y_21, .int (fd0 2), .int (fd0 3), .int (fd0 4), .int y_22, .int (fd0 6)]))] H := ⟨hP2, hD2⟩
    have hS := hS2; clear hP2 hD2 hS2; have hP := hPD.1; have hD := hPD.2; clear hPD
    refine lv_aload hx hb dX3_goneFrom_41 (lv_at hl 0 rfl) ?_
    refine va_get (D := D) (ci := 1) (v := .int y_22) (C := RX1) (T := TX1) (N := 7) hx hb hts iX1 hown hK hP 7 rfl rfl 5 (by decide) f201 (fun _ h9 => h9) rfl dX3_goneFrom_43 ?_
    refine lv_aload_n hx hb dX3_goneFrom_46 rfl (lv_at hl 1 rfl) ?_
    refine va_get (D := D) (ci := 2) (v := .int (fk0 2)) (C := RX2) (T := TX2) (N := 10) hx hb hts iX2 hown hK hP 2 rfl rfl 2 (by decide) f204 (fun _ h9 => h9) rfl dX3_goneFrom_47 ?_
    refine lv_icmp_lt (tgt := 65) hx hb dX3_goneFrom_50 (by decide) (fun cb_23 => ?_) (fun cb_23 => ?_)
    · skip
      have hP9 := hP; have hD9 := hD
      subst hQ
      refine W.widen (k := 0) (n := 0) (Nat.le_of_ble_eq_true rfl) (Nat.le_of_ble_eq_true rfl) ?_
      exact W.vret hx hb hr (fun tS htS _ => ⟨⟨_, rfl, ⟨(lf2 [fv0, fu0, fa0, fb0, lf [fd0 0, y_21, fd0 2, 0, fd0 4, y_22, fd0 6]]), zlo, rfl, (h3)⟩, by rw [htS]; exact hP9, hD9⟩, hS.F htS⟩) hS.2.2 dX3_goneFrom_65
    · skip
      refine lv_aload hx hb dX3_goneFrom_53 (lv_at hl 0 rfl) ?_
      refine lv_iconst (v := 0) hx hb dX3_goneFrom_55 (by decide) ?_
      refine va_put (D := D) (ci := 1) (v := .int 0) (ty := .int) (C := RX1) (T := TX1) (N := 7) hx hb hts iX1 tyX1 tyX1_ok nmX1 hown hK hP hD hS 7 rfl rfl 5 (by decide) f201 (fun _ h9 => h9) rfl (by decide +kernel) (rfl) (rfl) (Nat.le_of_ble_eq_true rfl) dX3_goneFrom_56 (fun H locs hP2 hD2 hS2 => ?_)
      clear hP hD hS
      have hPD : PD D A [(Nn, .inr (3, [.int (nI hp), .int (nI cc), .int zrs, .int zad, .int zpr, .int (nI t), .int zlo, .int zps, .ref Nl, .ref Nf, .ref Nb])), (Nl, .inl (g 1, 3, .inr (.inr (.inr (.inr (rf3 M0 M1 L0)))))), (L0, .inr (2, [.int (nI d0), .int (fk0 1), .int (fk0 2), .int (fv0 3), .int (fv0 4), .int (fv0 5), .ref L0c, .ref L0u, .ref L0p, .ref L0l])), (L0u, .inl (g 0, 15, .inl fu0)), (L0l, .inl (g 2, 3, .inr (.inr (.inr (.inr (rf3 L0a L0b L0d)))))), (L0a, .inr (1, [.int (fa0 0), .int (fa0 1), .int (fa0 2), .int (fa0 3), .int (fa0 4), .int (fa0 5), .int (fa0 6)])), (L0b, .inr (1, [.int (fb0 0), .int (fb0 1), .int (fb0 2), .int (fb0 3), .int (fb0 4), .int (fb0 5), .int (fb0 6)])), (L0d, .inr (1, [.int (fd0 0), .int y_21, .int (fd0 2), .int (fd0 3), .int (fd0 4), .int 0, .int (fd0 6)]))] H := ⟨hP2, hD2⟩
      have hS := hS2; clear hP2 hD2 hS2; have hP := hPD.1; have hD := hPD.2; clear hPD
      refine lv_aload_n hx hb dX3_goneFrom_59 rfl (lv_at hl 2 rfl) ?_
      refine lv_aload_n hx hb dX3_goneFrom_60 rfl (lv_at hl 1 rfl) ?_
      refine lv_iload_n hx hb dX3_goneFrom_61 rfl (lv_at hl 4 rfl) ?_
      refine ky_Vv (As := [.ref L0, .int (nI 2)]) (rest := []) ⟨hx, hb, hml, hown, hts⟩ ⟨hK, hN⟩ hZ hP hD hS hA [0, 2, 3, 4, 5, 6, 7] [1] (wc := [(Nn, .inr (3, [.int (nI hp), .int (nI cc), .int zrs, .int zad, .int zpr, .int (nI t), .int zlo, .int zps, .ref Nl, .ref Nf, .ref Nb])), (L0, .inr (2, [.int (nI d0), .int (fk0 1), .int (fk0 2), .int (fv0 3), .int (fv0 4), .int (fv0 5), .ref L0c, .ref L0u, .ref L0p, .ref L0l])), (L0u, .inl (g 0, 15, .inl fu0)), (L0l, .inl (g 2, 3, .inr (.inr (.inr (.inr (rf3 L0a L0b L0d)))))), (L0a, .inr (1, [.int (fa0 0), .int (fa0 1), .int (fa0 2), .int (fa0 3), .int (fa0 4), .int (fa0 5), .int (fa0 6)])), (L0b, .inr (1, [.int (fb0 0), .int (fb0 1), .int (fb0 2), .int (fb0 3), .int (fb0 4), .int (fb0 5), .int (fb0 6)])), (L0d, .inr (1, [.int (fd0 0), .int y_21, .int (fd0 2), .int (fd0 3), .int (fd0 4), .int 0, .int (fd0 6)]))]) (wr := [(Nl, .inl (g 1, 3, .inr (.inr (.inr (.inr (rf3 M0 M1 L0))))))]) rfl rfl rfl rfl (by decide) (k_X3_sendUpdate l D g H.size Nn L0 2 hp cc zrs zad zpr t zlo zps Nl Nf Nb d0 fk0 fv0 L0c L0u L0p L0l fu0 L0a L0b L0d fa0 fb0 (lf [fd0 0, y_21, fd0 2, fd0 3, fd0 4, 0, fd0 6]) (show 2 < 3 by omega) (show t < 2 ^ 30 by omega) (show d0 < 5 by omega) (h3)) (cwV 2 hts gX3_goneFrom_X3_sendUpdate rfl rfl rfl (by decide +kernel) ⟨(Nat.le_of_ble_eq_true rfl), (Nat.le_of_ble_eq_true rfl)⟩) 0 3 rfl rfl rfl rfl hl.1 rfl (Nat.le_of_ble_eq_true rfl) dX3_goneFrom_62 ⟨(Nat.le_of_ble_eq_true rfl), (Nat.le_of_ble_eq_true rfl)⟩ (fun u H locs hw hP2 hD2 hS2 => ?_)
      clear hP hD hS
      obtain ⟨zlox_25, fv0x_26, fu0x_27, rfl, hf_28⟩ := hw
      have hPD : PD D A [(Nl, .inl (g 1, 3, .inr (.inr (.inr (.inr (rf3 M0 M1 L0)))))), (Nn, .inr (3, [.int (nI hp), .int (nI cc), .int zrs, .int zad, .int zpr, .int (nI t), .int zlox_25, .int zps, .ref Nl, .ref Nf, .ref Nb])), (L0, .inr (2, [.int (nI d0), .int (fk0 1), .int (fk0 2), .int (fv0x_26 3), .int (fv0x_26 4), .int (fv0x_26 5), .ref L0c, .ref L0u, .ref L0p, .ref L0l])), (L0u, .inl (g 0, 15, .inl fu0x_27)), (L0l, .inl (g 2, 3, .inr (.inr (.inr (.inr (rf3 L0a L0b L0d)))))), (L0a, .inr (1, [.int (fa0 0), .int (fa0 1), .int (fa0 2), .int (fa0 3), .int (fa0 4), .int (fa0 5), .int (fa0 6)])), (L0b, .inr (1, [.int (fb0 0), .int (fb0 1), .int (fb0 2), .int (fb0 3), .int (fb0 4), .int (fb0 5), .int (fb0 6)])), (L0d, .inr (1, [.int (fd0 0), .int y_21, .int (fd0 2), .int (fd0 3), .int (fd0 4), .int 0, .int (fd0 6)]))] H := ⟨hP2, hD2⟩
      have hS := hS2; clear hP2 hD2 hS2; have hP := hPD.1; have hD := hPD.2; clear hPD
      refine W.widen (k := 0) (n := 0) (Nat.le_of_ble_eq_true rfl) (Nat.le_of_ble_eq_true rfl) ?_
      have hPD9 : PD D A [(Nn, .inr (3, [.int (nI hp), .int (nI cc), .int zrs, .int zad, .int zpr, .int (nI t), .int zlox_25, .int zps, .ref Nl, .ref Nf, .ref Nb])), (Nl, .inl (g 1, 3, .inr (.inr (.inr (.inr (rf3 M0 M1 L0)))))), (L0, .inr (2, [.int (nI d0), .int (fk0 1), .int (fk0 2), .int (fv0x_26 3), .int (fv0x_26 4), .int (fv0x_26 5), .ref L0c, .ref L0u, .ref L0p, .ref L0l])), (L0u, .inl (g 0, 15, .inl fu0x_27)), (L0l, .inl (g 2, 3, .inr (.inr (.inr (.inr (rf3 L0a L0b L0d)))))), (L0a, .inr (1, [.int (fa0 0), .int (fa0 1), .int (fa0 2), .int (fa0 3), .int (fa0 4), .int (fa0 5), .int (fa0 6)])), (L0b, .inr (1, [.int (fb0 0), .int (fb0 1), .int (fb0 2), .int (fb0 3), .int (fb0 4), .int (fb0 5), .int (fb0 6)])), (L0d, .inr (1, [.int (fd0 0), .int y_21, .int (fd0 2), .int (fd0 3), .int (fd0 4), .int 0, .int (fd0 6)]))] H := ⟨hP.sub [1, 0, 2, 3, 4, 5, 6, 7] rfl, hD.sub [1, 0, 2, 3, 4, 5, 6, 7] (by decide) rfl⟩
      have hP9 := hPD9.1; have hD9 := hPD9.2
      subst hQ
      refine W.widen (k := 0) (n := 0) (Nat.le_of_ble_eq_true rfl) (Nat.le_of_ble_eq_true rfl) ?_
      exact W.vret hx hb hr (fun tS htS _ => ⟨⟨_, rfl, ⟨(lf2 [fv0x_26, fu0x_27, fa0, fb0, lf [fd0 0, y_21, fd0 2, 0, fd0 4, 0, fd0 6]]), zlox_25, rfl, (hf_28)⟩, by rw [htS]; exact hP9, hD9⟩, hS.F htS⟩) hS.2.2 dX3_goneFrom_65

set_option maxHeartbeats 4000000 in
set_option maxRecDepth 100000 in
theorem k_X3_arriveOver_0 (l : Launch) (D : va_G) (g : Nat → ClassId) (sz : Nat) (Nn : Nat) (hp : Nat) (cc : Nat) (zrs : Int32) (zad : Int32) (zpr : Int32) (t : Nat) (zlo : Int32) (zps : Int32) (Nl : Nat) (Nf : Nat) (Nb : Nat) (L0 : Nat) (M1 : Nat) (M2 : Nat) (fbuf : Nat → Int32) (d0 : Nat) (fk0 : Nat → Int32) (fv0 : Nat → Int32) (L0c : Nat) (L0u : Nat) (L0p : Nat) (L0l : Nat) (fc0 : Nat → Int32) (fu0 : Nat → Int32) (fp0 : Nat → Int32) (L0a : Nat) (L0b : Nat) (L0d : Nat) (fa0 : Nat → Int32) (fb0 : Nat → Int32) (fd0 : Nat → Int32) (h0 : 1 ≤ cc) (h1 : cc ≤ 3) (h2 : t < 2 ^ 30) (h3 : d0 < 5) (h4 : okc (fv0 4)) (h5 : okF fc0) : Met l yX3_arriveOver wsX3_arriveOver ({ frames := 2, cells := 0, slots := 0, locals := 42 }) (va_Pc [.ref Nn, .int 0] (pre D g sz [(Nn, .inr (3, [.int (nI hp), .int (nI cc), .int zrs, .int zad, .int zpr, .int (nI t), .int zlo, .int zps, .ref Nl, .ref Nf, .ref Nb])), (Nl, .inl (g 1, 3, .inr (.inr (.inr (.inr (rf3 L0 M1 M2)))))), (Nb, .inl (g 0, 12, .inl fbuf)), (L0, .inr (2, [.int (nI d0), .int (fk0 1), .int (fk0 2), .int (fv0 3), .int (fv0 4), .int (fv0 5), .ref L0c, .ref L0u, .ref L0p, .ref L0l])), (L0c, .inl (g 0, 5, .inl fc0)), (L0u, .inl (g 0, 15, .inl fu0)), (L0p, .inl (g 0, 15, .inl fp0)), (L0l, .inl (g 2, 3, .inr (.inr (.inr (.inr (rf3 L0a L0b L0d)))))), (L0a, .inr (1, [.int (fa0 0), .int (fa0 1), .int (fa0 2), .int (fa0 3), .int (fa0 4), .int (fa0 5), .int (fa0 6)])), (L0b, .inr (1, [.int (fb0 0), .int (fb0 1), .int (fb0 2), .int (fb0 3), .int (fb0 4), .int (fb0 5), .int (fb0 6)])), (L0d, .inr (1, [.int (fd0 0), .int (fd0 1), .int (fd0 2), .int (fd0 3), .int (fd0 4), .int (fd0 5), .int (fd0 6)]))])) (va_Qv (fun (u : va_W) => ∃ (PF : Nat → Nat → Int32) (zlox : Int32), u = [(Nn, .inr (3, [.int (nI hp), .int (nI cc), .int zrs, .int zad, .int zpr, .int (nI t), .int zlox, .int zps, .ref Nl, .ref Nf, .ref Nb])), (Nl, .inl (g 1, 3, .inr (.inr (.inr (.inr (rf3 L0 M1 M2)))))), (Nb, .inl (g 0, 12, .inl (PF 0))), (L0, .inr (2, [.int (nI d0), .int (fk0 1), .int (fk0 2), .int ((PF 1) 3), .int ((PF 1) 4), .int ((PF 1) 5), .ref L0c, .ref L0u, .ref L0p, .ref L0l])), (L0c, .inl (g 0, 5, .inl (PF 2))), (L0u, .inl (g 0, 15, .inl (PF 3))), (L0p, .inl (g 0, 15, .inl (PF 4))), (L0l, .inl (g 2, 3, .inr (.inr (.inr (.inr (rf3 L0a L0b L0d)))))), (L0a, .inr (1, [.int ((PF 5) 0), .int ((PF 5) 1), .int ((PF 5) 2), .int (fa0 3), .int ((PF 5) 4), .int ((PF 5) 5), .int ((PF 5) 6)])), (L0b, .inr (1, [.int ((PF 6) 0), .int ((PF 6) 1), .int ((PF 6) 2), .int (fb0 3), .int ((PF 6) 4), .int ((PF 6) 5), .int ((PF 6) 6)])), (L0d, .inr (1, [.int ((PF 7) 0), .int ((PF 7) 1), .int ((PF 7) 2), .int (fd0 3), .int ((PF 7) 4), .int ((PF 7) 5), .int ((PF 7) 6)]))] ∧ (okc ((PF 1) 4)) ∧ (okF (PF 2))) (wd D (va_A [(Nn, .inr (3, [.int (nI hp), .int (nI cc), .int zrs, .int zad, .int zpr, .int (nI t), .int zlo, .int zps, .ref Nl, .ref Nf, .ref Nb])), (Nl, .inl (g 1, 3, .inr (.inr (.inr (.inr (rf3 L0 M1 M2)))))), (Nb, .inl (g 0, 12, .inl fbuf)), (L0, .inr (2, [.int (nI d0), .int (fk0 1), .int (fk0 2), .int (fv0 3), .int (fv0 4), .int (fv0 5), .ref L0c, .ref L0u, .ref L0p, .ref L0l])), (L0c, .inl (g 0, 5, .inl fc0)), (L0u, .inl (g 0, 15, .inl fu0)), (L0p, .inl (g 0, 15, .inl fp0)), (L0l, .inl (g 2, 3, .inr (.inr (.inr (.inr (rf3 L0a L0b L0d)))))), (L0a, .inr (1, [.int (fa0 0), .int (fa0 1), .int (fa0 2), .int (fa0 3), .int (fa0 4), .int (fa0 5), .int (fa0 6)])), (L0b, .inr (1, [.int (fb0 0), .int (fb0 1), .int (fb0 2), .int (fb0 3), .int (fb0 4), .int (fb0 5), .int (fb0 6)])), (L0d, .inr (1, [.int (fd0 0), .int (fd0 1), .int (fd0 2), .int (fd0 3), .int (fd0 4), .int (fd0 5), .int (fd0 6)]))] sz)) (va_A [(Nn, .inr (3, [.int (nI hp), .int (nI cc), .int zrs, .int zad, .int zpr, .int (nI t), .int zlo, .int zps, .ref Nl, .ref Nf, .ref Nb])), (Nl, .inl (g 1, 3, .inr (.inr (.inr (.inr (rf3 L0 M1 M2)))))), (Nb, .inl (g 0, 12, .inl fbuf)), (L0, .inr (2, [.int (nI d0), .int (fk0 1), .int (fk0 2), .int (fv0 3), .int (fv0 4), .int (fv0 5), .ref L0c, .ref L0u, .ref L0p, .ref L0l])), (L0c, .inl (g 0, 5, .inl fc0)), (L0u, .inl (g 0, 15, .inl fu0)), (L0p, .inl (g 0, 15, .inl fp0)), (L0l, .inl (g 2, 3, .inr (.inr (.inr (.inr (rf3 L0a L0b L0d)))))), (L0a, .inr (1, [.int (fa0 0), .int (fa0 1), .int (fa0 2), .int (fa0 3), .int (fa0 4), .int (fa0 5), .int (fa0 6)])), (L0b, .inr (1, [.int (fb0 0), .int (fb0 1), .int (fb0 2), .int (fb0 3), .int (fb0 4), .int (fb0 5), .int (fb0 6)])), (L0d, .inr (1, [.int (fd0 0), .int (fd0 1), .int (fd0 2), .int (fd0 3), .int (fd0 4), .int (fd0 5), .int (fd0 6)]))] sz)) 0 0 (va_A [(Nn, .inr (3, [.int (nI hp), .int (nI cc), .int zrs, .int zad, .int zpr, .int (nI t), .int zlo, .int zps, .ref Nl, .ref Nf, .ref Nb])), (Nl, .inl (g 1, 3, .inr (.inr (.inr (.inr (rf3 L0 M1 M2)))))), (Nb, .inl (g 0, 12, .inl fbuf)), (L0, .inr (2, [.int (nI d0), .int (fk0 1), .int (fk0 2), .int (fv0 3), .int (fv0 4), .int (fv0 5), .ref L0c, .ref L0u, .ref L0p, .ref L0l])), (L0c, .inl (g 0, 5, .inl fc0)), (L0u, .inl (g 0, 15, .inl fu0)), (L0p, .inl (g 0, 15, .inl fp0)), (L0l, .inl (g 2, 3, .inr (.inr (.inr (.inr (rf3 L0a L0b L0d)))))), (L0a, .inr (1, [.int (fa0 0), .int (fa0 1), .int (fa0 2), .int (fa0 3), .int (fa0 4), .int (fa0 5), .int (fa0 6)])), (L0b, .inr (1, [.int (fb0 0), .int (fb0 1), .int (fb0 2), .int (fb0 3), .int (fb0 4), .int (fb0 5), .int (fb0 6)])), (L0d, .inr (1, [.int (fd0 0), .int (fd0 1), .int (fd0 2), .int (fd0 3), .int (fd0 4), .int (fd0 5), .int (fd0 6)]))] sz) := by
  refine Met.ofW (cc := cX3_arriveOver) (maxL := 9) (ret := none) (by decide) rfl ?_
  intro p e s m args below meth c s₁ B hml hv
  obtain ⟨rfl, hsz, hP, ⟨hK, hN⟩, hD0, hZ⟩ := hv
  have hx := B.exec
  have hb := B.bytes
  have hr := B.returns
  have hts := atoms_spec (ws := wsX3_arriveOver) B.pre
  have hown : s.vm.findClass RX3 = some m.cls := findClass_of_methodNamed B.named
  have hlocks := B.notSynchronized
  clear B
  subst hsz
  have hD := hD0.self (sz := s.heap.size)
  clear hD0
  generalize hAe : va_A [(Nn, .inr (3, [.int (nI hp), .int (nI cc), .int zrs, .int zad, .int zpr, .int (nI t), .int zlo, .int zps, .ref Nl, .ref Nf, .ref Nb])), (Nl, .inl (g 1, 3, .inr (.inr (.inr (.inr (rf3 L0 M1 M2)))))), (Nb, .inl (g 0, 12, .inl fbuf)), (L0, .inr (2, [.int (nI d0), .int (fk0 1), .int (fk0 2), .int (fv0 3), .int (fv0 4), .int (fv0 5), .ref L0c, .ref L0u, .ref L0p, .ref L0l])), (L0c, .inl (g 0, 5, .inl fc0)), (L0u, .inl (g 0, 15, .inl fu0)), (L0p, .inl (g 0, 15, .inl fp0)), (L0l, .inl (g 2, 3, .inr (.inr (.inr (.inr (rf3 L0a L0b L0d)))))), (L0a, .inr (1, [.int (fa0 0), .int (fa0 1), .int (fa0 2), .int (fa0 3), .int (fa0 4), .int (fa0 5), .int (fa0 6)])), (L0b, .inr (1, [.int (fb0 0), .int (fb0 1), .int (fb0 2), .int (fb0 3), .int (fb0 4), .int (fb0 5), .int (fb0 6)])), (L0d, .inr (1, [.int (fd0 0), .int (fd0 1), .int (fd0 2), .int (fd0 3), .int (fd0 4), .int (fd0 5), .int (fd0 6)]))] s.heap.size = A at hD hZ ⊢
  have hA : ∀ q : Nat, s.heap.size ≤ q → A q := fun q h => by rw [← hAe]; exact Or.inr h
  have hS : va_S A s.heap s.heap [] := va_S.rf
  have f11 := hts (.fieldLink RX3 11 "HopCredits$Net" "links" "[LHopCredits$Link;") (List.mem_of_getElem? (i := 1) rfl)
  have f122 := hts (.fieldLink RX3 122 "HopCredits$Link" "cellAt" "[I") (List.mem_of_getElem? (i := 3) rfl)
  have f125 := hts (.fieldLink RX3 125 "HopCredits$Link" "updateAt" "[I") (List.mem_of_getElem? (i := 6) rfl)
  have f128 := hts (.fieldLink RX3 128 "HopCredits$Link" "lanes" "[LHopCredits$Lane;") (List.mem_of_getElem? (i := 7) rfl)
  have f137 := hts (.fieldLink RX3 137 "HopCredits$Link" "probesAt" "[I") (List.mem_of_getElem? (i := 8) rfl)
  have f23 := hts (.fieldLink RX3 23 "HopCredits$Net" "buffers" "[I") (List.mem_of_getElem? (i := 4) rfl)
  have f62 := hts (.fieldLink RX3 62 "HopCredits$Net" "circuits" "I") (List.mem_of_getElem? (i := 5) rfl)
  have f78 := hts (.fieldLink RX3 78 "HopCredits$Net" "tick" "I") (List.mem_of_getElem? (i := 2) rfl)
  have iX2 : ∀ w ∈ u_ws RX2 TX2 10, w ∈ wsX3_arriveOver := fun w h => List.mem_cons_of_mem _ (List.mem_append_left _ (List.mem_append_right _ (h)))
  have iX3 : ∀ w ∈ u_ws RX3 TX3 11, w ∈ wsX3_arriveOver := fun w h => List.mem_cons_of_mem _ (List.mem_append_left _ (List.mem_append_left _ (List.mem_append_right _ (h))))
  have hl := lv_entry ([.ref Nn, .int 0]) (n := 9) (Nat.le_of_ble_eq_true rfl)
  rw [lg_entry_eq]
  generalize (lg_sl ([.ref Nn, .int 0]) ++ List.replicate (9 - (lg_sl ([.ref Nn, .int 0])).length) Slot.unset).toArray = ls at hl ⊢
  have hl : lv_has ls 9 [(0, .ref Nn), (1, .int 0)] := hl
  generalize hQ : MQ below _ _ s _ _ _ = Q
  generalize hH : s.heap = H at hP ⊢
  have hS : va_S A s.heap H [] := by rw [← hH]; exact hS
  clear hH
  refine lv_aload_n hx hb dX3_arriveOver_0 rfl (lv_at hl 0 rfl) ?_
  refine va_get (D := D) (ci := 3) (v := .ref Nl) (C := RX3) (T := TX3) (N := 11) hx hb hts iX3 hown hK hP 0 rfl rfl 8 (by decide) f11 (fun _ h9 => h9) rfl dX3_arriveOver_1 ?_
  refine lv_iload_n hx hb dX3_arriveOver_4 rfl (lv_at hl 1 rfl) ?_
  refine va_aldq (C := "HopCredits$Link") hx hb hK hP 1 1 rfl rfl (by unfold vp_in; decide) dX3_arriveOver_5 ?_
  refine lv_eqv (v2 := .ref L0) rfl ?_
  refine lv_astore_n (lv' := [(2, .ref L0), (0, .ref Nn), (1, .int 0)]) hx hb dX3_arriveOver_6 rfl hl (by decide) rfl (fun ls hl => ?_)
  refine lv_aload_n hx hb dX3_arriveOver_7 rfl (lv_at hl 1 rfl) ?_
  refine va_get (D := D) (ci := 3) (v := .int (nI t)) (C := RX3) (T := TX3) (N := 11) hx hb hts iX3 hown hK hP 0 rfl rfl 5 (by decide) f78 (fun _ h9 => h9) rfl dX3_arriveOver_8 ?_
  refine lv_iconst (v := 5) hx hb dX3_arriveOver_11 (by decide) ?_
  refine lv_irem hx hb dX3_arriveOver_12 (by decide) ?_
  refine lv_eqi (y := (nI ((t) % 5))) (pk_rem (show t < 2 ^ 31 by omega) (show 0 < 5 by omega) (show 5 < 2 ^ 31 by omega)) ?_
  refine lv_istore_n (lv' := [(3, .int (nI ((t) % 5))), (2, .ref L0), (0, .ref Nn), (1, .int 0)]) hx hb dX3_arriveOver_13 rfl hl (by decide) rfl (fun ls hl => ?_)
  refine lv_aload_n hx hb dX3_arriveOver_14 rfl (lv_at hl 1 rfl) ?_
  refine va_get (D := D) (ci := 2) (v := .ref L0c) (C := RX2) (T := TX2) (N := 10) hx hb hts iX2 hown hK hP 3 rfl rfl 6 (by decide) f122 (fun _ h9 => h9) rfl dX3_arriveOver_15 ?_
  refine lv_iload_n hx hb dX3_arriveOver_18 rfl (lv_at hl 0 rfl) ?_
  refine va_iald hx hb hK hP 4 0 rfl rfl (vp_in_nI (show (t) % 5 < 5 by omega) (by decide)) dX3_arriveOver_19 ?_
  refine lv_eqi (y := (fc0 ((t) % 5))) (congrArg fc0 (nI_clamp (show (t) % 5 < 2 ^ 31 by omega))) ?_
  refine lv_topc (h5 ((t) % 5)) (fun y_1 hc_2 => ?_)
  refine lv_istore (lv' := [(4, .int y_1), (3, .int (nI ((t) % 5))), (2, .ref L0), (0, .ref Nn), (1, .int 0)]) hx hb dX3_arriveOver_20 hl (by decide) rfl (fun ls hl => ?_)
  refine lv_iload hx hb dX3_arriveOver_22 (lv_at hl 0 rfl) ?_
  refine lv_iconst (v := (-1)) hx hb dX3_arriveOver_24 (by decide) ?_
  have join_20 : ∀ (F_11 : Nat → Int32) (H : Heap) (locs : List Loc) (ls : Array Slot), va_P D vwCl [(Nn, .inr (3, [.int (nI hp), .int (nI cc), .int zrs, .int zad, .int zpr, .int (nI t), .int zlo, .int zps, .ref Nl, .ref Nf, .ref Nb])), (Nl, .inl (g 1, 3, .inr (.inr (.inr (.inr (rf3 L0 M1 M2)))))), (Nb, .inl (g 0, 12, .inl F_11)), (L0, .inr (2, [.int (nI d0), .int (fk0 1), .int (fk0 2), .int (fv0 3), .int (fv0 4), .int (fv0 5), .ref L0c, .ref L0u, .ref L0p, .ref L0l])), (L0c, .inl (g 0, 5, .inl fc0)), (L0u, .inl (g 0, 15, .inl fu0)), (L0p, .inl (g 0, 15, .inl fp0)), (L0l, .inl (g 2, 3, .inr (.inr (.inr (.inr (rf3 L0a L0b L0d)))))), (L0a, .inr (1, [.int (fa0 0), .int (fa0 1), .int (fa0 2), .int (fa0 3), .int (fa0 4), .int (fa0 5), .int (fa0 6)])), (L0b, .inr (1, [.int (fb0 0), .int (fb0 1), .int (fb0 2), .int (fb0 3), .int (fb0 4), .int (fb0 5), .int (fb0 6)])), (L0d, .inr (1, [.int (fd0 0), .int (fd0 1), .int (fd0 2), .int (fd0 3), .int (fd0 4), .int (fd0 5), .int (fd0 6)]))] H → va_D A [(Nn, .inr (3, [.int (nI hp), .int (nI cc), .int zrs, .int zad, .int zpr, .int (nI t), .int zlo, .int zps, .ref Nl, .ref Nf, .ref Nb])), (Nl, .inl (g 1, 3, .inr (.inr (.inr (.inr (rf3 L0 M1 M2)))))), (Nb, .inl (g 0, 12, .inl F_11)), (L0, .inr (2, [.int (nI d0), .int (fk0 1), .int (fk0 2), .int (fv0 3), .int (fv0 4), .int (fv0 5), .ref L0c, .ref L0u, .ref L0p, .ref L0l])), (L0c, .inl (g 0, 5, .inl fc0)), (L0u, .inl (g 0, 15, .inl fu0)), (L0p, .inl (g 0, 15, .inl fp0)), (L0l, .inl (g 2, 3, .inr (.inr (.inr (.inr (rf3 L0a L0b L0d)))))), (L0a, .inr (1, [.int (fa0 0), .int (fa0 1), .int (fa0 2), .int (fa0 3), .int (fa0 4), .int (fa0 5), .int (fa0 6)])), (L0b, .inr (1, [.int (fb0 0), .int (fb0 1), .int (fb0 2), .int (fb0 3), .int (fb0 4), .int (fb0 5), .int (fb0 6)])), (L0d, .inr (1, [.int (fd0 0), .int (fd0 1), .int (fd0 2), .int (fd0 3), .int (fd0 4), .int (fd0 5), .int (fd0 6)]))] → va_S A s.heap H locs → lv_has ls 9 [(3, .int (nI ((t) % 5))), (2, .ref L0), (0, .ref Nn)] → W p l e (headSpec wsX3_arriveOver ({ frames := 2, cells := 0, slots := 0, locals := 42 })).room s m ([.ref Nn, .int 0] : List Value).toArray below meth c H locs 0 0 Q (F0 m 45 ls []) := by
    clear hP hD hS hl
    intro F_11  H locs ls hP hD hS hl
    refine lv_iconst (v := 0) hx hb dX3_arriveOver_45 (by decide) ?_
    refine lv_istore (lv' := [(5, .int 0), (3, .int (nI ((t) % 5))), (2, .ref L0), (0, .ref Nn)]) hx hb dX3_arriveOver_46 hl (by decide) rfl (fun ls hl => ?_)
    have loop_203 : ∀ (Nloop_203 : Nat) (G_66 : Nat → Int32) (G_67 : Nat → Int32) (i_68 : Nat) (z_69 : Int32) (F_70 : Nat → Int32) (G_136 : Nat → Int32) (G_137 : Nat → Int32) (hG_67p4 : okc (G_67 4)) (hbi_68 : i_68 ≤ cc) (hmloop_203 : cc - i_68 < Nloop_203) (H : Heap) (locs : List Loc) (ls : Array Slot), va_P D vwCl [(Nn, .inr (3, [.int (nI hp), .int (nI cc), .int zrs, .int zad, .int zpr, .int (nI t), .int z_69, .int zps, .ref Nl, .ref Nf, .ref Nb])), (Nl, .inl (g 1, 3, .inr (.inr (.inr (.inr (rf3 L0 M1 M2)))))), (Nb, .inl (g 0, 12, .inl F_11)), (L0, .inr (2, [.int (nI d0), .int (fk0 1), .int (fk0 2), .int (G_67 3), .int (G_67 4), .int (G_67 5), .ref L0c, .ref L0u, .ref L0p, .ref L0l])), (L0c, .inl (g 0, 5, .inl fc0)), (L0u, .inl (g 0, 15, .inl F_70)), (L0p, .inl (g 0, 15, .inl fp0)), (L0l, .inl (g 2, 3, .inr (.inr (.inr (.inr (rf3 L0a L0b L0d)))))), (L0a, .inr (1, [.int (G_66 0), .int (G_66 1), .int (G_66 2), .int (fa0 3), .int (G_66 4), .int (G_66 5), .int (G_66 6)])), (L0b, .inr (1, [.int (G_136 0), .int (G_136 1), .int (G_136 2), .int (fb0 3), .int (G_136 4), .int (G_136 5), .int (G_136 6)])), (L0d, .inr (1, [.int (G_137 0), .int (G_137 1), .int (G_137 2), .int (fd0 3), .int (G_137 4), .int (G_137 5), .int (G_137 6)]))] H → va_D A [(Nn, .inr (3, [.int (nI hp), .int (nI cc), .int zrs, .int zad, .int zpr, .int (nI t), .int z_69, .int zps, .ref Nl, .ref Nf, .ref Nb])), (Nl, .inl (g 1, 3, .inr (.inr (.inr (.inr (rf3 L0 M1 M2)))))), (Nb, .inl (g 0, 12, .inl F_11)), (L0, .inr (2, [.int (nI d0), .int (fk0 1), .int (fk0 2), .int (G_67 3), .int (G_67 4), .int (G_67 5), .ref L0c, .ref L0u, .ref L0p, .ref L0l])), (L0c, .inl (g 0, 5, .inl fc0)), (L0u, .inl (g 0, 15, .inl F_70)), (L0p, .inl (g 0, 15, .inl fp0)), (L0l, .inl (g 2, 3, .inr (.inr (.inr (.inr (rf3 L0a L0b L0d)))))), (L0a, .inr (1, [.int (G_66 0), .int (G_66 1), .int (G_66 2), .int (fa0 3), .int (G_66 4), .int (G_66 5), .int (G_66 6)])), (L0b, .inr (1, [.int (G_136 0), .int (G_136 1), .int (G_136 2), .int (fb0 3), .int (G_136 4), .int (G_136 5), .int (G_136 6)])), (L0d, .inr (1, [.int (G_137 0), .int (G_137 1), .int (G_137 2), .int (fd0 3), .int (G_137 4), .int (G_137 5), .int (G_137 6)]))] → va_S A s.heap H locs → lv_has ls 9 [(5, .int (nI i_68)), (3, .int (nI ((t) % 5))), (2, .ref L0), (0, .ref Nn)] → W p l e (headSpec wsX3_arriveOver ({ frames := 2, cells := 0, slots := 0, locals := 42 })).room s m ([.ref Nn, .int 0] : List Value).toArray below meth c H locs 0 0 Q (F0 m 48 ls []) := by
      clear hP hD hS hl
      intro Nloop_203
      induction Nloop_203 with
      | zero => intro G_66 G_67 i_68 z_69 F_70 G_136 G_137 hG_67p4 hbi_68 hm9; exact absurd hm9 (Nat.not_lt_zero _)
      | succ Nloop_203 loop_203_ih =>
        intro G_66 G_67 i_68 z_69 F_70 G_136 G_137 hG_67p4 hbi_68 hmloop_203 H locs ls hP hD hS hl
        refine lv_iload hx hb dX3_arriveOver_48 (lv_at hl 0 rfl) ?_
        refine lv_aload_n hx hb dX3_arriveOver_50 rfl (lv_at hl 3 rfl) ?_
        refine va_get (D := D) (ci := 3) (v := .int (nI cc)) (C := RX3) (T := TX3) (N := 11) hx hb hts iX3 hown hK hP 0 rfl rfl 1 (by decide) f62 (fun _ h9 => h9) rfl dX3_arriveOver_51 ?_
        refine lv_icmp_ge (tgt := 130) hx hb dX3_arriveOver_54 (by decide) (fun cb_204 => ?_) (fun cb_204 => ?_)
        · skip
          have cn_205 : cc ≤ i_68 := (nI_leI (show cc < 2 ^ 31 by omega) (show i_68 < 2 ^ 31 by omega)).mp cb_204
          refine lv_aload_n hx hb dX3_arriveOver_130 rfl (lv_at hl 2 rfl) ?_
          refine lv_iload_n hx hb dX3_arriveOver_131 rfl (lv_at hl 1 rfl) ?_
          refine ky_Vv (As := [.int (nI ((t) % 5))]) (rest := []) ⟨hx, hb, hml, hown, hts⟩ ⟨hK, hN⟩ hZ hP hD hS hA [3, 4, 5, 6] [0, 1, 2, 7, 8, 9, 10] (wc := [(L0, .inr (2, [.int (nI d0), .int (fk0 1), .int (fk0 2), .int (G_67 3), .int (G_67 4), .int (G_67 5), .ref L0c, .ref L0u, .ref L0p, .ref L0l])), (L0c, .inl (g 0, 5, .inl fc0)), (L0u, .inl (g 0, 15, .inl F_70)), (L0p, .inl (g 0, 15, .inl fp0))]) (wr := [(Nn, .inr (3, [.int (nI hp), .int (nI cc), .int zrs, .int zad, .int zpr, .int (nI t), .int z_69, .int zps, .ref Nl, .ref Nf, .ref Nb])), (Nl, .inl (g 1, 3, .inr (.inr (.inr (.inr (rf3 L0 M1 M2)))))), (Nb, .inl (g 0, 12, .inl F_11)), (L0l, .inl (g 2, 3, .inr (.inr (.inr (.inr (rf3 L0a L0b L0d)))))), (L0a, .inr (1, [.int (G_66 0), .int (G_66 1), .int (G_66 2), .int (fa0 3), .int (G_66 4), .int (G_66 5), .int (G_66 6)])), (L0b, .inr (1, [.int (G_136 0), .int (G_136 1), .int (G_136 2), .int (fb0 3), .int (G_136 4), .int (G_136 5), .int (G_136 6)])), (L0d, .inr (1, [.int (G_137 0), .int (G_137 1), .int (G_137 2), .int (fd0 3), .int (G_137 4), .int (G_137 5), .int (G_137 6)]))]) rfl rfl rfl rfl (by decide) (k_X2_clearSlot l D g H.size L0 ((t) % 5) (lf [nI d0, fk0 1, fk0 2, G_67 3, G_67 4, G_67 5]) L0c L0u L0p L0l fc0 F_70 fp0 (show ((t) % 5) < 5 by omega) (h5)) (cwV 1 hts gX3_arriveOver_X2_clearSlot rfl rfl rfl (by decide +kernel) ⟨(Nat.le_of_ble_eq_true rfl), (Nat.le_of_ble_eq_true rfl)⟩) 3 2 rfl rfl rfl rfl hl.1 rfl (Nat.le_of_ble_eq_true rfl) dX3_arriveOver_132 ⟨(Nat.le_of_ble_eq_true rfl), (Nat.le_of_ble_eq_true rfl)⟩ (fun u H locs hw hP2 hD2 hS2 => ?_)
          clear hP hD hS
          obtain ⟨fcx_207, fux_208, fpx_209, rfl, hf_210⟩ := hw
          have hPD : PD D A [(Nn, .inr (3, [.int (nI hp), .int (nI cc), .int zrs, .int zad, .int zpr, .int (nI t), .int z_69, .int zps, .ref Nl, .ref Nf, .ref Nb])), (Nl, .inl (g 1, 3, .inr (.inr (.inr (.inr (rf3 L0 M1 M2)))))), (Nb, .inl (g 0, 12, .inl F_11)), (L0l, .inl (g 2, 3, .inr (.inr (.inr (.inr (rf3 L0a L0b L0d)))))), (L0a, .inr (1, [.int (G_66 0), .int (G_66 1), .int (G_66 2), .int (fa0 3), .int (G_66 4), .int (G_66 5), .int (G_66 6)])), (L0b, .inr (1, [.int (G_136 0), .int (G_136 1), .int (G_136 2), .int (fb0 3), .int (G_136 4), .int (G_136 5), .int (G_136 6)])), (L0d, .inr (1, [.int (G_137 0), .int (G_137 1), .int (G_137 2), .int (fd0 3), .int (G_137 4), .int (G_137 5), .int (G_137 6)])), (L0, .inr (2, [.int (nI d0), .int (fk0 1), .int (fk0 2), .int (G_67 3), .int (G_67 4), .int (G_67 5), .ref L0c, .ref L0u, .ref L0p, .ref L0l])), (L0c, .inl (g 0, 5, .inl fcx_207)), (L0u, .inl (g 0, 15, .inl fux_208)), (L0p, .inl (g 0, 15, .inl fpx_209))] H := ⟨hP2, hD2⟩
          have hS := hS2; clear hP2 hD2 hS2; have hP := hPD.1; have hD := hPD.2; clear hPD
          refine W.widen (k := 0) (n := 0) (Nat.le_of_ble_eq_true rfl) (Nat.le_of_ble_eq_true rfl) ?_
          have hPD9 : PD D A [(Nn, .inr (3, [.int (nI hp), .int (nI cc), .int zrs, .int zad, .int zpr, .int (nI t), .int z_69, .int zps, .ref Nl, .ref Nf, .ref Nb])), (Nl, .inl (g 1, 3, .inr (.inr (.inr (.inr (rf3 L0 M1 M2)))))), (Nb, .inl (g 0, 12, .inl F_11)), (L0, .inr (2, [.int (nI d0), .int (fk0 1), .int (fk0 2), .int (G_67 3), .int (G_67 4), .int (G_67 5), .ref L0c, .ref L0u, .ref L0p, .ref L0l])), (L0c, .inl (g 0, 5, .inl fcx_207)), (L0u, .inl (g 0, 15, .inl fux_208)), (L0p, .inl (g 0, 15, .inl fpx_209)), (L0l, .inl (g 2, 3, .inr (.inr (.inr (.inr (rf3 L0a L0b L0d)))))), (L0a, .inr (1, [.int (G_66 0), .int (G_66 1), .int (G_66 2), .int (fa0 3), .int (G_66 4), .int (G_66 5), .int (G_66 6)])), (L0b, .inr (1, [.int (G_136 0), .int (G_136 1), .int (G_136 2), .int (fb0 3), .int (G_136 4), .int (G_136 5), .int (G_136 6)])), (L0d, .inr (1, [.int (G_137 0), .int (G_137 1), .int (G_137 2), .int (fd0 3), .int (G_137 4), .int (G_137 5), .int (G_137 6)]))] H := ⟨hP.sub [0, 1, 2, 7, 8, 9, 10, 3, 4, 5, 6] rfl, hD.sub [0, 1, 2, 7, 8, 9, 10, 3, 4, 5, 6] (by decide) rfl⟩
          have hP9 := hPD9.1; have hD9 := hPD9.2
          subst hQ
          refine W.widen (k := 0) (n := 0) (Nat.le_of_ble_eq_true rfl) (Nat.le_of_ble_eq_true rfl) ?_
          exact W.vret hx hb hr (fun tS htS _ => ⟨⟨_, rfl, ⟨(lf2 [F_11, G_67, fcx_207, fux_208, fpx_209, G_66, G_136, G_137]), z_69, rfl, (hG_67p4), (hf_210)⟩, by rw [htS]; exact hP9, hD9⟩, hS.F htS⟩) hS.2.2 dX3_arriveOver_135
        · skip
          have cn_211 : i_68 < cc := Nat.lt_of_not_le (fun q9 => cb_204 ((nI_leI (show cc < 2 ^ 31 by omega) (show i_68 < 2 ^ 31 by omega)).mpr q9))
          refine lv_aload_n hx hb dX3_arriveOver_57 rfl (lv_at hl 2 rfl) ?_
          refine va_get (D := D) (ci := 2) (v := .ref L0u) (C := RX2) (T := TX2) (N := 10) hx hb hts iX2 hown hK hP 3 rfl rfl 7 (by decide) f125 (fun _ h9 => h9) rfl dX3_arriveOver_58 ?_
          refine lv_iload_n hx hb dX3_arriveOver_61 rfl (lv_at hl 1 rfl) ?_
          refine lv_iconst (v := 3) hx hb dX3_arriveOver_62 (by decide) ?_
          refine lv_imul hx hb dX3_arriveOver_63 ?_
          refine lv_eqi (y := (nI (((t) % 5) * 3))) (pk_mul ((t) % 5) (3)) ?_
          refine lv_iload hx hb dX3_arriveOver_64 (lv_at hl 0 rfl) ?_
          refine lv_iadd hx hb dX3_arriveOver_66 ?_
          refine lv_eqi (y := (nI (((t) % 5) * 3 + i_68))) (nI_add (((t) % 5) * 3) (i_68)) ?_
          refine va_iald hx hb hK hP 5 0 rfl rfl (vp_in_nI (show ((t) % 5) * 3 + i_68 < 15 by omega) (by decide)) dX3_arriveOver_67 ?_
          refine lv_eqi (y := (F_70 (((t) % 5) * 3 + i_68))) (congrArg F_70 (nI_clamp (show ((t) % 5) * 3 + i_68 < 2 ^ 31 by omega))) ?_
          refine lv_topi (fun y_212 _ => ?_)
          refine lv_istore (lv' := [(6, .int y_212), (5, .int (nI i_68)), (3, .int (nI ((t) % 5))), (2, .ref L0), (0, .ref Nn)]) hx hb dX3_arriveOver_68 hl (by decide) rfl (fun ls hl => ?_)
          refine lv_iload hx hb dX3_arriveOver_70 (lv_at hl 0 rfl) ?_
          refine lv_iconst (v := (-1)) hx hb dX3_arriveOver_72 (by decide) ?_
          have join_234 : ∀ (G_222 : Nat → Int32) (G_223 : Nat → Int32) (G_224 : Nat → Int32) (H : Heap) (locs : List Loc) (ls : Array Slot), va_P D vwCl [(Nn, .inr (3, [.int (nI hp), .int (nI cc), .int zrs, .int zad, .int zpr, .int (nI t), .int z_69, .int zps, .ref Nl, .ref Nf, .ref Nb])), (Nl, .inl (g 1, 3, .inr (.inr (.inr (.inr (rf3 L0 M1 M2)))))), (Nb, .inl (g 0, 12, .inl F_11)), (L0, .inr (2, [.int (nI d0), .int (fk0 1), .int (fk0 2), .int (G_67 3), .int (G_67 4), .int (G_67 5), .ref L0c, .ref L0u, .ref L0p, .ref L0l])), (L0c, .inl (g 0, 5, .inl fc0)), (L0u, .inl (g 0, 15, .inl F_70)), (L0p, .inl (g 0, 15, .inl fp0)), (L0l, .inl (g 2, 3, .inr (.inr (.inr (.inr (rf3 L0a L0b L0d)))))), (L0a, .inr (1, [.int (G_222 0), .int (G_222 1), .int (G_222 2), .int (fa0 3), .int (G_222 4), .int (G_222 5), .int (G_222 6)])), (L0b, .inr (1, [.int (G_223 0), .int (G_223 1), .int (G_223 2), .int (fb0 3), .int (G_223 4), .int (G_223 5), .int (G_223 6)])), (L0d, .inr (1, [.int (G_224 0), .int (G_224 1), .int (G_224 2), .int (fd0 3), .int (G_224 4), .int (G_224 5), .int (G_224 6)]))] H → va_D A [(Nn, .inr (3, [.int (nI hp), .int (nI cc), .int zrs, .int zad, .int zpr, .int (nI t), .int z_69, .int zps, .ref Nl, .ref Nf, .ref Nb])), (Nl, .inl (g 1, 3, .inr (.inr (.inr (.inr (rf3 L0 M1 M2)))))), (Nb, .inl (g 0, 12, .inl F_11)), (L0, .inr (2, [.int (nI d0), .int (fk0 1), .int (fk0 2), .int (G_67 3), .int (G_67 4), .int (G_67 5), .ref L0c, .ref L0u, .ref L0p, .ref L0l])), (L0c, .inl (g 0, 5, .inl fc0)), (L0u, .inl (g 0, 15, .inl F_70)), (L0p, .inl (g 0, 15, .inl fp0)), (L0l, .inl (g 2, 3, .inr (.inr (.inr (.inr (rf3 L0a L0b L0d)))))), (L0a, .inr (1, [.int (G_222 0), .int (G_222 1), .int (G_222 2), .int (fa0 3), .int (G_222 4), .int (G_222 5), .int (G_222 6)])), (L0b, .inr (1, [.int (G_223 0), .int (G_223 1), .int (G_223 2), .int (fb0 3), .int (G_223 4), .int (G_223 5), .int (G_223 6)])), (L0d, .inr (1, [.int (G_224 0), .int (G_224 1), .int (G_224 2), .int (fd0 3), .int (G_224 4), .int (G_224 5), .int (G_224 6)]))] → va_S A s.heap H locs → lv_has ls 9 [(5, .int (nI i_68)), (3, .int (nI ((t) % 5))), (2, .ref L0), (0, .ref Nn)] → W p l e (headSpec wsX3_arriveOver ({ frames := 2, cells := 0, slots := 0, locals := 42 })).room s m ([.ref Nn, .int 0] : List Value).toArray below meth c H locs 0 0 Q (F0 m 88 ls []) := by
            clear hP hD hS hl
            intro G_222 G_223 G_224  H locs ls hP hD hS hl
            refine lv_aload_n hx hb dX3_arriveOver_88 rfl (lv_at hl 2 rfl) ?_
            refine va_get (D := D) (ci := 2) (v := .ref L0p) (C := RX2) (T := TX2) (N := 10) hx hb hts iX2 hown hK hP 3 rfl rfl 8 (by decide) f137 (fun _ h9 => h9) rfl dX3_arriveOver_89 ?_
            refine lv_iload_n hx hb dX3_arriveOver_92 rfl (lv_at hl 1 rfl) ?_
            refine lv_iconst (v := 3) hx hb dX3_arriveOver_93 (by decide) ?_
            refine lv_imul hx hb dX3_arriveOver_94 ?_
            refine lv_eqi (y := (nI (((t) % 5) * 3))) (pk_mul ((t) % 5) (3)) ?_
            refine lv_iload hx hb dX3_arriveOver_95 (lv_at hl 0 rfl) ?_
            refine lv_iadd hx hb dX3_arriveOver_97 ?_
            refine lv_eqi (y := (nI (((t) % 5) * 3 + i_68))) (nI_add (((t) % 5) * 3) (i_68)) ?_
            refine va_iald hx hb hK hP 6 0 rfl rfl (vp_in_nI (show ((t) % 5) * 3 + i_68 < 15 by omega) (by decide)) dX3_arriveOver_98 ?_
            refine lv_eqi (y := (fp0 (((t) % 5) * 3 + i_68))) (congrArg fp0 (nI_clamp (show ((t) % 5) * 3 + i_68 < 2 ^ 31 by omega))) ?_
            refine lv_topi (fun y_235 _ => ?_)
            refine lv_istore (lv' := [(7, .int y_235), (5, .int (nI i_68)), (3, .int (nI ((t) % 5))), (2, .ref L0), (0, .ref Nn)]) hx hb dX3_arriveOver_99 hl (by decide) rfl (fun ls hl => ?_)
            refine lv_iconst (v := 0) hx hb dX3_arriveOver_101 (by decide) ?_
            refine lv_istore (lv' := [(8, .int 0), (7, .int y_235), (5, .int (nI i_68)), (3, .int (nI ((t) % 5))), (2, .ref L0), (0, .ref Nn)]) hx hb dX3_arriveOver_102 hl (by decide) rfl (fun ls hl => ?_)
            have loop_258 : ∀ (Nloop_258 : Nat) (G_242 : Nat → Int32) (i_243 : Int32) (z_244 : Int32) (F_245 : Nat → Int32) (hG_242p4 : okc (G_242 4)) (hmloop_258 : (y_235.toInt - i_243.toInt).toNat < Nloop_258) (H : Heap) (locs : List Loc) (ls : Array Slot), va_P D vwCl [(Nn, .inr (3, [.int (nI hp), .int (nI cc), .int zrs, .int zad, .int zpr, .int (nI t), .int z_244, .int zps, .ref Nl, .ref Nf, .ref Nb])), (Nl, .inl (g 1, 3, .inr (.inr (.inr (.inr (rf3 L0 M1 M2)))))), (Nb, .inl (g 0, 12, .inl F_11)), (L0, .inr (2, [.int (nI d0), .int (fk0 1), .int (fk0 2), .int (G_242 3), .int (G_242 4), .int (G_242 5), .ref L0c, .ref L0u, .ref L0p, .ref L0l])), (L0c, .inl (g 0, 5, .inl fc0)), (L0u, .inl (g 0, 15, .inl F_245)), (L0p, .inl (g 0, 15, .inl fp0)), (L0l, .inl (g 2, 3, .inr (.inr (.inr (.inr (rf3 L0a L0b L0d)))))), (L0a, .inr (1, [.int (G_222 0), .int (G_222 1), .int (G_222 2), .int (fa0 3), .int (G_222 4), .int (G_222 5), .int (G_222 6)])), (L0b, .inr (1, [.int (G_223 0), .int (G_223 1), .int (G_223 2), .int (fb0 3), .int (G_223 4), .int (G_223 5), .int (G_223 6)])), (L0d, .inr (1, [.int (G_224 0), .int (G_224 1), .int (G_224 2), .int (fd0 3), .int (G_224 4), .int (G_224 5), .int (G_224 6)]))] H → va_D A [(Nn, .inr (3, [.int (nI hp), .int (nI cc), .int zrs, .int zad, .int zpr, .int (nI t), .int z_244, .int zps, .ref Nl, .ref Nf, .ref Nb])), (Nl, .inl (g 1, 3, .inr (.inr (.inr (.inr (rf3 L0 M1 M2)))))), (Nb, .inl (g 0, 12, .inl F_11)), (L0, .inr (2, [.int (nI d0), .int (fk0 1), .int (fk0 2), .int (G_242 3), .int (G_242 4), .int (G_242 5), .ref L0c, .ref L0u, .ref L0p, .ref L0l])), (L0c, .inl (g 0, 5, .inl fc0)), (L0u, .inl (g 0, 15, .inl F_245)), (L0p, .inl (g 0, 15, .inl fp0)), (L0l, .inl (g 2, 3, .inr (.inr (.inr (.inr (rf3 L0a L0b L0d)))))), (L0a, .inr (1, [.int (G_222 0), .int (G_222 1), .int (G_222 2), .int (fa0 3), .int (G_222 4), .int (G_222 5), .int (G_222 6)])), (L0b, .inr (1, [.int (G_223 0), .int (G_223 1), .int (G_223 2), .int (fb0 3), .int (G_223 4), .int (G_223 5), .int (G_223 6)])), (L0d, .inr (1, [.int (G_224 0), .int (G_224 1), .int (G_224 2), .int (fd0 3), .int (G_224 4), .int (G_224 5), .int (G_224 6)]))] → va_S A s.heap H locs → lv_has ls 9 [(8, .int i_243), (7, .int y_235), (5, .int (nI i_68)), (3, .int (nI ((t) % 5))), (2, .ref L0), (0, .ref Nn)] → W p l e (headSpec wsX3_arriveOver ({ frames := 2, cells := 0, slots := 0, locals := 42 })).room s m ([.ref Nn, .int 0] : List Value).toArray below meth c H locs 0 0 Q (F0 m 104 ls []) := by
              clear hP hD hS hl
              intro Nloop_258
              induction Nloop_258 with
              | zero => intro G_242 i_243 z_244 F_245 hG_242p4 hm9; exact absurd hm9 (Nat.not_lt_zero _)
              | succ Nloop_258 loop_258_ih =>
                intro G_242 i_243 z_244 F_245 hG_242p4 hmloop_258 H locs ls hP hD hS hl
                refine lv_iload hx hb dX3_arriveOver_104 (lv_at hl 0 rfl) ?_
                refine lv_iload hx hb dX3_arriveOver_106 (lv_at hl 1 rfl) ?_
                refine lv_icmp_ge (tgt := 124) hx hb dX3_arriveOver_108 (by decide) (fun cb_259 => ?_) (fun cb_259 => ?_)
                · skip
                  refine lv_iinc (v := (nI (i_68 + 1))) (lv' := [(5, .int (nI (i_68 + 1))), (8, .int i_243), (7, .int y_235), (3, .int (nI ((t) % 5))), (2, .ref L0), (0, .ref Nn)]) hx hb dX3_arriveOver_124 hl (k := 2) rfl (nI_1 (i_68)) (by decide) rfl (fun ls hl => ?_)
                  refine lv_goto (tgt := 48) hx hb dX3_arriveOver_127 (by decide) ?_
                  exact loop_203_ih G_222 G_242 (i_68 + 1) z_244 F_245 G_223 G_224 (hG_242p4) (show (i_68 + 1) ≤ cc by omega) (show cc - (i_68 + 1) < Nloop_203 by omega) _ _ _ hP hD hS (lv_sub hl [0, 3, 4, 5] rfl)
                · skip
                  refine lv_aload_n hx hb dX3_arriveOver_111 rfl (lv_at hl 5 rfl) ?_
                  refine lv_aload_n hx hb dX3_arriveOver_112 rfl (lv_at hl 4 rfl) ?_
                  refine lv_iload hx hb dX3_arriveOver_113 (lv_at hl 2 rfl) ?_
                  refine ky_Vv (As := [.ref L0, .int (nI i_68)]) (rest := []) ⟨hx, hb, hml, hown, hts⟩ ⟨hK, hN⟩ hZ hP hD hS hA [0, 3, 5, 7, 8, 9, 10] [1, 2, 4, 6] (wc := [(Nn, .inr (3, [.int (nI hp), .int (nI cc), .int zrs, .int zad, .int zpr, .int (nI t), .int z_244, .int zps, .ref Nl, .ref Nf, .ref Nb])), (L0, .inr (2, [.int (nI d0), .int (fk0 1), .int (fk0 2), .int (G_242 3), .int (G_242 4), .int (G_242 5), .ref L0c, .ref L0u, .ref L0p, .ref L0l])), (L0u, .inl (g 0, 15, .inl F_245)), (L0l, .inl (g 2, 3, .inr (.inr (.inr (.inr (rf3 L0a L0b L0d)))))), (L0a, .inr (1, [.int (G_222 0), .int (G_222 1), .int (G_222 2), .int (fa0 3), .int (G_222 4), .int (G_222 5), .int (G_222 6)])), (L0b, .inr (1, [.int (G_223 0), .int (G_223 1), .int (G_223 2), .int (fb0 3), .int (G_223 4), .int (G_223 5), .int (G_223 6)])), (L0d, .inr (1, [.int (G_224 0), .int (G_224 1), .int (G_224 2), .int (fd0 3), .int (G_224 4), .int (G_224 5), .int (G_224 6)]))]) (wr := [(Nl, .inl (g 1, 3, .inr (.inr (.inr (.inr (rf3 L0 M1 M2)))))), (Nb, .inl (g 0, 12, .inl F_11)), (L0c, .inl (g 0, 5, .inl fc0)), (L0p, .inl (g 0, 15, .inl fp0))]) rfl rfl rfl rfl (by decide) (k_X3_sendUpdate l D g H.size Nn L0 i_68 hp cc zrs zad zpr t z_244 zps Nl Nf Nb d0 fk0 G_242 L0c L0u L0p L0l F_245 L0a L0b L0d (lf [G_222 0, G_222 1, G_222 2, fa0 3, G_222 4, G_222 5, G_222 6]) (lf [G_223 0, G_223 1, G_223 2, fb0 3, G_223 4, G_223 5, G_223 6]) (lf [G_224 0, G_224 1, G_224 2, fd0 3, G_224 4, G_224 5, G_224 6]) (show i_68 < 3 by omega) (show t < 2 ^ 30 by omega) (show d0 < 5 by omega) (hG_242p4)) (cwV 2 hts gX3_arriveOver_X3_sendUpdate rfl rfl rfl (by decide +kernel) ⟨(Nat.le_of_ble_eq_true rfl), (Nat.le_of_ble_eq_true rfl)⟩) 0 3 rfl rfl rfl rfl hl.1 rfl (Nat.le_of_ble_eq_true rfl) dX3_arriveOver_115 ⟨(Nat.le_of_ble_eq_true rfl), (Nat.le_of_ble_eq_true rfl)⟩ (fun u H locs hw hP2 hD2 hS2 => ?_)
                  clear hP hD hS
                  obtain ⟨zlox_261, fv0x_262, fu0x_263, rfl, hf_264⟩ := hw
                  have hPD : PD D A [(Nl, .inl (g 1, 3, .inr (.inr (.inr (.inr (rf3 L0 M1 M2)))))), (Nb, .inl (g 0, 12, .inl F_11)), (L0c, .inl (g 0, 5, .inl fc0)), (L0p, .inl (g 0, 15, .inl fp0)), (Nn, .inr (3, [.int (nI hp), .int (nI cc), .int zrs, .int zad, .int zpr, .int (nI t), .int zlox_261, .int zps, .ref Nl, .ref Nf, .ref Nb])), (L0, .inr (2, [.int (nI d0), .int (fk0 1), .int (fk0 2), .int (fv0x_262 3), .int (fv0x_262 4), .int (fv0x_262 5), .ref L0c, .ref L0u, .ref L0p, .ref L0l])), (L0u, .inl (g 0, 15, .inl fu0x_263)), (L0l, .inl (g 2, 3, .inr (.inr (.inr (.inr (rf3 L0a L0b L0d)))))), (L0a, .inr (1, [.int (G_222 0), .int (G_222 1), .int (G_222 2), .int (fa0 3), .int (G_222 4), .int (G_222 5), .int (G_222 6)])), (L0b, .inr (1, [.int (G_223 0), .int (G_223 1), .int (G_223 2), .int (fb0 3), .int (G_223 4), .int (G_223 5), .int (G_223 6)])), (L0d, .inr (1, [.int (G_224 0), .int (G_224 1), .int (G_224 2), .int (fd0 3), .int (G_224 4), .int (G_224 5), .int (G_224 6)]))] H := ⟨hP2, hD2⟩
                  have hS := hS2; clear hP2 hD2 hS2; have hP := hPD.1; have hD := hPD.2; clear hPD
                  refine W.widen (k := 0) (n := 0) (Nat.le_of_ble_eq_true rfl) (Nat.le_of_ble_eq_true rfl) ?_
                  refine lv_iinc (v := (i_243 + 1)) (lv' := [(8, .int (i_243 + 1)), (7, .int y_235), (5, .int (nI i_68)), (3, .int (nI ((t) % 5))), (2, .ref L0), (0, .ref Nn)]) hx hb dX3_arriveOver_118 hl (k := 0) rfl (rfl) (by decide) rfl (fun ls hl => ?_)
                  refine lv_goto (tgt := 104) hx hb dX3_arriveOver_121 (by decide) ?_
                  exact loop_258_ih fv0x_262 (i_243 + 1) zlox_261 fu0x_263 (hf_264) (Nat.lt_of_lt_of_le (ms_lt (Int32.not_le.mp cb_259)) (Nat.le_of_lt_succ hmloop_258)) _ _ _ (hP.sub [4, 0, 1, 5, 2, 6, 3, 7, 8, 9, 10] rfl) (hD.sub [4, 0, 1, 5, 2, 6, 3, 7, 8, 9, 10] (by decide) rfl) hS hl
            exact loop_258 _ G_67 0 z_69 F_70 (hG_67p4) (Nat.lt_succ_self _) _ _ _ hP hD hS hl
          refine lv_icmp_eq (tgt := 88) hx hb dX3_arriveOver_73 (by decide) (fun cb_265 => ?_) (fun cb_265 => ?_)
          · skip
            have hPq_266 := hP; have hDq_266 := hD; have hSq_266 := hS; have hlq_266 := hl; clear hP hD hS hl
            subst cb_265
            have hP := hPq_266; have hD := hDq_266; have hS := hSq_266; have hl := hlq_266; clear hPq_266 hDq_266 hSq_266 hlq_266
            exact join_234 G_66 G_136 G_137 _ _ _ hP hD hS (lv_sub hl [1, 2, 3, 4] rfl)
          · skip
            refine lv_aload_n hx hb dX3_arriveOver_76 rfl (lv_at hl 3 rfl) ?_
            refine va_get (D := D) (ci := 2) (v := .ref L0l) (C := RX2) (T := TX2) (N := 10) hx hb hts iX2 hown hK hP 3 rfl rfl 9 (by decide) f128 (fun _ h9 => h9) rfl dX3_arriveOver_77 ?_
            refine lv_iload hx hb dX3_arriveOver_80 (lv_at hl 1 rfl) ?_
            have hPq_267 := hP; have hDq_267 := hD; have hSq_267 := hS; have hlq_267 := hl; clear hP hD hS hl
            rcases (show i_68 = 0 ∨ i_68 = 1 ∨ i_68 = 2 by omega) with rfl | rfl | rfl
            · skip
              have hP := hPq_267; have hD := hDq_267; have hS := hSq_267; have hl := hlq_267; clear hPq_267 hDq_267 hSq_267 hlq_267
              refine va_aldq (C := "HopCredits$Lane") hx hb hK hP 7 2 rfl rfl (by unfold vp_in; decide) dX3_arriveOver_82 ?_
              refine lv_eqv (v2 := .ref L0a) rfl ?_
              refine lv_iload hx hb dX3_arriveOver_83 (lv_at hl 0 rfl) ?_
              refine ky_Vv (As := [.int y_212]) (rest := []) ⟨hx, hb, hml, hown, hts⟩ ⟨hK, hN⟩ hZ hP hD hS hA [8] [0, 1, 2, 3, 4, 5, 6, 7, 9, 10] (wc := [(L0a, .inr (1, [.int (G_66 0), .int (G_66 1), .int (G_66 2), .int (fa0 3), .int (G_66 4), .int (G_66 5), .int (G_66 6)]))]) (wr := [(Nn, .inr (3, [.int (nI hp), .int (nI cc), .int zrs, .int zad, .int zpr, .int (nI t), .int z_69, .int zps, .ref Nl, .ref Nf, .ref Nb])), (Nl, .inl (g 1, 3, .inr (.inr (.inr (.inr (rf3 L0 M1 M2)))))), (Nb, .inl (g 0, 12, .inl F_11)), (L0, .inr (2, [.int (nI d0), .int (fk0 1), .int (fk0 2), .int (G_67 3), .int (G_67 4), .int (G_67 5), .ref L0c, .ref L0u, .ref L0p, .ref L0l])), (L0c, .inl (g 0, 5, .inl fc0)), (L0u, .inl (g 0, 15, .inl F_70)), (L0p, .inl (g 0, 15, .inl fp0)), (L0l, .inl (g 2, 3, .inr (.inr (.inr (.inr (rf3 L0a L0b L0d)))))), (L0b, .inr (1, [.int (G_136 0), .int (G_136 1), .int (G_136 2), .int (fb0 3), .int (G_136 4), .int (G_136 5), .int (G_136 6)])), (L0d, .inr (1, [.int (G_137 0), .int (G_137 1), .int (G_137 2), .int (fd0 3), .int (G_137 4), .int (G_137 5), .int (G_137 6)]))]) rfl rfl rfl rfl (by decide) (k_X1_hear l D g H.size L0a y_212 (lf [G_66 0, G_66 1, G_66 2, fa0 3, G_66 4, G_66 5, G_66 6])) (cwV 1 hts gX3_arriveOver_X1_hear rfl rfl rfl (by decide +kernel) ⟨(Nat.le_of_ble_eq_true rfl), (Nat.le_of_ble_eq_true rfl)⟩) 8 1 rfl rfl rfl rfl hl.1 rfl (Nat.le_of_ble_eq_true rfl) dX3_arriveOver_85 ⟨(Nat.le_of_ble_eq_true rfl), (Nat.le_of_ble_eq_true rfl)⟩ (fun u H locs hw hP2 hD2 hS2 => ?_)
              clear hP hD hS
              obtain ⟨fwx_269, rfl⟩ := hw
              have hPD : PD D A [(Nn, .inr (3, [.int (nI hp), .int (nI cc), .int zrs, .int zad, .int zpr, .int (nI t), .int z_69, .int zps, .ref Nl, .ref Nf, .ref Nb])), (Nl, .inl (g 1, 3, .inr (.inr (.inr (.inr (rf3 L0 M1 M2)))))), (Nb, .inl (g 0, 12, .inl F_11)), (L0, .inr (2, [.int (nI d0), .int (fk0 1), .int (fk0 2), .int (G_67 3), .int (G_67 4), .int (G_67 5), .ref L0c, .ref L0u, .ref L0p, .ref L0l])), (L0c, .inl (g 0, 5, .inl fc0)), (L0u, .inl (g 0, 15, .inl F_70)), (L0p, .inl (g 0, 15, .inl fp0)), (L0l, .inl (g 2, 3, .inr (.inr (.inr (.inr (rf3 L0a L0b L0d)))))), (L0b, .inr (1, [.int (G_136 0), .int (G_136 1), .int (G_136 2), .int (fb0 3), .int (G_136 4), .int (G_136 5), .int (G_136 6)])), (L0d, .inr (1, [.int (G_137 0), .int (G_137 1), .int (G_137 2), .int (fd0 3), .int (G_137 4), .int (G_137 5), .int (G_137 6)])), (L0a, .inr (1, [.int (fwx_269 0), .int (fwx_269 1), .int (fwx_269 2), .int (fa0 3), .int (fwx_269 4), .int (fwx_269 5), .int (fwx_269 6)]))] H := ⟨hP2, hD2⟩
              have hS := hS2; clear hP2 hD2 hS2; have hP := hPD.1; have hD := hPD.2; clear hPD
              refine W.widen (k := 0) (n := 0) (Nat.le_of_ble_eq_true rfl) (Nat.le_of_ble_eq_true rfl) ?_
              exact join_234 fwx_269 G_136 G_137 _ _ _ (hP.sub [0, 1, 2, 3, 4, 5, 6, 7, 10, 8, 9] rfl) (hD.sub [0, 1, 2, 3, 4, 5, 6, 7, 10, 8, 9] (by decide) rfl) hS (lv_sub hl [1, 2, 3, 4] rfl)
            · skip
              have hP := hPq_267; have hD := hDq_267; have hS := hSq_267; have hl := hlq_267; clear hPq_267 hDq_267 hSq_267 hlq_267
              refine va_aldq (C := "HopCredits$Lane") hx hb hK hP 7 2 rfl rfl (by unfold vp_in; decide) dX3_arriveOver_82 ?_
              refine lv_eqv (v2 := .ref L0b) rfl ?_
              refine lv_iload hx hb dX3_arriveOver_83 (lv_at hl 0 rfl) ?_
              refine ky_Vv (As := [.int y_212]) (rest := []) ⟨hx, hb, hml, hown, hts⟩ ⟨hK, hN⟩ hZ hP hD hS hA [9] [0, 1, 2, 3, 4, 5, 6, 7, 8, 10] (wc := [(L0b, .inr (1, [.int (G_136 0), .int (G_136 1), .int (G_136 2), .int (fb0 3), .int (G_136 4), .int (G_136 5), .int (G_136 6)]))]) (wr := [(Nn, .inr (3, [.int (nI hp), .int (nI cc), .int zrs, .int zad, .int zpr, .int (nI t), .int z_69, .int zps, .ref Nl, .ref Nf, .ref Nb])), (Nl, .inl (g 1, 3, .inr (.inr (.inr (.inr (rf3 L0 M1 M2)))))), (Nb, .inl (g 0, 12, .inl F_11)), (L0, .inr (2, [.int (nI d0), .int (fk0 1), .int (fk0 2), .int (G_67 3), .int (G_67 4), .int (G_67 5), .ref L0c, .ref L0u, .ref L0p, .ref L0l])), (L0c, .inl (g 0, 5, .inl fc0)), (L0u, .inl (g 0, 15, .inl F_70)), (L0p, .inl (g 0, 15, .inl fp0)), (L0l, .inl (g 2, 3, .inr (.inr (.inr (.inr (rf3 L0a L0b L0d)))))), (L0a, .inr (1, [.int (G_66 0), .int (G_66 1), .int (G_66 2), .int (fa0 3), .int (G_66 4), .int (G_66 5), .int (G_66 6)])), (L0d, .inr (1, [.int (G_137 0), .int (G_137 1), .int (G_137 2), .int (fd0 3), .int (G_137 4), .int (G_137 5), .int (G_137 6)]))]) rfl rfl rfl rfl (by decide) (k_X1_hear l D g H.size L0b y_212 (lf [G_136 0, G_136 1, G_136 2, fb0 3, G_136 4, G_136 5, G_136 6])) (cwV 1 hts gX3_arriveOver_X1_hear rfl rfl rfl (by decide +kernel) ⟨(Nat.le_of_ble_eq_true rfl), (Nat.le_of_ble_eq_true rfl)⟩) 9 1 rfl rfl rfl rfl hl.1 rfl (Nat.le_of_ble_eq_true rfl) dX3_arriveOver_85 ⟨(Nat.le_of_ble_eq_true rfl), (Nat.le_of_ble_eq_true rfl)⟩ (fun u H locs hw hP2 hD2 hS2 => ?_)
              clear hP hD hS
              obtain ⟨fwx_271, rfl⟩ := hw
              have hPD : PD D A [(Nn, .inr (3, [.int (nI hp), .int (nI cc), .int zrs, .int zad, .int zpr, .int (nI t), .int z_69, .int zps, .ref Nl, .ref Nf, .ref Nb])), (Nl, .inl (g 1, 3, .inr (.inr (.inr (.inr (rf3 L0 M1 M2)))))), (Nb, .inl (g 0, 12, .inl F_11)), (L0, .inr (2, [.int (nI d0), .int (fk0 1), .int (fk0 2), .int (G_67 3), .int (G_67 4), .int (G_67 5), .ref L0c, .ref L0u, .ref L0p, .ref L0l])), (L0c, .inl (g 0, 5, .inl fc0)), (L0u, .inl (g 0, 15, .inl F_70)), (L0p, .inl (g 0, 15, .inl fp0)), (L0l, .inl (g 2, 3, .inr (.inr (.inr (.inr (rf3 L0a L0b L0d)))))), (L0a, .inr (1, [.int (G_66 0), .int (G_66 1), .int (G_66 2), .int (fa0 3), .int (G_66 4), .int (G_66 5), .int (G_66 6)])), (L0d, .inr (1, [.int (G_137 0), .int (G_137 1), .int (G_137 2), .int (fd0 3), .int (G_137 4), .int (G_137 5), .int (G_137 6)])), (L0b, .inr (1, [.int (fwx_271 0), .int (fwx_271 1), .int (fwx_271 2), .int (fb0 3), .int (fwx_271 4), .int (fwx_271 5), .int (fwx_271 6)]))] H := ⟨hP2, hD2⟩
              have hS := hS2; clear hP2 hD2 hS2; have hP := hPD.1; have hD := hPD.2; clear hPD
              refine W.widen (k := 0) (n := 0) (Nat.le_of_ble_eq_true rfl) (Nat.le_of_ble_eq_true rfl) ?_
              exact join_234 G_66 fwx_271 G_137 _ _ _ (hP.sub [0, 1, 2, 3, 4, 5, 6, 7, 8, 10, 9] rfl) (hD.sub [0, 1, 2, 3, 4, 5, 6, 7, 8, 10, 9] (by decide) rfl) hS (lv_sub hl [1, 2, 3, 4] rfl)
            · skip
              have hP := hPq_267; have hD := hDq_267; have hS := hSq_267; have hl := hlq_267; clear hPq_267 hDq_267 hSq_267 hlq_267
              refine va_aldq (C := "HopCredits$Lane") hx hb hK hP 7 2 rfl rfl (by unfold vp_in; decide) dX3_arriveOver_82 ?_
              refine lv_eqv (v2 := .ref L0d) rfl ?_
              refine lv_iload hx hb dX3_arriveOver_83 (lv_at hl 0 rfl) ?_
              refine ky_Vv (As := [.int y_212]) (rest := []) ⟨hx, hb, hml, hown, hts⟩ ⟨hK, hN⟩ hZ hP hD hS hA [10] [0, 1, 2, 3, 4, 5, 6, 7, 8, 9] (wc := [(L0d, .inr (1, [.int (G_137 0), .int (G_137 1), .int (G_137 2), .int (fd0 3), .int (G_137 4), .int (G_137 5), .int (G_137 6)]))]) (wr := [(Nn, .inr (3, [.int (nI hp), .int (nI cc), .int zrs, .int zad, .int zpr, .int (nI t), .int z_69, .int zps, .ref Nl, .ref Nf, .ref Nb])), (Nl, .inl (g 1, 3, .inr (.inr (.inr (.inr (rf3 L0 M1 M2)))))), (Nb, .inl (g 0, 12, .inl F_11)), (L0, .inr (2, [.int (nI d0), .int (fk0 1), .int (fk0 2), .int (G_67 3), .int (G_67 4), .int (G_67 5), .ref L0c, .ref L0u, .ref L0p, .ref L0l])), (L0c, .inl (g 0, 5, .inl fc0)), (L0u, .inl (g 0, 15, .inl F_70)), (L0p, .inl (g 0, 15, .inl fp0)), (L0l, .inl (g 2, 3, .inr (.inr (.inr (.inr (rf3 L0a L0b L0d)))))), (L0a, .inr (1, [.int (G_66 0), .int (G_66 1), .int (G_66 2), .int (fa0 3), .int (G_66 4), .int (G_66 5), .int (G_66 6)])), (L0b, .inr (1, [.int (G_136 0), .int (G_136 1), .int (G_136 2), .int (fb0 3), .int (G_136 4), .int (G_136 5), .int (G_136 6)]))]) rfl rfl rfl rfl (by decide) (k_X1_hear l D g H.size L0d y_212 (lf [G_137 0, G_137 1, G_137 2, fd0 3, G_137 4, G_137 5, G_137 6])) (cwV 1 hts gX3_arriveOver_X1_hear rfl rfl rfl (by decide +kernel) ⟨(Nat.le_of_ble_eq_true rfl), (Nat.le_of_ble_eq_true rfl)⟩) 10 1 rfl rfl rfl rfl hl.1 rfl (Nat.le_of_ble_eq_true rfl) dX3_arriveOver_85 ⟨(Nat.le_of_ble_eq_true rfl), (Nat.le_of_ble_eq_true rfl)⟩ (fun u H locs hw hP2 hD2 hS2 => ?_)
              clear hP hD hS
              obtain ⟨fwx_273, rfl⟩ := hw
              have hPD : PD D A [(Nn, .inr (3, [.int (nI hp), .int (nI cc), .int zrs, .int zad, .int zpr, .int (nI t), .int z_69, .int zps, .ref Nl, .ref Nf, .ref Nb])), (Nl, .inl (g 1, 3, .inr (.inr (.inr (.inr (rf3 L0 M1 M2)))))), (Nb, .inl (g 0, 12, .inl F_11)), (L0, .inr (2, [.int (nI d0), .int (fk0 1), .int (fk0 2), .int (G_67 3), .int (G_67 4), .int (G_67 5), .ref L0c, .ref L0u, .ref L0p, .ref L0l])), (L0c, .inl (g 0, 5, .inl fc0)), (L0u, .inl (g 0, 15, .inl F_70)), (L0p, .inl (g 0, 15, .inl fp0)), (L0l, .inl (g 2, 3, .inr (.inr (.inr (.inr (rf3 L0a L0b L0d)))))), (L0a, .inr (1, [.int (G_66 0), .int (G_66 1), .int (G_66 2), .int (fa0 3), .int (G_66 4), .int (G_66 5), .int (G_66 6)])), (L0b, .inr (1, [.int (G_136 0), .int (G_136 1), .int (G_136 2), .int (fb0 3), .int (G_136 4), .int (G_136 5), .int (G_136 6)])), (L0d, .inr (1, [.int (fwx_273 0), .int (fwx_273 1), .int (fwx_273 2), .int (fd0 3), .int (fwx_273 4), .int (fwx_273 5), .int (fwx_273 6)]))] H := ⟨hP2, hD2⟩
              have hS := hS2; clear hP2 hD2 hS2; have hP := hPD.1; have hD := hPD.2; clear hPD
              refine W.widen (k := 0) (n := 0) (Nat.le_of_ble_eq_true rfl) (Nat.le_of_ble_eq_true rfl) ?_
              exact join_234 G_66 G_136 fwx_273 _ _ _ hP hD hS (lv_sub hl [1, 2, 3, 4] rfl)
    exact loop_203 _ fa0 fv0 0 zlo fu0 fb0 fd0 (h4) (show 0 ≤ cc by omega) (Nat.lt_succ_self _) _ _ _ hP hD hS hl
  refine lv_icmp_eq (tgt := 45) hx hb dX3_arriveOver_25 (by decide) (fun cb_274 => ?_) (fun cb_274 => ?_)
  · skip
    have hPq_275 := hP; have hDq_275 := hD; have hSq_275 := hS; have hlq_275 := hl; clear hP hD hS hl
    subst cb_274
    have hP := hPq_275; have hD := hDq_275; have hS := hSq_275; have hl := hlq_275; clear hPq_275 hDq_275 hSq_275 hlq_275
    exact join_20 fbuf _ _ _ hP hD hS (lv_sub hl [1, 2, 3] rfl)
  · skip
    have hPq_278 := hP; have hDq_278 := hD; have hSq_278 := hS; have hlq_278 := hl; clear hP hD hS hl
    obtain ⟨j_276, hj_277, rfl⟩ := okc_j (hc_2) cb_274
    have hP := hPq_278; have hD := hDq_278; have hS := hSq_278; have hl := hlq_278; clear hPq_278 hDq_278 hSq_278 hlq_278
    refine lv_aload_n hx hb dX3_arriveOver_28 rfl (lv_at hl 3 rfl) ?_
    refine va_get (D := D) (ci := 3) (v := .ref Nb) (C := RX3) (T := TX3) (N := 11) hx hb hts iX3 hown hK hP 0 rfl rfl 10 (by decide) f23 (fun _ h9 => h9) rfl dX3_arriveOver_29 ?_
    refine lv_iload_n hx hb dX3_arriveOver_32 rfl (lv_at hl 4 rfl) ?_
    refine lv_iconst (v := 1) hx hb dX3_arriveOver_33 (by decide) ?_
    refine lv_iadd hx hb dX3_arriveOver_34 ?_
    refine lv_eqi (y := 1) (by decide) ?_
    refine lv_iconst (v := 3) hx hb dX3_arriveOver_35 (by decide) ?_
    refine lv_imul hx hb dX3_arriveOver_36 ?_
    refine lv_eqi (y := 3) (by decide) ?_
    refine lv_iload hx hb dX3_arriveOver_37 (lv_at hl 0 rfl) ?_
    refine lv_iadd hx hb dX3_arriveOver_39 ?_
    refine lv_eqi (y := (nI (3 + j_276))) (nI_add (3) (j_276)) ?_
    refine lv_dup2_11 hx hb dX3_arriveOver_40 rfl rfl ?_
    refine va_iald hx hb hK hP 2 0 rfl rfl (vp_in_nI (show 3 + j_276 < 12 by omega) (by decide)) dX3_arriveOver_41 ?_
    refine lv_eqi (y := (fbuf (3 + j_276))) (congrArg fbuf (nI_clamp (show 3 + j_276 < 2 ^ 31 by omega))) ?_
    refine lv_topi (fun y_279 _ => ?_)
    refine lv_iconst (v := 1) hx hb dX3_arriveOver_42 (by decide) ?_
    refine lv_iadd hx hb dX3_arriveOver_43 ?_
    refine lv_topi (fun y_280 _ => ?_)
    refine va_iast hx hb hK hP hD hS 2 0 rfl rfl (vp_in_nI (show 3 + j_276 < 12 by omega) (by decide)) dX3_arriveOver_44 (fun H locs hP2 hD2 hS2 => ?_)
    clear hP hD hS
    have hPD : PD D A [(Nn, .inr (3, [.int (nI hp), .int (nI cc), .int zrs, .int zad, .int zpr, .int (nI t), .int zlo, .int zps, .ref Nl, .ref Nf, .ref Nb])), (Nl, .inl (g 1, 3, .inr (.inr (.inr (.inr (rf3 L0 M1 M2)))))), (Nb, .inl (g 0, 12, .inl (upd fbuf (nI (3 + j_276)).toNatClampNeg y_280))), (L0, .inr (2, [.int (nI d0), .int (fk0 1), .int (fk0 2), .int (fv0 3), .int (fv0 4), .int (fv0 5), .ref L0c, .ref L0u, .ref L0p, .ref L0l])), (L0c, .inl (g 0, 5, .inl fc0)), (L0u, .inl (g 0, 15, .inl fu0)), (L0p, .inl (g 0, 15, .inl fp0)), (L0l, .inl (g 2, 3, .inr (.inr (.inr (.inr (rf3 L0a L0b L0d)))))), (L0a, .inr (1, [.int (fa0 0), .int (fa0 1), .int (fa0 2), .int (fa0 3), .int (fa0 4), .int (fa0 5), .int (fa0 6)])), (L0b, .inr (1, [.int (fb0 0), .int (fb0 1), .int (fb0 2), .int (fb0 3), .int (fb0 4), .int (fb0 5), .int (fb0 6)])), (L0d, .inr (1, [.int (fd0 0), .int (fd0 1), .int (fd0 2), .int (fd0 3), .int (fd0 4), .int (fd0 5), .int (fd0 6)]))] H := ⟨hP2, hD2⟩
    have hS := hS2; clear hP2 hD2 hS2; have hP := hPD.1; have hD := hPD.2; clear hPD
    rw [nI_clamp (show 3 + j_276 < 2 ^ 31 by omega)] at hP hD
    have hPD : PD D A [(Nn, .inr (3, [.int (nI hp), .int (nI cc), .int zrs, .int zad, .int zpr, .int (nI t), .int zlo, .int zps, .ref Nl, .ref Nf, .ref Nb])), (Nl, .inl (g 1, 3, .inr (.inr (.inr (.inr (rf3 L0 M1 M2)))))), (Nb, .inl (g 0, 12, .inl (upd fbuf (3 + j_276) y_280))), (L0, .inr (2, [.int (nI d0), .int (fk0 1), .int (fk0 2), .int (fv0 3), .int (fv0 4), .int (fv0 5), .ref L0c, .ref L0u, .ref L0p, .ref L0l])), (L0c, .inl (g 0, 5, .inl fc0)), (L0u, .inl (g 0, 15, .inl fu0)), (L0p, .inl (g 0, 15, .inl fp0)), (L0l, .inl (g 2, 3, .inr (.inr (.inr (.inr (rf3 L0a L0b L0d)))))), (L0a, .inr (1, [.int (fa0 0), .int (fa0 1), .int (fa0 2), .int (fa0 3), .int (fa0 4), .int (fa0 5), .int (fa0 6)])), (L0b, .inr (1, [.int (fb0 0), .int (fb0 1), .int (fb0 2), .int (fb0 3), .int (fb0 4), .int (fb0 5), .int (fb0 6)])), (L0d, .inr (1, [.int (fd0 0), .int (fd0 1), .int (fd0 2), .int (fd0 3), .int (fd0 4), .int (fd0 5), .int (fd0 6)]))] H := ⟨hP, hD⟩
    clear hP hD; have hP := hPD.1; have hD := hPD.2; clear hPD
    generalize upd fbuf (3 + j_276) y_280 = F_281 at hP hD
    exact join_20 F_281 _ _ _ hP hD hS (lv_sub hl [1, 2, 3] rfl)
