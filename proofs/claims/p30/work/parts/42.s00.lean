set_option maxHeartbeats 4000000 in
set_option maxRecDepth 100000 in
theorem k_X3_sendUpdate (l : Launch) (D : va_G) (g : Nat → ClassId) (sz : Nat) (Nn : Nat) (L0 : Nat) (cx : Nat) (hp : Nat) (cc : Nat) (zrs : Int32) (zad : Int32) (zpr : Int32) (t : Nat) (zlo : Int32) (zps : Int32) (Nl : Nat) (Nf : Nat) (Nb : Nat) (d0 : Nat) (fk0 : Nat → Int32) (fv0 : Nat → Int32) (L0c : Nat) (L0u : Nat) (L0p : Nat) (L0l : Nat) (fu0 : Nat → Int32) (L0a : Nat) (L0b : Nat) (L0d : Nat) (fa0 : Nat → Int32) (fb0 : Nat → Int32) (fd0 : Nat → Int32) (h0 : cx < 3) (h1 : t < 2 ^ 30) (h2 : d0 < 5) (h3 : okc (fv0 4)) : Met l yX3_sendUpdate wsX3_sendUpdate ({ frames := 0, cells := 0, slots := 0, locals := 0 }) (va_Pc [.ref Nn, .ref L0, .int (nI cx)] (pre D g sz [(Nn, .inr (3, [.int (nI hp), .int (nI cc), .int zrs, .int zad, .int zpr, .int (nI t), .int zlo, .int zps, .ref Nl, .ref Nf, .ref Nb])), (L0, .inr (2, [.int (nI d0), .int (fk0 1), .int (fk0 2), .int (fv0 3), .int (fv0 4), .int (fv0 5), .ref L0c, .ref L0u, .ref L0p, .ref L0l])), (L0u, .inl (g 0, 15, .inl fu0)), (L0l, .inl (g 2, 3, .inr (.inr (.inr (.inr (rf3 L0a L0b L0d)))))), (L0a, .inr (1, [.int (fa0 0), .int (fa0 1), .int (fa0 2), .int (fa0 3), .int (fa0 4), .int (fa0 5), .int (fa0 6)])), (L0b, .inr (1, [.int (fb0 0), .int (fb0 1), .int (fb0 2), .int (fb0 3), .int (fb0 4), .int (fb0 5), .int (fb0 6)])), (L0d, .inr (1, [.int (fd0 0), .int (fd0 1), .int (fd0 2), .int (fd0 3), .int (fd0 4), .int (fd0 5), .int (fd0 6)]))])) (va_Qv (fun (u : va_W) => ∃ (zlox : Int32) (fv0x : Nat → Int32) (fu0x : Nat → Int32), u = [(Nn, .inr (3, [.int (nI hp), .int (nI cc), .int zrs, .int zad, .int zpr, .int (nI t), .int zlox, .int zps, .ref Nl, .ref Nf, .ref Nb])), (L0, .inr (2, [.int (nI d0), .int (fk0 1), .int (fk0 2), .int (fv0x 3), .int (fv0x 4), .int (fv0x 5), .ref L0c, .ref L0u, .ref L0p, .ref L0l])), (L0u, .inl (g 0, 15, .inl fu0x)), (L0l, .inl (g 2, 3, .inr (.inr (.inr (.inr (rf3 L0a L0b L0d)))))), (L0a, .inr (1, [.int (fa0 0), .int (fa0 1), .int (fa0 2), .int (fa0 3), .int (fa0 4), .int (fa0 5), .int (fa0 6)])), (L0b, .inr (1, [.int (fb0 0), .int (fb0 1), .int (fb0 2), .int (fb0 3), .int (fb0 4), .int (fb0 5), .int (fb0 6)])), (L0d, .inr (1, [.int (fd0 0), .int (fd0 1), .int (fd0 2), .int (fd0 3), .int (fd0 4), .int (fd0 5), .int (fd0 6)]))] ∧ (okc (fv0x 4))) (wd D (va_A [(Nn, .inr (3, [.int (nI hp), .int (nI cc), .int zrs, .int zad, .int zpr, .int (nI t), .int zlo, .int zps, .ref Nl, .ref Nf, .ref Nb])), (L0, .inr (2, [.int (nI d0), .int (fk0 1), .int (fk0 2), .int (fv0 3), .int (fv0 4), .int (fv0 5), .ref L0c, .ref L0u, .ref L0p, .ref L0l])), (L0u, .inl (g 0, 15, .inl fu0)), (L0l, .inl (g 2, 3, .inr (.inr (.inr (.inr (rf3 L0a L0b L0d)))))), (L0a, .inr (1, [.int (fa0 0), .int (fa0 1), .int (fa0 2), .int (fa0 3), .int (fa0 4), .int (fa0 5), .int (fa0 6)])), (L0b, .inr (1, [.int (fb0 0), .int (fb0 1), .int (fb0 2), .int (fb0 3), .int (fb0 4), .int (fb0 5), .int (fb0 6)])), (L0d, .inr (1, [.int (fd0 0), .int (fd0 1), .int (fd0 2), .int (fd0 3), .int (fd0 4), .int (fd0 5), .int (fd0 6)]))] sz)) (va_A [(Nn, .inr (3, [.int (nI hp), .int (nI cc), .int zrs, .int zad, .int zpr, .int (nI t), .int zlo, .int zps, .ref Nl, .ref Nf, .ref Nb])), (L0, .inr (2, [.int (nI d0), .int (fk0 1), .int (fk0 2), .int (fv0 3), .int (fv0 4), .int (fv0 5), .ref L0c, .ref L0u, .ref L0p, .ref L0l])), (L0u, .inl (g 0, 15, .inl fu0)), (L0l, .inl (g 2, 3, .inr (.inr (.inr (.inr (rf3 L0a L0b L0d)))))), (L0a, .inr (1, [.int (fa0 0), .int (fa0 1), .int (fa0 2), .int (fa0 3), .int (fa0 4), .int (fa0 5), .int (fa0 6)])), (L0b, .inr (1, [.int (fb0 0), .int (fb0 1), .int (fb0 2), .int (fb0 3), .int (fb0 4), .int (fb0 5), .int (fb0 6)])), (L0d, .inr (1, [.int (fd0 0), .int (fd0 1), .int (fd0 2), .int (fd0 3), .int (fd0 4), .int (fd0 5), .int (fd0 6)]))] sz)) 0 0 (va_A [(Nn, .inr (3, [.int (nI hp), .int (nI cc), .int zrs, .int zad, .int zpr, .int (nI t), .int zlo, .int zps, .ref Nl, .ref Nf, .ref Nb])), (L0, .inr (2, [.int (nI d0), .int (fk0 1), .int (fk0 2), .int (fv0 3), .int (fv0 4), .int (fv0 5), .ref L0c, .ref L0u, .ref L0p, .ref L0l])), (L0u, .inl (g 0, 15, .inl fu0)), (L0l, .inl (g 2, 3, .inr (.inr (.inr (.inr (rf3 L0a L0b L0d)))))), (L0a, .inr (1, [.int (fa0 0), .int (fa0 1), .int (fa0 2), .int (fa0 3), .int (fa0 4), .int (fa0 5), .int (fa0 6)])), (L0b, .inr (1, [.int (fb0 0), .int (fb0 1), .int (fb0 2), .int (fb0 3), .int (fb0 4), .int (fb0 5), .int (fb0 6)])), (L0d, .inr (1, [.int (fd0 0), .int (fd0 1), .int (fd0 2), .int (fd0 3), .int (fd0 4), .int (fd0 5), .int (fd0 6)]))] sz) := by
  refine Met.ofW (cc := cX3_sendUpdate) (maxL := 3) (ret := none) (by decide) rfl ?_
  intro p e s m args below meth c s₁ B hml hv
  obtain ⟨rfl, hsz, hP, ⟨hK, hN⟩, hD0, hZ⟩ := hv
  have hx := B.exec
  have hb := B.bytes
  have hr := B.returns
  have hts := atoms_spec (ws := wsX3_sendUpdate) B.pre
  have hown : s.vm.findClass RX3 = some m.cls := findClass_of_methodNamed B.named
  have hlocks := B.notSynchronized
  clear B
  subst hsz
  have hD := hD0.self (sz := s.heap.size)
  clear hD0
  generalize hAe : va_A [(Nn, .inr (3, [.int (nI hp), .int (nI cc), .int zrs, .int zad, .int zpr, .int (nI t), .int zlo, .int zps, .ref Nl, .ref Nf, .ref Nb])), (L0, .inr (2, [.int (nI d0), .int (fk0 1), .int (fk0 2), .int (fv0 3), .int (fv0 4), .int (fv0 5), .ref L0c, .ref L0u, .ref L0p, .ref L0l])), (L0u, .inl (g 0, 15, .inl fu0)), (L0l, .inl (g 2, 3, .inr (.inr (.inr (.inr (rf3 L0a L0b L0d)))))), (L0a, .inr (1, [.int (fa0 0), .int (fa0 1), .int (fa0 2), .int (fa0 3), .int (fa0 4), .int (fa0 5), .int (fa0 6)])), (L0b, .inr (1, [.int (fb0 0), .int (fb0 1), .int (fb0 2), .int (fb0 3), .int (fb0 4), .int (fb0 5), .int (fb0 6)])), (L0d, .inr (1, [.int (fd0 0), .int (fd0 1), .int (fd0 2), .int (fd0 3), .int (fd0 4), .int (fd0 5), .int (fd0 6)]))] s.heap.size = A at hD hZ ⊢
  have hA : ∀ q : Nat, s.heap.size ≤ q → A q := fun q h => by rw [← hAe]; exact Or.inr h
  have hS : va_S A s.heap s.heap [] := va_S.rf
  have f125 := hts (.fieldLink RX3 125 "HopCredits$Link" "updateAt" "[I") (by decide +kernel)
  have f128 := hts (.fieldLink RX3 128 "HopCredits$Link" "lanes" "[LHopCredits$Lane;") (by decide +kernel)
  have f183 := hts (.fieldLink RX3 183 "HopCredits$Link" "delay" "I") (by decide +kernel)
  have f198 := hts (.fieldLink RX3 198 "HopCredits$Lane" "gone" "I") (by decide +kernel)
  have f207 := hts (.fieldLink RX3 207 "HopCredits$Link" "jammed" "I") (by decide +kernel)
  have f78 := hts (.fieldLink RX3 78 "HopCredits$Net" "tick" "I") (by decide +kernel)
  have f81 := hts (.fieldLink RX3 81 "HopCredits$Net" "lost" "I") (by decide +kernel)
  have iX1 : ∀ w ∈ u_ws RX1 TX1 7, w ∈ wsX3_sendUpdate := by decide +kernel
  have iX2 : ∀ w ∈ u_ws RX2 TX2 10, w ∈ wsX3_sendUpdate := by decide +kernel
  have iX3 : ∀ w ∈ u_ws RX3 TX3 11, w ∈ wsX3_sendUpdate := by decide +kernel
  have hl := lv_entry ([.ref Nn, .ref L0, .int (nI cx)]) (n := 3) (Nat.le_of_ble_eq_true rfl)
  rw [lg_entry_eq]
  generalize (lg_sl ([.ref Nn, .ref L0, .int (nI cx)]) ++ List.replicate (3 - (lg_sl ([.ref Nn, .ref L0, .int (nI cx)])).length) Slot.unset).toArray = ls at hl ⊢
  have hl : lv_has ls 3 [(0, .ref Nn), (1, .ref L0), (2, .int (nI cx))] := hl
  generalize hQ : MQ below _ _ s _ _ _ = Q
  generalize hH : s.heap = H at hP ⊢
  have hS : va_S A s.heap H [] := by rw [← hH]; exact hS
  clear hH
  refine lv_aload_n hx hb dX3_sendUpdate_0 rfl (lv_at hl 1 rfl) ?_
  refine va_get (D := D) (ci := 2) (v := .int (fv0 3)) (C := RX2) (T := TX2) (N := 10) hx hb hts iX2 hown hK hP 1 rfl rfl 3 (by decide) f207 (fun _ h9 => h9) rfl dX3_sendUpdate_1 ?_
  refine lv_if_le (tgt := 28) hx hb dX3_sendUpdate_4 (by decide) (fun cb_1 => ?_) (fun cb_1 => ?_)
  · skip
    refine lv_aload_n hx hb dX3_sendUpdate_28 rfl (lv_at hl 1 rfl) ?_
    refine va_get (D := D) (ci := 2) (v := .ref L0u) (C := RX2) (T := TX2) (N := 10) hx hb hts iX2 hown hK hP 1 rfl rfl 7 (by decide) f125 (fun _ h9 => h9) rfl dX3_sendUpdate_29 ?_
    refine lv_aload_n hx hb dX3_sendUpdate_32 rfl (lv_at hl 0 rfl) ?_
    refine va_get (D := D) (ci := 3) (v := .int (nI t)) (C := RX3) (T := TX3) (N := 11) hx hb hts iX3 hown hK hP 0 rfl rfl 5 (by decide) f78 (fun _ h9 => h9) rfl dX3_sendUpdate_33 ?_
    refine lv_aload_n hx hb dX3_sendUpdate_36 rfl (lv_at hl 1 rfl) ?_
    refine va_get (D := D) (ci := 2) (v := .int (nI d0)) (C := RX2) (T := TX2) (N := 10) hx hb hts iX2 hown hK hP 1 rfl rfl 0 (by decide) f183 (fun _ h9 => h9) rfl dX3_sendUpdate_37 ?_
    refine lv_iadd hx hb dX3_sendUpdate_40 ?_
    refine lv_eqi (y := (nI (t + d0))) (nI_add (t) (d0)) ?_
    refine lv_iconst (v := 5) hx hb dX3_sendUpdate_41 (by decide) ?_
    refine lv_irem hx hb dX3_sendUpdate_42 (by decide) ?_
    refine lv_eqi (y := (nI ((t + d0) % 5))) (pk_rem (show t + d0 < 2 ^ 31 by omega) (show 0 < 5 by omega) (show 5 < 2 ^ 31 by omega)) ?_
    refine lv_iconst (v := 3) hx hb dX3_sendUpdate_43 (by decide) ?_
    refine lv_imul hx hb dX3_sendUpdate_44 ?_
    refine lv_eqi (y := (nI (((t + d0) % 5) * 3))) (pk_mul ((t + d0) % 5) (3)) ?_
    refine lv_iload_n hx hb dX3_sendUpdate_45 rfl (lv_at hl 2 rfl) ?_
    refine lv_iadd hx hb dX3_sendUpdate_46 ?_
    refine lv_eqi (y := (nI (((t + d0) % 5) * 3 + cx))) (nI_add (((t + d0) % 5) * 3) (cx)) ?_
    refine lv_aload_n hx hb dX3_sendUpdate_47 rfl (lv_at hl 1 rfl) ?_
    refine va_get (D := D) (ci := 2) (v := .ref L0l) (C := RX2) (T := TX2) (N := 10) hx hb hts iX2 hown hK hP 1 rfl rfl 9 (by decide) f128 (fun _ h9 => h9) rfl dX3_sendUpdate_48 ?_
    refine lv_iload_n hx hb dX3_sendUpdate_51 rfl (lv_at hl 2 rfl) ?_
    have hPq_2 := hP; have hDq_2 := hD; have hSq_2 := hS; have hlq_2 := hl; clear hP hD hS hl
    rcases (show cx = 0 ∨ cx = 1 ∨ cx = 2 by omega) with rfl | rfl | rfl
    · skip
      have hP := hPq_2; have hD := hDq_2; have hS := hSq_2; have hl := hlq_2; clear hPq_2 hDq_2 hSq_2 hlq_2
      refine va_aldq (C := "HopCredits$Lane") hx hb hK hP 3 2 rfl rfl (by unfold vp_in; decide) dX3_sendUpdate_52 ?_
      refine lv_eqv (v2 := .ref L0a) rfl ?_
      refine va_get (D := D) (ci := 1) (v := .int (fa0 1)) (C := RX1) (T := TX1) (N := 7) hx hb hts iX1 hown hK hP 4 rfl rfl 1 (by decide) f198 (fun _ h9 => h9) rfl dX3_sendUpdate_53 ?_
      refine va_iast hx hb hK hP hD hS 2 0 rfl rfl (vp_in_nI (show ((t + d0) % 5) * 3 + 0 < 15 by omega) (by decide)) dX3_sendUpdate_56 (fun H locs hP2 hD2 hS2 => ?_)
      clear hP hD hS
      have hPD : PD D A [(Nn, .inr (3, [.int (nI hp), .int (nI cc), .int zrs, .int zad, .int zpr, .int (nI t), .int zlo, .int zps, .ref Nl, .ref Nf, .ref Nb])), (L0, .inr (2, [.int (nI d0), .int (fk0 1), .int (fk0 2), .int (fv0 3), .int (fv0 4), .int (fv0 5), .ref L0c, .ref L0u, .ref L0p, .ref L0l])), (L0u, .inl (g 0, 15, .inl (upd fu0 (nI (((t + d0) % 5) * 3 + 0)).toNatClampNeg (fa0 1)))), (L0l, .inl (g 2, 3, .inr (.inr (.inr (.inr (rf3 L0a L0b L0d)))))), (L0a, .inr (1, [.int (fa0 0), .int (fa0 1), .int (fa0 2), .int (fa0 3), .int (fa0 4), .int (fa0 5), .int (fa0 6)])), (L0b, .inr (1, [.int (fb0 0), .int (fb0 1), .int (fb0 2), .int (fb0 3), .int (fb0 4), .int (fb0 5), .int (fb0 6)])), (L0d, .inr (1, [.int (fd0 0), .int (fd0 1), .int (fd0 2), .int (fd0 3), .int (fd0 4), .int (fd0 5), .int (fd0 6)]))] H := ⟨hP2, hD2⟩
      have hS := hS2; clear hP2 hD2 hS2; have hP := hPD.1; have hD := hPD.2; clear hPD
      rw [nI_clamp (show ((t + d0) % 5) * 3 + 0 < 2 ^ 31 by omega)] at hP hD
      have hPD : PD D A [(Nn, .inr (3, [.int (nI hp), .int (nI cc), .int zrs, .int zad, .int zpr, .int (nI t), .int zlo, .int zps, .ref Nl, .ref Nf, .ref Nb])), (L0, .inr (2, [.int (nI d0), .int (fk0 1), .int (fk0 2), .int (fv0 3), .int (fv0 4), .int (fv0 5), .ref L0c, .ref L0u, .ref L0p, .ref L0l])), (L0u, .inl (g 0, 15, .inl (upd fu0 (((t + d0) % 5) * 3 + 0) (fa0 1)))), (L0l, .inl (g 2, 3, .inr (.inr (.inr (.inr (rf3 L0a L0b L0d)))))), (L0a, .inr (1, [.int (fa0 0), .int (fa0 1), .int (fa0 2), .int (fa0 3), .int (fa0 4), .int (fa0 5), .int (fa0 6)])), (L0b, .inr (1, [.int (fb0 0), .int (fb0 1), .int (fb0 2), .int (fb0 3), .int (fb0 4), .int (fb0 5), .int (fb0 6)])), (L0d, .inr (1, [.int (fd0 0), .int (fd0 1), .int (fd0 2), .int (fd0 3), .int (fd0 4), .int (fd0 5), .int (fd0 6)]))] H := ⟨hP, hD⟩
      clear hP hD; have hP := hPD.1; have hD := hPD.2; clear hPD
      generalize upd fu0 (((t + d0) % 5) * 3 + 0) (fa0 1) = F_3 at hP hD
      have hP9 := hP; have hD9 := hD
      subst hQ
      refine W.widen (k := 0) (n := 0) (Nat.le_of_ble_eq_true rfl) (Nat.le_of_ble_eq_true rfl) ?_
      exact W.vret hx hb hr (fun tS htS _ => ⟨⟨_, rfl, ⟨zlo, fv0, F_3, rfl, (h3)⟩, by rw [htS]; exact hP9, hD9⟩, hS.F htS⟩) hS.2.2 dX3_sendUpdate_57
    · skip
      have hP := hPq_2; have hD := hDq_2; have hS := hSq_2; have hl := hlq_2; clear hPq_2 hDq_2 hSq_2 hlq_2
      refine va_aldq (C := "HopCredits$Lane") hx hb hK hP 3 2 rfl rfl (by unfold vp_in; decide) dX3_sendUpdate_52 ?_
      refine lv_eqv (v2 := .ref L0b) rfl ?_
      refine va_get (D := D) (ci := 1) (v := .int (fb0 1)) (C := RX1) (T := TX1) (N := 7) hx hb hts iX1 hown hK hP 5 rfl rfl 1 (by decide) f198 (fun _ h9 => h9) rfl dX3_sendUpdate_53 ?_
      refine va_iast hx hb hK hP hD hS 2 0 rfl rfl (vp_in_nI (show ((t + d0) % 5) * 3 + 1 < 15 by omega) (by decide)) dX3_sendUpdate_56 (fun H locs hP2 hD2 hS2 => ?_)
      clear hP hD hS
      have hPD : PD D A [(Nn, .inr (3, [.int (nI hp), .int (nI cc), .int zrs, .int zad, .int zpr, .int (nI t), .int zlo, .int zps, .ref Nl, .ref Nf, .ref Nb])), (L0, .inr (2, [.int (nI d0), .int (fk0 1), .int (fk0 2), .int (fv0 3), .int (fv0 4), .int (fv0 5), .ref L0c, .ref L0u, .ref L0p, .ref L0l])), (L0u, .inl (g 0, 15, .inl (upd fu0 (nI (((t + d0) % 5) * 3 + 1)).toNatClampNeg (fb0 1)))), (L0l, .inl (g 2, 3, .inr (.inr (.inr (.inr (rf3 L0a L0b L0d)))))), (L0a, .inr (1, [.int (fa0 0), .int (fa0 1), .int (fa0 2), .int (fa0 3), .int (fa0 4), .int (fa0 5), .int (fa0 6)])), (L0b, .inr (1, [.int (fb0 0), .int (fb0 1), .int (fb0 2), .int (fb0 3), .int (fb0 4), .int (fb0 5), .int (fb0 6)])), (L0d, .inr (1, [.int (fd0 0), .int (fd0 1), .int (fd0 2), .int (fd0 3), .int (fd0 4), .int (fd0 5), .int (fd0 6)]))] H := ⟨hP2, hD2⟩
      have hS := hS2; clear hP2 hD2 hS2; have hP := hPD.1; have hD := hPD.2; clear hPD
      rw [nI_clamp (show ((t + d0) % 5) * 3 + 1 < 2 ^ 31 by omega)] at hP hD
      have hPD : PD D A [(Nn, .inr (3, [.int (nI hp), .int (nI cc), .int zrs, .int zad, .int zpr, .int (nI t), .int zlo, .int zps, .ref Nl, .ref Nf, .ref Nb])), (L0, .inr (2, [.int (nI d0), .int (fk0 1), .int (fk0 2), .int (fv0 3), .int (fv0 4), .int (fv0 5), .ref L0c, .ref L0u, .ref L0p, .ref L0l])), (L0u, .inl (g 0, 15, .inl (upd fu0 (((t + d0) % 5) * 3 + 1) (fb0 1)))), (L0l, .inl (g 2, 3, .inr (.inr (.inr (.inr (rf3 L0a L0b L0d)))))), (L0a, .inr (1, [.int (fa0 0), .int (fa0 1), .int (fa0 2), .int (fa0 3), .int (fa0 4), .int (fa0 5), .int (fa0 6)])), (L0b, .inr (1, [.int (fb0 0), .int (fb0 1), .int (fb0 2), .int (fb0 3), .int (fb0 4), .int (fb0 5), .int (fb0 6)])), (L0d, .inr (1, [.int (fd0 0), .int (fd0 1), .int (fd0 2), .int (fd0 3), .int (fd0 4), .int (fd0 5), .int (fd0 6)]))] H := ⟨hP, hD⟩
      clear hP hD; have hP := hPD.1; have hD := hPD.2; clear hPD
      generalize upd fu0 (((t + d0) % 5) * 3 + 1) (fb0 1) = F_4 at hP hD
      have hP9 := hP; have hD9 := hD
      subst hQ
      refine W.widen (k := 0) (n := 0) (Nat.le_of_ble_eq_true rfl) (Nat.le_of_ble_eq_true rfl) ?_
      exact W.vret hx hb hr (fun tS htS _ => ⟨⟨_, rfl, ⟨zlo, fv0, F_4, rfl, (h3)⟩, by rw [htS]; exact hP9, hD9⟩, hS.F htS⟩) hS.2.2 dX3_sendUpdate_57
    · skip
      have hP := hPq_2; have hD := hDq_2; have hS := hSq_2; have hl := hlq_2; clear hPq_2 hDq_2 hSq_2 hlq_2
      refine va_aldq (C := "HopCredits$Lane") hx hb hK hP 3 2 rfl rfl (by unfold vp_in; decide) dX3_sendUpdate_52 ?_
      refine lv_eqv (v2 := .ref L0d) rfl ?_
      refine va_get (D := D) (ci := 1) (v := .int (fd0 1)) (C := RX1) (T := TX1) (N := 7) hx hb hts iX1 hown hK hP 6 rfl rfl 1 (by decide) f198 (fun _ h9 => h9) rfl dX3_sendUpdate_53 ?_
      refine va_iast hx hb hK hP hD hS 2 0 rfl rfl (vp_in_nI (show ((t + d0) % 5) * 3 + 2 < 15 by omega) (by decide)) dX3_sendUpdate_56 (fun H locs hP2 hD2 hS2 => ?_)
      clear hP hD hS
      have hPD : PD D A [(Nn, .inr (3, [.int (nI hp), .int (nI cc), .int zrs, .int zad, .int zpr, .int (nI t), .int zlo, .int zps, .ref Nl, .ref Nf, .ref Nb])), (L0, .inr (2, [.int (nI d0), .int (fk0 1), .int (fk0 2), .int (fv0 3), .int (fv0 4), .int (fv0 5), .ref L0c, .ref L0u, .ref L0p, .ref L0l])), (L0u, .inl (g 0, 15, .inl (upd fu0 (nI (((t + d0) % 5) * 3 + 2)).toNatClampNeg (fd0 1)))), (L0l, .inl (g 2, 3, .inr (.inr (.inr (.inr (rf3 L0a L0b L0d)))))), (L0a, .inr (1, [.int (fa0 0), .int (fa0 1), .int (fa0 2), .int (fa0 3), .int (fa0 4), .int (fa0 5), .int (fa0 6)])), (L0b, .inr (1, [.int (fb0 0), .int (fb0 1), .int (fb0 2), .int (fb0 3), .int (fb0 4), .int (fb0 5), .int (fb0 6)])), (L0d, .inr (1, [.int (fd0 0), .int (fd0 1), .int (fd0 2), .int (fd0 3), .int (fd0 4), .int (fd0 5), .int (fd0 6)]))] H := ⟨hP2, hD2⟩
      have hS := hS2; clear hP2 hD2 hS2; have hP := hPD.1; have hD := hPD.2; clear hPD
      rw [nI_clamp (show ((t + d0) % 5) * 3 + 2 < 2 ^ 31 by omega)] at hP hD
      have hPD : PD D A [(Nn, .inr (3, [.int (nI hp), .int (nI cc), .int zrs, .int zad, .int zpr, .int (nI t), .int zlo, .int zps, .ref Nl, .ref Nf, .ref Nb])), (L0, .inr (2, [.int (nI d0), .int (fk0 1), .int (fk0 2), .int (fv0 3), .int (fv0 4), .int (fv0 5), .ref L0c, .ref L0u, .ref L0p, .ref L0l])), (L0u, .inl (g 0, 15, .inl (upd fu0 (((t + d0) % 5) * 3 + 2) (fd0 1)))), (L0l, .inl (g 2, 3, .inr (.inr (.inr (.inr (rf3 L0a L0b L0d)))))), (L0a, .inr (1, [.int (fa0 0), .int (fa0 1), .int (fa0 2), .int (fa0 3), .int (fa0 4), .int (fa0 5), .int (fa0 6)])), (L0b, .inr (1, [.int (fb0 0), .int (fb0 1), .int (fb0 2), .int (fb0 3), .int (fb0 4), .int (fb0 5), .int (fb0 6)])), (L0d, .inr (1, [.int (fd0 0), .int (fd0 1), .int (fd0 2), .int (fd0 3), .int (fd0 4), .int (fd0 5), .int (fd0 6)]))] H := ⟨hP, hD⟩
      clear hP hD; have hP := hPD.1; have hD := hPD.2; clear hPD
      generalize upd fu0 (((t + d0) % 5) * 3 + 2) (fd0 1) = F_5 at hP hD
      have hP9 := hP; have hD9 := hD
      subst hQ
      refine W.widen (k := 0) (n := 0) (Nat.le_of_ble_eq_true rfl) (Nat.le_of_ble_eq_true rfl) ?_
      exact W.vret hx hb hr (fun tS htS _ => ⟨⟨_, rfl, ⟨zlo, fv0, F_5, rfl, (h3)⟩, by rw [htS]; exact hP9, hD9⟩, hS.F htS⟩) hS.2.2 dX3_sendUpdate_57
  · skip
    refine lv_aload_n hx hb dX3_sendUpdate_7 rfl (lv_at hl 1 rfl) ?_
    refine lv_dup hx hb dX3_sendUpdate_8 rfl ?_
    refine va_get (D := D) (ci := 2) (v := .int (fv0 3)) (C := RX2) (T := TX2) (N := 10) hx hb hts iX2 hown hK hP 1 rfl rfl 3 (by decide) f207 (fun _ h9 => h9) rfl dX3_sendUpdate_9 ?_
    refine lv_iconst (v := 1) hx hb dX3_sendUpdate_12 (by decide) ?_
    refine lv_isub hx hb dX3_sendUpdate_13 ?_
    refine lv_topi (fun y_6 _ => ?_)
    refine va_put (D := D) (ci := 2) (v := .int y_6) (ty := .int) (C := RX2) (T := TX2) (N := 10) hx hb hts iX2 tyX2 tyX2_ok nmX2 hown hK hP hD hS 1 rfl rfl 3 (by decide) f207 (fun _ h9 => h9) rfl (by decide +kernel) (rfl) (rfl) (Nat.le_of_ble_eq_true rfl) dX3_sendUpdate_14 (fun H locs hP2 hD2 hS2 => ?_)
    clear hP hD hS
    have hPD : PD D A [(Nn, .inr (3, [.int (nI hp), .int (nI cc), .int zrs, .int zad, .int zpr, .int (nI t), .int zlo, .int zps, .ref Nl, .ref Nf, .ref Nb])), (L0, .inr (2, [.int (nI d0), .int (fk0 1), .int (fk0 2), .int y_6, .int (fv0 4), .int (fv0 5), .ref L0c, .ref L0u, .ref L0p, .ref L0l])), (L0u, .inl (g 0, 15, .inl fu0)), (L0l, .inl (g 2, 3, .inr (.inr (.inr (.inr (rf3 L0a L0b L0d)))))), (L0a, .inr (1, [.int (fa0 0), .int (fa0 1), .int (fa0 2), .int (fa0 3), .int (fa0 4), .int (fa0 5), .int (fa0 6)])), (L0b, .inr (1, [.int (fb0 0), .int (fb0 1), .int (fb0 2), .int (fb0 3), .int (fb0 4), .int (fb0 5), .int (fb0 6)])), (L0d, .inr (1, [.int (fd0 0), .int (fd0 1), .int (fd0 2), .int (fd0 3), .int (fd0 4), .int (fd0 5), .int (fd0 6)]))] H := ⟨hP2, hD2⟩
    have hS := hS2; clear hP2 hD2 hS2; have hP := hPD.1; have hD := hPD.2; clear hPD
    refine lv_aload_n hx hb dX3_sendUpdate_17 rfl (lv_at hl 0 rfl) ?_
    refine lv_dup hx hb dX3_sendUpdate_18 rfl ?_
    refine va_get (D := D) (ci := 3) (v := .int zlo) (C := RX3) (T := TX3) (N := 11) hx hb hts iX3 hown hK hP 0 rfl rfl 6 (by decide) f81 (fun _ h9 => h9) rfl dX3_sendUpdate_19 ?_
    refine lv_iconst (v := 1) hx hb dX3_sendUpdate_22 (by decide) ?_
    refine lv_iadd hx hb dX3_sendUpdate_23 ?_
    refine lv_topi (fun y_7 _ => ?_)
    refine va_put (D := D) (ci := 3) (v := .int y_7) (ty := .int) (C := RX3) (T := TX3) (N := 11) hx hb hts iX3 tyX3 tyX3_ok nmX3 hown hK hP hD hS 0 rfl rfl 6 (by decide) f81 (fun _ h9 => h9) rfl (by decide +kernel) (rfl) (rfl) (Nat.le_of_ble_eq_true rfl) dX3_sendUpdate_24 (fun H locs hP2 hD2 hS2 => ?_)
    clear hP hD hS
    have hPD : PD D A [(Nn, .inr (3, [.int (nI hp), .int (nI cc), .int zrs, .int zad, .int zpr, .int (nI t), .int y_7, .int zps, .ref Nl, .ref Nf, .ref Nb])), (L0, .inr (2, [.int (nI d0), .int (fk0 1), .int (fk0 2), .int y_6, .int (fv0 4), .int (fv0 5), .ref L0c, .ref L0u, .ref L0p, .ref L0l])), (L0u, .inl (g 0, 15, .inl fu0)), (L0l, .inl (g 2, 3, .inr (.inr (.inr (.inr (rf3 L0a L0b L0d)))))), (L0a, .inr (1, [.int (fa0 0), .int (fa0 1), .int (fa0 2), .int (fa0 3), .int (fa0 4), .int (fa0 5), .int (fa0 6)])), (L0b, .inr (1, [.int (fb0 0), .int (fb0 1), .int (fb0 2), .int (fb0 3), .int (fb0 4), .int (fb0 5), .int (fb0 6)])), (L0d, .inr (1, [.int (fd0 0), .int (fd0 1), .int (fd0 2), .int (fd0 3), .int (fd0 4), .int (fd0 5), .int (fd0 6)]))] H := ⟨hP2, hD2⟩
    have hS := hS2; clear hP2 hD2 hS2; have hP := hPD.1; have hD := hPD.2; clear hPD
    have hP9 := hP; have hD9 := hD
    subst hQ
    refine W.widen (k := 0) (n := 0) (Nat.le_of_ble_eq_true rfl) (Nat.le_of_ble_eq_true rfl) ?_
    exact W.vret hx hb hr (fun tS htS _ => ⟨⟨_, rfl, ⟨y_7, (lf [0, 0, 0, y_6, fv0 4, fv0 5]), fu0, rfl, (h3)⟩, by rw [htS]; exact hP9, hD9⟩, hS.F htS⟩) hS.2.2 dX3_sendUpdate_27

set_option maxHeartbeats 4000000 in
set_option maxRecDepth 100000 in
theorem k_X3_sendProbe (l : Launch) (D : va_G) (g : Nat → ClassId) (sz : Nat) (Nn : Nat) (L0 : Nat) (cx : Nat) (hp : Nat) (cc : Nat) (zrs : Int32) (zad : Int32) (zpr : Int32) (t : Nat) (zlo : Int32) (zps : Int32) (Nl : Nat) (Nf : Nat) (Nb : Nat) (d0 : Nat) (fk0 : Nat → Int32) (fv0 : Nat → Int32) (L0c : Nat) (L0u : Nat) (L0p : Nat) (L0l : Nat) (fp0 : Nat → Int32) (L0a : Nat) (L0b : Nat) (L0d : Nat) (fa0 : Nat → Int32) (fb0 : Nat → Int32) (fd0 : Nat → Int32) (h0 : cx < 3) (h1 : t < 2 ^ 30) (h2 : d0 < 5) (h3 : okc (fv0 4)) : Met l yX3_sendProbe wsX3_sendProbe ({ frames := 0, cells := 0, slots := 0, locals := 0 }) (va_Pc [.ref Nn, .ref L0, .int (nI cx)] (pre D g sz [(Nn, .inr (3, [.int (nI hp), .int (nI cc), .int zrs, .int zad, .int zpr, .int (nI t), .int zlo, .int zps, .ref Nl, .ref Nf, .ref Nb])), (L0, .inr (2, [.int (nI d0), .int (fk0 1), .int (fk0 2), .int (fv0 3), .int (fv0 4), .int (fv0 5), .ref L0c, .ref L0u, .ref L0p, .ref L0l])), (L0p, .inl (g 0, 15, .inl fp0)), (L0l, .inl (g 2, 3, .inr (.inr (.inr (.inr (rf3 L0a L0b L0d)))))), (L0a, .inr (1, [.int (fa0 0), .int (fa0 1), .int (fa0 2), .int (fa0 3), .int (fa0 4), .int (fa0 5), .int (fa0 6)])), (L0b, .inr (1, [.int (fb0 0), .int (fb0 1), .int (fb0 2), .int (fb0 3), .int (fb0 4), .int (fb0 5), .int (fb0 6)])), (L0d, .inr (1, [.int (fd0 0), .int (fd0 1), .int (fd0 2), .int (fd0 3), .int (fd0 4), .int (fd0 5), .int (fd0 6)]))])) (va_Qv (fun (u : va_W) => ∃ (zpsx : Int32) (fp0x : Nat → Int32) (fa0x : Nat → Int32) (fb0x : Nat → Int32) (fd0x : Nat → Int32), u = [(Nn, .inr (3, [.int (nI hp), .int (nI cc), .int zrs, .int zad, .int zpr, .int (nI t), .int zlo, .int zpsx, .ref Nl, .ref Nf, .ref Nb])), (L0, .inr (2, [.int (nI d0), .int (fk0 1), .int (fk0 2), .int (fv0 3), .int (fv0 4), .int (fv0 5), .ref L0c, .ref L0u, .ref L0p, .ref L0l])), (L0p, .inl (g 0, 15, .inl fp0x)), (L0l, .inl (g 2, 3, .inr (.inr (.inr (.inr (rf3 L0a L0b L0d)))))), (L0a, .inr (1, [.int (fa0x 0), .int (fa0x 1), .int (fa0x 2), .int (fa0 3), .int (fa0x 4), .int (fa0x 5), .int (fa0x 6)])), (L0b, .inr (1, [.int (fb0x 0), .int (fb0x 1), .int (fb0x 2), .int (fb0 3), .int (fb0x 4), .int (fb0x 5), .int (fb0x 6)])), (L0d, .inr (1, [.int (fd0x 0), .int (fd0x 1), .int (fd0x 2), .int (fd0 3), .int (fd0x 4), .int (fd0x 5), .int (fd0x 6)]))]) (wd D (va_A [(Nn, .inr (3, [.int (nI hp), .int (nI cc), .int zrs, .int zad, .int zpr, .int (nI t), .int zlo, .int zps, .ref Nl, .ref Nf, .ref Nb])), (L0, .inr (2, [.int (nI d0), .int (fk0 1), .int (fk0 2), .int (fv0 3), .int (fv0 4), .int (fv0 5), .ref L0c, .ref L0u, .ref L0p, .ref L0l])), (L0p, .inl (g 0, 15, .inl fp0)), (L0l, .inl (g 2, 3, .inr (.inr (.inr (.inr (rf3 L0a L0b L0d)))))), (L0a, .inr (1, [.int (fa0 0), .int (fa0 1), .int (fa0 2), .int (fa0 3), .int (fa0 4), .int (fa0 5), .int (fa0 6)])), (L0b, .inr (1, [.int (fb0 0), .int (fb0 1), .int (fb0 2), .int (fb0 3), .int (fb0 4), .int (fb0 5), .int (fb0 6)])), (L0d, .inr (1, [.int (fd0 0), .int (fd0 1), .int (fd0 2), .int (fd0 3), .int (fd0 4), .int (fd0 5), .int (fd0 6)]))] sz)) (va_A [(Nn, .inr (3, [.int (nI hp), .int (nI cc), .int zrs, .int zad, .int zpr, .int (nI t), .int zlo, .int zps, .ref Nl, .ref Nf, .ref Nb])), (L0, .inr (2, [.int (nI d0), .int (fk0 1), .int (fk0 2), .int (fv0 3), .int (fv0 4), .int (fv0 5), .ref L0c, .ref L0u, .ref L0p, .ref L0l])), (L0p, .inl (g 0, 15, .inl fp0)), (L0l, .inl (g 2, 3, .inr (.inr (.inr (.inr (rf3 L0a L0b L0d)))))), (L0a, .inr (1, [.int (fa0 0), .int (fa0 1), .int (fa0 2), .int (fa0 3), .int (fa0 4), .int (fa0 5), .int (fa0 6)])), (L0b, .inr (1, [.int (fb0 0), .int (fb0 1), .int (fb0 2), .int (fb0 3), .int (fb0 4), .int (fb0 5), .int (fb0 6)])), (L0d, .inr (1, [.int (fd0 0), .int (fd0 1), .int (fd0 2), .int (fd0 3), .int (fd0 4), .int (fd0 5), .int (fd0 6)]))] sz)) 0 0 (va_A [(Nn, .inr (3, [.int (nI hp), .int (nI cc), .int zrs, .int zad, .int zpr, .int (nI t), .int zlo, .int zps, .ref Nl, .ref Nf, .ref Nb])), (L0, .inr (2, [.int (nI d0), .int (fk0 1), .int (fk0 2), .int (fv0 3), .int (fv0 4), .int (fv0 5), .ref L0c, .ref L0u, .ref L0p, .ref L0l])), (L0p, .inl (g 0, 15, .inl fp0)), (L0l, .inl (g 2, 3, .inr (.inr (.inr (.inr (rf3 L0a L0b L0d)))))), (L0a, .inr (1, [.int (fa0 0), .int (fa0 1), .int (fa0 2), .int (fa0 3), .int (fa0 4), .int (fa0 5), .int (fa0 6)])), (L0b, .inr (1, [.int (fb0 0), .int (fb0 1), .int (fb0 2), .int (fb0 3), .int (fb0 4), .int (fb0 5), .int (fb0 6)])), (L0d, .inr (1, [.int (fd0 0), .int (fd0 1), .int (fd0 2), .int (fd0 3), .int (fd0 4), .int (fd0 5), .int (fd0 6)]))] sz) := by
  refine Met.ofW (cc := cX3_sendProbe) (maxL := 3) (ret := none) (by decide) rfl ?_
  intro p e s m args below meth c s₁ B hml hv
  obtain ⟨rfl, hsz, hP, ⟨hK, hN⟩, hD0, hZ⟩ := hv
  have hx := B.exec
  have hb := B.bytes
  have hr := B.returns
  have hts := atoms_spec (ws := wsX3_sendProbe) B.pre
  have hown : s.vm.findClass RX3 = some m.cls := findClass_of_methodNamed B.named
  have hlocks := B.notSynchronized
  clear B
  subst hsz
  have hD := hD0.self (sz := s.heap.size)
  clear hD0
  generalize hAe : va_A [(Nn, .inr (3, [.int (nI hp), .int (nI cc), .int zrs, .int zad, .int zpr, .int (nI t), .int zlo, .int zps, .ref Nl, .ref Nf, .ref Nb])), (L0, .inr (2, [.int (nI d0), .int (fk0 1), .int (fk0 2), .int (fv0 3), .int (fv0 4), .int (fv0 5), .ref L0c, .ref L0u, .ref L0p, .ref L0l])), (L0p, .inl (g 0, 15, .inl fp0)), (L0l, .inl (g 2, 3, .inr (.inr (.inr (.inr (rf3 L0a L0b L0d)))))), (L0a, .inr (1, [.int (fa0 0), .int (fa0 1), .int (fa0 2), .int (fa0 3), .int (fa0 4), .int (fa0 5), .int (fa0 6)])), (L0b, .inr (1, [.int (fb0 0), .int (fb0 1), .int (fb0 2), .int (fb0 3), .int (fb0 4), .int (fb0 5), .int (fb0 6)])), (L0d, .inr (1, [.int (fd0 0), .int (fd0 1), .int (fd0 2), .int (fd0 3), .int (fd0 4), .int (fd0 5), .int (fd0 6)]))] s.heap.size = A at hD hZ ⊢
  have hA : ∀ q : Nat, s.heap.size ≤ q → A q := fun q h => by rw [← hAe]; exact Or.inr h
  have hS : va_S A s.heap s.heap [] := va_S.rf
  have f128 := hts (.fieldLink RX3 128 "HopCredits$Link" "lanes" "[LHopCredits$Lane;") (by decide +kernel)
  have f137 := hts (.fieldLink RX3 137 "HopCredits$Link" "probesAt" "[I") (by decide +kernel)
  have f183 := hts (.fieldLink RX3 183 "HopCredits$Link" "delay" "I") (by decide +kernel)
  have f210 := hts (.fieldLink RX3 210 "HopCredits$Lane" "waited" "I") (by decide +kernel)
  have f78 := hts (.fieldLink RX3 78 "HopCredits$Net" "tick" "I") (by decide +kernel)
  have f84 := hts (.fieldLink RX3 84 "HopCredits$Net" "probesSent" "I") (by decide +kernel)
  have iX1 : ∀ w ∈ u_ws RX1 TX1 7, w ∈ wsX3_sendProbe := by decide +kernel
  have iX2 : ∀ w ∈ u_ws RX2 TX2 10, w ∈ wsX3_sendProbe := by decide +kernel
  have iX3 : ∀ w ∈ u_ws RX3 TX3 11, w ∈ wsX3_sendProbe := by decide +kernel
  have hl := lv_entry ([.ref Nn, .ref L0, .int (nI cx)]) (n := 3) (Nat.le_of_ble_eq_true rfl)
  rw [lg_entry_eq]
  generalize (lg_sl ([.ref Nn, .ref L0, .int (nI cx)]) ++ List.replicate (3 - (lg_sl ([.ref Nn, .ref L0, .int (nI cx)])).length) Slot.unset).toArray = ls at hl ⊢
  have hl : lv_has ls 3 [(0, .ref Nn), (1, .ref L0), (2, .int (nI cx))] := hl
  generalize hQ : MQ below _ _ s _ _ _ = Q
  generalize hH : s.heap = H at hP ⊢
  have hS : va_S A s.heap H [] := by rw [← hH]; exact hS
  clear hH
  refine lv_aload_n hx hb dX3_sendProbe_0 rfl (lv_at hl 1 rfl) ?_
  refine va_get (D := D) (ci := 2) (v := .ref L0p) (C := RX2) (T := TX2) (N := 10) hx hb hts iX2 hown hK hP 1 rfl rfl 8 (by decide) f137 (fun _ h9 => h9) rfl dX3_sendProbe_1 ?_
  refine lv_aload_n hx hb dX3_sendProbe_4 rfl (lv_at hl 0 rfl) ?_
  refine va_get (D := D) (ci := 3) (v := .int (nI t)) (C := RX3) (T := TX3) (N := 11) hx hb hts iX3 hown hK hP 0 rfl rfl 5 (by decide) f78 (fun _ h9 => h9) rfl dX3_sendProbe_5 ?_
  refine lv_aload_n hx hb dX3_sendProbe_8 rfl (lv_at hl 1 rfl) ?_
  refine va_get (D := D) (ci := 2) (v := .int (nI d0)) (C := RX2) (T := TX2) (N := 10) hx hb hts iX2 hown hK hP 1 rfl rfl 0 (by decide) f183 (fun _ h9 => h9) rfl dX3_sendProbe_9 ?_
  refine lv_iadd hx hb dX3_sendProbe_12 ?_
  refine lv_eqi (y := (nI (t + d0))) (nI_add (t) (d0)) ?_
  refine lv_iconst (v := 5) hx hb dX3_sendProbe_13 (by decide) ?_
  refine lv_irem hx hb dX3_sendProbe_14 (by decide) ?_
  refine lv_eqi (y := (nI ((t + d0) % 5))) (pk_rem (show t + d0 < 2 ^ 31 by omega) (show 0 < 5 by omega) (show 5 < 2 ^ 31 by omega)) ?_
  refine lv_iconst (v := 3) hx hb dX3_sendProbe_15 (by decide) ?_
  refine lv_imul hx hb dX3_sendProbe_16 ?_
  refine lv_eqi (y := (nI (((t + d0) % 5) * 3))) (pk_mul ((t + d0) % 5) (3)) ?_
  refine lv_iload_n hx hb dX3_sendProbe_17 rfl (lv_at hl 2 rfl) ?_
  refine lv_iadd hx hb dX3_sendProbe_18 ?_
  refine lv_eqi (y := (nI (((t + d0) % 5) * 3 + cx))) (nI_add (((t + d0) % 5) * 3) (cx)) ?_
  refine lv_dup2_11 hx hb dX3_sendProbe_19 rfl rfl ?_
  refine va_iald hx hb hK hP 2 0 rfl rfl (vp_in_nI (show ((t + d0) % 5) * 3 + cx < 15 by omega) (by decide)) dX3_sendProbe_20 ?_
  refine lv_eqi (y := (fp0 (((t + d0) % 5) * 3 + cx))) (congrArg fp0 (nI_clamp (show ((t + d0) % 5) * 3 + cx < 2 ^ 31 by omega))) ?_
  refine lv_topi (fun y_1 _ => ?_)
  refine lv_iconst (v := 1) hx hb dX3_sendProbe_21 (by decide) ?_
  refine lv_iadd hx hb dX3_sendProbe_22 ?_
  refine lv_topi (fun y_2 _ => ?_)
  refine va_iast hx hb hK hP hD hS 2 0 rfl rfl (vp_in_nI (show ((t + d0) % 5) * 3 + cx < 15 by omega) (by decide)) dX3_sendProbe_23 (fun H locs hP2 hD2 hS2 => ?_)
  clear hP hD hS
  have hPD : PD D A [(Nn, .inr (3, [.int (nI hp), .int (nI cc), .int zrs, .int zad, .int zpr, .int (nI t), .int zlo, .int zps, .ref Nl, .ref Nf, .ref Nb])), (L0, .inr (2, [.int (nI d0), .int (fk0 1), .int (fk0 2), .int (fv0 3), .int (fv0 4), .int (fv0 5), .ref L0c, .ref L0u, .ref L0p, .ref L0l])), (L0p, .inl (g 0, 15, .inl (upd fp0 (nI (((t + d0) % 5) * 3 + cx)).toNatClampNeg y_2))), (L0l, .inl (g 2, 3, .inr (.inr (.inr (.inr (rf3 L0a L0b L0d)))))), (L0a, .inr (1, [.int (fa0 0), .int (fa0 1), .int (fa0 2), .int (fa0 3), .int (fa0 4), .int (fa0 5), .int (fa0 6)])), (L0b, .inr (1, [.int (fb0 0), .int (fb0 1), .int (fb0 2), .int (fb0 3), .int (fb0 4), .int (fb0 5), .int (fb0 6)])), (L0d, .inr (1, [.int (fd0 0), .int (fd0 1), .int (fd0 2), .int (fd0 3), .int (fd0 4), .int (fd0 5), .int (fd0 6)]))] H := ⟨hP2, hD2⟩
  have hS := hS2; clear hP2 hD2 hS2; have hP := hPD.1; have hD := hPD.2; clear hPD
  rw [nI_clamp (show ((t + d0) % 5) * 3 + cx < 2 ^ 31 by omega)] at hP hD
  have hPD : PD D A [(Nn, .inr (3, [.int (nI hp), .int (nI cc), .int zrs, .int zad, .int zpr, .int (nI t), .int zlo, .int zps, .ref Nl, .ref Nf, .ref Nb])), (L0, .inr (2, [.int (nI d0), .int (fk0 1), .int (fk0 2), .int (fv0 3), .int (fv0 4), .int (fv0 5), .ref L0c, .ref L0u, .ref L0p, .ref L0l])), (L0p, .inl (g 0, 15, .inl (upd fp0 (((t + d0) % 5) * 3 + cx) y_2))), (L0l, .inl (g 2, 3, .inr (.inr (.inr (.inr (rf3 L0a L0b L0d)))))), (L0a, .inr (1, [.int (fa0 0), .int (fa0 1), .int (fa0 2), .int (fa0 3), .int (fa0 4), .int (fa0 5), .int (fa0 6)])), (L0b, .inr (1, [.int (fb0 0), .int (fb0 1), .int (fb0 2), .int (fb0 3), .int (fb0 4), .int (fb0 5), .int (fb0 6)])), (L0d, .inr (1, [.int (fd0 0), .int (fd0 1), .int (fd0 2), .int (fd0 3), .int (fd0 4), .int (fd0 5), .int (fd0 6)]))] H := ⟨hP, hD⟩
  clear hP hD; have hP := hPD.1; have hD := hPD.2; clear hPD
  generalize upd fp0 (((t + d0) % 5) * 3 + cx) y_2 = F_3 at hP hD
  refine lv_aload_n hx hb dX3_sendProbe_24 rfl (lv_at hl 1 rfl) ?_
  refine va_get (D := D) (ci := 2) (v := .ref L0l) (C := RX2) (T := TX2) (N := 10) hx hb hts iX2 hown hK hP 1 rfl rfl 9 (by decide) f128 (fun _ h9 => h9) rfl dX3_sendProbe_25 ?_
  refine lv_iload_n hx hb dX3_sendProbe_28 rfl (lv_at hl 2 rfl) ?_
  have hPq_4 := hP; have hDq_4 := hD; have hSq_4 := hS; have hlq_4 := hl; clear hP hD hS hl
  rcases (show cx = 0 ∨ cx = 1 ∨ cx = 2 by omega) with rfl | rfl | rfl
  · skip
    have hP := hPq_4; have hD := hDq_4; have hS := hSq_4; have hl := hlq_4; clear hPq_4 hDq_4 hSq_4 hlq_4
    refine va_aldq (C := "HopCredits$Lane") hx hb hK hP 3 2 rfl rfl (by unfold vp_in; decide) dX3_sendProbe_29 ?_
    refine lv_eqv (v2 := .ref L0a) rfl ?_
    refine lv_iconst (v := 0) hx hb dX3_sendProbe_30 (by decide) ?_
    refine va_put (D := D) (ci := 1) (v := .int 0) (ty := .int) (C := RX1) (T := TX1) (N := 7) hx hb hts iX1 tyX1 tyX1_ok nmX1 hown hK hP hD hS 4 rfl rfl 4 (by decide) f210 (fun _ h9 => h9) rfl (by decide +kernel) (rfl) (rfl) (Nat.le_of_ble_eq_true rfl) dX3_sendProbe_31 (fun H locs hP2 hD2 hS2 => ?_)
    clear hP hD hS
    have hPD : PD D A [(Nn, .inr (3, [.int (nI hp), .int (nI cc), .int zrs, .int zad, .int zpr, .int (nI t), .int zlo, .int zps, .ref Nl, .ref Nf, .ref Nb])), (L0, .inr (2, [.int (nI d0), .int (fk0 1), .int (fk0 2), .int (fv0 3), .int (fv0 4), .int (fv0 5), .ref L0c, .ref L0u, .ref L0p, .ref L0l])), (L0p, .inl (g 0, 15, .inl F_3)), (L0l, .inl (g 2, 3, .inr (.inr (.inr (.inr (rf3 L0a L0b L0d)))))), (L0a, .inr (1, [.int (fa0 0), .int (fa0 1), .int (fa0 2), .int (fa0 3), .int 0, .int (fa0 5), .int (fa0 6)])), (L0b, .inr (1, [.int (fb0 0), .int (fb0 1), .int (fb0 2), .int (fb0 3), .int (fb0 4), .int (fb0 5), .int (fb0 6)])), (L0d, .inr (1, [.int (fd0 0), .int (fd0 1), .int (fd0 2), .int (fd0 3), .int (fd0 4), .int (fd0 5), .int (fd0 6)]))] H := ⟨hP2, hD2⟩
    have hS := hS2; clear hP2 hD2 hS2; have hP := hPD.1; have hD := hPD.2; clear hPD
    refine lv_aload_n hx hb dX3_sendProbe_34 rfl (lv_at hl 0 rfl) ?_
    refine lv_dup hx hb dX3_sendProbe_35 rfl ?_
    refine va_get (D := D) (ci := 3) (v := .int zps) (C := RX3) (T := TX3) (N := 11) hx hb hts iX3 hown hK hP 0 rfl rfl 7 (by decide) f84 (fun _ h9 => h9) rfl dX3_sendProbe_36 ?_
    refine lv_iconst (v := 1) hx hb dX3_sendProbe_39 (by decide) ?_
    refine lv_iadd hx hb dX3_sendProbe_40 ?_
    refine lv_topi (fun y_5 _ => ?_)
    refine va_put (D := D) (ci := 3) (v := .int y_5) (ty := .int) (C := RX3) (T := TX3) (N := 11) hx hb hts iX3 tyX3 tyX3_ok nmX3 hown hK hP hD hS 0 rfl rfl 7 (by decide) f84 (fun _ h9 => h9) rfl (by decide +kernel) (rfl) (rfl) (Nat.le_of_ble_eq_true rfl) dX3_sendProbe_41 (fun H locs hP2 hD2 hS2 => ?_)
    clear hP hD hS
    have hPD : PD D A [(Nn, .inr (3, [.int (nI hp), .int (nI cc), .int zrs, .int zad, .int zpr, .int (nI t), .int zlo, .int y_5, .ref Nl, .ref Nf, .ref Nb])), (L0, .inr (2, [.int (nI d0), .int (fk0 1), .int (fk0 2), .int (fv0 3), .int (fv0 4), .int (fv0 5), .ref L0c, .ref L0u, .ref L0p, .ref L0l])), (L0p, .inl (g 0, 15, .inl F_3)), (L0l, .inl (g 2, 3, .inr (.inr (.inr (.inr (rf3 L0a L0b L0d)))))), (L0a, .inr (1, [.int (fa0 0), .int (fa0 1), .int (fa0 2), .int (fa0 3), .int 0, .int (fa0 5), .int (fa0 6)])), (L0b, .inr (1, [.int (fb0 0), .int (fb0 1), .int (fb0 2), .int (fb0 3), .int (fb0 4), .int (fb0 5), .int (fb0 6)])), (L0d, .inr (1, [.int (fd0 0), .int (fd0 1), .int (fd0 2), .int (fd0 3), .int (fd0 4), .int (fd0 5), .int (fd0 6)]))] H := ⟨hP2, hD2⟩
    have hS := hS2; clear hP2 hD2 hS2; have hP := hPD.1; have hD := hPD.2; clear hPD
    have hP9 := hP; have hD9 := hD
    subst hQ
    refine W.widen (k := 0) (n := 0) (Nat.le_of_ble_eq_true rfl) (Nat.le_of_ble_eq_true rfl) ?_
    exact W.vret hx hb hr (fun tS htS _ => ⟨⟨_, rfl, ⟨y_5, F_3, (lf [fa0 0, fa0 1, fa0 2, 0, 0, fa0 5, fa0 6]), fb0, fd0, rfl⟩, by rw [htS]; exact hP9, hD9⟩, hS.F htS⟩) hS.2.2 dX3_sendProbe_44
  · skip
    have hP := hPq_4; have hD := hDq_4; have hS := hSq_4; have hl := hlq_4; clear hPq_4 hDq_4 hSq_4 hlq_4
    refine va_aldq (C := "HopCredits$Lane") hx hb hK hP 3 2 rfl rfl (by unfold vp_in; decide) dX3_sendProbe_29 ?_
    refine lv_eqv (v2 := .ref L0b) rfl ?_
    refine lv_iconst (v := 0) hx hb dX3_sendProbe_30 (by decide) ?_
    refine va_put (D := D) (ci := 1) (v := .int 0) (ty := .int) (C := RX1) (T := TX1) (N := 7) hx hb hts iX1 tyX1 tyX1_ok nmX1 hown hK hP hD hS 5 rfl rfl 4 (by decide) f210 (fun _ h9 => h9) rfl (by decide +kernel) (rfl) (rfl) (Nat.le_of_ble_eq_true rfl) dX3_sendProbe_31 (fun H locs hP2 hD2 hS2 => ?_)
    clear hP hD hS
    have hPD : PD D A [(Nn, .inr (3, [.int (nI hp), .int (nI cc), .int zrs, .int zad, .int zpr, .int (nI t), .int zlo, .int zps, .ref Nl, .ref Nf, .ref Nb])), (L0, .inr (2, [.int (nI d0), .int (fk0 1), .int (fk0 2), .int (fv0 3), .int (fv0 4), .int (fv0 5), .ref L0c, .ref L0u, .ref L0p, .ref L0l])), (L0p, .inl (g 0, 15, .inl F_3)), (L0l, .inl (g 2, 3, .inr (.inr (.inr (.inr (rf3 L0a L0b L0d)))))), (L0a, .inr (1, [.int (fa0 0), .int (fa0 1), .int (fa0 2), .int (fa0 3), .int (fa0 4), .int (fa0 5), .int (fa0 6)])), (L0b, .inr (1, [.int (fb0 0), .int (fb0 1), .int (fb0 2), .int (fb0 3), .int 0, .int (fb0 5), .int (fb0 6)])), (L0d, .inr (1, [.int (fd0 0), .int (fd0 1), .int (fd0 2), .int (fd0 3), .int (fd0 4), .int (fd0 5), .int (fd0 6)]))] H := ⟨hP2, hD2⟩
    have hS := hS2; clear hP2 hD2 hS2; have hP := hPD.1; have hD := hPD.2; clear hPD
    refine lv_aload_n hx hb dX3_sendProbe_34 rfl (lv_at hl 0 rfl) ?_
    refine lv_dup hx hb dX3_sendProbe_35 rfl ?_
    refine va_get (D := D) (ci := 3) (v := .int zps) (C := RX3) (T := TX3) (N := 11) hx hb hts iX3 hown hK hP 0 rfl rfl 7 (by decide) f84 (fun _ h9 => h9) rfl dX3_sendProbe_36 ?_
    refine lv_iconst (v := 1) hx hb dX3_sendProbe_39 (by decide) ?_
    refine lv_iadd hx hb dX3_sendProbe_40 ?_
    refine lv_topi (fun y_6 _ => ?_)
    refine va_put (D := D) (ci := 3) (v := .int y_6) (ty := .int) (C := RX3) (T := TX3) (N := 11) hx hb hts iX3 tyX3 tyX3_ok nmX3 hown hK hP hD hS 0 rfl rfl 7 (by decide) f84 (fun _ h9 => h9) rfl (by decide +kernel) (rfl) (rfl) (Nat.le_of_ble_eq_true rfl) dX3_sendProbe_41 (fun H locs hP2 hD2 hS2 => ?_)
    clear hP hD hS
    have hPD : PD D A [(Nn, .inr (3, [.int (nI hp), .int (nI cc), .int zrs, .int zad, .int zpr, .int (nI t), .int zlo, .int y_6, .ref Nl, .ref Nf, .ref Nb])), (L0, .inr (2, [.int (nI d0), .int (fk0 1), .int (fk0 2), .int (fv0 3), .int (fv0 4), .int (fv0 5), .ref L0c, .ref L0u, .ref L0p, .ref L0l])), (L0p, .inl (g 0, 15, .inl F_3)), (L0l, .inl (g 2, 3, .inr (.inr (.inr (.inr (rf3 L0a L0b L0d)))))), (L0a, .inr (1, [.int (fa0 0), .int (fa0 1), .int (fa0 2), .int (fa0 3), .int (fa0 4), .int (fa0 5), .int (fa0 6)])), (L0b, .inr (1, [.int (fb0 0), .int (fb0 1), .int (fb0 2), .int (fb0 3), .int 0, .int (fb0 5), .int (fb0 6)])), (L0d, .inr (1, [.int (fd0 0), .int (fd0 1), .int (fd0 2), .int (fd0 3), .int (fd0 4), .int (fd0 5), .int (fd0 6)]))] H := ⟨hP2, hD2⟩
    have hS := hS2; clear hP2 hD2 hS2; have hP := hPD.1; have hD := hPD.2; clear hPD
    have hP9 := hP; have hD9 := hD
    subst hQ
    refine W.widen (k := 0) (n := 0) (Nat.le_of_ble_eq_true rfl) (Nat.le_of_ble_eq_true rfl) ?_
    exact W.vret hx hb hr (fun tS htS _ => ⟨⟨_, rfl, ⟨y_6, F_3, fa0, (lf [fb0 0, fb0 1, fb0 2, 0, 0, fb0 5, fb0 6]), fd0, rfl⟩, by rw [htS]; exact hP9, hD9⟩, hS.F htS⟩) hS.2.2 dX3_sendProbe_44
  · skip
    have hP := hPq_4; have hD := hDq_4; have hS := hSq_4; have hl := hlq_4; clear hPq_4 hDq_4 hSq_4 hlq_4
    refine va_aldq (C := "HopCredits$Lane") hx hb hK hP 3 2 rfl rfl (by unfold vp_in; decide) dX3_sendProbe_29 ?_
    refine lv_eqv (v2 := .ref L0d) rfl ?_
    refine lv_iconst (v := 0) hx hb dX3_sendProbe_30 (by decide) ?_
    refine va_put (D := D) (ci := 1) (v := .int 0) (ty := .int) (C := RX1) (T := TX1) (N := 7) hx hb hts iX1 tyX1 tyX1_ok nmX1 hown hK hP hD hS 6 rfl rfl 4 (by decide) f210 (fun _ h9 => h9) rfl (by decide +kernel) (rfl) (rfl) (Nat.le_of_ble_eq_true rfl) dX3_sendProbe_31 (fun H locs hP2 hD2 hS2 => ?_)
    clear hP hD hS
    have hPD : PD D A [(Nn, .inr (3, [.int (nI hp), .int (nI cc), .int zrs, .int zad, .int zpr, .int (nI t), .int zlo, .int zps, .ref Nl, .ref Nf, .ref Nb])), (L0, .inr (2, [.int (nI d0), .int (fk0 1), .int (fk0 2), .int (fv0 3), .int (fv0 4), .int (fv0 5), .ref L0c, .ref L0u, .ref L0p, .ref L0l])), (L0p, .inl (g 0, 15, .inl F_3)), (L0l, .inl (g 2, 3, .inr (.inr (.inr (.inr (rf3 L0a L0b L0d)))))), (L0a, .inr (1, [.int (fa0 0), .int (fa0 1), .int (fa0 2), .int (fa0 3), .int (fa0 4), .int (fa0 5), .int (fa0 6)])), (L0b, .inr (1, [.int (fb0 0), .int (fb0 1), .int (fb0 2), .int (fb0 3), .int (fb0 4), .int (fb0 5), .int (fb0 6)])), (L0d, .inr (1, [.int (fd0 0), .int (fd0 1), .int (fd0 2), .int (fd0 3), .int 0, .int (fd0 5), .int (fd0 6)]))] H := ⟨hP2, hD2⟩
    have hS := hS2; clear hP2 hD2 hS2; have hP := hPD.1; have hD := hPD.2; clear hPD
    refine lv_aload_n hx hb dX3_sendProbe_34 rfl (lv_at hl 0 rfl) ?_
    refine lv_dup hx hb dX3_sendProbe_35 rfl ?_
    refine va_get (D := D) (ci := 3) (v := .int zps) (C := RX3) (T := TX3) (N := 11) hx hb hts iX3 hown hK hP 0 rfl rfl 7 (by decide) f84 (fun _ h9 => h9) rfl dX3_sendProbe_36 ?_
    refine lv_iconst (v := 1) hx hb dX3_sendProbe_39 (by decide) ?_
    refine lv_iadd hx hb dX3_sendProbe_40 ?_
    refine lv_topi (fun y_7 _ => ?_)
    refine va_put (D := D) (ci := 3) (v := .int y_7) (ty := .int) (C := RX3) (T := TX3) (N := 11) hx hb hts iX3 tyX3 tyX3_ok nmX3 hown hK hP hD hS 0 rfl rfl 7 (by decide) f84 (fun _ h9 => h9) rfl (by decide +kernel) (rfl) (rfl) (Nat.le_of_ble_eq_true rfl) dX3_sendProbe_41 (fun H locs hP2 hD2 hS2 => ?_)
    clear hP hD hS
    have hPD : PD D A [(Nn, .inr (3, [.int (nI hp), .int (nI cc), .int zrs, .int zad, .int zpr, .int (nI t), .int zlo, .int y_7, .ref Nl, .ref Nf, .ref Nb])), (L0, .inr (2, [.int (nI d0), .int (fk0 1), .int (fk0 2), .int (fv0 3), .int (fv0 4), .int (fv0 5), .ref L0c, .ref L0u, .ref L0p, .ref L0l])), (L0p, .inl (g 0, 15, .inl F_3)), (L0l, .inl (g 2, 3, .inr (.inr (.inr (.inr (rf3 L0a L0b L0d)))))), (L0a, .inr (1, [.int (fa0 0), .int (fa0 1), .int (fa0 2), .int (fa0 3), .int (fa0 4), .int (fa0 5), .int (fa0 6)])), (L0b, .inr (1, [.int (fb0 0), .int (fb0 1), .int (fb0 2), .int (fb0 3), .int (fb0 4), .int (fb0 5), .int (fb0 6)])), (L0d, .inr (1, [.int (fd0 0), .int (fd0 1), .int (fd0 2), .int (fd0 3), .int 0, .int (fd0 5), .int (fd0 6)]))] H := ⟨hP2, hD2⟩
    have hS := hS2; clear hP2 hD2 hS2; have hP := hPD.1; have hD := hPD.2; clear hPD
    have hP9 := hP; have hD9 := hD
    subst hQ
    refine W.widen (k := 0) (n := 0) (Nat.le_of_ble_eq_true rfl) (Nat.le_of_ble_eq_true rfl) ?_
    exact W.vret hx hb hr (fun tS htS _ => ⟨⟨_, rfl, ⟨y_7, F_3, fa0, fb0, (lf [fd0 0, fd0 1, fd0 2, 0, 0, fd0 5, fd0 6]), rfl⟩, by rw [htS]; exact hP9, hD9⟩, hS.F htS⟩) hS.2.2 dX3_sendProbe_44

set_option maxHeartbeats 4000000 in
set_option maxRecDepth 100000 in
theorem k_X3_goneFrom_0 (l : Launch) (D : va_G) (g : Nat → ClassId) (sz : Nat) (Nn : Nat) (cx : Nat) (hp : Nat) (cc : Nat) (zrs : Int32) (zad : Int32) (zpr : Int32) (t : Nat) (zlo : Int32) (zps : Int32) (Nl : Nat) (Nf : Nat) (Nb : Nat) (L0 : Nat) (M1 : Nat) (M2 : Nat) (d0 : Nat) (fk0 : Nat → Int32) (fv0 : Nat → Int32) (L0c : Nat) (L0u : Nat) (L0p : Nat) (L0l : Nat) (fu0 : Nat → Int32) (L0a : Nat) (L0b : Nat) (L0d : Nat) (fa0 : Nat → Int32) (fb0 : Nat → Int32) (fd0 : Nat → Int32) (h0 : cx < 3) (h1 : t < 2 ^ 30) (h2 : d0 < 5) (h3 : okc (fv0 4)) : Met l yX3_goneFrom wsX3_goneFrom ({ frames := 1, cells := 0, slots := 0, locals := 22 }) (va_Pc [.ref Nn, .int 0, .int (nI cx)] (pre D g sz [(Nn, .inr (3, [.int (nI hp), .int (nI cc), .int zrs, .int zad, .int zpr, .int (nI t), .int zlo, .int zps, .ref Nl, .ref Nf, .ref Nb])), (Nl, .inl (g 1, 3, .inr (.inr (.inr (.inr (rf3 L0 M1 M2)))))), (L0, .inr (2, [.int (nI d0), .int (fk0 1), .int (fk0 2), .int (fv0 3), .int (fv0 4), .int (fv0 5), .ref L0c, .ref L0u, .ref L0p, .ref L0l])), (L0u, .inl (g 0, 15, .inl fu0)), (L0l, .inl (g 2, 3, .inr (.inr (.inr (.inr (rf3 L0a L0b L0d)))))), (L0a, .inr (1, [.int (fa0 0), .int (fa0 1), .int (fa0 2), .int (fa0 3), .int (fa0 4), .int (fa0 5), .int (fa0 6)])), (L0b, .inr (1, [.int (fb0 0), .int (fb0 1), .int (fb0 2), .int (fb0 3), .int (fb0 4), .int (fb0 5), .int (fb0 6)])), (L0d, .inr (1, [.int (fd0 0), .int (fd0 1), .int (fd0 2), .int (fd0 3), .int (fd0 4), .int (fd0 5), .int (fd0 6)]))])) (va_Qv (fun (u : va_W) => ∃ (zlox : Int32) (fv0x : Nat → Int32) (fu0x : Nat → Int32) (fa0x : Nat → Int32) (fb0x : Nat → Int32) (fd0x : Nat → Int32), u = [(Nn, .inr (3, [.int (nI hp), .int (nI cc), .int zrs, .int zad, .int zpr, .int (nI t), .int zlox, .int zps, .ref Nl, .ref Nf, .ref Nb])), (Nl, .inl (g 1, 3, .inr (.inr (.inr (.inr (rf3 L0 M1 M2)))))), (L0, .inr (2, [.int (nI d0), .int (fk0 1), .int (fk0 2), .int (fv0x 3), .int (fv0x 4), .int (fv0x 5), .ref L0c, .ref L0u, .ref L0p, .ref L0l])), (L0u, .inl (g 0, 15, .inl fu0x)), (L0l, .inl (g 2, 3, .inr (.inr (.inr (.inr (rf3 L0a L0b L0d)))))), (L0a, .inr (1, [.int (fa0x 0), .int (fa0x 1), .int (fa0x 2), .int (fa0 3), .int (fa0x 4), .int (fa0x 5), .int (fa0x 6)])), (L0b, .inr (1, [.int (fb0x 0), .int (fb0x 1), .int (fb0x 2), .int (fb0 3), .int (fb0x 4), .int (fb0x 5), .int (fb0x 6)])), (L0d, .inr (1, [.int (fd0x 0), .int (fd0x 1), .int (fd0x 2), .int (fd0 3), .int (fd0x 4), .int (fd0x 5), .int (fd0x 6)]))] ∧ (okc (fv0x 4))) (wd D (va_A [(Nn, .inr (3, [.int (nI hp), .int (nI cc), .int zrs, .int zad, .int zpr, .int (nI t), .int zlo, .int zps, .ref Nl, .ref Nf, .ref Nb])), (Nl, .inl (g 1, 3, .inr (.inr (.inr (.inr (rf3 L0 M1 M2)))))), (L0, .inr (2, [.int (nI d0), .int (fk0 1), .int (fk0 2), .int (fv0 3), .int (fv0 4), .int (fv0 5), .ref L0c, .ref L0u, .ref L0p, .ref L0l])), (L0u, .inl (g 0, 15, .inl fu0)), (L0l, .inl (g 2, 3, .inr (.inr (.inr (.inr (rf3 L0a L0b L0d)))))), (L0a, .inr (1, [.int (fa0 0), .int (fa0 1), .int (fa0 2), .int (fa0 3), .int (fa0 4), .int (fa0 5), .int (fa0 6)])), (L0b, .inr (1, [.int (fb0 0), .int (fb0 1), .int (fb0 2), .int (fb0 3), .int (fb0 4), .int (fb0 5), .int (fb0 6)])), (L0d, .inr (1, [.int (fd0 0), .int (fd0 1), .int (fd0 2), .int (fd0 3), .int (fd0 4), .int (fd0 5), .int (fd0 6)]))] sz)) (va_A [(Nn, .inr (3, [.int (nI hp), .int (nI cc), .int zrs, .int zad, .int zpr, .int (nI t), .int zlo, .int zps, .ref Nl, .ref Nf, .ref Nb])), (Nl, .inl (g 1, 3, .inr (.inr (.inr (.inr (rf3 L0 M1 M2)))))), (L0, .inr (2, [.int (nI d0), .int (fk0 1), .int (fk0 2), .int (fv0 3), .int (fv0 4), .int (fv0 5), .ref L0c, .ref L0u, .ref L0p, .ref L0l])), (L0u, .inl (g 0, 15, .inl fu0)), (L0l, .inl (g 2, 3, .inr (.inr (.inr (.inr (rf3 L0a L0b L0d)))))), (L0a, .inr (1, [.int (fa0 0), .int (fa0 1), .int (fa0 2), .int (fa0 3), .int (fa0 4), .int (fa0 5), .int (fa0 6)])), (L0b, .inr (1, [.int (fb0 0), .int (fb0 1), .int (fb0 2), .int (fb0 3), .int (fb0 4), .int (fb0 5), .int (fb0 6)])), (L0d, .inr (1, [.int (fd0 0), .int (fd0 1), .int (fd0 2), .int (fd0 3), .int (fd0 4), .int (fd0 5), .int (fd0 6)]))] sz)) 0 0 (va_A [(Nn, .inr (3, [.int (nI hp), .int (nI cc), .int zrs, .int zad, .int zpr, .int (nI t), .int zlo, .int zps, .ref Nl, .ref Nf, .ref Nb])), (Nl, .inl (g 1, 3, .inr (.inr (.inr (.inr (rf3 L0 M1 M2)))))), (L0, .inr (2, [.int (nI d0), .int (fk0 1), .int (fk0 2), .int (fv0 3), .int (fv0 4), .int (fv0 5), .ref L0c, .ref L0u, .ref L0p, .ref L0l])), (L0u, .inl (g 0, 15, .inl fu0)), (L0l, .inl (g 2, 3, .inr (.inr (.inr (.inr (rf3 L0a L0b L0d)))))), (L0a, .inr (1, [.int (fa0 0), .int (fa0 1), .int (fa0 2), .int (fa0 3), .int (fa0 4), .int (fa0 5), .int (fa0 6)])), (L0b, .inr (1, [.int (fb0 0), .int (fb0 1), .int (fb0 2), .int (fb0 3), .int (fb0 4), .int (fb0 5), .int (fb0 6)])), (L0d, .inr (1, [.int (fd0 0), .int (fd0 1), .int (fd0 2), .int (fd0 3), .int (fd0 4), .int (fd0 5), .int (fd0 6)]))] sz) := by
  refine Met.ofW (cc := cX3_goneFrom) (maxL := 5) (ret := none) (by decide) rfl ?_
  intro p e s m args below meth c s₁ B hml hv
  obtain ⟨rfl, hsz, hP, ⟨hK, hN⟩, hD0, hZ⟩ := hv
  have hx := B.exec
  have hb := B.bytes
  have hr := B.returns
  have hts := atoms_spec (ws := wsX3_goneFrom) B.pre
  have hown : s.vm.findClass RX3 = some m.cls := findClass_of_methodNamed B.named
  have hlocks := B.notSynchronized
  clear B
  subst hsz
  have hD := hD0.self (sz := s.heap.size)
  clear hD0
  generalize hAe : va_A [(Nn, .inr (3, [.int (nI hp), .int (nI cc), .int zrs, .int zad, .int zpr, .int (nI t), .int zlo, .int zps, .ref Nl, .ref Nf, .ref Nb])), (Nl, .inl (g 1, 3, .inr (.inr (.inr (.inr (rf3 L0 M1 M2)))))), (L0, .inr (2, [.int (nI d0), .int (fk0 1), .int (fk0 2), .int (fv0 3), .int (fv0 4), .int (fv0 5), .ref L0c, .ref L0u, .ref L0p, .ref L0l])), (L0u, .inl (g 0, 15, .inl fu0)), (L0l, .inl (g 2, 3, .inr (.inr (.inr (.inr (rf3 L0a L0b L0d)))))), (L0a, .inr (1, [.int (fa0 0), .int (fa0 1), .int (fa0 2), .int (fa0 3), .int (fa0 4), .int (fa0 5), .int (fa0 6)])), (L0b, .inr (1, [.int (fb0 0), .int (fb0 1), .int (fb0 2), .int (fb0 3), .int (fb0 4), .int (fb0 5), .int (fb0 6)])), (L0d, .inr (1, [.int (fd0 0), .int (fd0 1), .int (fd0 2), .int (fd0 3), .int (fd0 4), .int (fd0 5), .int (fd0 6)]))] s.heap.size = A at hD hZ ⊢
  have hA : ∀ q : Nat, s.heap.size ≤ q → A q := fun q h => by rw [← hAe]; exact Or.inr h
  have hS : va_S A s.heap s.heap [] := va_S.rf
  have f11 := hts (.fieldLink RX3 11 "HopCredits$Net" "links" "[LHopCredits$Link;") (by decide +kernel)
  have f128 := hts (.fieldLink RX3 128 "HopCredits$Link" "lanes" "[LHopCredits$Lane;") (by decide +kernel)
  have f198 := hts (.fieldLink RX3 198 "HopCredits$Lane" "gone" "I") (by decide +kernel)
  have f201 := hts (.fieldLink RX3 201 "HopCredits$Lane" "sinceUpdate" "I") (by decide +kernel)
  have f204 := hts (.fieldLink RX3 204 "HopCredits$Link" "every" "I") (by decide +kernel)
  have iX1 : ∀ w ∈ u_ws RX1 TX1 7, w ∈ wsX3_goneFrom := by decide +kernel
  have iX2 : ∀ w ∈ u_ws RX2 TX2 10, w ∈ wsX3_goneFrom := by decide +kernel
  have iX3 : ∀ w ∈ u_ws RX3 TX3 11, w ∈ wsX3_goneFrom := by decide +kernel
  have hl := lv_entry ([.ref Nn, .int 0, .int (nI cx)]) (n := 5) (Nat.le_of_ble_eq_true rfl)
  rw [lg_entry_eq]
  generalize (lg_sl ([.ref Nn, .int 0, .int (nI cx)]) ++ List.replicate (5 - (lg_sl ([.ref Nn, .int 0, .int (nI cx)])).length) Slot.unset).toArray = ls at hl ⊢
  have hl : lv_has ls 5 [(0, .ref Nn), (1, .int 0), (2, .int (nI cx))] := hl
  generalize hQ : MQ below _ _ s _ _ _ = Q
  generalize hH : s.heap = H at hP ⊢
  have hS : va_S A s.heap H [] := by rw [← hH]; exact hS
  clear hH
  refine lv_aload_n hx hb dX3_goneFrom_0 rfl (lv_at hl 0 rfl) ?_
  refine va_get (D := D) (ci := 3) (v := .ref Nl) (C := RX3) (T := TX3) (N := 11) hx hb hts iX3 hown hK hP 0 rfl rfl 8 (by decide) f11 (fun _ h9 => h9) rfl dX3_goneFrom_1 ?_
  refine lv_iload_n hx hb dX3_goneFrom_4 rfl (lv_at hl 1 rfl) ?_
  refine va_aldq (C := "HopCredits$Link") hx hb hK hP 1 1 rfl rfl (by unfold vp_in; decide) dX3_goneFrom_5 ?_
  refine lv_eqv (v2 := .ref L0) rfl ?_
  refine lv_astore_n (lv' := [(3, .ref L0), (0, .ref Nn), (1, .int 0), (2, .int (nI cx))]) hx hb dX3_goneFrom_6 rfl hl (by decide) rfl (fun ls hl => ?_)
  refine lv_aload_n hx hb dX3_goneFrom_7 rfl (lv_at hl 0 rfl) ?_
  refine va_get (D := D) (ci := 2) (v := .ref L0l) (C := RX2) (T := TX2) (N := 10) hx hb hts iX2 hown hK hP 2 rfl rfl 9 (by decide) f128 (fun _ h9 => h9) rfl dX3_goneFrom_8 ?_
  refine lv_iload_n hx hb dX3_goneFrom_11 rfl (lv_at hl 3 rfl) ?_
  have hPq_1 := hP; have hDq_1 := hD; have hSq_1 := hS; have hlq_1 := hl; clear hP hD hS hl
  rcases (show cx = 0 ∨ cx = 1 ∨ cx = 2 by omega) with rfl | rfl | rfl
  · skip
    have hP := hPq_1; have hD := hDq_1; have hS := hSq_1; have hl := hlq_1; clear hPq_1 hDq_1 hSq_1 hlq_1
    refine va_aldq (C := "HopCredits$Lane") hx hb hK hP 4 2 rfl rfl (by unfold vp_in; decide) dX3_goneFrom_12 ?_
    refine lv_eqv (v2 := .ref L0a) rfl ?_
    refine lv_astore (lv' := [(4, .ref L0a), (3, .ref L0), (0, .ref Nn), (1, .int 0), (2, .int (nI 0))]) hx hb dX3_goneFrom_13 hl (by decide) rfl (fun ls hl => ?_)
    refine lv_aload hx hb dX3_goneFrom_15 (lv_at hl 0 rfl) ?_
    refine lv_aload hx hb dX3_goneFrom_17 (lv_at hl 0 rfl) ?_
    refine va_get (D := D) (ci := 1) (v := .int (fa0 1)) (C := RX1) (T := TX1) (N := 7) hx hb hts iX1 hown hK hP 5 rfl rfl 1 (by decide) f198 (fun _ h9 => h9) rfl dX3_goneFrom_19 ?_
    refine lv_iconst (v := 1) hx hb dX3_goneFrom_22 (by decide) ?_
    refine lv_iadd hx hb dX3_goneFrom_23 ?_
    refine lv_topi (fun y_2 _ => ?_)
    refine lv_bipush (v := 63) hx hb dX3_goneFrom_24 (by decide) ?_
    refine lv_iand hx hb dX3_goneFrom_26 ?_
    refine lv_topi (fun y_3 _ => ?_)
    refine va_put (D := D) (ci := 1) (v := .int y_3) (ty := .int) (C := RX1) (T := TX1) (N := 7) hx hb hts iX1 tyX1 tyX1_ok nmX1 hown hK hP hD hS 5 rfl rfl 1 (by decide) f198 (fun _ h9 => h9) rfl (by decide +kernel) (rfl) (rfl) (Nat.le_of_ble_eq_true rfl) dX3_goneFrom_27 (fun H locs hP2 hD2 hS2 => ?_)
    clear hP hD hS
    have hPD : PD D A [(Nn, .inr (3, [.int (nI hp), .int (nI cc), .int zrs, .int zad, .int zpr, .int (nI t), .int zlo, .int zps, .ref Nl, .ref Nf, .ref Nb])), (Nl, .inl (g 1, 3, .inr (.inr (.inr (.inr (rf3 L0 M1 M2)))))), (L0, .inr (2, [.int (nI d0), .int (fk0 1), .int (fk0 2), .int (fv0 3), .int (fv0 4), .int (fv0 5), .ref L0c, .ref L0u, .ref L0p, .ref L0l])), (L0u, .inl (g 0, 15, .inl fu0)), (L0l, .inl (g 2, 3, .inr (.inr (.inr (.inr (rf3 L0a L0b L0d)))))), (L0a, .inr (1, [.int (fa0 0), .int y_3, .int (fa0 2), .int (fa0 3), .int (fa0 4), .int (fa0 5), .int (fa0 6)])), (L0b, .inr (1, [.int (fb0 0), .int (fb0 1), .int (fb0 2), .int (fb0 3), .int (fb0 4), .int (fb0 5), .int (fb0 6)])), (L0d, .inr (1, [.int (fd0 0), .int (fd0 1), .int (fd0 2), .int (fd0 3), .int (fd0 4), .int (fd0 5), .int (fd0 6)]))] H := ⟨hP2, hD2⟩
    have hS := hS2; clear hP2 hD2 hS2; have hP := hPD.1; have hD := hPD.2; clear hPD
    refine lv_aload hx hb dX3_goneFrom_30 (lv_at hl 0 rfl) ?_
    refine lv_dup hx hb dX3_goneFrom_32 rfl ?_
    refine va_get (D := D) (ci := 1) (v := .int (fa0 5)) (C := RX1) (T := TX1) (N := 7) hx hb hts iX1 hown hK hP 5 rfl rfl 5 (by decide) f201 (fun _ h9 => h9) rfl dX3_goneFrom_33 ?_
    refine lv_iconst (v := 1) hx hb dX3_goneFrom_36 (by decide) ?_
    refine lv_iadd hx hb dX3_goneFrom_37 ?_
    refine lv_topi (fun y_4 _ => ?_)
    refine va_put (D := D) (ci := 1) (v := .int y_4) (ty := .int) (C := RX1) (T := TX1) (N := 7) hx hb hts iX1 tyX1 tyX1_ok nmX1 hown hK hP hD hS 5 rfl rfl 5 (by decide) f201 (fun _ h9 => h9) rfl (by decide +kernel) (rfl) (rfl) (Nat.le_of_ble_eq_true rfl) dX3_goneFrom_38 (fun H locs hP2 hD2 hS2 => ?_)
    clear hP hD hS
    have hPD : PD D A [(Nn, .inr (3, [.int (nI hp), .int (nI cc), .int zrs, .int zad, .int zpr, .int (nI t), .int zlo, .int zps, .ref Nl, .ref Nf, .ref Nb])), (Nl, .inl (g 1, 3, .inr (.inr (.inr (.inr (rf3 L0 M1 M2)))))), (L0, .inr (2, [.int (nI d0), .int (fk0 1), .int (fk0 2), .int (fv0 3), .int (fv0 4), .int (fv0 5), .ref L0c, .ref L0u, .ref L0p, .ref L0l])), (L0u, .inl (g 0, 15, .inl fu0)), (L0l, .inl (g 2, 3, .inr (.inr (.inr (.inr (rf3 L0a L0b L0d)))))), (L0a, .inr (1, [.int (fa0 0), .int y_3, .int (fa0 2), .int (fa0 3), .int (fa0 4), .int y_4, .int (fa0 6)])), (L0b, .inr (1, [.int (fb0 0), .int (fb0 1), .int (fb0 2), .int (fb0 3), .int (fb0 4), .int (fb0 5), .int (fb0 6)])), (L0d, .inr (1, [.int (fd0 0), .int (fd0 1), .int (fd0 2), .int (fd0 3), .int (fd0 4), .int (fd0 5), .int (fd0 6)]))] H := ⟨hP2, hD2⟩
    have hS := hS2; clear hP2 hD2 hS2; have hP := hPD.1; have hD := hPD.2; clear hPD
    refine lv_aload hx hb dX3_goneFrom_41 (lv_at hl 0 rfl) ?_
    refine va_get (D := D) (ci := 1) (v := .int y_4) (C := RX1) (T := TX1) (N := 7) hx hb hts iX1 hown hK hP 5 rfl rfl 5 (by decide) f201 (fun _ h9 => h9) rfl dX3_goneFrom_43 ?_
    refine lv_aload_n hx hb dX3_goneFrom_46 rfl (lv_at hl 1 rfl) ?_
    refine va_get (D := D) (ci := 2) (v := .int (fk0 2)) (C := RX2) (T := TX2) (N := 10) hx hb hts iX2 hown hK hP 2 rfl rfl 2 (by decide) f204 (fun _ h9 => h9) rfl dX3_goneFrom_47 ?_
    refine lv_icmp_lt (tgt := 65) hx hb dX3_goneFrom_50 (by decide) (fun cb_5 => ?_) (fun cb_5 => ?_)
    · skip
      have hP9 := hP; have hD9 := hD
      subst hQ
      refine W.widen (k := 0) (n := 0) (Nat.le_of_ble_eq_true rfl) (Nat.le_of_ble_eq_true rfl) ?_
      exact W.vret hx hb hr (fun tS htS _ => ⟨⟨_, rfl, ⟨zlo, fv0, fu0, (lf [fa0 0, y_3, fa0 2, 0, fa0 4, y_4, fa0 6]), fb0, fd0, rfl, (h3)⟩, by rw [htS]; exact hP9, hD9⟩, hS.F htS⟩) hS.2.2 dX3_goneFrom_65
    · skip
      refine lv_aload hx hb dX3_goneFrom_53 (lv_at hl 0 rfl) ?_
      refine lv_iconst (v := 0) hx hb dX3_goneFrom_55 (by decide) ?_
      refine va_put (D := D) (ci := 1) (v := .int 0) (ty := .int) (C := RX1) (T := TX1) (N := 7) hx hb hts iX1 tyX1 tyX1_ok nmX1 hown hK hP hD hS 5 rfl rfl 5 (by decide) f201 (fun _ h9 => h9) rfl (by decide +kernel) (rfl) (rfl) (Nat.le_of_ble_eq_true rfl) dX3_goneFrom_56 (fun H locs hP2 hD2 hS2 => ?_)
      clear hP hD hS
      have hPD : PD D A [(Nn, .inr (3, [.int (nI hp), .int (nI cc), .int zrs, .int zad, .int zpr, .int (nI t), .int zlo, .int zps, .ref Nl, .ref Nf, .ref Nb])), (Nl, .inl (g 1, 3, .inr (.inr (.inr (.inr (rf3 L0 M1 M2)))))), (L0, .inr (2, [.int (nI d0), .int (fk0 1), .int (fk0 2), .int (fv0 3), .int (fv0 4), .int (fv0 5), .ref L0c, .ref L0u, .ref L0p, .ref L0l])), (L0u, .inl (g 0, 15, .inl fu0)), (L0l, .inl (g 2, 3, .inr (.inr (.inr (.inr (rf3 L0a L0b L0d)))))), (L0a, .inr (1, [.int (fa0 0), .int y_3, .int (fa0 2), .int (fa0 3), .int (fa0 4), .int 0, .int (fa0 6)])), (L0b, .inr (1, [.int (fb0 0), .int (fb0 1), .int (fb0 2), .int (fb0 3), .int (fb0 4), .int (fb0 5), .int (fb0 6)])), (L0d, .inr (1, [.int (fd0 0), .int (fd0 1), .int (fd0 2), .int (fd0 3), .int (fd0 4), .int (fd0 5), .int (fd0 6)]))] H := ⟨hP2, hD2⟩
      have hS := hS2; clear hP2 hD2 hS2; have hP := hPD.1; have hD := hPD.2; clear hPD
      refine lv_aload_n hx hb dX3_goneFrom_59 rfl (lv_at hl 2 rfl) ?_
      refine lv_aload_n hx hb dX3_goneFrom_60 rfl (lv_at hl 1 rfl) ?_
      refine lv_iload_n hx hb dX3_goneFrom_61 rfl (lv_at hl 4 rfl) ?_
      refine ky_Vv (As := [.ref L0, .int (nI 0)]) (rest := []) ⟨hx, hb, hml, hown, hts⟩ ⟨hK, hN⟩ hZ hP hD hS hA [0, 2, 3, 4, 5, 6, 7] [1] (wc := [(Nn, .inr (3, [.int (nI hp), .int (nI cc), .int zrs, .int zad, .int zpr, .int (nI t), .int zlo, .int zps, .ref Nl, .ref Nf, .ref Nb])), (L0, .inr (2, [.int (nI d0), .int (fk0 1), .int (fk0 2), .int (fv0 3), .int (fv0 4), .int (fv0 5), .ref L0c, .ref L0u, .ref L0p, .ref L0l])), (L0u, .inl (g 0, 15, .inl fu0)), (L0l, .inl (g 2, 3, .inr (.inr (.inr (.inr (rf3 L0a L0b L0d)))))), (L0a, .inr (1, [.int (fa0 0), .int y_3, .int (fa0 2), .int (fa0 3), .int (fa0 4), .int 0, .int (fa0 6)])), (L0b, .inr (1, [.int (fb0 0), .int (fb0 1), .int (fb0 2), .int (fb0 3), .int (fb0 4), .int (fb0 5), .int (fb0 6)])), (L0d, .inr (1, [.int (fd0 0), .int (fd0 1), .int (fd0 2), .int (fd0 3), .int (fd0 4), .int (fd0 5), .int (fd0 6)]))]) (wr := [(Nl, .inl (g 1, 3, .inr (.inr (.inr (.inr (rf3 L0 M1 M2))))))]) rfl rfl rfl rfl (by decide) (k_X3_sendUpdate l D g H.size Nn L0 0 hp cc zrs zad zpr t zlo zps Nl Nf Nb d0 fk0 fv0 L0c L0u L0p L0l fu0 L0a L0b L0d (lf [fa0 0, y_3, fa0 2, fa0 3, fa0 4, 0, fa0 6]) fb0 fd0 (show 0 < 3 by omega) (show t < 2 ^ 30 by omega) (show d0 < 5 by omega) (h3)) (cwV 2 hts gX3_goneFrom_X3_sendUpdate rfl rfl rfl (by decide +kernel) ⟨(Nat.le_of_ble_eq_true rfl), (Nat.le_of_ble_eq_true rfl)⟩) 0 3 rfl rfl rfl rfl hl.1 rfl (Nat.le_of_ble_eq_true rfl) dX3_goneFrom_62 ⟨(Nat.le_of_ble_eq_true rfl), (Nat.le_of_ble_eq_true rfl)⟩ (fun u H locs hw hP2 hD2 hS2 => ?_)
      clear hP hD hS
      obtain ⟨zlox_7, fv0x_8, fu0x_9, rfl, hf_10⟩ := hw
      have hPD : PD D A [(Nl, .inl (g 1, 3, .inr (.inr (.inr (.inr (rf3 L0 M1 M2)))))), (Nn, .inr (3, [.int (nI hp), .int (nI cc), .int zrs, .int zad, .int zpr, .int (nI t), .int zlox_7, .int zps, .ref Nl, .ref Nf, .ref Nb])), (L0, .inr (2, [.int (nI d0), .int (fk0 1), .int (fk0 2), .int (fv0x_8 3), .int (fv0x_8 4), .int (fv0x_8 5), .ref L0c, .ref L0u, .ref L0p, .ref L0l])), (L0u, .inl (g 0, 15, .inl fu0x_9)), (L0l, .inl (g 2, 3, .inr (.inr (.inr (.inr (rf3 L0a L0b L0d)))))), (L0a, .inr (1, [.int (fa0 0), .int y_3, .int (fa0 2), .int (fa0 3), .int (fa0 4), .int 0, .int (fa0 6)])), (L0b, .inr (1, [.int (fb0 0), .int (fb0 1), .int (fb0 2), .int (fb0 3), .int (fb0 4), .int (fb0 5), .int (fb0 6)])), (L0d, .inr (1, [.int (fd0 0), .int (fd0 1), .int (fd0 2), .int (fd0 3), .int (fd0 4), .int (fd0 5), .int (fd0 6)]))] H := ⟨hP2, hD2⟩
      have hS := hS2; clear hP2 hD2 hS2; have hP := hPD.1; have hD := hPD.2; clear hPD
      refine W.widen (k := 0) (n := 0) (Nat.le_of_ble_eq_true rfl) (Nat.le_of_ble_eq_true rfl) ?_
      have hPD9 : PD D A [(Nn, .inr (3, [.int (nI hp), .int (nI cc), .int zrs, .int zad, .int zpr, .int (nI t), .int zlox_7, .int zps, .ref Nl, .ref Nf, .ref Nb])), (Nl, .inl (g 1, 3, .inr (.inr (.inr (.inr (rf3 L0 M1 M2)))))), (L0, .inr (2, [.int (nI d0), .int (fk0 1), .int (fk0 2), .int (fv0x_8 3), .int (fv0x_8 4), .int (fv0x_8 5), .ref L0c, .ref L0u, .ref L0p, .ref L0l])), (L0u, .inl (g 0, 15, .inl fu0x_9)), (L0l, .inl (g 2, 3, .inr (.inr (.inr (.inr (rf3 L0a L0b L0d)))))), (L0a, .inr (1, [.int (fa0 0), .int y_3, .int (fa0 2), .int (fa0 3), .int (fa0 4), .int 0, .int (fa0 6)])), (L0b, .inr (1, [.int (fb0 0), .int (fb0 1), .int (fb0 2), .int (fb0 3), .int (fb0 4), .int (fb0 5), .int (fb0 6)])), (L0d, .inr (1, [.int (fd0 0), .int (fd0 1), .int (fd0 2), .int (fd0 3), .int (fd0 4), .int (fd0 5), .int (fd0 6)]))] H := ⟨hP.sub [1, 0, 2, 3, 4, 5, 6, 7] rfl, hD.sub [1, 0, 2, 3, 4, 5, 6, 7] (by decide) rfl⟩
      have hP9 := hPD9.1; have hD9 := hPD9.2
      subst hQ
      refine W.widen (k := 0) (n := 0) (Nat.le_of_ble_eq_true rfl) (Nat.le_of_ble_eq_true rfl) ?_
      exact W.vret hx hb hr (fun tS htS _ => ⟨⟨_, rfl, ⟨zlox_7, fv0x_8, fu0x_9, (lf [fa0 0, y_3, fa0 2, 0, fa0 4, 0, fa0 6]), fb0, fd0, rfl, (hf_10)⟩, by rw [htS]; exact hP9, hD9⟩, hS.F htS⟩) hS.2.2 dX3_goneFrom_65
  · skip
    have hP := hPq_1; have hD := hDq_1; have hS := hSq_1; have hl := hlq_1; clear hPq_1 hDq_1 hSq_1 hlq_1
    refine va_aldq (C := "HopCredits$Lane") hx hb hK hP 4 2 rfl rfl (by unfold vp_in; decide) dX3_goneFrom_12 ?_
    refine lv_eqv (v2 := .ref L0b) rfl ?_
    refine lv_astore (lv' := [(4, .ref L0b), (3, .ref L0), (0, .ref Nn), (1, .int 0), (2, .int (nI 1))]) hx hb dX3_goneFrom_13 hl (by decide) rfl (fun ls hl => ?_)
    refine lv_aload hx hb dX3_goneFrom_15 (lv_at hl 0 rfl) ?_
    refine lv_aload hx hb dX3_goneFrom_17 (lv_at hl 0 rfl) ?_
    refine va_get (D := D) (ci := 1) (v := .int (fb0 1)) (C := RX1) (T := TX1) (N := 7) hx hb hts iX1 hown hK hP 6 rfl rfl 1 (by decide) f198 (fun _ h9 => h9) rfl dX3_goneFrom_19 ?_
    refine lv_iconst (v := 1) hx hb dX3_goneFrom_22 (by decide) ?_
    refine lv_iadd hx hb dX3_goneFrom_23 ?_
    refine lv_topi (fun y_11 _ => ?_)
    refine lv_bipush (v := 63) hx hb dX3_goneFrom_24 (by decide) ?_
    refine lv_iand hx hb dX3_goneFrom_26 ?_
    refine lv_topi (fun y_12 _ => ?_)
    refine va_put (D := D) (ci := 1) (v := .int y_12) (ty := .int) (C := RX1) (T := TX1) (N := 7) hx hb hts iX1 tyX1 tyX1_ok nmX1 hown hK hP hD hS 6 rfl rfl 1 (by decide) f198 (fun _ h9 => h9) rfl (by decide +kernel) (rfl) (rfl) (Nat.le_of_ble_eq_true rfl) dX3_goneFrom_27 (fun H locs hP2 hD2 hS2 => ?_)
    clear hP hD hS
    have hPD : PD D A [(Nn, .inr (3, [.int (nI hp), .int (nI cc), .int zrs, .int zad, .int zpr, .int (nI t), .int zlo, .int zps, .ref Nl, .ref Nf, .ref Nb])), (Nl, .inl (g 1, 3, .inr (.inr (.inr (.inr (rf3 L0 M1 M2)))))), (L0, .inr (2, [.int (nI d0), .int (fk0 1), .int (fk0 2), .int (fv0 3), .int (fv0 4), .int (fv0 5), .ref L0c, .ref L0u, .ref L0p, .ref L0l])), (L0u, .inl (g 0, 15, .inl fu0)), (L0l, .inl (g 2, 3, .inr (.inr (.inr (.inr (rf3 L0a L0b L0d)))))), (L0a, .inr (1, [.int (fa0 0), .int (fa0 1), .int (fa0 2), .int (fa0 3), .int (fa0 4), .int (fa0 5), .int (fa0 6)])), (L0b, .inr (1, [.int (fb0 0), .int y_12, .int (fb0 2), .int (fb0 3), .int (fb0 4), .int (fb0 5), .int (fb0 6)])), (L0d, .inr (1, [.int (fd0 0), .int (fd0 1), .int (fd0 2), .int (fd0 3), .int (fd0 4), .int (fd0 5), .int (fd0 6)]))] H := ⟨hP2, hD2⟩
    have hS := hS2; clear hP2 hD2 hS2; have hP := hPD.1; have hD := hPD.2; clear hPD
    refine lv_aload hx hb dX3_goneFrom_30 (lv_at hl 0 rfl) ?_
    refine lv_dup hx hb dX3_goneFrom_32 rfl ?_
    refine va_get (D := D) (ci := 1) (v := .int (fb0 5)) (C := RX1) (T := TX1) (N := 7) hx hb hts iX1 hown hK hP 6 rfl rfl 5 (by decide) f201 (fun _ h9 => h9) rfl dX3_goneFrom_33 ?_
    refine lv_iconst (v := 1) hx hb dX3_goneFrom_36 (by decide) ?_
    refine lv_iadd hx hb dX3_goneFrom_37 ?_
    refine lv_topi (fun y_13 _ => ?_)
    refine va_put (D := D) (ci := 1) (v := .int y_13) (ty := .int) (C := RX1) (T := TX1) (N := 7) hx hb hts iX1 tyX1 tyX1_ok nmX1 hown hK hP hD hS 6 rfl rfl 5 (by decide) f201 (fun _ h9 => h9) rfl (by decide +kernel) (rfl) (rfl) (Nat.le_of_ble_eq_true rfl) dX3_goneFrom_38 (fun H locs hP2 hD2 hS2 => ?_)
    clear hP hD hS
    have hPD : PD D A [(Nn, .inr (3, [.int (nI hp), .int (nI cc), .int zrs, .int zad, .int zpr, .int (nI t), .int zlo, .int zps, .ref Nl, .ref Nf, .ref Nb])), (Nl, .inl (g 1, 3, .inr (.inr (.inr (.inr (rf3 L0 M1 M2)))))), (L0, .inr (2, [.int (nI d0), .int (fk0 1), .int (fk0 2), .int (fv0 3), .int (fv0 4), .int (fv0 5), .ref L0c, .ref L0u, .ref L0p, .ref L0l])), (L0u, .inl (g 0, 15, .inl fu0)), (L0l, .inl (g 2, 3, .inr (.inr (.inr (.inr (rf3 L0a L0b L0d)))))), (L0a, .inr (1, [.int (fa0 0), .int (fa0 1), .int (fa0 2), .int (fa0 3), .int (fa0 4), .int (fa0 5), .int (fa0 6)])), (L0b, .inr (1, [.int (fb0 0), .int y_12, .int (fb0 2), .int (fb0 3), .int (fb0 4), .int y_13, .int (fb0 6)])), (L0d, .inr (1, [.int (fd0 0), .int (fd0 1), .int (fd0 2), .int (fd0 3), .int (fd0 4), .int (fd0 5), .int (fd0 6)]))] H := ⟨hP2, hD2⟩
    have hS := hS2; clear hP2 hD2 hS2; have hP := hPD.1; have hD := hPD.2; clear hPD
    refine lv_aload hx hb dX3_goneFrom_41 (lv_at hl 0 rfl) ?_
    refine va_get (D := D) (ci := 1) (v := .int y_13) (C := RX1) (T := TX1) (N := 7) hx hb hts iX1 hown hK hP 6 rfl rfl 5 (by decide) f201 (fun _ h9 => h9) rfl dX3_goneFrom_43 ?_
    refine lv_aload_n hx hb dX3_goneFrom_46 rfl (lv_at hl 1 rfl) ?_
    refine va_get (D := D) (ci := 2) (v := .int (fk0 2)) (C := RX2) (T := TX2) (N := 10) hx hb hts iX2 hown hK hP 2 rfl rfl 2 (by decide) f204 (fun _ h9 => h9) rfl dX3_goneFrom_47 ?_
    refine lv_icmp_lt (tgt := 65) hx hb dX3_goneFrom_50 (by decide) (fun cb_14 => ?_) (fun cb_14 => ?_)
    · skip
      have hP9 := hP; have hD9 := hD
      subst hQ
      refine W.widen (k := 0) (n := 0) (Nat.le_of_ble_eq_true rfl) (Nat.le_of_ble_eq_true rfl) ?_
      exact W.vret hx hb hr (fun tS htS _ => ⟨⟨_, rfl, ⟨zlo, fv0, fu0, fa0, (lf [fb0 0, y_12, fb0 2, 0, fb0 4, y_13, fb0 6]), fd0, rfl, (h3)⟩, by rw [htS]; exact hP9, hD9⟩, hS.F htS⟩) hS.2.2 dX3_goneFrom_65
    · skip
      refine lv_aload hx hb dX3_goneFrom_53 (lv_at hl 0 rfl) ?_
      refine lv_iconst (v := 0) hx hb dX3_goneFrom_55 (by decide) ?_
      refine va_put (D := D) (ci := 1) (v := .int 0) (ty := .int) (C := RX1) (T := TX1) (N := 7) hx hb hts iX1 tyX1 tyX1_ok nmX1 hown hK hP hD hS 6 rfl rfl 5 (by decide) f201 (fun _ h9 => h9) rfl (by decide +kernel) (rfl) (rfl) (Nat.le_of_ble_eq_true rfl) dX3_goneFrom_56 (fun H locs hP2 hD2 hS2 => ?_)
      clear hP hD hS
      have hPD : PD D A [(Nn, .inr (3, [.int (nI hp), .int (nI cc), .int zrs, .int zad, .int zpr, .int (nI t), .int zlo, .int zps, .ref Nl, .ref Nf, .ref Nb])), (Nl, .inl (g 1, 3, .inr (.inr (.inr (.inr (rf3 L0 M1 M2)))))), (L0, .inr (2, [.int (nI d0), .int (fk0 1), .int (fk0 2), .int (fv0 3), .int (fv0 4), .int (fv0 5), .ref L0c, .ref L0u, .ref L0p, .ref L0l])), (L0u, .inl (g 0, 15, .inl fu0)), (L0l, .inl (g 2, 3, .inr (.inr (.inr (.inr (rf3 L0a L0b L0d)))))), (L0a, .inr (1, [.int (fa0 0), .int (fa0 1), .int (fa0 2), .int (fa0 3), .int (fa0 4), .int (fa0 5), .int (fa0 6)])), (L0b, .inr (1, [.int (fb0 0), .int y_12, .int (fb0 2), .int (fb0 3), .int (fb0 4), .int 0, .int (fb0 6)])), (L0d, .inr (1, [.int (fd0 0), .int (fd0 1), .int (fd0 2), .int (fd0 3), .int (fd0 4), .int (fd0 5), .int (fd0 6)]))] H := ⟨hP2, hD2⟩
      have hS := hS2; clear hP2 hD2 hS2; have hP := hPD.1; have hD := hPD.2; clear hPD
      refine lv_aload_n hx hb dX3_goneFrom_59 rfl (lv_at hl 2 rfl) ?_
      refine lv_aload_n hx hb dX3_goneFrom_60 rfl (lv_at hl 1 rfl) ?_
      refine lv_iload_n hx hb dX3_goneFrom_61 rfl (lv_at hl 4 rfl) ?_
      refine ky_Vv (As := [.ref L0, .int (nI 1)]) (rest := []) ⟨hx, hb, hml, hown, hts⟩ ⟨hK, hN⟩ hZ hP hD hS hA [0, 2, 3, 4, 5, 6, 7] [1] (wc := [(Nn, .inr (3, [.int (nI hp), .int (nI cc), .int zrs, .int zad, .int zpr, .int (nI t), .int zlo, .int zps, .ref Nl, .ref Nf, .ref Nb])), (L0, .inr (2, [.int (nI d0), .int (fk0 1), .int (fk0 2), .int (fv0 3), .int (fv0 4), .int (fv0 5), .ref L0c, .ref L0u, .ref L0p, .ref L0l])), (L0u, .inl (g 0, 15, .inl fu0)), (L0l, .inl (g 2, 3, .inr (.inr (.inr (.inr (rf3 L0a L0b L0d)))))), (L0a, .inr (1, [.int (fa0 0), .int (fa0 1), .int (fa0 2), .int (fa0 3), .int (fa0 4), .int (fa0 5), .int (fa0 6)])), (L0b, .inr (1, [.int (fb0 0), .int y_12, .int (fb0 2), .int (fb0 3), .int (fb0 4), .int 0, .int (fb0 6)])), (L0d, .inr (1, [.int (fd0 0), .int (fd0 1), .int (fd0 2), .int (fd0 3), .int (fd0 4), .int (fd0 5), .int (fd0 6)]))]) (wr := [(Nl, .inl (g 1, 3, .inr (.inr (.inr (.inr (rf3 L0 M1 M2))))))]) rfl rfl rfl rfl (by decide) (k_X3_sendUpdate l D g H.size Nn L0 1 hp cc zrs zad zpr t zlo zps Nl Nf Nb d0 fk0 fv0 L0c L0u L0p L0l fu0 L0a L0b L0d fa0 (lf [fb0 0, y_12, fb0 2, fb0 3, fb0 4, 0, fb0 6]) fd0 (show 1 < 3 by omega) (show t < 2 ^ 30 by omega) (show d0 < 5 by omega) (h3)) (cwV 2 hts gX3_goneFrom_X3_sendUpdate rfl rfl rfl (by decide +kernel) ⟨(Nat.le_of_ble_eq_true rfl), (Nat.le_of_ble_eq_true rfl)⟩) 0 3 rfl rfl rfl rfl hl.1 rfl (Nat.le_of_ble_eq_true rfl) dX3_goneFrom_62 ⟨(Nat.le_of_ble_eq_true rfl), (Nat.le_of_ble_eq_true rfl)⟩ (fun u H locs hw hP2 hD2 hS2 => ?_)
      clear hP hD hS
      obtain ⟨zlox_16, fv0x_17, fu0x_18, rfl, hf_19⟩ := hw
      have hPD : PD D A [(Nl, .inl (g 1, 3, .inr (.inr (.inr (.inr (rf3 L0 M1 M2)))))), (Nn, .inr (3, [.int (nI hp), .int (nI cc), .int zrs, .int zad, .int zpr, .int (nI t), .int zlox_16, .int zps, .ref Nl, .ref Nf, .ref Nb])), (L0, .inr (2, [.int (nI d0), .int (fk0 1), .int (fk0 2), .int (fv0x_17 3), .int (fv0x_17 4), .int (fv0x_17 5), .ref L0c, .ref L0u, .ref L0p, .ref L0l])), (L0u, .inl (g 0, 15, .inl fu0x_18)), (L0l, .inl (g 2, 3, .inr (.inr (.inr (.inr (rf3 L0a L0b L0d)))))), (L0a, .inr (1, [.int (fa0 0), .int (fa0 1), .int (fa0 2), .int (fa0 3), .int (fa0 4), .int (fa0 5), .int (fa0 6)])), (L0b, .inr (1, [.int (fb0 0), .int y_12, .int (fb0 2), .int (fb0 3), .int (fb0 4), .int 0, .int (fb0 6)])), (L0d, .inr (1, [.int (fd0 0), .int (fd0 1), .int (fd0 2), .int (fd0 3), .int (fd0 4), .int (fd0 5), .int (fd0 6)]))] H := ⟨hP2, hD2⟩
      have hS := hS2; clear hP2 hD2 hS2; have hP := hPD.1; have hD := hPD.2; clear hPD
      refine W.widen (k := 0) (n := 0) (Nat.le_of_ble_eq_true rfl) (Nat.le_of_ble_eq_true rfl) ?_
      have hPD9 : PD D A [(Nn, .inr (3, [.int (nI hp), .int (nI cc), .int zrs, .int zad, .int zpr, .int (nI t), .int zlox_16, .int zps, .ref Nl, .ref Nf, .ref Nb])), (Nl, .inl (g 1, 3, .inr (.inr (.inr (.inr (rf3 L0 M1 M2)))))), (L0, .inr (2, [.int (nI d0), .int (fk0 1), .int (fk0 2), .int (fv0x_17 3), .int (fv0x_17 4), .int (fv0x_17 5), .ref L0c, .ref L0u, .ref L0p, .ref L0l])), (L0u, .inl (g 0, 15, .inl fu0x_18)), (L0l, .inl (g 2, 3, .inr (.inr (.inr (.inr (rf3 L0a L0b L0d)))))), (L0a, .inr (1, [.int (fa0 0), .int (fa0 1), .int (fa0 2), .int (fa0 3), .int (fa0 4), .int (fa0 5), .int (fa0 6)])), (L0b, .inr (1, [.int (fb0 0), .int y_12, .int (fb0 2), .int (fb0 3), .int (fb0 4), .int 0, .int (fb0 6)])), (L0d, .inr (1, [.int (fd0 0), .int (fd0 1), .int (fd0 2), .int (fd0 3), .int (fd0 4), .int (fd0 5), .int (fd0 6)]))] H := ⟨hP.sub [1, 0, 2, 3, 4, 5, 6, 7] rfl, hD.sub [1, 0, 2, 3, 4, 5, 6, 7] (by decide) rfl⟩
      have hP9 := hPD9.1; have hD9 := hPD9.2
      subst hQ
      refine W.widen (k := 0) (n := 0) (Nat.le_of_ble_eq_true rfl) (Nat.le_of_ble_eq_true rfl) ?_
      exact W.vret hx hb hr (fun tS htS _ => ⟨⟨_, rfl, ⟨zlox_16, fv0x_17, fu0x_18, fa0, (lf [fb0 0, y_12, fb0 2, 0, fb0 4, 0, fb0 6]), fd0, rfl, (hf_19)⟩, by rw [htS]; exact hP9, hD9⟩, hS.F htS⟩) hS.2.2 dX3_goneFrom_65
  · skip
    have hP := hPq_1; have hD := hDq_1; have hS := hSq_1; have hl := hlq_1; clear hPq_1 hDq_1 hSq_1 hlq_1
    refine va_aldq (C := "HopCredits$Lane") hx hb hK hP 4 2 rfl rfl (by unfold vp_in; decide) dX3_goneFrom_12 ?_
    refine lv_eqv (v2 := .ref L0d) rfl ?_
    refine lv_astore (lv' := [(4, .ref L0d), (3, .ref L0), (0, .ref Nn), (1, .int 0), (2, .int (nI 2))]) hx hb dX3_goneFrom_13 hl (by decide) rfl (fun ls hl => ?_)
    refine lv_aload hx hb dX3_goneFrom_15 (lv_at hl 0 rfl) ?_
    refine lv_aload hx hb dX3_goneFrom_17 (lv_at hl 0 rfl) ?_
    refine va_get (D := D) (ci := 1) (v := .int (fd0 1)) (C := RX1) (T := TX1) (N := 7) hx hb hts iX1 hown hK hP 7 rfl rfl 1 (by decide) f198 (fun _ h9 => h9) rfl dX3_goneFrom_19 ?_
    refine lv_iconst (v := 1) hx hb dX3_goneFrom_22 (by decide) ?_
    refine lv_iadd hx hb dX3_goneFrom_23 ?_
    refine lv_topi (fun y_20 _ => ?_)
    refine lv_bipush (v := 63) hx hb dX3_goneFrom_24 (by decide) ?_
    refine lv_iand hx hb dX3_goneFrom_26 ?_
    refine lv_topi (fun y_21 _ => ?_)
    refine va_put (D := D) (ci := 1) (v := .int y_21) (ty := .int) (C := RX1) (T := TX1) (N := 7) hx hb hts iX1 tyX1 tyX1_ok nmX1 hown hK hP hD hS 7 rfl rfl 1 (by decide) f198 (fun _ h9 => h9) rfl (by decide +kernel) (rfl) (rfl) (Nat.le_of_ble_eq_true rfl) dX3_goneFrom_27 (fun H locs hP2 hD2 hS2 => ?_)
    clear hP hD hS
    have hPD : PD D A [(Nn, .inr (3, [.int (nI hp), .int (nI cc), .int zrs, .int zad, .int zpr, .int (nI t), .int zlo, .int zps, .ref Nl, .ref Nf, .ref Nb])), (Nl, .inl (g 1, 3, .inr (.inr (.inr (.inr (rf3 L0 M1 M2)))))), (L0, .inr (2, [.int (nI d0), .int (fk0 1), .int (fk0 2), .int (fv0 3), .int (fv0 4), .int (fv0 5), .ref L0c, .ref L0u, .ref L0p, .ref L0l])), (L0u, .inl (g 0, 15, .inl fu0)), (L0l, .inl (g 2, 3, .inr (.inr (.inr (.inr (rf3 L0a L0b L0d)))))), (L0a, .inr (1, [.int (fa0 0), .int (fa0 1), .int (fa0 2), .int (fa0 3), .int (fa0 4), .int (fa0 5), .int (fa0 6)])), (L0b, .inr (1, [.int (fb0 0), .int (fb0 1), .int (fb0 2), .int (fb0 3), .int (fb0 4), .int (fb0 5), .int (fb0 6)])), (L0d, .inr (1, [.int (fd0 0), .int y_21, .int (fd0 2), .int (fd0 3), .int (fd0 4), .int (fd0 5), .int (fd0 6)]))] H := ⟨hP2, hD2⟩
    have hS := hS2; clear hP2 hD2 hS2; have hP := hPD.1; have hD := hPD.2; clear hPD
    refine lv_aload hx hb dX3_goneFrom_30 (lv_at hl 0 rfl) ?_
    refine lv_dup hx hb dX3_goneFrom_32 rfl ?_
    refine va_get (D := D) (ci := 1) (v := .int (fd0 5)) (C := RX1) (T := TX1) (N := 7) hx hb hts iX1 hown hK hP 7 rfl rfl 5 (by decide) f201 (fun _ h9 => h9) rfl dX3_goneFrom_33 ?_
    refine lv_iconst (v := 1) hx hb dX3_goneFrom_36 (by decide) ?_
    refine lv_iadd hx hb dX3_goneFrom_37 ?_
    refine lv_topi (fun y_22 _ => ?_)
    refine va_put (D := D) (ci := 1) (v := .int y_22) (ty := .int) (C := RX1) (T := TX1) (N := 7) hx hb hts iX1 tyX1 tyX1_ok nmX1 hown hK hP hD hS 7 rfl rfl 5 (by decide) f201 (fun _ h9 => h9) rfl (by decide +kernel) (rfl) (rfl) (Nat.le_of_ble_eq_true rfl) dX3_goneFrom_38 (fun H locs hP2 hD2 hS2 => ?_)
    clear hP hD hS
    have hPD : PD D A [(Nn, .inr (3, [.int (nI hp), .int (nI cc), .int zrs, .int zad, .int zpr, .int (nI t), .int zlo, .int zps, .ref Nl, .ref Nf, .ref Nb])), (Nl, .inl (g 1, 3, .inr (.inr (.inr (.inr (rf3 L0 M1 M2)))))), (L0, .inr (2, [.int (nI d0), .int (fk0 1), .int (fk0 2), .int (fv0 3), .int (fv0 4), .int (fv0 5), .ref L0c, .ref L0u, .ref L0p, .ref L0l])), (L0u, .inl (g 0, 15, .inl fu0)), (L0l, .inl (g 2, 3, .inr (.inr (.inr (.inr (rf3 L0a L0b L0d)))))), (L0a, .inr (1, [.int (fa0 0), .int (fa0 1), .int (fa0 2), .int (fa0 3), .int (fa0 4), .int (fa0 5), .int (fa0 6)])), (L0b, .inr (1, [.int (fb0 0), .int (fb0 1), .int (fb0 2), .int (fb0 3), .int (fb0 4), .int (fb0 5), .int (fb0 6)])), (L0d, .inr (1, [.int (fd0 0), .int y_21, .int (fd0 2), .int (fd0 3), .int (fd0 4), .int y_22, .int (fd0 6)]))] H := ⟨hP2, hD2⟩
    have hS := hS2; clear hP2 hD2 hS2; have hP := hPD.1; have hD := hPD.2; clear hPD
    refine lv_aload hx hb dX3_goneFrom_41 (lv_at hl 0 rfl) ?_
    refine va_get (D := D) (ci := 1) (v := .int y_22) (C := RX1) (T := TX1) (N := 7) hx hb hts iX1 hown hK hP 7 rfl rfl 5 (by decide) f201 (fun _ h9 => h9) rfl dX3_goneFrom_43 ?_
    refine lv_aload_n hx hb dX3_goneFrom_46 rfl (lv_at hl 1 rfl) ?_
    refine va_get (D := D) (ci := 2) (v := .int (fk0 2)) (C := RX2) (T := TX2) (N := 10) hx hb hts iX2 hown hK hP 2 rfl rfl 2 (by decide) f204 (fun _ h9 => h9) rfl dX3_goneFrom_47 ?_
    refine lv_icmp_lt (tgt := 65) hx hb dX3_goneFrom_50 (by decide) (fun cb_23 => ?_) (fun cb_23 => ?_)
    · skip
      have hP9 := hP; have hD9 := hD
      subst hQ
      refine W.widen (k := 0) (n := 0) (Nat.le_of_ble_eq_true rfl) (Nat.le_of_ble_eq_true rfl) ?_
      exact W.vret hx hb hr (fun tS htS _ => ⟨⟨_, rfl, ⟨zlo, fv0, fu0, fa0, fb0, (lf [fd0 0, y_21, fd0 2, 0, fd0 4, y_22, fd0 6]), rfl, (h3)⟩, by rw [htS]; exact hP9, hD9⟩, hS.F htS⟩) hS.2.2 dX3_goneFrom_65
    · skip
      refine lv_aload hx hb dX3_goneFrom_53 (lv_at hl 0 rfl) ?_
      refine lv_iconst (v := 0) hx hb dX3_goneFrom_55 (by decide) ?_
      refine va_put (D := D) (ci := 1) (v := .int 0) (ty := .int) (C := RX1) (T := TX1) (N := 7) hx hb hts iX1 tyX1 tyX1_ok nmX1 hown hK hP hD hS 7 rfl rfl 5 (by decide) f201 (fun _ h9 => h9) rfl (by decide +kernel) (rfl) (rfl) (Nat.le_of_ble_eq_true rfl) dX3_goneFrom_56 (fun H locs hP2 hD2 hS2 => ?_)
      clear hP hD hS
      have hPD : PD D A [(Nn, .inr (3, [.int (nI hp), .int (nI cc), .int zrs, .int zad, .int zpr, .int (nI t), .int zlo, .int zps, .ref Nl, .ref Nf, .ref Nb])), (Nl, .inl (g 1, 3, .inr (.inr (.inr (.inr (rf3 L0 M1 M2)))))), (L0, .inr (2, [.int (nI d0), .int (fk0 1), .int (fk0 2), .int (fv0 3), .int (fv0 4), .int (fv0 5), .ref L0c, .ref L0u, .ref L0p, .ref L0l])), (L0u, .inl (g 0, 15, .inl fu0)), (L0l, .inl (g 2, 3, .inr (.inr (.inr (.inr (rf3 L0a L0b L0d)))))), (L0a, .inr (1, [.int (fa0 0), .int (fa0 1), .int (fa0 2), .int (fa0 3), .int (fa0 4), .int (fa0 5), .int (fa0 6)])), (L0b, .inr (1, [.int (fb0 0), .int (fb0 1), .int (fb0 2), .int (fb0 3), .int (fb0 4), .int (fb0 5), .int (fb0 6)])), (L0d, .inr (1, [.int (fd0 0), .int y_21, .int (fd0 2), .int (fd0 3), .int (fd0 4), .int 0, .int (fd0 6)]))] H := ⟨hP2, hD2⟩
      have hS := hS2; clear hP2 hD2 hS2; have hP := hPD.1; have hD := hPD.2; clear hPD
      refine lv_aload_n hx hb dX3_goneFrom_59 rfl (lv_at hl 2 rfl) ?_
      refine lv_aload_n hx hb dX3_goneFrom_60 rfl (lv_at hl 1 rfl) ?_
      refine lv_iload_n hx hb dX3_goneFrom_61 rfl (lv_at hl 4 rfl) ?_
      refine ky_Vv (As := [.ref L0, .int (nI 2)]) (rest := []) ⟨hx, hb, hml, hown, hts⟩ ⟨hK, hN⟩ hZ hP hD hS hA [0, 2, 3, 4, 5, 6, 7] [1] (wc := [(Nn, .inr (3, [.int (nI hp), .int (nI cc), .int zrs, .int zad, .int zpr, .int (nI t), .int zlo, .int zps, .ref Nl, .ref Nf, .ref Nb])), (L0, .inr (2, [.int (nI d0), .int (fk0 1), .int (fk0 2), .int (fv0 3), .int (fv0 4), .int (fv0 5), .ref L0c, .ref L0u, .ref L0p, .ref L0l])), (L0u, .inl (g 0, 15, .inl fu0)), (L0l, .inl (g 2, 3, .inr (.inr (.inr (.inr (rf3 L0a L0b L0d)))))), (L0a, .inr (1, [.int (fa0 0), .int (fa0 1), .int (fa0 2), .int (fa0 3), .int (fa0 4), .int (fa0 5), .int (fa0 6)])), (L0b, .inr (1, [.int (fb0 0), .int (fb0 1), .int (fb0 2), .int (fb0 3), .int (fb0 4), .int (fb0 5), .int (fb0 6)])), (L0d, .inr (1, [.int (fd0 0), .int y_21, .int (fd0 2), .int (fd0 3), .int (fd0 4), .int 0, .int (fd0 6)]))]) (wr := [(Nl, .inl (g 1, 3, .inr (.inr (.inr (.inr (rf3 L0 M1 M2))))))]) rfl rfl rfl rfl (by decide) (k_X3_sendUpdate l D g H.size Nn L0 2 hp cc zrs zad zpr t zlo zps Nl Nf Nb d0 fk0 fv0 L0c L0u L0p L0l fu0 L0a L0b L0d fa0 fb0 (lf [fd0 0, y_21, fd0 2, fd0 3, fd0 4, 0, fd0 6]) (show 2 < 3 by omega) (show t < 2 ^ 30 by omega) (show d0 < 5 by omega) (h3)) (cwV 2 hts gX3_goneFrom_X3_sendUpdate rfl rfl rfl (by decide +kernel) ⟨(Nat.le_of_ble_eq_true rfl), (Nat.le_of_ble_eq_true rfl)⟩) 0 3 rfl rfl rfl rfl hl.1 rfl (Nat.le_of_ble_eq_true rfl) dX3_goneFrom_62 ⟨(Nat.le_of_ble_eq_true rfl), (Nat.le_of_ble_eq_true rfl)⟩ (fun u H locs hw hP2 hD2 hS2 => ?_)
      clear hP hD hS
      obtain ⟨zlox_25, fv0x_26, fu0x_27, rfl, hf_28⟩ := hw
      have hPD : PD D A [(Nl, .inl (g 1, 3, .inr (.inr (.inr (.inr (rf3 L0 M1 M2)))))), (Nn, .inr (3, [.int (nI hp), .int (nI cc), .int zrs, .int zad, .int zpr, .int (nI t), .int zlox_25, .int zps, .ref Nl, .ref Nf, .ref Nb])), (L0, .inr (2, [.int (nI d0), .int (fk0 1), .int (fk0 2), .int (fv0x_26 3), .int (fv0x_26 4), .int (fv0x_26 5), .ref L0c, .ref L0u, .ref L0p, .ref L0l])), (L0u, .inl (g 0, 15, .inl fu0x_27)), (L0l, .inl (g 2, 3, .inr (.inr (.inr (.inr (rf3 L0a L0b L0d)))))), (L0a, .inr (1, [.int (fa0 0), .int (fa0 1), .int (fa0 2), .int (fa0 3), .int (fa0 4), .int (fa0 5), .int (fa0 6)])), (L0b, .inr (1, [.int (fb0 0), .int (fb0 1), .int (fb0 2), .int (fb0 3), .int (fb0 4), .int (fb0 5), .int (fb0 6)])), (L0d, .inr (1, [.int (fd0 0), .int y_21, .int (fd0 2), .int (fd0 3), .int (fd0 4), .int 0, .int (fd0 6)]))] H := ⟨hP2, hD2⟩
      have hS := hS2; clear hP2 hD2 hS2; have hP := hPD.1; have hD := hPD.2; clear hPD
      refine W.widen (k := 0) (n := 0) (Nat.le_of_ble_eq_true rfl) (Nat.le_of_ble_eq_true rfl) ?_
      have hPD9 : PD D A [(Nn, .inr (3, [.int (nI hp), .int (nI cc), .int zrs, .int zad, .int zpr, .int (nI t), .int zlox_25, .int zps, .ref Nl, .ref Nf, .ref Nb])), (Nl, .inl (g 1, 3, .inr (.inr (.inr (.inr (rf3 L0 M1 M2)))))), (L0, .inr (2, [.int (nI d0), .int (fk0 1), .int (fk0 2), .int (fv0x_26 3), .int (fv0x_26 4), .int (fv0x_26 5), .ref L0c, .ref L0u, .ref L0p, .ref L0l])), (L0u, .inl (g 0, 15, .inl fu0x_27)), (L0l, .inl (g 2, 3, .inr (.inr (.inr (.inr (rf3 L0a L0b L0d)))))), (L0a, .inr (1, [.int (fa0 0), .int (fa0 1), .int (fa0 2), .int (fa0 3), .int (fa0 4), .int (fa0 5), .int (fa0 6)])), (L0b, .inr (1, [.int (fb0 0), .int (fb0 1), .int (fb0 2), .int (fb0 3), .int (fb0 4), .int (fb0 5), .int (fb0 6)])), (L0d, .inr (1, [.int (fd0 0), .int y_21, .int (fd0 2), .int (fd0 3), .int (fd0 4), .int 0, .int (fd0 6)]))] H := ⟨hP.sub [1, 0, 2, 3, 4, 5, 6, 7] rfl, hD.sub [1, 0, 2, 3, 4, 5, 6, 7] (by decide) rfl⟩
      have hP9 := hPD9.1; have hD9 := hPD9.2
      subst hQ
      refine W.widen (k := 0) (n := 0) (Nat.le_of_ble_eq_true rfl) (Nat.le_of_ble_eq_true rfl) ?_
      exact W.vret hx hb hr (fun tS htS _ => ⟨⟨_, rfl, ⟨zlox_25, fv0x_26, fu0x_27, fa0, fb0, (lf [fd0 0, y_21, fd0 2, 0, fd0 4, 0, fd0 6]), rfl, (hf_28)⟩, by rw [htS]; exact hP9, hD9⟩, hS.F htS⟩) hS.2.2 dX3_goneFrom_65

set_option maxHeartbeats 4000000 in
set_option maxRecDepth 100000 in
theorem k_X3_goneFrom_1 (l : Launch) (D : va_G) (g : Nat → ClassId) (sz : Nat) (Nn : Nat) (cx : Nat) (hp : Nat) (cc : Nat) (zrs : Int32) (zad : Int32) (zpr : Int32) (t : Nat) (zlo : Int32) (zps : Int32) (Nl : Nat) (Nf : Nat) (Nb : Nat) (M0 : Nat) (L0 : Nat) (M2 : Nat) (d0 : Nat) (fk0 : Nat → Int32) (fv0 : Nat → Int32) (L0c : Nat) (L0u : Nat) (L0p : Nat) (L0l : Nat) (fu0 : Nat → Int32) (L0a : Nat) (L0b : Nat) (L0d : Nat) (fa0 : Nat → Int32) (fb0 : Nat → Int32) (fd0 : Nat → Int32) (h0 : cx < 3) (h1 : t < 2 ^ 30) (h2 : d0 < 5) (h3 : okc (fv0 4)) : Met l yX3_goneFrom wsX3_goneFrom ({ frames := 1, cells := 0, slots := 0, locals := 22 }) (va_Pc [.ref Nn, .int 1, .int (nI cx)] (pre D g sz [(Nn, .inr (3, [.int (nI hp), .int (nI cc), .int zrs, .int zad, .int zpr, .int (nI t), .int zlo, .int zps, .ref Nl, .ref Nf, .ref Nb])), (Nl, .inl (g 1, 3, .inr (.inr (.inr (.inr (rf3 M0 L0 M2)))))), (L0, .inr (2, [.int (nI d0), .int (fk0 1), .int (fk0 2), .int (fv0 3), .int (fv0 4), .int (fv0 5), .ref L0c, .ref L0u, .ref L0p, .ref L0l])), (L0u, .inl (g 0, 15, .inl fu0)), (L0l, .inl (g 2, 3, .inr (.inr (.inr (.inr (rf3 L0a L0b L0d)))))), (L0a, .inr (1, [.int (fa0 0), .int (fa0 1), .int (fa0 2), .int (fa0 3), .int (fa0 4), .int (fa0 5), .int (fa0 6)])), (L0b, .inr (1, [.int (fb0 0), .int (fb0 1), .int (fb0 2), .int (fb0 3), .int (fb0 4), .int (fb0 5), .int (fb0 6)])), (L0d, .inr (1, [.int (fd0 0), .int (fd0 1), .int (fd0 2), .int (fd0 3), .int (fd0 4), .int (fd0 5), .int (fd0 6)]))])) (va_Qv (fun (u : va_W) => ∃ (zlox : Int32) (fv0x : Nat → Int32) (fu0x : Nat → Int32) (fa0x : Nat → Int32) (fb0x : Nat → Int32) (fd0x : Nat → Int32), u = [(Nn, .inr (3, [.int (nI hp), .int (nI cc), .int zrs, .int zad, .int zpr, .int (nI t), .int zlox, .int zps, .ref Nl, .ref Nf, .ref Nb])), (Nl, .inl (g 1, 3, .inr (.inr (.inr (.inr (rf3 M0 L0 M2)))))), (L0, .inr (2, [.int (nI d0), .int (fk0 1), .int (fk0 2), .int (fv0x 3), .int (fv0x 4), .int (fv0x 5), .ref L0c, .ref L0u, .ref L0p, .ref L0l])), (L0u, .inl (g 0, 15, .inl fu0x)), (L0l, .inl (g 2, 3, .inr (.inr (.inr (.inr (rf3 L0a L0b L0d)))))), (L0a, .inr (1, [.int (fa0x 0), .int (fa0x 1), .int (fa0x 2), .int (fa0 3), .int (fa0x 4), .int (fa0x 5), .int (fa0x 6)])), (L0b, .inr (1, [.int (fb0x 0), .int (fb0x 1), .int (fb0x 2), .int (fb0 3), .int (fb0x 4), .int (fb0x 5), .int (fb0x 6)])), (L0d, .inr (1, [.int (fd0x 0), .int (fd0x 1), .int (fd0x 2), .int (fd0 3), .int (fd0x 4), .int (fd0x 5), .int (fd0x 6)]))] ∧ (okc (fv0x 4))) (wd D (va_A [(Nn, .inr (3, [.int (nI hp), .int (nI cc), .int zrs, .int zad, .int zpr, .int (nI t), .int zlo, .int zps, .ref Nl, .ref Nf, .ref Nb])), (Nl, .inl (g 1, 3, .inr (.inr (.inr (.inr (rf3 M0 L0 M2)))))), (L0, .inr (2, [.int (nI d0), .int (fk0 1), .int (fk0 2), .int (fv0 3), .int (fv0 4), .int (fv0 5), .ref L0c, .ref L0u, .ref L0p, .ref L0l])), (L0u, .inl (g 0, 15, .inl fu0)), (L0l, .inl (g 2, 3, .inr (.inr (.inr (.inr (rf3 L0a L0b L0d)))))), (L0a, .inr (1, [.int (fa0 0), .int (fa0 1), .int (fa0 2), .int (fa0 3), .int (fa0 4), .int (fa0 5), .int (fa0 6)])), (L0b, .inr (1, [.int (fb0 0), .int (fb0 1), .int (fb0 2), .int (fb0 3), .int (fb0 4), .int (fb0 5), .int (fb0 6)])), (L0d, .inr (1, [.int (fd0 0), .int (fd0 1), .int (fd0 2), .int (fd0 3), .int (fd0 4), .int (fd0 5), .int (fd0 6)]))] sz)) (va_A [(Nn, .inr (3, [.int (nI hp), .int (nI cc), .int zrs, .int zad, .int zpr, .int (nI t), .int zlo, .int zps, .ref Nl, .ref Nf, .ref Nb])), (Nl, .inl (g 1, 3, .inr (.inr (.inr (.inr (rf3 M0 L0 M2)))))), (L0, .inr (2, [.int (nI d0), .int (fk0 1), .int (fk0 2), .int (fv0 3), .int (fv0 4), .int (fv0 5), .ref L0c, .ref L0u, .ref L0p, .ref L0l])), (L0u, .inl (g 0, 15, .inl fu0)), (L0l, .inl (g 2, 3, .inr (.inr (.inr (.inr (rf3 L0a L0b L0d)))))), (L0a, .inr (1, [.int (fa0 0), .int (fa0 1), .int (fa0 2), .int (fa0 3), .int (fa0 4), .int (fa0 5), .int (fa0 6)])), (L0b, .inr (1, [.int (fb0 0), .int (fb0 1), .int (fb0 2), .int (fb0 3), .int (fb0 4), .int (fb0 5), .int (fb0 6)])), (L0d, .inr (1, [.int (fd0 0), .int (fd0 1), .int (fd0 2), .int (fd0 3), .int (fd0 4), .int (fd0 5), .int (fd0 6)]))] sz)) 0 0 (va_A [(Nn, .inr (3, [.int (nI hp), .int (nI cc), .int zrs, .int zad, .int zpr, .int (nI t), .int zlo, .int zps, .ref Nl, .ref Nf, .ref Nb])), (Nl, .inl (g 1, 3, .inr (.inr (.inr (.inr (rf3 M0 L0 M2)))))), (L0, .inr (2, [.int (nI d0), .int (fk0 1), .int (fk0 2), .int (fv0 3), .int (fv0 4), .int (fv0 5), .ref L0c, .ref L0u, .ref L0p, .ref L0l])), (L0u, .inl (g 0, 15, .inl fu0)), (L0l, .inl (g 2, 3, .inr (.inr (.inr (.inr (rf3 L0a L0b L0d)))))), (L0a, .inr (1, [.int (fa0 0), .int (fa0 1), .int (fa0 2), .int (fa0 3), .int (fa0 4), .int (fa0 5), .int (fa0 6)])), (L0b, .inr (1, [.int (fb0 0), .int (fb0 1), .int (fb0 2), .int (fb0 3), .int (fb0 4), .int (fb0 5), .int (fb0 6)])), (L0d, .inr (1, [.int (fd0 0), .int (fd0 1), .int (fd0 2), .int (fd0 3), .int (fd0 4), .int (fd0 5), .int (fd0 6)]))] sz) := by
  refine Met.ofW (cc := cX3_goneFrom) (maxL := 5) (ret := none) (by decide) rfl ?_
  intro p e s m args below meth c s₁ B hml hv
  obtain ⟨rfl, hsz, hP, ⟨hK, hN⟩, hD0, hZ⟩ := hv
  have hx := B.exec
  have hb := B.bytes
  have hr := B.returns
  have hts := atoms_spec (ws := wsX3_goneFrom) B.pre
  have hown : s.vm.findClass RX3 = some m.cls := findClass_of_methodNamed B.named
  have hlocks := B.notSynchronized
  clear B
  subst hsz
  have hD := hD0.self (sz := s.heap.size)
  clear hD0
  generalize hAe : va_A [(Nn, .inr (3, [.int (nI hp), .int (nI cc), .int zrs, .int zad, .int zpr, .int (nI t), .int zlo, .int zps, .ref Nl, .ref Nf, .ref Nb])), (Nl, .inl (g 1, 3, .inr (.inr (.inr (.inr (rf3 M0 L0 M2)))))), (L0, .inr (2, [.int (nI d0), .int (fk0 1), .int (fk0 2), .int (fv0 3), .int (fv0 4), .int (fv0 5), .ref L0c, .ref L0u, .ref L0p, .ref L0l])), (L0u, .inl (g 0, 15, .inl fu0)), (L0l, .inl (g 2, 3, .inr (.inr (.inr (.inr (rf3 L0a L0b L0d)))))), (L0a, .inr (1, [.int (fa0 0), .int (fa0 1), .int (fa0 2), .int (fa0 3), .int (fa0 4), .int (fa0 5), .int (fa0 6)])), (L0b, .inr (1, [.int (fb0 0), .int (fb0 1), .int (fb0 2), .int (fb0 3), .int (fb0 4), .int (fb0 5), .int (fb0 6)])), (L0d, .inr (1, [.int (fd0 0), .int (fd0 1), .int (fd0 2), .int (fd0 3), .int (fd0 4), .int (fd0 5), .int (fd0 6)]))] s.heap.size = A at hD hZ ⊢
  have hA : ∀ q : Nat, s.heap.size ≤ q → A q := fun q h => by rw [← hAe]; exact Or.inr h
  have hS : va_S A s.heap s.heap [] := va_S.rf
  have f11 := hts (.fieldLink RX3 11 "HopCredits$Net" "links" "[LHopCredits$Link;") (by decide +kernel)
  have f128 := hts (.fieldLink RX3 128 "HopCredits$Link" "lanes" "[LHopCredits$Lane;") (by decide +kernel)
  have f198 := hts (.fieldLink RX3 198 "HopCredits$Lane" "gone" "I") (by decide +kernel)
  have f201 := hts (.fieldLink RX3 201 "HopCredits$Lane" "sinceUpdate" "I") (by decide +kernel)
  have f204 := hts (.fieldLink RX3 204 "HopCredits$Link" "every" "I") (by decide +kernel)
  have iX1 : ∀ w ∈ u_ws RX1 TX1 7, w ∈ wsX3_goneFrom := by decide +kernel
  have iX2 : ∀ w ∈ u_ws RX2 TX2 10, w ∈ wsX3_goneFrom := by decide +kernel
  have iX3 : ∀ w ∈ u_ws RX3 TX3 11, w ∈ wsX3_goneFrom := by decide +kernel
  have hl := lv_entry ([.ref Nn, .int 1, .int (nI cx)]) (n := 5) (Nat.le_of_ble_eq_true rfl)
  rw [lg_entry_eq]
  generalize (lg_sl ([.ref Nn, .int 1, .int (nI cx)]) ++ List.replicate (5 - (lg_sl ([.ref Nn, .int 1, .int (nI cx)])).length) Slot.unset).toArray = ls at hl ⊢
  have hl : lv_has ls 5 [(0, .ref Nn), (1, .int 1), (2, .int (nI cx))] := hl
  generalize hQ : MQ below _ _ s _ _ _ = Q
  generalize hH : s.heap = H at hP ⊢
  have hS : va_S A s.heap H [] := by rw [← hH]; exact hS
  clear hH
  refine lv_aload_n hx hb dX3_goneFrom_0 rfl (lv_at hl 0 rfl) ?_
  refine va_get (D := D) (ci := 3) (v := .ref Nl) (C := RX3) (T := TX3) (N := 11) hx hb hts iX3 hown hK hP 0 rfl rfl 8 (by decide) f11 (fun _ h9 => h9) rfl dX3_goneFrom_1 ?_
  refine lv_iload_n hx hb dX3_goneFrom_4 rfl (lv_at hl 1 rfl) ?_
  refine va_aldq (C := "HopCredits$Link") hx hb hK hP 1 1 rfl rfl (by unfold vp_in; decide) dX3_goneFrom_5 ?_
  refine lv_eqv (v2 := .ref L0) rfl ?_
  refine lv_astore_n (lv' := [(3, .ref L0), (0, .ref Nn), (1, .int 1), (2, .int (nI cx))]) hx hb dX3_goneFrom_6 rfl hl (by decide) rfl (fun ls hl => ?_)
  refine lv_aload_n hx hb dX3_goneFrom_7 rfl (lv_at hl 0 rfl) ?_
  refine va_get (D := D) (ci := 2) (v := .ref L0l) (C := RX2) (T := TX2) (N := 10) hx hb hts iX2 hown hK hP 2 rfl rfl 9 (by decide) f128 (fun _ h9 => h9) rfl dX3_goneFrom_8 ?_
  refine lv_iload_n hx hb dX3_goneFrom_11 rfl (lv_at hl 3 rfl) ?_
  have hPq_1 := hP; have hDq_1 := hD; have hSq_1 := hS; have hlq_1 := hl; clear hP hD hS hl
  rcases (show cx = 0 ∨ cx = 1 ∨ cx = 2 by omega) with rfl | rfl | rfl
  · skip
    have hP := hPq_1; have hD := hDq_1; have hS := hSq_1; have hl := hlq_1; clear hPq_1 hDq_1 hSq_1 hlq_1
    refine va_aldq (C := "HopCredits$Lane") hx hb hK hP 4 2 rfl rfl (by unfold vp_in; decide) dX3_goneFrom_12 ?_
    refine lv_eqv (v2 := .ref L0a) rfl ?_
    refine lv_astore (lv' := [(4, .ref L0a), (3, .ref L0), (0, .ref Nn), (1, .int 1), (2, .int (nI 0))]) hx hb dX3_goneFrom_13 hl (by decide) rfl (fun ls hl => ?_)
    refine lv_aload hx hb dX3_goneFrom_15 (lv_at hl 0 rfl) ?_
    refine lv_aload hx hb dX3_goneFrom_17 (lv_at hl 0 rfl) ?_
    refine va_get (D := D) (ci := 1) (v := .int (fa0 1)) (C := RX1) (T := TX1) (N := 7) hx hb hts iX1 hown hK hP 5 rfl rfl 1 (by decide) f198 (fun _ h9 => h9) rfl dX3_goneFrom_19 ?_
    refine lv_iconst (v := 1) hx hb dX3_goneFrom_22 (by decide) ?_
    refine lv_iadd hx hb dX3_goneFrom_23 ?_
    refine lv_topi (fun y_2 _ => ?_)
    refine lv_bipush (v := 63) hx hb dX3_goneFrom_24 (by decide) ?_
    refine lv_iand hx hb dX3_goneFrom_26 ?_
    refine lv_topi (fun y_3 _ => ?_)
    refine va_put (D := D) (ci := 1) (v := .int y_3) (ty := .int) (C := RX1) (T := TX1) (N := 7) hx hb hts iX1 tyX1 tyX1_ok nmX1 hown hK hP hD hS 5 rfl rfl 1 (by decide) f198 (fun _ h9 => h9) rfl (by decide +kernel) (rfl) (rfl) (Nat.le_of_ble_eq_true rfl) dX3_goneFrom_27 (fun H locs hP2 hD2 hS2 => ?_)
    clear hP hD hS
    have hPD : PD D A [(Nn, .inr (3, [.int (nI hp), .int (nI cc), .int zrs, .int zad, .int zpr, .int (nI t), .int zlo, .int zps, .ref Nl, .ref Nf, .ref Nb])), (Nl, .inl (g 1, 3, .inr (.inr (.inr (.inr (rf3 M0 L0 M2)))))), (L0, .inr (2, [.int (nI d0), .int (fk0 1), .int (fk0 2), .int (fv0 3), .int (fv0 4), .int (fv0 5), .ref L0c, .ref L0u, .ref L0p, .ref L0l])), (L0u, .inl (g 0, 15, .inl fu0)), (L0l, .inl (g 2, 3, .inr (.inr (.inr (.inr (rf3 L0a L0b L0d)))))), (L0a, .inr (1, [.int (fa0 0), .int y_3, .int (fa0 2), .int (fa0 3), .int (fa0 4), .int (fa0 5), .int (fa0 6)])), (L0b, .inr (1, [.int (fb0 0), .int (fb0 1), .int (fb0 2), .int (fb0 3), .int (fb0 4), .int (fb0 5), .int (fb0 6)])), (L0d, .inr (1, [.int (fd0 0), .int (fd0 1), .int (fd0 2), .int (fd0 3), .int (fd0 4), .int (fd0 5), .int (fd0 6)]))] H := ⟨hP2, hD2⟩
    have hS := hS2; clear hP2 hD2 hS2; have hP := hPD.1; have hD := hPD.2; clear hPD
    refine lv_aload hx hb dX3_goneFrom_30 (lv_at hl 0 rfl) ?_
    refine lv_dup hx hb dX3_goneFrom_32 rfl ?_
    refine va_get (D := D) (ci := 1) (v := .int (fa0 5)) (C := RX1) (T := TX1) (N := 7) hx hb hts iX1 hown hK hP 5 rfl rfl 5 (by decide) f201 (fun _ h9 => h9) rfl dX3_goneFrom_33 ?_
    refine lv_iconst (v := 1) hx hb dX3_goneFrom_36 (by decide) ?_
    refine lv_iadd hx hb dX3_goneFrom_37 ?_
    refine lv_topi (fun y_4 _ => ?_)
    refine va_put (D := D) (ci := 1) (v := .int y_4) (ty := .int) (C := RX1) (T := TX1) (N := 7) hx hb hts iX1 tyX1 tyX1_ok nmX1 hown hK hP hD hS 5 rfl rfl 5 (by decide) f201 (fun _ h9 => h9) rfl (by decide +kernel) (rfl) (rfl) (Nat.le_of_ble_eq_true rfl) dX3_goneFrom_38 (fun H locs hP2 hD2 hS2 => ?_)
    clear hP hD hS
    have hPD : PD D A [(Nn, .inr (3, [.int (nI hp), .int (nI cc), .int zrs, .int zad, .int zpr, .int (nI t), .int zlo, .int zps, .ref Nl, .ref Nf, .ref Nb])), (Nl, .inl (g 1, 3, .inr (.inr (.inr (.inr (rf3 M0 L0 M2)))))), (L0, .inr (2, [.int (nI d0), .int (fk0 1), .int (fk0 2), .int (fv0 3), .int (fv0 4), .int (fv0 5), .ref L0c, .ref L0u, .ref L0p, .ref L0l])), (L0u, .inl (g 0, 15, .inl fu0)), (L0l, .inl (g 2, 3, .inr (.inr (.inr (.inr (rf3 L0a L0b L0d)))))), (L0a, .inr (1, [.int (fa0 0), .int y_3, .int (fa0 2), .int (fa0 3), .int (fa0 4), .int y_4, .int (fa0 6)])), (L0b, .inr (1, [.int (fb0 0), .int (fb0 1), .int (fb0 2), .int (fb0 3), .int (fb0 4), .int (fb0 5), .int (fb0 6)])), (L0d, .inr (1, [.int (fd0 0), .int (fd0 1), .int (fd0 2), .int (fd0 3), .int (fd0 4), .int (fd0 5), .int (fd0 6)]))] H := ⟨hP2, hD2⟩
    have hS := hS2; clear hP2 hD2 hS2; have hP := hPD.1; have hD := hPD.2; clear hPD
    refine lv_aload hx hb dX3_goneFrom_41 (lv_at hl 0 rfl) ?_
    refine va_get (D := D) (ci := 1) (v := .int y_4) (C := RX1) (T := TX1) (N := 7) hx hb hts iX1 hown hK hP 5 rfl rfl 5 (by decide) f201 (fun _ h9 => h9) rfl dX3_goneFrom_43 ?_
    refine lv_aload_n hx hb dX3_goneFrom_46 rfl (lv_at hl 1 rfl) ?_
    refine va_get (D := D) (ci := 2) (v := .int (fk0 2)) (C := RX2) (T := TX2) (N := 10) hx hb hts iX2 hown hK hP 2 rfl rfl 2 (by decide) f204 (fun _ h9 => h9) rfl dX3_goneFrom_47 ?_
    refine lv_icmp_lt (tgt := 65) hx hb dX3_goneFrom_50 (by decide) (fun cb_5 => ?_) (fun cb_5 => ?_)
    · skip
      have hP9 := hP; have hD9 := hD
      subst hQ
      refine W.widen (k := 0) (n := 0) (Nat.le_of_ble_eq_true rfl) (Nat.le_of_ble_eq_true rfl) ?_
      exact W.vret hx hb hr (fun tS htS _ => ⟨⟨_, rfl, ⟨zlo, fv0, fu0, (lf [fa0 0, y_3, fa0 2, 0, fa0 4, y_4, fa0 6]), fb0, fd0, rfl, (h3)⟩, by rw [htS]; exact hP9, hD9⟩, hS.F htS⟩) hS.2.2 dX3_goneFrom_65
    · skip
      refine lv_aload hx hb dX3_goneFrom_53 (lv_at hl 0 rfl) ?_
      refine lv_iconst (v := 0) hx hb dX3_goneFrom_55 (by decide) ?_
      refine va_put (D := D) (ci := 1) (v := .int 0) (ty := .int) (C := RX1) (T := TX1) (N := 7) hx hb hts iX1 tyX1 tyX1_ok nmX1 hown hK hP hD hS 5 rfl rfl 5 (by decide) f201 (fun _ h9 => h9) rfl (by decide +kernel) (rfl) (rfl) (Nat.le_of_ble_eq_true rfl) dX3_goneFrom_56 (fun H locs hP2 hD2 hS2 => ?_)
      clear hP hD hS
      have hPD : PD D A [(Nn, .inr (3, [.int (nI hp), .int (nI cc), .int zrs, .int zad, .int zpr, .int (nI t), .int zlo, .int zps, .ref Nl, .ref Nf, .ref Nb])), (Nl, .inl (g 1, 3, .inr (.inr (.inr (.inr (rf3 M0 L0 M2)))))), (L0, .inr (2, [.int (nI d0), .int (fk0 1), .int (fk0 2), .int (fv0 3), .int (fv0 4), .int (fv0 5), .ref L0c, .ref L0u, .ref L0p, .ref L0l])), (L0u, .inl (g 0, 15, .inl fu0)), (L0l, .inl (g 2, 3, .inr (.inr (.inr (.inr (rf3 L0a L0b L0d)))))), (L0a, .inr (1, [.int (fa0 0), .int y_3, .int (fa0 2), .int (fa0 3), .int (fa0 4), .int 0, .int (fa0 6)])), (L0b, .inr (1, [.int (fb0 0), .int (fb0 1), .int (fb0 2), .int (fb0 3), .int (fb0 4), .int (fb0 5), .int (fb0 6)])), (L0d, .inr (1, [.int (fd0 0), .int (fd0 1), .int (fd0 2), .int (fd0 3), .int (fd0 4), .int (fd0 5), .int (fd0 6)]))] H := ⟨hP2, hD2⟩
      have hS := hS2; clear hP2 hD2 hS2; have hP := hPD.1; have hD := hPD.2; clear hPD
      refine lv_aload_n hx hb dX3_goneFrom_59 rfl (lv_at hl 2 rfl) ?_
      refine lv_aload_n hx hb dX3_goneFrom_60 rfl (lv_at hl 1 rfl) ?_
      refine lv_iload_n hx hb dX3_goneFrom_61 rfl (lv_at hl 4 rfl) ?_
      refine ky_Vv (As := [.ref L0, .int (nI 0)]) (rest := []) ⟨hx, hb, hml, hown, hts⟩ ⟨hK, hN⟩ hZ hP hD hS hA [0, 2, 3, 4, 5, 6, 7] [1] (wc := [(Nn, .inr (3, [.int (nI hp), .int (nI cc), .int zrs, .int zad, .int zpr, .int (nI t), .int zlo, .int zps, .ref Nl, .ref Nf, .ref Nb])), (L0, .inr (2, [.int (nI d0), .int (fk0 1), .int (fk0 2), .int (fv0 3), .int (fv0 4), .int (fv0 5), .ref L0c, .ref L0u, .ref L0p, .ref L0l])), (L0u, .inl (g 0, 15, .inl fu0)), (L0l, .inl (g 2, 3, .inr (.inr (.inr (.inr (rf3 L0a L0b L0d)))))), (L0a, .inr (1, [.int (fa0 0), .int y_3, .int (fa0 2), .int (fa0 3), .int (fa0 4), .int 0, .int (fa0 6)])), (L0b, .inr (1, [.int (fb0 0), .int (fb0 1), .int (fb0 2), .int (fb0 3), .int (fb0 4), .int (fb0 5), .int (fb0 6)])), (L0d, .inr (1, [.int (fd0 0), .int (fd0 1), .int (fd0 2), .int (fd0 3), .int (fd0 4), .int (fd0 5), .int (fd0 6)]))]) (wr := [(Nl, .inl (g 1, 3, .inr (.inr (.inr (.inr (rf3 M0 L0 M2))))))]) rfl rfl rfl rfl (by decide) (k_X3_sendUpdate l D g H.size Nn L0 0 hp cc zrs zad zpr t zlo zps Nl Nf Nb d0 fk0 fv0 L0c L0u L0p L0l fu0 L0a L0b L0d (lf [fa0 0, y_3, fa0 2, fa0 3, fa0 4, 0, fa0 6]) fb0 fd0 (show 0 < 3 by omega) (show t < 2 ^ 30 by omega) (show d0 < 5 by omega) (h3)) (cwV 2 hts gX3_goneFrom_X3_sendUpdate rfl rfl rfl (by decide +kernel) ⟨(Nat.le_of_ble_eq_true rfl), (Nat.le_of_ble_eq_true rfl)⟩) 0 3 rfl rfl rfl rfl hl.1 rfl (Nat.le_of_ble_eq_true rfl) dX3_goneFrom_62 ⟨(Nat.le_of_ble_eq_true rfl), (Nat.le_of_ble_eq_true rfl)⟩ (fun u H locs hw hP2 hD2 hS2 => ?_)
      clear hP hD hS
      obtain ⟨zlox_7, fv0x_8, fu0x_9, rfl, hf_10⟩ := hw
      have hPD : PD D A [(Nl, .inl (g 1, 3, .inr (.inr (.inr (.inr (rf3 M0 L0 M2)))))), (Nn, .inr (3, [.int (nI hp), .int (nI cc), .int zrs, .int zad, .int zpr, .int (nI t), .int zlox_7, .int zps, .ref Nl, .ref Nf, .ref Nb])), (L0, .inr (2, [.int (nI d0), .int (fk0 1), .int (fk0 2), .int (fv0x_8 3), .int (fv0x_8 4), .int (fv0x_8 5), .ref L0c, .ref L0u, .ref L0p, .ref L0l])), (L0u, .inl (g 0, 15, .inl fu0x_9)), (L0l, .inl (g 2, 3, .inr (.inr (.inr (.inr (rf3 L0a L0b L0d)))))), (L0a, .inr (1, [.int (fa0 0), .int y_3, .int (fa0 2), .int (fa0 3), .int (fa0 4), .int 0, .int (fa0 6)])), (L0b, .inr (1, [.int (fb0 0), .int (fb0 1), .int (fb0 2), .int (fb0 3), .int (fb0 4), .int (fb0 5), .int (fb0 6)])), (L0d, .inr (1, [.int (fd0 0), .int (fd0 1), .int (fd0 2), .int (fd0 3), .int (fd0 4), .int (fd0 5), .int (fd0 6)]))] H := ⟨hP2, hD2⟩
      have hS := hS2; clear hP2 hD2 hS2; have hP := hPD.1; have hD := hPD.2; clear hPD
      refine W.widen (k := 0) (n := 0) (Nat.le_of_ble_eq_true rfl) (Nat.le_of_ble_eq_true rfl) ?_
      have hPD9 : PD D A [(Nn, .inr (3, [.int (nI hp), .int (nI cc), .int zrs, .int zad, .int zpr, .int (nI t), .int zlox_7, .int zps, .ref Nl, .ref Nf, .ref Nb])), (Nl, .inl (g 1, 3, .inr (.inr (.inr (.inr (rf3 M0 L0 M2)))))), (L0, .inr (2, [.int (nI d0), .int (fk0 1), .int (fk0 2), .int (fv0x_8 3), .int (fv0x_8 4), .int (fv0x_8 5), .ref L0c, .ref L0u, .ref L0p, .ref L0l])), (L0u, .inl (g 0, 15, .inl fu0x_9)), (L0l, .inl (g 2, 3, .inr (.inr (.inr (.inr (rf3 L0a L0b L0d)))))), (L0a, .inr (1, [.int (fa0 0), .int y_3, .int (fa0 2), .int (fa0 3), .int (fa0 4), .int 0, .int (fa0 6)])), (L0b, .inr (1, [.int (fb0 0), .int (fb0 1), .int (fb0 2), .int (fb0 3), .int (fb0 4), .int (fb0 5), .int (fb0 6)])), (L0d, .inr (1, [.int (fd0 0), .int (fd0 1), .int (fd0 2), .int (fd0 3), .int (fd0 4), .int (fd0 5), .int (fd0 6)]))] H := ⟨hP.sub [1, 0, 2, 3, 4, 5, 6, 7] rfl, hD.sub [1, 0, 2, 3, 4, 5, 6, 7] (by decide) rfl⟩
      have hP9 := hPD9.1; have hD9 := hPD9.2
      subst hQ
      refine W.widen (k := 0) (n := 0) (Nat.le_of_ble_eq_true rfl) (Nat.le_of_ble_eq_true rfl) ?_
      exact W.vret hx hb hr (fun tS htS _ => ⟨⟨_, rfl, ⟨zlox_7, fv0x_8, fu0x_9, (lf [fa0 0, y_3, fa0 2, 0, fa0 4, 0, fa0 6]), fb0, fd0, rfl, (hf_10)⟩, by rw [htS]; exact hP9, hD9⟩, hS.F htS⟩) hS.2.2 dX3_goneFrom_65
  · skip
    have hP := hPq_1; have hD := hDq_1; have hS := hSq_1; have hl := hlq_1; clear hPq_1 hDq_1 hSq_1 hlq_1
    refine va_aldq (C := "HopCredits$Lane") hx hb hK hP 4 2 rfl rfl (by unfold vp_in; decide) dX3_goneFrom_12 ?_
    refine lv_eqv (v2 := .ref L0b) rfl ?_
    refine lv_astore (lv' := [(4, .ref L0b), (3, .ref L0), (0, .ref Nn), (1, .int 1), (2, .int (nI 1))]) hx hb dX3_goneFrom_13 hl (by decide) rfl (fun ls hl => ?_)
    refine lv_aload hx hb dX3_goneFrom_15 (lv_at hl 0 rfl) ?_
    refine lv_aload hx hb dX3_goneFrom_17 (lv_at hl 0 rfl) ?_
    refine va_get (D := D) (ci := 1) (v := .int (fb0 1)) (C := RX1) (T := TX1) (N := 7) hx hb hts iX1 hown hK hP 6 rfl rfl 1 (by decide) f198 (fun _ h9 => h9) rfl dX3_goneFrom_19 ?_
    refine lv_iconst (v := 1) hx hb dX3_goneFrom_22 (by decide) ?_
    refine lv_iadd hx hb dX3_goneFrom_23 ?_
    refine lv_topi (fun y_11 _ => ?_)
    refine lv_bipush (v := 63) hx hb dX3_goneFrom_24 (by decide) ?_
    refine lv_iand hx hb dX3_goneFrom_26 ?_
    refine lv_topi (fun y_12 _ => ?_)
    refine va_put (D := D) (ci := 1) (v := .int y_12) (ty := .int) (C := RX1) (T := TX1) (N := 7) hx hb hts iX1 tyX1 tyX1_ok nmX1 hown hK hP hD hS 6 rfl rfl 1 (by decide) f198 (fun _ h9 => h9) rfl (by decide +kernel) (rfl) (rfl) (Nat.le_of_ble_eq_true rfl) dX3_goneFrom_27 (fun H locs hP2 hD2 hS2 => ?_)
    clear hP hD hS
    have hPD : PD D A [(Nn, .inr (3, [.int (nI hp), .int (nI cc), .int zrs, .int zad, .int zpr, .int (nI t), .int zlo, .int zps, .ref Nl, .ref Nf, .ref Nb])), (Nl, .inl (g 1, 3, .inr (.inr (.inr (.inr (rf3 M0 L0 M2)))))), (L0, .inr (2, [.int (nI d0), .int (fk0 1), .int (fk0 2), .int (fv0 3), .int (fv0 4), .int (fv0 5), .ref L0c, .ref L0u, .ref L0p, .ref L0l])), (L0u, .inl (g 0, 15, .inl fu0)), (L0l, .inl (g 2, 3, .inr (.inr (.inr (.inr (rf3 L0a L0b L0d)))))), (L0a, .inr (1, [.int (fa0 0), .int (fa0 1), .int (fa0 2), .int (fa0 3), .int (fa0 4), .int (fa0 5), .int (fa0 6)])), (L0b, .inr (1, [.int (fb0 0), .int y_12, .int (fb0 2), .int (fb0 3), .int (fb0 4), .int (fb0 5), .int (fb0 6)])), (L0d, .inr (1, [.int (fd0 0), .int (fd0 1), .int (fd0 2), .int (fd0 3), .int (fd0 4), .int (fd0 5), .int (fd0 6)]))] H := ⟨hP2, hD2⟩
    have hS := hS2; clear hP2 hD2 hS2; have hP := hPD.1; have hD := hPD.2; clear hPD
    refine lv_aload hx hb dX3_goneFrom_30 (lv_at hl 0 rfl) ?_
    refine lv_dup hx hb dX3_goneFrom_32 rfl ?_
    refine va_get (D := D) (ci := 1) (v := .int (fb0 5)) (C := RX1) (T := TX1) (N := 7) hx hb hts iX1 hown hK hP 6 rfl rfl 5 (by decide) f201 (fun _ h9 => h9) rfl dX3_goneFrom_33 ?_
    refine lv_iconst (v := 1) hx hb dX3_goneFrom_36 (by decide) ?_
    refine lv_iadd hx hb dX3_goneFrom_37 ?_
    refine lv_topi (fun y_13 _ => ?_)
    refine va_put (D := D) (ci := 1) (v := .int y_13) (ty := .int) (C := RX1) (T := TX1) (N := 7) hx hb hts iX1 tyX1 tyX1_ok nmX1 hown hK hP hD hS 6 rfl rfl 5 (by decide) f201 (fun _ h9 => h9) rfl (by decide +kernel) (rfl) (rfl) (Nat.le_of_ble_eq_true rfl) dX3_goneFrom_38 (fun H locs hP2 hD2 hS2 => ?_)
    clear hP hD hS
    have hPD : PD D A [(Nn, .inr (3, [.int (nI hp), .int (nI cc), .int zrs, .int zad, .int zpr, .int (nI t), .int zlo, .int zps, .ref Nl, .ref Nf, .ref Nb])), (Nl, .inl (g 1, 3, .inr (.inr (.inr (.inr (rf3 M0 L0 M2)))))), (L0, .inr (2, [.int (nI d0), .int (fk0 1), .int (fk0 2), .int (fv0 3), .int (fv0 4), .int (fv0 5), .ref L0c, .ref L0u, .ref L0p, .ref L0l])), (L0u, .inl (g 0, 15, .inl fu0)), (L0l, .inl (g 2, 3, .inr (.inr (.inr (.inr (rf3 L0a L0b L0d)))))), (L0a, .inr (1, [.int (fa0 0), .int (fa0 1), .int (fa0 2), .int (fa0 3), .int (fa0 4), .int (fa0 5), .int (fa0 6)])), (L0b, .inr (1, [.int (fb0 0), .int y_12, .int (fb0 2), .int (fb0 3), .int (fb0 4), .int y_13, .int (fb0 6)])), (L0d, .inr (1, [.int (fd0 0), .int (fd0 1), .int (fd0 2), .int (fd0 3), .int (fd0 4), .int (fd0 5), .int (fd0 6)]))] H := ⟨hP2, hD2⟩
    have hS := hS2; clear hP2 hD2 hS2; have hP := hPD.1; have hD := hPD.2; clear hPD
    refine lv_aload hx hb dX3_goneFrom_41 (lv_at hl 0 rfl) ?_
    refine va_get (D := D) (ci := 1) (v := .int y_13) (C := RX1) (T := TX1) (N := 7) hx hb hts iX1 hown hK hP 6 rfl rfl 5 (by decide) f201 (fun _ h9 => h9) rfl dX3_goneFrom_43 ?_
    refine lv_aload_n hx hb dX3_goneFrom_46 rfl (lv_at hl 1 rfl) ?_
    refine va_get (D := D) (ci := 2) (v := .int (fk0 2)) (C := RX2) (T := TX2) (N := 10) hx hb hts iX2 hown hK hP 2 rfl rfl 2 (by decide) f204 (fun _ h9 => h9) rfl dX3_goneFrom_47 ?_
    refine lv_icmp_lt (tgt := 65) hx hb dX3_goneFrom_50 (by decide) (fun cb_14 => ?_) (fun cb_14 => ?_)
    · skip
      have hP9 := hP; have hD9 := hD
      subst hQ
      refine W.widen (k := 0) (n := 0) (Nat.le_of_ble_eq_true rfl) (Nat.le_of_ble_eq_true rfl) ?_
      exact W.vret hx hb hr (fun tS htS _ => ⟨⟨_, rfl, ⟨zlo, fv0, fu0, fa0, (lf [fb0 0, y_12, fb0 2, 0, fb0 4, y_13, fb0 6]), fd0, rfl, (h3)⟩, by rw [htS]; exact hP9, hD9⟩, hS.F htS⟩) hS.2.2 dX3_goneFrom_65
    · skip
      refine lv_aload hx hb dX3_goneFrom_53 (lv_at hl 0 rfl) ?_
      refine lv_iconst (v := 0) hx hb dX3_goneFrom_55 (by decide) ?_
      refine va_put (D := D) (ci := 1) (v := .int 0) (ty := .int) (C := RX1) (T := TX1) (N := 7) hx hb hts iX1 tyX1 tyX1_ok nmX1 hown hK hP hD hS 6 rfl rfl 5 (by decide) f201 (fun _ h9 => h9) rfl (by decide +kernel) (rfl) (rfl) (Nat.le_of_ble_eq_true rfl) dX3_goneFrom_56 (fun H locs hP2 hD2 hS2 => ?_)
      clear hP hD hS
      have hPD : PD D A [(Nn, .inr (3, [.int (nI hp), .int (nI cc), .int zrs, .int zad, .int zpr, .int (nI t), .int zlo, .int zps, .ref Nl, .ref Nf, .ref Nb])), (Nl, .inl (g 1, 3, .inr (.inr (.inr (.inr (rf3 M0 L0 M2)))))), (L0, .inr (2, [.int (nI d0), .int (fk0 1), .int (fk0 2), .int (fv0 3), .int (fv0 4), .int (fv0 5), .ref L0c, .ref L0u, .ref L0p, .ref L0l])), (L0u, .inl (g 0, 15, .inl fu0)), (L0l, .inl (g 2, 3, .inr (.inr (.inr (.inr (rf3 L0a L0b L0d)))))), (L0a, .inr (1, [.int (fa0 0), .int (fa0 1), .int (fa0 2), .int (fa0 3), .int (fa0 4), .int (fa0 5), .int (fa0 6)])), (L0b, .inr (1, [.int (fb0 0), .int y_12, .int (fb0 2), .int (fb0 3), .int (fb0 4), .int 0, .int (fb0 6)])), (L0d, .inr (1, [.int (fd0 0), .int (fd0 1), .int (fd0 2), .int (fd0 3), .int (fd0 4), .int (fd0 5), .int (fd0 6)]))] H := ⟨hP2, hD2⟩
      have hS := hS2; clear hP2 hD2 hS2; have hP := hPD.1; have hD := hPD.2; clear hPD
      refine lv_aload_n hx hb dX3_goneFrom_59 rfl (lv_at hl 2 rfl) ?_
      refine lv_aload_n hx hb dX3_goneFrom_60 rfl (lv_at hl 1 rfl) ?_
      refine lv_iload_n hx hb dX3_goneFrom_61 rfl (lv_at hl 4 rfl) ?_
      refine ky_Vv (As := [.ref L0, .int (nI 1)]) (rest := []) ⟨hx, hb, hml, hown, hts⟩ ⟨hK, hN⟩ hZ hP hD hS hA [0, 2, 3, 4, 5, 6, 7] [1] (wc := [(Nn, .inr (3, [.int (nI hp), .int (nI cc), .int zrs, .int zad, .int zpr, .int (nI t), .int zlo, .int zps, .ref Nl, .ref Nf, .ref Nb])), (L0, .inr (2, [.int (nI d0), .int (fk0 1), .int (fk0 2), .int (fv0 3), .int (fv0 4), .int (fv0 5), .ref L0c, .ref L0u, .ref L0p, .ref L0l])), (L0u, .inl (g 0, 15, .inl fu0)), (L0l, .inl (g 2, 3, .inr (.inr (.inr (.inr (rf3 L0a L0b L0d)))))), (L0a, .inr (1, [.int (fa0 0), .int (fa0 1), .int (fa0 2), .int (fa0 3), .int (fa0 4), .int (fa0 5), .int (fa0 6)])), (L0b, .inr (1, [.int (fb0 0), .int y_12, .int (fb0 2), .int (fb0 3), .int (fb0 4), .int 0, .int (fb0 6)])), (L0d, .inr (1, [.int (fd0 0), .int (fd0 1), .int (fd0 2), .int (fd0 3), .int (fd0 4), .int (fd0 5), .int (fd0 6)]))]) (wr := [(Nl, .inl (g 1, 3, .inr (.inr (.inr (.inr (rf3 M0 L0 M2))))))]) rfl rfl rfl rfl (by decide) (k_X3_sendUpdate l D g H.size Nn L0 1 hp cc zrs zad zpr t zlo zps Nl Nf Nb d0 fk0 fv0 L0c L0u L0p L0l fu0 L0a L0b L0d fa0 (lf [fb0 0, y_12, fb0 2, fb0 3, fb0 4, 0, fb0 6]) fd0 (show 1 < 3 by omega) (show t < 2 ^ 30 by omega) (show d0 < 5 by omega) (h3)) (cwV 2 hts gX3_goneFrom_X3_sendUpdate rfl rfl rfl (by decide +kernel) ⟨(Nat.le_of_ble_eq_true rfl), (Nat.le_of_ble_eq_true rfl)⟩) 0 3 rfl rfl rfl rfl hl.1 rfl (Nat.le_of_ble_eq_true rfl) dX3_goneFrom_62 ⟨(Nat.le_of_ble_eq_true rfl), (Nat.le_of_ble_eq_true rfl)⟩ (fun u H locs hw hP2 hD2 hS2 => ?_)
      clear hP hD hS
      obtain ⟨zlox_16, fv0x_17, fu0x_18, rfl, hf_19⟩ := hw
      have hPD : PD D A [(Nl, .inl (g 1, 3, .inr (.inr (.inr (.inr (rf3 M0 L0 M2)))))), (Nn, .inr (3, [.int (nI hp), .int (nI cc), .int zrs, .int zad, .int zpr, .int (nI t), .int zlox_16, .int zps, .ref Nl, .ref Nf, .ref Nb])), (L0, .inr (2, [.int (nI d0), .int (fk0 1), .int (fk0 2), .int (fv0x_17 3), .int (fv0x_17 4), .int (fv0x_17 5), .ref L0c, .ref L0u, .ref L0p, .ref L0l])), (L0u, .inl (g 0, 15, .inl fu0x_18)), (L0l, .inl (g 2, 3, .inr (.inr (.inr (.inr (rf3 L0a L0b L0d)))))), (L0a, .inr (1, [.int (fa0 0), .int (fa0 1), .int (fa0 2), .int (fa0 3), .int (fa0 4), .int (fa0 5), .int (fa0 6)])), (L0b, .inr (1, [.int (fb0 0), .int y_12, .int (fb0 2), .int (fb0 3), .int (fb0 4), .int 0, .int (fb0 6)])), (L0d, .inr (1, [.int (fd0 0), .int (fd0 1), .int (fd0 2), .int (fd0 3), .int (fd0 4), .int (fd0 5), .int (fd0 6)]))] H := ⟨hP2, hD2⟩
      have hS := hS2; clear hP2 hD2 hS2; have hP := hPD.1; have hD := hPD.2; clear hPD
      refine W.widen (k := 0) (n := 0) (Nat.le_of_ble_eq_true rfl) (Nat.le_of_ble_eq_true rfl) ?_
      have hPD9 : PD D A [(Nn, .inr (3, [.int (nI hp), .int (nI cc), .int zrs, .int zad, .int zpr, .int (nI t), .int zlox_16, .int zps, .ref Nl, .ref Nf, .ref Nb])), (Nl, .inl (g 1, 3, .inr (.inr (.inr (.inr (rf3 M0 L0 M2)))))), (L0, .inr (2, [.int (nI d0), .int (fk0 1), .int (fk0 2), .int (fv0x_17 3), .int (fv0x_17 4), .int (fv0x_17 5), .ref L0c, .ref L0u, .ref L0p, .ref L0l])), (L0u, .inl (g 0, 15, .inl fu0x_18)), (L0l, .inl (g 2, 3, .inr (.inr (.inr (.inr (rf3 L0a L0b L0d)))))), (L0a, .inr (1, [.int (fa0 0), .int (fa0 1), .int (fa0 2), .int (fa0 3), .int (fa0 4), .int (fa0 5), .int (fa0 6)])), (L0b, .inr (1, [.int (fb0 0), .int y_12, .int (fb0 2), .int (fb0 3), .int (fb0 4), .int 0, .int (fb0 6)])), (L0d, .inr (1, [.int (fd0 0), .int (fd0 1), .int (fd0 2), .int (fd0 3), .int (fd0 4), .int (fd0 5), .int (fd0 6)]))] H := ⟨hP.sub [1, 0, 2, 3, 4, 5, 6, 7] rfl, hD.sub [1, 0, 2, 3, 4, 5, 6, 7] (by decide) rfl⟩
      have hP9 := hPD9.1; have hD9 := hPD9.2
      subst hQ
      refine W.widen (k := 0) (n := 0) (Nat.le_of_ble_eq_true rfl) (Nat.le_of_ble_eq_true rfl) ?_
      exact W.vret hx hb hr (fun tS htS _ => ⟨⟨_, rfl, ⟨zlox_16, fv0x_17, fu0x_18, fa0, (lf [fb0 0, y_12, fb0 2, 0, fb0 4, 0, fb0 6]), fd0, rfl, (hf_19)⟩, by rw [htS]; exact hP9, hD9⟩, hS.F htS⟩) hS.2.2 dX3_goneFrom_65
  · skip
    have hP := hPq_1; have hD := hDq_1; have hS := hSq_1; have hl := hlq_1; clear hPq_1 hDq_1 hSq_1 hlq_1
    refine va_aldq (C := "HopCredits$Lane") hx hb hK hP 4 2 rfl rfl (by unfold vp_in; decide) dX3_goneFrom_12 ?_
    refine lv_eqv (v2 := .ref L0d) rfl ?_
    refine lv_astore (lv' := [(4, .ref L0d), (3, .ref L0), (0, .ref Nn), (1, .int 1), (2, .int (nI 2))]) hx hb dX3_goneFrom_13 hl (by decide) rfl (fun ls hl => ?_)
    refine lv_aload hx hb dX3_goneFrom_15 (lv_at hl 0 rfl) ?_
    refine lv_aload hx hb dX3_goneFrom_17 (lv_at hl 0 rfl) ?_
    refine va_get (D := D) (ci := 1) (v := .int (fd0 1)) (C := RX1) (T := TX1) (N := 7) hx hb hts iX1 hown hK hP 7 rfl rfl 1 (by decide) f198 (fun _ h9 => h9) rfl dX3_goneFrom_19 ?_
    refine lv_iconst (v := 1) hx hb dX3_goneFrom_22 (by decide) ?_
    refine lv_iadd hx hb dX3_goneFrom_23 ?_
    refine lv_topi (fun y_20 _ => ?_)
    refine lv_bipush (v := 63) hx hb dX3_goneFrom_24 (by decide) ?_
    refine lv_iand hx hb dX3_goneFrom_26 ?_
    refine lv_topi (fun y_21 _ => ?_)
    refine va_put (D := D) (ci := 1) (v := .int y_21) (ty := .int) (C := RX1) (T := TX1) (N := 7) hx hb hts iX1 tyX1 tyX1_ok nmX1 hown hK hP hD hS 7 rfl rfl 1 (by decide) f198 (fun _ h9 => h9) rfl (by decide +kernel) (rfl) (rfl) (Nat.le_of_ble_eq_true rfl) dX3_goneFrom_27 (fun H locs hP2 hD2 hS2 => ?_)
    clear hP hD hS
    have hPD : PD D A [(Nn, .inr (3, [.int (nI hp), .int (nI cc), .int zrs, .int zad, .int zpr, .int (nI t), .int zlo, .int zps, .ref Nl, .ref Nf, .ref Nb])), (Nl, .inl (g 1, 3, .inr (.inr (.inr (.inr (rf3 M0 L0 M2)))))), (L0, .inr (2, [.int (nI d0), .int (fk0 1), .int (fk0 2), .int (fv0 3), .int (fv0 4), .int (fv0 5), .ref L0c, .ref L0u, .ref L0p, .ref L0l])), (L0u, .inl (g 0, 15, .inl fu0)), (L0l, .inl (g 2, 3, .inr (.inr (.inr (.inr (rf3 L0a L0b L0d)))))), (L0a, .inr (1, [.int (fa0 0), .int (fa0 1), .int (fa0 2), .int (fa0 3), .int (fa0 4), .int (fa0 5), .int (fa0 6)])), (L0b, .inr (1, [.int (fb0 0), .int (fb0 1), .int (fb0 2), .int (fb0 3), .int (fb0 4), .int (fb0 5), .int (fb0 6)])), (L0d, .inr (1, [.int (fd0 0), .int y_21, .int (fd0 2), .int (fd0 3), .int (fd0 4), .int (fd0 5), .int (fd0 6)]))] H := ⟨hP2, hD2⟩
    have hS := hS2; clear hP2 hD2 hS2; have hP := hPD.1; have hD := hPD.2; clear hPD
    refine lv_aload hx hb dX3_goneFrom_30 (lv_at hl 0 rfl) ?_
    refine lv_dup hx hb dX3_goneFrom_32 rfl ?_
    refine va_get (D := D) (ci := 1) (v := .int (fd0 5)) (C := RX1) (T := TX1) (N := 7) hx hb hts iX1 hown hK hP 7 rfl rfl 5 (by decide) f201 (fun _ h9 => h9) rfl dX3_goneFrom_33 ?_
    refine lv_iconst (v := 1) hx hb dX3_goneFrom_36 (by decide) ?_
    refine lv_iadd hx hb dX3_goneFrom_37 ?_
    refine lv_topi (fun y_22 _ => ?_)
    refine va_put (D := D) (ci := 1) (v := .int y_22) (ty := .int) (C := RX1) (T := TX1) (N := 7) hx hb hts iX1 tyX1 tyX1_ok nmX1 hown hK hP hD hS 7 rfl rfl 5 (by decide) f201 (fun _ h9 => h9) rfl (by decide +kernel) (rfl) (rfl) (Nat.le_of_ble_eq_true rfl) dX3_goneFrom_38 (fun H locs hP2 hD2 hS2 => ?_)
    clear hP hD hS
    have hPD : PD D A [(Nn, .inr (3, [.int (nI hp), .int (nI cc), .int zrs, .int zad, .int zpr, .int (nI t), .int zlo, .int zps, .ref Nl, .ref Nf, .ref Nb])), (Nl, .inl (g 1, 3, .inr (.inr (.inr (.inr (rf3 M0 L0 M2)))))), (L0, .inr (2, [.int (nI d0), .int (fk0 1), .int (fk0 2), .int (fv0 3), .int (fv0 4), .int (fv0 5), .ref L0c, .ref L0u, .ref L0p, .ref L0l])), (L0u, .inl (g 0, 15, .inl fu0)), (L0l, .inl (g 2, 3, .inr (.inr (.inr (.inr (rf3 L0a L0b L0d)))))), (L0a, .inr (1, [.int (fa0 0), .int (fa0 1), .int (fa0 2), .int (fa0 3), .int (fa0 4), .int (fa0 5), .int (fa0 6)])), (L0b, .inr (1, [.int (fb0 0), .int (fb0 1), .int (fb0 2), .int (fb0 3), .int (fb0 4), .int (fb0 5), .int (fb0 6)])), (L0d, .inr (1, [.int (fd0 0), .int y_21, .int (fd0 2), .int (fd0 3), .int (fd0 4), .int y_22, .int (fd0 6)]))] H := ⟨hP2, hD2⟩
    have hS := hS2; clear hP2 hD2 hS2; have hP := hPD.1; have hD := hPD.2; clear hPD
    refine lv_aload hx hb dX3_goneFrom_41 (lv_at hl 0 rfl) ?_
    refine va_get (D := D) (ci := 1) (v := .int y_22) (C := RX1) (T := TX1) (N := 7) hx hb hts iX1 hown hK hP 7 rfl rfl 5 (by decide) f201 (fun _ h9 => h9) rfl dX3_goneFrom_43 ?_
    refine lv_aload_n hx hb dX3_goneFrom_46 rfl (lv_at hl 1 rfl) ?_
    refine va_get (D := D) (ci := 2) (v := .int (fk0 2)) (C := RX2) (T := TX2) (N := 10) hx hb hts iX2 hown hK hP 2 rfl rfl 2 (by decide) f204 (fun _ h9 => h9) rfl dX3_goneFrom_47 ?_
    refine lv_icmp_lt (tgt := 65) hx hb dX3_goneFrom_50 (by decide) (fun cb_23 => ?_) (fun cb_23 => ?_)
    · skip
      have hP9 := hP; have hD9 := hD
      subst hQ
      refine W.widen (k := 0) (n := 0) (Nat.le_of_ble_eq_true rfl) (Nat.le_of_ble_eq_true rfl) ?_
      exact W.vret hx hb hr (fun tS htS _ => ⟨⟨_, rfl, ⟨zlo, fv0, fu0, fa0, fb0, (lf [fd0 0, y_21, fd0 2, 0, fd0 4, y_22, fd0 6]), rfl, (h3)⟩, by rw [htS]; exact hP9, hD9⟩, hS.F htS⟩) hS.2.2 dX3_goneFrom_65
    · skip
      refine lv_aload hx hb dX3_goneFrom_53 (lv_at hl 0 rfl) ?_
      refine lv_iconst (v := 0) hx hb dX3_goneFrom_55 (by decide) ?_
      refine va_put (D := D) (ci := 1) (v := .int 0) (ty := .int) (C := RX1) (T := TX1) (N := 7) hx hb hts iX1 tyX1 tyX1_ok nmX1 hown hK hP hD hS 7 rfl rfl 5 (by decide) f201 (fun _ h9 => h9) rfl (by decide +kernel) (rfl) (rfl) (Nat.le_of_ble_eq_true rfl) dX3_goneFrom_56 (fun H locs hP2 hD2 hS2 => ?_)
      clear hP hD hS
      have hPD : PD D A [(Nn, .inr (3, [.int (nI hp), .int (nI cc), .int zrs, .int zad, .int zpr, .int (nI t), .int zlo, .int zps, .ref Nl, .ref Nf, .ref Nb])), (Nl, .inl (g 1, 3, .inr (.inr (.inr (.inr (rf3 M0 L0 M2)))))), (L0, .inr (2, [.int (nI d0), .int (fk0 1), .int (fk0 2), .int (fv0 3), .int (fv0 4), .int (fv0 5), .ref L0c, .ref L0u, .ref L0p, .ref L0l])), (L0u, .inl (g 0, 15, .inl fu0)), (L0l, .inl (g 2, 3, .inr (.inr (.inr (.inr (rf3 L0a L0b L0d)))))), (L0a, .inr (1, [.int (fa0 0), .int (fa0 1), .int (fa0 2), .int (fa0 3), .int (fa0 4), .int (fa0 5), .int (fa0 6)])), (L0b, .inr (1, [.int (fb0 0), .int (fb0 1), .int (fb0 2), .int (fb0 3), .int (fb0 4), .int (fb0 5), .int (fb0 6)])), (L0d, .inr (1, [.int (fd0 0), .int y_21, .int (fd0 2), .int (fd0 3), .int (fd0 4), .int 0, .int (fd0 6)]))] H := ⟨hP2, hD2⟩
      have hS := hS2; clear hP2 hD2 hS2; have hP := hPD.1; have hD := hPD.2; clear hPD
      refine lv_aload_n hx hb dX3_goneFrom_59 rfl (lv_at hl 2 rfl) ?_
      refine lv_aload_n hx hb dX3_goneFrom_60 rfl (lv_at hl 1 rfl) ?_
      refine lv_iload_n hx hb dX3_goneFrom_61 rfl (lv_at hl 4 rfl) ?_
      refine ky_Vv (As := [.ref L0, .int (nI 2)]) (rest := []) ⟨hx, hb, hml, hown, hts⟩ ⟨hK, hN⟩ hZ hP hD hS hA [0, 2, 3, 4, 5, 6, 7] [1] (wc := [(Nn, .inr (3, [.int (nI hp), .int (nI cc), .int zrs, .int zad, .int zpr, .int (nI t), .int zlo, .int zps, .ref Nl, .ref Nf, .ref Nb])), (L0, .inr (2, [.int (nI d0), .int (fk0 1), .int (fk0 2), .int (fv0 3), .int (fv0 4), .int (fv0 5), .ref L0c, .ref L0u, .ref L0p, .ref L0l])), (L0u, .inl (g 0, 15, .inl fu0)), (L0l, .inl (g 2, 3, .inr (.inr (.inr (.inr (rf3 L0a L0b L0d)))))), (L0a, .inr (1, [.int (fa0 0), .int (fa0 1), .int (fa0 2), .int (fa0 3), .int (fa0 4), .int (fa0 5), .int (fa0 6)])), (L0b, .inr (1, [.int (fb0 0), .int (fb0 1), .int (fb0 2), .int (fb0 3), .int (fb0 4), .int (fb0 5), .int (fb0 6)])), (L0d, .inr (1, [.int (fd0 0), .int y_21, .int (fd0 2), .int (fd0 3), .int (fd0 4), .int 0, .int (fd0 6)]))]) (wr := [(Nl, .inl (g 1, 3, .inr (.inr (.inr (.inr (rf3 M0 L0 M2))))))]) rfl rfl rfl rfl (by decide) (k_X3_sendUpdate l D g H.size Nn L0 2 hp cc zrs zad zpr t zlo zps Nl Nf Nb d0 fk0 fv0 L0c L0u L0p L0l fu0 L0a L0b L0d fa0 fb0 (lf [fd0 0, y_21, fd0 2, fd0 3, fd0 4, 0, fd0 6]) (show 2 < 3 by omega) (show t < 2 ^ 30 by omega) (show d0 < 5 by omega) (h3)) (cwV 2 hts gX3_goneFrom_X3_sendUpdate rfl rfl rfl (by decide +kernel) ⟨(Nat.le_of_ble_eq_true rfl), (Nat.le_of_ble_eq_true rfl)⟩) 0 3 rfl rfl rfl rfl hl.1 rfl (Nat.le_of_ble_eq_true rfl) dX3_goneFrom_62 ⟨(Nat.le_of_ble_eq_true rfl), (Nat.le_of_ble_eq_true rfl)⟩ (fun u H locs hw hP2 hD2 hS2 => ?_)
      clear hP hD hS
      obtain ⟨zlox_25, fv0x_26, fu0x_27, rfl, hf_28⟩ := hw
      have hPD : PD D A [(Nl, .inl (g 1, 3, .inr (.inr (.inr (.inr (rf3 M0 L0 M2)))))), (Nn, .inr (3, [.int (nI hp), .int (nI cc), .int zrs, .int zad, .int zpr, .int (nI t), .int zlox_25, .int zps, .ref Nl, .ref Nf, .ref Nb])), (L0, .inr (2, [.int (nI d0), .int (fk0 1), .int (fk0 2), .int (fv0x_26 3), .int (fv0x_26 4), .int (fv0x_26 5), .ref L0c, .ref L0u, .ref L0p, .ref L0l])), (L0u, .inl (g 0, 15, .inl fu0x_27)), (L0l, .inl (g 2, 3, .inr (.inr (.inr (.inr (rf3 L0a L0b L0d)))))), (L0a, .inr (1, [.int (fa0 0), .int (fa0 1), .int (fa0 2), .int (fa0 3), .int (fa0 4), .int (fa0 5), .int (fa0 6)])), (L0b, .inr (1, [.int (fb0 0), .int (fb0 1), .int (fb0 2), .int (fb0 3), .int (fb0 4), .int (fb0 5), .int (fb0 6)])), (L0d, .inr (1, [.int (fd0 0), .int y_21, .int (fd0 2), .int (fd0 3), .int (fd0 4), .int 0, .int (fd0 6)]))] H := ⟨hP2, hD2⟩
      have hS := hS2; clear hP2 hD2 hS2; have hP := hPD.1; have hD := hPD.2; clear hPD
      refine W.widen (k := 0) (n := 0) (Nat.le_of_ble_eq_true rfl) (Nat.le_of_ble_eq_true rfl) ?_
      have hPD9 : PD D A [(Nn, .inr (3, [.int (nI hp), .int (nI cc), .int zrs, .int zad, .int zpr, .int (nI t), .int zlox_25, .int zps, .ref Nl, .ref Nf, .ref Nb])), (Nl, .inl (g 1, 3, .inr (.inr (.inr (.inr (rf3 M0 L0 M2)))))), (L0, .inr (2, [.int (nI d0), .int (fk0 1), .int (fk0 2), .int (fv0x_26 3), .int (fv0x_26 4), .int (fv0x_26 5), .ref L0c, .ref L0u, .ref L0p, .ref L0l])), (L0u, .inl (g 0, 15, .inl fu0x_27)), (L0l, .inl (g 2, 3, .inr (.inr (.inr (.inr (rf3 L0a L0b L0d)))))), (L0a, .inr (1, [.int (fa0 0), .int (fa0 1), .int (fa0 2), .int (fa0 3), .int (fa0 4), .int (fa0 5), .int (fa0 6)])), (L0b, .inr (1, [.int (fb0 0), .int (fb0 1), .int (fb0 2), .int (fb0 3), .int (fb0 4), .int (fb0 5), .int (fb0 6)])), (L0d, .inr (1, [.int (fd0 0), .int y_21, .int (fd0 2), .int (fd0 3), .int (fd0 4), .int 0, .int (fd0 6)]))] H := ⟨hP.sub [1, 0, 2, 3, 4, 5, 6, 7] rfl, hD.sub [1, 0, 2, 3, 4, 5, 6, 7] (by decide) rfl⟩
      have hP9 := hPD9.1; have hD9 := hPD9.2
      subst hQ
      refine W.widen (k := 0) (n := 0) (Nat.le_of_ble_eq_true rfl) (Nat.le_of_ble_eq_true rfl) ?_
      exact W.vret hx hb hr (fun tS htS _ => ⟨⟨_, rfl, ⟨zlox_25, fv0x_26, fu0x_27, fa0, fb0, (lf [fd0 0, y_21, fd0 2, 0, fd0 4, 0, fd0 6]), rfl, (hf_28)⟩, by rw [htS]; exact hP9, hD9⟩, hS.F htS⟩) hS.2.2 dX3_goneFrom_65

set_option maxHeartbeats 4000000 in
set_option maxRecDepth 100000 in
theorem k_X3_goneFrom_2 (l : Launch) (D : va_G) (g : Nat → ClassId) (sz : Nat) (Nn : Nat) (cx : Nat) (hp : Nat) (cc : Nat) (zrs : Int32) (zad : Int32) (zpr : Int32) (t : Nat) (zlo : Int32) (zps : Int32) (Nl : Nat) (Nf : Nat) (Nb : Nat) (M0 : Nat) (M1 : Nat) (L0 : Nat) (d0 : Nat) (fk0 : Nat → Int32) (fv0 : Nat → Int32) (L0c : Nat) (L0u : Nat) (L0p : Nat) (L0l : Nat) (fu0 : Nat → Int32) (L0a : Nat) (L0b : Nat) (L0d : Nat) (fa0 : Nat → Int32) (fb0 : Nat → Int32) (fd0 : Nat → Int32) (h0 : cx < 3) (h1 : t < 2 ^ 30) (h2 : d0 < 5) (h3 : okc (fv0 4)) : Met l yX3_goneFrom wsX3_goneFrom ({ frames := 1, cells := 0, slots := 0, locals := 22 }) (va_Pc [.ref Nn, .int 2, .int (nI cx)] (pre D g sz [(Nn, .inr (3, [.int (nI hp), .int (nI cc), .int zrs, .int zad, .int zpr, .int (nI t), .int zlo, .int zps, .ref Nl, .ref Nf, .ref Nb])), (Nl, .inl (g 1, 3, .inr (.inr (.inr (.inr (rf3 M0 M1 L0)))))), (L0, .inr (2, [.int (nI d0), .int (fk0 1), .int (fk0 2), .int (fv0 3), .int (fv0 4), .int (fv0 5), .ref L0c, .ref L0u, .ref L0p, .ref L0l])), (L0u, .inl (g 0, 15, .inl fu0)), (L0l, .inl (g 2, 3, .inr (.inr (.inr (.inr (rf3 L0a L0b L0d)))))), (L0a, .inr (1, [.int (fa0 0), .int (fa0 1), .int (fa0 2), .int (fa0 3), .int (fa0 4), .int (fa0 5), .int (fa0 6)])), (L0b, .inr (1, [.int (fb0 0), .int (fb0 1), .int (fb0 2), .int (fb0 3), .int (fb0 4), .int (fb0 5), .int (fb0 6)])), (L0d, .inr (1, [.int (fd0 0), .int (fd0 1), .int (fd0 2), .int (fd0 3), .int (fd0 4), .int (fd0 5), .int (fd0 6)]))])) (va_Qv (fun (u : va_W) => ∃ (zlox : Int32) (fv0x : Nat → Int32) (fu0x : Nat → Int32) (fa0x : Nat → Int32) (fb0x : Nat → Int32) (fd0x : Nat → Int32), u = [(Nn, .inr (3, [.int (nI hp), .int (nI cc), .int zrs, .int zad, .int zpr, .int (nI t), .int zlox, .int zps, .ref Nl, .ref Nf, .ref Nb])), (Nl, .inl (g 1, 3, .inr (.inr (.inr (.inr (rf3 M0 M1 L0)))))), (L0, .inr (2, [.int (nI d0), .int (fk0 1), .int (fk0 2), .int (fv0x 3), .int (fv0x 4), .int (fv0x 5), .ref L0c, .ref L0u, .ref L0p, .ref L0l])), (L0u, .inl (g 0, 15, .inl fu0x)), (L0l, .inl (g 2, 3, .inr (.inr (.inr (.inr (rf3 L0a L0b L0d)))))), (L0a, .inr (1, [.int (fa0x 0), .int (fa0x 1), .int (fa0x 2), .int (fa0 3), .int (fa0x 4), .int (fa0x 5), .int (fa0x 6)])), (L0b, .inr (1, [.int (fb0x 0), .int (fb0x 1), .int (fb0x 2), .int (fb0 3), .int (fb0x 4), .int (fb0x 5), .int (fb0x 6)])), (L0d, .inr (1, [.int (fd0x 0), .int (fd0x 1), .int (fd0x 2), .int (fd0 3), .int (fd0x 4), .int (fd0x 5), .int (fd0x 6)]))] ∧ (okc (fv0x 4))) (wd D (va_A [(Nn, .inr (3, [.int (nI hp), .int (nI cc), .int zrs, .int zad, .int zpr, .int (nI t), .int zlo, .int zps, .ref Nl, .ref Nf, .ref Nb])), (Nl, .inl (g 1, 3, .inr (.inr (.inr (.inr (rf3 M0 M1 L0)))))), (L0, .inr (2, [.int (nI d0), .int (fk0 1), .int (fk0 2), .int (fv0 3), .int (fv0 4), .int (fv0 5), .ref L0c, .ref L0u, .ref L0p, .ref L0l])), (L0u, .inl (g 0, 15, .inl fu0)), (L0l, .inl (g 2, 3, .inr (.inr (.inr (.inr (rf3 L0a L0b L0d)))))), (L0a, .inr (1, [.int (fa0 0), .int (fa0 1), .int (fa0 2), .int (fa0 3), .int (fa0 4), .int (fa0 5), .int (fa0 6)])), (L0b, .inr (1, [.int (fb0 0), .int (fb0 1), .int (fb0 2), .int (fb0 3), .int (fb0 4), .int (fb0 5), .int (fb0 6)])), (L0d, .inr (1, [.int (fd0 0), .int (fd0 1), .int (fd0 2), .int (fd0 3), .int (fd0 4), .int (fd0 5), .int (fd0 6)]))] sz)) (va_A [(Nn, .inr (3, [.int (nI hp), .int (nI cc), .int zrs, .int zad, .int zpr, .int (nI t), .int zlo, .int zps, .ref Nl, .ref Nf, .ref Nb])), (Nl, .inl (g 1, 3, .inr (.inr (.inr (.inr (rf3 M0 M1 L0)))))), (L0, .inr (2, [.int (nI d0), .int (fk0 1), .int (fk0 2), .int (fv0 3), .int (fv0 4), .int (fv0 5), .ref L0c, .ref L0u, .ref L0p, .ref L0l])), (L0u, .inl (g 0, 15, .inl fu0)), (L0l, .inl (g 2, 3, .inr (.inr (.inr (.inr (rf3 L0a L0b L0d)))))), (L0a, .inr (1, [.int (fa0 0), .int (fa0 1), .int (fa0 2), .int (fa0 3), .int (fa0 4), .int (fa0 5), .int (fa0 6)])), (L0b, .inr (1, [.int (fb0 0), .int (fb0 1), .int (fb0 2), .int (fb0 3), .int (fb0 4), .int (fb0 5), .int (fb0 6)])), (L0d, .inr (1, [.int (fd0 0), .int (fd0 1), .int (fd0 2), .int (fd0 3), .int (fd0 4), .int (fd0 5), .int (fd0 6)]))] sz)) 0 0 (va_A [(Nn, .inr (3, [.int (nI hp), .int (nI cc), .int zrs, .int zad, .int zpr, .int (nI t), .int zlo, .int zps, .ref Nl, .ref Nf, .ref Nb])), (Nl, .inl (g 1, 3, .inr (.inr (.inr (.inr (rf3 M0 M1 L0)))))), (L0, .inr (2, [.int (nI d0), .int (fk0 1), .int (fk0 2), .int (fv0 3), .int (fv0 4), .int (fv0 5), .ref L0c, .ref L0u, .ref L0p, .ref L0l])), (L0u, .inl (g 0, 15, .inl fu0)), (L0l, .inl (g 2, 3, .inr (.inr (.inr (.inr (rf3 L0a L0b L0d)))))), (L0a, .inr (1, [.int (fa0 0), .int (fa0 1), .int (fa0 2), .int (fa0 3), .int (fa0 4), .int (fa0 5), .int (fa0 6)])), (L0b, .inr (1, [.int (fb0 0), .int (fb0 1), .int (fb0 2), .int (fb0 3), .int (fb0 4), .int (fb0 5), .int (fb0 6)])), (L0d, .inr (1, [.int (fd0 0), .int (fd0 1), .int (fd0 2), .int (fd0 3), .int (fd0 4), .int (fd0 5), .int (fd0 6)]))] sz) := by
  refine Met.ofW (cc := cX3_goneFrom) (maxL := 5) (ret := none) (by decide) rfl ?_
  intro p e s m args below meth c s₁ B hml hv
  obtain ⟨rfl, hsz, hP, ⟨hK, hN⟩, hD0, hZ⟩ := hv
  have hx := B.exec
  have hb := B.bytes
  have hr := B.returns
  have hts := atoms_spec (ws := wsX3_goneFrom) B.pre
  have hown : s.vm.findClass RX3 = some m.cls := findClass_of_methodNamed B.named
  have hlocks := B.notSynchronized
  clear B
  subst hsz
  have hD := hD0.self (sz := s.heap.size)
  clear hD0
  generalize hAe : va_A [(Nn, .inr (3, [.int (nI hp), .int (nI cc), .int zrs, .int zad, .int zpr, .int (nI t), .int zlo, .int zps, .ref Nl, .ref Nf, .ref Nb])), (Nl, .inl (g 1, 3, .inr (.inr (.inr (.inr (rf3 M0 M1 L0)))))), (L0, .inr (2, [.int (nI d0), .int (fk0 1), .int (fk0 2), .int (fv0 3), .int (fv0 4), .int (fv0 5), .ref L0c, .ref L0u, .ref L0p, .ref L0l])), (L0u, .inl (g 0, 15, .inl fu0)), (L0l, .inl (g 2, 3, .inr (.inr (.inr (.inr (rf3 L0a L0b L0d)))))), (L0a, .inr (1, [.int (fa0 0), .int (fa0 1), .int (fa0 2), .int (fa0 3), .int (fa0 4), .int (fa0 5), .int (fa0 6)])), (L0b, .inr (1, [.int (fb0 0), .int (fb0 1), .int (fb0 2), .int (fb0 3), .int (fb0 4), .int (fb0 5), .int (fb0 6)])), (L0d, .inr (1, [.int (fd0 0), .int (fd0 1), .int (fd0 2), .int (fd0 3), .int (fd0 4), .int (fd0 5), .int (fd0 6)]))] s.heap.size = A at hD hZ ⊢
  have hA : ∀ q : Nat, s.heap.size ≤ q → A q := fun q h => by rw [← hAe]; exact Or.inr h
  have hS : va_S A s.heap s.heap [] := va_S.rf
  have f11 := hts (.fieldLink RX3 11 "HopCredits$Net" "links" "[LHopCredits$Link;") (by decide +kernel)
  have f128 := hts (.fieldLink RX3 128 "HopCredits$Link" "lanes" "[LHopCredits$Lane;") (by decide +kernel)
  have f198 := hts (.fieldLink RX3 198 "HopCredits$Lane" "gone" "I") (by decide +kernel)
  have f201 := hts (.fieldLink RX3 201 "HopCredits$Lane" "sinceUpdate" "I") (by decide +kernel)
  have f204 := hts (.fieldLink RX3 204 "HopCredits$Link" "every" "I") (by decide +kernel)
  have iX1 : ∀ w ∈ u_ws RX1 TX1 7, w ∈ wsX3_goneFrom := by decide +kernel
  have iX2 : ∀ w ∈ u_ws RX2 TX2 10, w ∈ wsX3_goneFrom := by decide +kernel
  have iX3 : ∀ w ∈ u_ws RX3 TX3 11, w ∈ wsX3_goneFrom := by decide +kernel
  have hl := lv_entry ([.ref Nn, .int 2, .int (nI cx)]) (n := 5) (Nat.le_of_ble_eq_true rfl)
  rw [lg_entry_eq]
  generalize (lg_sl ([.ref Nn, .int 2, .int (nI cx)]) ++ List.replicate (5 - (lg_sl ([.ref Nn, .int 2, .int (nI cx)])).length) Slot.unset).toArray = ls at hl ⊢
  have hl : lv_has ls 5 [(0, .ref Nn), (1, .int 2), (2, .int (nI cx))] := hl
  generalize hQ : MQ below _ _ s _ _ _ = Q
  generalize hH : s.heap = H at hP ⊢
  have hS : va_S A s.heap H [] := by rw [← hH]; exact hS
  clear hH
  refine lv_aload_n hx hb dX3_goneFrom_0 rfl (lv_at hl 0 rfl) ?_
  refine va_get (D := D) (ci := 3) (v := .ref Nl) (C := RX3) (T := TX3) (N := 11) hx hb hts iX3 hown hK hP 0 rfl rfl 8 (by decide) f11 (fun _ h9 => h9) rfl dX3_goneFrom_1 ?_
  refine lv_iload_n hx hb dX3_goneFrom_4 rfl (lv_at hl 1 rfl) ?_
  refine va_aldq (C := "HopCredits$Link") hx hb hK hP 1 1 rfl rfl (by unfold vp_in; decide) dX3_goneFrom_5 ?_
  refine lv_eqv (v2 := .ref L0) rfl ?_
  refine lv_astore_n (lv' := [(3, .ref L0), (0, .ref Nn), (1, .int 2), (2, .int (nI cx))]) hx hb dX3_goneFrom_6 rfl hl (by decide) rfl (fun ls hl => ?_)
  refine lv_aload_n hx hb dX3_goneFrom_7 rfl (lv_at hl 0 rfl) ?_
  refine va_get (D := D) (ci := 2) (v := .ref L0l) (C := RX2) (T := TX2) (N := 10) hx hb hts iX2 hown hK hP 2 rfl rfl 9 (by decide) f128 (fun _ h9 => h9) rfl dX3_goneFrom_8 ?_
  refine lv_iload_n hx hb dX3_goneFrom_11 rfl (lv_at hl 3 rfl) ?_
  have hPq_1 := hP; have hDq_1 := hD; have hSq_1 := hS; have hlq_1 := hl; clear hP hD hS hl
  rcases (show cx = 0 ∨ cx = 1 ∨ cx = 2 by omega) with rfl | rfl | rfl
  · skip
    have hP := hPq_1; have hD := hDq_1; have hS := hSq_1; have hl := hlq_1; clear hPq_1 hDq_1 hSq_1 hlq_1
    refine va_aldq (C := "HopCredits$Lane") hx hb hK hP 4 2 rfl rfl (by unfold vp_in; decide) dX3_goneFrom_12 ?_
    refine lv_eqv (v2 := .ref L0a) rfl ?_
    refine lv_astore (lv' := [(4, .ref L0a), (3, .ref L0), (0, .ref Nn), (1, .int 2), (2, .int (nI 0))]) hx hb dX3_goneFrom_13 hl (by decide) rfl (fun ls hl => ?_)
    refine lv_aload hx hb dX3_goneFrom_15 (lv_at hl 0 rfl) ?_
    refine lv_aload hx hb dX3_goneFrom_17 (lv_at hl 0 rfl) ?_
    refine va_get (D := D) (ci := 1) (v := .int (fa0 1)) (C := RX1) (T := TX1) (N := 7) hx hb hts iX1 hown hK hP 5 rfl rfl 1 (by decide) f198 (fun _ h9 => h9) rfl dX3_goneFrom_19 ?_
    refine lv_iconst (v := 1) hx hb dX3_goneFrom_22 (by decide) ?_
    refine lv_iadd hx hb dX3_goneFrom_23 ?_
    refine lv_topi (fun y_2 _ => ?_)
    refine lv_bipush (v := 63) hx hb dX3_goneFrom_24 (by decide) ?_
    refine lv_iand hx hb dX3_goneFrom_26 ?_
    refine lv_topi (fun y_3 _ => ?_)
    refine va_put (D := D) (ci := 1) (v := .int y_3) (ty := .int) (C := RX1) (T := TX1) (N := 7) hx hb hts iX1 tyX1 tyX1_ok nmX1 hown hK hP hD hS 5 rfl rfl 1 (by decide) f198 (fun _ h9 => h9) rfl (by decide +kernel) (rfl) (rfl) (Nat.le_of_ble_eq_true rfl) dX3_goneFrom_27 (fun H locs hP2 hD2 hS2 => ?_)
    clear hP hD hS
    have hPD : PD D A [(Nn, .inr (3, [.int (nI hp), .int (nI cc), .int zrs, .int zad, .int zpr, .int (nI t), .int zlo, .int zps, .ref Nl, .ref Nf, .ref Nb])), (Nl, .inl (g 1, 3, .inr (.inr (.inr (.inr (rf3 M0 M1 L0)))))), (L0, .inr (2, [.int (nI d0), .int (fk0 1), .int (fk0 2), .int (fv0 3), .int (fv0 4), .int (fv0 5), .ref L0c, .ref L0u, .ref L0p, .ref L0l])), (L0u, .inl (g 0, 15, .inl fu0)), (L0l, .inl (g 2, 3, .inr (.inr (.inr (.inr (rf3 L0a L0b L0d)))))), (L0a, .inr (1, [.int (fa0 0), .int y_3, .int (fa0 2), .int (fa0 3), .int (fa0 4), .int (fa0 5), .int (fa0 6)])), (L0b, .inr (1, [.int (fb0 0), .int (fb0 1), .int (fb0 2), .int (fb0 3), .int (fb0 4), .int (fb0 5), .int (fb0 6)])), (L0d, .inr (1, [.int (fd0 0), .int (fd0 1), .int (fd0 2), .int (fd0 3), .int (fd0 4), .int (fd0 5), .int (fd0 6)]))] H := ⟨hP2, hD2⟩
    have hS := hS2; clear hP2 hD2 hS2; have hP := hPD.1; have hD := hPD.2; clear hPD
    refine lv_aload hx hb dX3_goneFrom_30 (lv_at hl 0 rfl) ?_
    refine lv_dup hx hb dX3_goneFrom_32 rfl ?_
    refine va_get (D := D) (ci := 1) (v := .int (fa0 5)) (C := RX1) (T := TX1) (N := 7) hx hb hts iX1 hown hK hP 5 rfl rfl 5 (by decide) f201 (fun _ h9 => h9) rfl dX3_goneFrom_33 ?_
    refine lv_iconst (v := 1) hx hb dX3_goneFrom_36 (by decide) ?_
    refine lv_iadd hx hb dX3_goneFrom_37 ?_
    refine lv_topi (fun y_4 _ => ?_)
    refine va_put (D := D) (ci := 1) (v := .int y_4) (ty := .int) (C := RX1) (T := TX1) (N := 7) hx hb hts iX1 tyX1 tyX1_ok nmX1 hown hK hP hD hS 5 rfl rfl 5 (by decide) f201 (fun _ h9 => h9) rfl (by decide +kernel) (rfl) (rfl) (Nat.le_of_ble_eq_true rfl) dX3_goneFrom_38 (fun H locs hP2 hD2 hS2 => ?_)
    clear hP hD hS
    have hPD : PD D A [(Nn, .inr (3, [.int (nI hp), .int (nI cc), .int zrs, .int zad, .int zpr, .int (nI t), .int zlo, .int zps, .ref Nl, .ref Nf, .ref Nb])), (Nl, .inl (g 1, 3, .inr (.inr (.inr (.inr (rf3 M0 M1 L0)))))), (L0, .inr (2, [.int (nI d0), .int (fk0 1), .int (fk0 2), .int (fv0 3), .int (fv0 4), .int (fv0 5), .ref L0c, .ref L0u, .ref L0p, .ref L0l])), (L0u, .inl (g 0, 15, .inl fu0)), (L0l, .inl (g 2, 3, .inr (.inr (.inr (.inr (rf3 L0a L0b L0d)))))), (L0a, .inr (1, [.int (fa0 0), .int y_3, .int (fa0 2), .int (fa0 3), .int (fa0 4), .int y_4, .int (fa0 6)])), (L0b, .inr (1, [.int (fb0 0), .int (fb0 1), .int (fb0 2), .int (fb0 3), .int (fb0 4), .int (fb0 5), .int (fb0 6)])), (L0d, .inr (1, [.int (fd0 0), .int (fd0 1), .int (fd0 2), .int (fd0 3), .int (fd0 4), .int (fd0 5), .int (fd0 6)]))] H := ⟨hP2, hD2⟩
    have hS := hS2; clear hP2 hD2 hS2; have hP := hPD.1; have hD := hPD.2; clear hPD
    refine lv_aload hx hb dX3_goneFrom_41 (lv_at hl 0 rfl) ?_
    refine va_get (D := D) (ci := 1) (v := .int y_4) (C := RX1) (T := TX1) (N := 7) hx hb hts iX1 hown hK hP 5 rfl rfl 5 (by decide) f201 (fun _ h9 => h9) rfl dX3_goneFrom_43 ?_
    refine lv_aload_n hx hb dX3_goneFrom_46 rfl (lv_at hl 1 rfl) ?_
    refine va_get (D := D) (ci := 2) (v := .int (fk0 2)) (C := RX2) (T := TX2) (N := 10) hx hb hts iX2 hown hK hP 2 rfl rfl 2 (by decide) f204 (fun _ h9 => h9) rfl dX3_goneFrom_47 ?_
    refine lv_icmp_lt (tgt := 65) hx hb dX3_goneFrom_50 (by decide) (fun cb_5 => ?_) (fun cb_5 => ?_)
    · skip
      have hP9 := hP; have hD9 := hD
      subst hQ
      refine W.widen (k := 0) (n := 0) (Nat.le_of_ble_eq_true rfl) (Nat.le_of_ble_eq_true rfl) ?_
      exact W.vret hx hb hr (fun tS htS _ => ⟨⟨_, rfl, ⟨zlo, fv0, fu0, (lf [fa0 0, y_3, fa0 2, 0, fa0 4, y_4, fa0 6]), fb0, fd0, rfl, (h3)⟩, by rw [htS]; exact hP9, hD9⟩, hS.F htS⟩) hS.2.2 dX3_goneFrom_65
    · skip
      refine lv_aload hx hb dX3_goneFrom_53 (lv_at hl 0 rfl) ?_
      refine lv_iconst (v := 0) hx hb dX3_goneFrom_55 (by decide) ?_
      refine va_put (D := D) (ci := 1) (v := .int 0) (ty := .int) (C := RX1) (T := TX1) (N := 7) hx hb hts iX1 tyX1 tyX1_ok nmX1 hown hK hP hD hS 5 rfl rfl 5 (by decide) f201 (fun _ h9 => h9) rfl (by decide +kernel) (rfl) (rfl) (Nat.le_of_ble_eq_true rfl) dX3_goneFrom_56 (fun H locs hP2 hD2 hS2 => ?_)
      clear hP hD hS
      have hPD : PD D A [(Nn, .inr (3, [.int (nI hp), .int (nI cc), .int zrs, .int zad, .int zpr, .int (nI t), .int zlo, .int zps, .ref Nl, .ref Nf, .ref Nb])), (Nl, .inl (g 1, 3, .inr (.inr (.inr (.inr (rf3 M0 M1 L0)))))), (L0, .inr (2, [.int (nI d0), .int (fk0 1), .int (fk0 2), .int (fv0 3), .int (fv0 4), .int (fv0 5), .ref L0c, .ref L0u, .ref L0p, .ref L0l])), (L0u, .inl (g 0, 15, .inl fu0)), (L0l, .inl (g 2, 3, .inr (.inr (.inr (.inr (rf3 L0a L0b L0d)))))), (L0a, .inr (1, [.int (fa0 0), .int y_3, .int (fa0 2), .int (fa0 3), .int (fa0 4), .int 0, .int (fa0 6)])), (L0b, .inr (1, [.int (fb0 0), .int (fb0 1), .int (fb0 2), .int (fb0 3), .int (fb0 4), .int (fb0 5), .int (fb0 6)])), (L0d, .inr (1, [.int (fd0 0), .int (fd0 1), .int (fd0 2), .int (fd0 3), .int (fd0 4), .int (fd0 5), .int (fd0 6)]))] H := ⟨hP2, hD2⟩
      have hS := hS2; clear hP2 hD2 hS2; have hP := hPD.1; have hD := hPD.2; clear hPD
      refine lv_aload_n hx hb dX3_goneFrom_59 rfl (lv_at hl 2 rfl) ?_
      refine lv_aload_n hx hb dX3_goneFrom_60 rfl (lv_at hl 1 rfl) ?_
      refine lv_iload_n hx hb dX3_goneFrom_61 rfl (lv_at hl 4 rfl) ?_
      refine ky_Vv (As := [.ref L0, .int (nI 0)]) (rest := []) ⟨hx, hb, hml, hown, hts⟩ ⟨hK, hN⟩ hZ hP hD hS hA [0, 2, 3, 4, 5, 6, 7] [1] (wc := [(Nn, .inr (3, [.int (nI hp), .int (nI cc), .int zrs, .int zad, .int zpr, .int (nI t), .int zlo, .int zps, .ref Nl, .ref Nf, .ref Nb])), (L0, .inr (2, [.int (nI d0), .int (fk0 1), .int (fk0 2), .int (fv0 3), .int (fv0 4), .int (fv0 5), .ref L0c, .ref L0u, .ref L0p, .ref L0l])), (L0u, .inl (g 0, 15, .inl fu0)), (L0l, .inl (g 2, 3, .inr (.inr (.inr (.inr (rf3 L0a L0b L0d)))))), (L0a, .inr (1, [.int (fa0 0), .int y_3, .int (fa0 2), .int (fa0 3), .int (fa0 4), .int 0, .int (fa0 6)])), (L0b, .inr (1, [.int (fb0 0), .int (fb0 1), .int (fb0 2), .int (fb0 3), .int (fb0 4), .int (fb0 5), .int (fb0 6)])), (L0d, .inr (1, [.int (fd0 0), .int (fd0 1), .int (fd0 2), .int (fd0 3), .int (fd0 4), .int (fd0 5), .int (fd0 6)]))]) (wr := [(Nl, .inl (g 1, 3, .inr (.inr (.inr (.inr (rf3 M0 M1 L0))))))]) rfl rfl rfl rfl (by decide) (k_X3_sendUpdate l D g H.size Nn L0 0 hp cc zrs zad zpr t zlo zps Nl Nf Nb d0 fk0 fv0 L0c L0u L0p L0l fu0 L0a L0b L0d (lf [fa0 0, y_3, fa0 2, fa0 3, fa0 4, 0, fa0 6]) fb0 fd0 (show 0 < 3 by omega) (show t < 2 ^ 30 by omega) (show d0 < 5 by omega) (h3)) (cwV 2 hts gX3_goneFrom_X3_sendUpdate rfl rfl rfl (by decide +kernel) ⟨(Nat.le_of_ble_eq_true rfl), (Nat.le_of_ble_eq_true rfl)⟩) 0 3 rfl rfl rfl rfl hl.1 rfl (Nat.le_of_ble_eq_true rfl) dX3_goneFrom_62 ⟨(Nat.le_of_ble_eq_true rfl), (Nat.le_of_ble_eq_true rfl)⟩ (fun u H locs hw hP2 hD2 hS2 => ?_)
      clear hP hD hS
      obtain ⟨zlox_7, fv0x_8, fu0x_9, rfl, hf_10⟩ := hw
      have hPD : PD D A [(Nl, .inl (g 1, 3, .inr (.inr (.inr (.inr (rf3 M0 M1 L0)))))), (Nn, .inr (3, [.int (nI hp), .int (nI cc), .int zrs, .int zad, .int zpr, .int (nI t), .int zlox_7, .int zps, .ref Nl, .ref Nf, .ref Nb])), (L0, .inr (2, [.int (nI d0), .int (fk0 1), .int (fk0 2), .int (fv0x_8 3), .int (fv0x_8 4), .int (fv0x_8 5), .ref L0c, .ref L0u, .ref L0p, .ref L0l])), (L0u, .inl (g 0, 15, .inl fu0x_9)), (L0l, .inl (g 2, 3, .inr (.inr (.inr (.inr (rf3 L0a L0b L0d)))))), (L0a, .inr (1, [.int (fa0 0), .int y_3, .int (fa0 2), .int (fa0 3), .int (fa0 4), .int 0, .int (fa0 6)])), (L0b, .inr (1, [.int (fb0 0), .int (fb0 1), .int (fb0 2), .int (fb0 3), .int (fb0 4), .int (fb0 5), .int (fb0 6)])), (L0d, .inr (1, [.int (fd0 0), .int (fd0 1), .int (fd0 2), .int (fd0 3), .int (fd0 4), .int (fd0 5), .int (fd0 6)]))] H := ⟨hP2, hD2⟩
      have hS := hS2; clear hP2 hD2 hS2; have hP := hPD.1; have hD := hPD.2; clear hPD
      refine W.widen (k := 0) (n := 0) (Nat.le_of_ble_eq_true rfl) (Nat.le_of_ble_eq_true rfl) ?_
      have hPD9 : PD D A [(Nn, .inr (3, [.int (nI hp), .int (nI cc), .int zrs, .int zad, .int zpr, .int (nI t), .int zlox_7, .int zps, .ref Nl, .ref Nf, .ref Nb])), (Nl, .inl (g 1, 3, .inr (.inr (.inr (.inr (rf3 M0 M1 L0)))))), (L0, .inr (2, [.int (nI d0), .int (fk0 1), .int (fk0 2), .int (fv0x_8 3), .int (fv0x_8 4), .int (fv0x_8 5), .ref L0c, .ref L0u, .ref L0p, .ref L0l])), (L0u, .inl (g 0, 15, .inl fu0x_9)), (L0l, .inl (g 2, 3, .inr (.inr (.inr (.inr (rf3 L0a L0b L0d)))))), (L0a, .inr (1, [.int (fa0 0), .int y_3, .int (fa0 2), .int (fa0 3), .int (fa0 4), .int 0, .int (fa0 6)])), (L0b, .inr (1, [.int (fb0 0), .int (fb0 1), .int (fb0 2), .int (fb0 3), .int (fb0 4), .int (fb0 5), .int (fb0 6)])), (L0d, .inr (1, [.int (fd0 0), .int (fd0 1), .int (fd0 2), .int (fd0 3), .int (fd0 4), .int (fd0 5), .int (fd0 6)]))] H := ⟨hP.sub [1, 0, 2, 3, 4, 5, 6, 7] rfl, hD.sub [1, 0, 2, 3, 4, 5, 6, 7] (by decide) rfl⟩
      have hP9 := hPD9.1; have hD9 := hPD9.2
      subst hQ
      refine W.widen (k := 0) (n := 0) (Nat.le_of_ble_eq_true rfl) (Nat.le_of_ble_eq_true rfl) ?_
      exact W.vret hx hb hr (fun tS htS _ => ⟨⟨_, rfl, ⟨zlox_7, fv0x_8, fu0x_9, (lf [fa0 0, y_3, fa0 2, 0, fa0 4, 0, fa0 6]), fb0, fd0, rfl, (hf_10)⟩, by rw [htS]; exact hP9, hD9⟩, hS.F htS⟩) hS.2.2 dX3_goneFrom_65
  · skip
    have hP := hPq_1; have hD := hDq_1; have hS := hSq_1; have hl := hlq_1; clear hPq_1 hDq_1 hSq_1 hlq_1
    refine va_aldq (C := "HopCredits$Lane") hx hb hK hP 4 2 rfl rfl (by unfold vp_in; decide) dX3_goneFrom_12 ?_
    refine lv_eqv (v2 := .ref L0b) rfl ?_
    refine lv_astore (lv' := [(4, .ref L0b), (3, .ref L0), (0, .ref Nn), (1, .int 2), (2, .int (nI 1))]) hx hb dX3_goneFrom_13 hl (by decide) rfl (fun ls hl => ?_)
    refine lv_aload hx hb dX3_goneFrom_15 (lv_at hl 0 rfl) ?_
    refine lv_aload hx hb dX3_goneFrom_17 (lv_at hl 0 rfl) ?_
    refine va_get (D := D) (ci := 1) (v := .int (fb0 1)) (C := RX1) (T := TX1) (N := 7) hx hb hts iX1 hown hK hP 6 rfl rfl 1 (by decide) f198 (fun _ h9 => h9) rfl dX3_goneFrom_19 ?_
    refine lv_iconst (v := 1) hx hb dX3_goneFrom_22 (by decide) ?_
    refine lv_iadd hx hb dX3_goneFrom_23 ?_
    refine lv_topi (fun y_11 _ => ?_)
    refine lv_bipush (v := 63) hx hb dX3_goneFrom_24 (by decide) ?_
    refine lv_iand hx hb dX3_goneFrom_26 ?_
    refine lv_topi (fun y_12 _ => ?_)
    refine va_put (D := D) (ci := 1) (v := .int y_12) (ty := .int) (C := RX1) (T := TX1) (N := 7) hx hb hts iX1 tyX1 tyX1_ok nmX1 hown hK hP hD hS 6 rfl rfl 1 (by decide) f198 (fun _ h9 => h9) rfl (by decide +kernel) (rfl) (rfl) (Nat.le_of_ble_eq_true rfl) dX3_goneFrom_27 (fun H locs hP2 hD2 hS2 => ?_)
    clear hP hD hS
    have hPD : PD D A [(Nn, .inr (3, [.int (nI hp), .int (nI cc), .int zrs, .int zad, .int zpr, .int (nI t), .int zlo, .int zps, .ref Nl, .ref Nf, .ref Nb])), (Nl, .inl (g 1, 3, .inr (.inr (.inr (.inr (rf3 M0 M1 L0)))))), (L0, .inr (2, [.int (nI d0), .int (fk0 1), .int (fk0 2), .int (fv0 3), .int (fv0 4), .int (fv0 5), .ref L0c, .ref L0u, .ref L0p, .ref L0l])), (L0u, .inl (g 0, 15, .inl fu0)), (L0l, .inl (g 2, 3, .inr (.inr (.inr (.inr (rf3 L0a L0b L0d)))))), (L0a, .inr (1, [.int (fa0 0), .int (fa0 1), .int (fa0 2), .int (fa0 3), .int (fa0 4), .int (fa0 5), .int (fa0 6)])), (L0b, .inr (1, [.int (fb0 0), .int y_12, .int (fb0 2), .int (fb0 3), .int (fb0 4), .int (fb0 5), .int (fb0 6)])), (L0d, .inr (1, [.int (fd0 0), .int (fd0 1), .int (fd0 2), .int (fd0 3), .int (fd0 4), .int (fd0 5), .int (fd0 6)]))] H := ⟨hP2, hD2⟩
    have hS := hS2; clear hP2 hD2 hS2; have hP := hPD.1; have hD := hPD.2; clear hPD
    refine lv_aload hx hb dX3_goneFrom_30 (lv_at hl 0 rfl) ?_
    refine lv_dup hx hb dX3_goneFrom_32 rfl ?_
    refine va_get (D := D) (ci := 1) (v := .int (fb0 5)) (C := RX1) (T := TX1) (N := 7) hx hb hts iX1 hown hK hP 6 rfl rfl 5 (by decide) f201 (fun _ h9 => h9) rfl dX3_goneFrom_33 ?_
    refine lv_iconst (v := 1) hx hb dX3_goneFrom_36 (by decide) ?_
    refine lv_iadd hx hb dX3_goneFrom_37 ?_
    refine lv_topi (fun y_13 _ => ?_)
    refine va_put (D := D) (ci := 1) (v := .int y_13) (ty := .int) (C := RX1) (T := TX1) (N := 7) hx hb hts iX1 tyX1 tyX1_ok nmX1 hown hK hP hD hS 6 rfl rfl 5 (by decide) f201 (fun _ h9 => h9) rfl (by decide +kernel) (rfl) (rfl) (Nat.le_of_ble_eq_true rfl) dX3_goneFrom_38 (fun H locs hP2 hD2 hS2 => ?_)
    clear hP hD hS
    have hPD : PD D A [(Nn, .inr (3, [.int (nI hp), .int (nI cc), .int zrs, .int zad, .int zpr, .int (nI t), .int zlo, .int zps, .ref Nl, .ref Nf, .ref Nb])), (Nl, .inl (g 1, 3, .inr (.inr (.inr (.inr (rf3 M0 M1 L0)))))), (L0, .inr (2, [.int (nI d0), .int (fk0 1), .int (fk0 2), .int (fv0 3), .int (fv0 4), .int (fv0 5), .ref L0c, .ref L0u, .ref L0p, .ref L0l])), (L0u, .inl (g 0, 15, .inl fu0)), (L0l, .inl (g 2, 3, .inr (.inr (.inr (.inr (rf3 L0a L0b L0d)))))), (L0a, .inr (1, [.int (fa0 0), .int (fa0 1), .int (fa0 2), .int (fa0 3), .int (fa0 4), .int (fa0 5), .int (fa0 6)])), (L0b, .inr (1, [.int (fb0 0), .int y_12, .int (fb0 2), .int (fb0 3), .int (fb0 4), .int y_13, .int (fb0 6)])), (L0d, .inr (1, [.int (fd0 0), .int (fd0 1), .int (fd0 2), .int (fd0 3), .int (fd0 4), .int (fd0 5), .int (fd0 6)]))] H := ⟨hP2, hD2⟩
    have hS := hS2; clear hP2 hD2 hS2; have hP := hPD.1; have hD := hPD.2; clear hPD
    refine lv_aload hx hb dX3_goneFrom_41 (lv_at hl 0 rfl) ?_
    refine va_get (D := D) (ci := 1) (v := .int y_13) (C := RX1) (T := TX1) (N := 7) hx hb hts iX1 hown hK hP 6 rfl rfl 5 (by decide) f201 (fun _ h9 => h9) rfl dX3_goneFrom_43 ?_
    refine lv_aload_n hx hb dX3_goneFrom_46 rfl (lv_at hl 1 rfl) ?_
    refine va_get (D := D) (ci := 2) (v := .int (fk0 2)) (C := RX2) (T := TX2) (N := 10) hx hb hts iX2 hown hK hP 2 rfl rfl 2 (by decide) f204 (fun _ h9 => h9) rfl dX3_goneFrom_47 ?_
    refine lv_icmp_lt (tgt := 65) hx hb dX3_goneFrom_50 (by decide) (fun cb_14 => ?_) (fun cb_14 => ?_)
    · skip
      have hP9 := hP; have hD9 := hD
      subst hQ
      refine W.widen (k := 0) (n := 0) (Nat.le_of_ble_eq_true rfl) (Nat.le_of_ble_eq_true rfl) ?_
      exact W.vret hx hb hr (fun tS htS _ => ⟨⟨_, rfl, ⟨zlo, fv0, fu0, fa0, (lf [fb0 0, y_12, fb0 2, 0, fb0 4, y_13, fb0 6]), fd0, rfl, (h3)⟩, by rw [htS]; exact hP9, hD9⟩, hS.F htS⟩) hS.2.2 dX3_goneFrom_65
    · skip
      refine lv_aload hx hb dX3_goneFrom_53 (lv_at hl 0 rfl) ?_
      refine lv_iconst (v := 0) hx hb dX3_goneFrom_55 (by decide) ?_
      refine va_put (D := D) (ci := 1) (v := .int 0) (ty := .int) (C := RX1) (T := TX1) (N := 7) hx hb hts iX1 tyX1 tyX1_ok nmX1 hown hK hP hD hS 6 rfl rfl 5 (by decide) f201 (fun _ h9 => h9) rfl (by decide +kernel) (rfl) (rfl) (Nat.le_of_ble_eq_true rfl) dX3_goneFrom_56 (fun H locs hP2 hD2 hS2 => ?_)
      clear hP hD hS
      have hPD : PD D A [(Nn, .inr (3, [.int (nI hp), .int (nI cc), .int zrs, .int zad, .int zpr, .int (nI t), .int zlo, .int zps, .ref Nl, .ref Nf, .ref Nb])), (Nl, .inl (g 1, 3, .inr (.inr (.inr (.inr (rf3 M0 M1 L0)))))), (L0, .inr (2, [.int (nI d0), .int (fk0 1), .int (fk0 2), .int (fv0 3), .int (fv0 4), .int (fv0 5), .ref L0c, .ref L0u, .ref L0p, .ref L0l])), (L0u, .inl (g 0, 15, .inl fu0)), (L0l, .inl (g 2, 3, .inr (.inr (.inr (.inr (rf3 L0a L0b L0d)))))), (L0a, .inr (1, [.int (fa0 0), .int (fa0 1), .int (fa0 2), .int (fa0 3), .int (fa0 4), .int (fa0 5), .int (fa0 6)])), (L0b, .inr (1, [.int (fb0 0), .int y_12, .int (fb0 2), .int (fb0 3), .int (fb0 4), .int 0, .int (fb0 6)])), (L0d, .inr (1, [.int (fd0 0), .int (fd0 1), .int (fd0 2), .int (fd0 3), .int (fd0 4), .int (fd0 5), .int (fd0 6)]))] H := ⟨hP2, hD2⟩
      have hS := hS2; clear hP2 hD2 hS2; have hP := hPD.1; have hD := hPD.2; clear hPD
      refine lv_aload_n hx hb dX3_goneFrom_59 rfl (lv_at hl 2 rfl) ?_
      refine lv_aload_n hx hb dX3_goneFrom_60 rfl (lv_at hl 1 rfl) ?_
      refine lv_iload_n hx hb dX3_goneFrom_61 rfl (lv_at hl 4 rfl) ?_
      refine ky_Vv (As := [.ref L0, .int (nI 1)]) (rest := []) ⟨hx, hb, hml, hown, hts⟩ ⟨hK, hN⟩ hZ hP hD hS hA [0, 2, 3, 4, 5, 6, 7] [1] (wc := [(Nn, .inr (3, [.int (nI hp), .int (nI cc), .int zrs, .int zad, .int zpr, .int (nI t), .int zlo, .int zps, .ref Nl, .ref Nf, .ref Nb])), (L0, .inr (2, [.int (nI d0), .int (fk0 1), .int (fk0 2), .int (fv0 3), .int (fv0 4), .int (fv0 5), .ref L0c, .ref L0u, .ref L0p, .ref L0l])), (L0u, .inl (g 0, 15, .inl fu0)), (L0l, .inl (g 2, 3, .inr (.inr (.inr (.inr (rf3 L0a L0b L0d)))))), (L0a, .inr (1, [.int (fa0 0), .int (fa0 1), .int (fa0 2), .int (fa0 3), .int (fa0 4), .int (fa0 5), .int (fa0 6)])), (L0b, .inr (1, [.int (fb0 0), .int y_12, .int (fb0 2), .int (fb0 3), .int (fb0 4), .int 0, .int (fb0 6)])), (L0d, .inr (1, [.int (fd0 0), .int (fd0 1), .int (fd0 2), .int (fd0 3), .int (fd0 4), .int (fd0 5), .int (fd0 6)]))]) (wr := [(Nl, .inl (g 1, 3, .inr (.inr (.inr (.inr (rf3 M0 M1 L0))))))]) rfl rfl rfl rfl (by decide) (k_X3_sendUpdate l D g H.size Nn L0 1 hp cc zrs zad zpr t zlo zps Nl Nf Nb d0 fk0 fv0 L0c L0u L0p L0l fu0 L0a L0b L0d fa0 (lf [fb0 0, y_12, fb0 2, fb0 3, fb0 4, 0, fb0 6]) fd0 (show 1 < 3 by omega) (show t < 2 ^ 30 by omega) (show d0 < 5 by omega) (h3)) (cwV 2 hts gX3_goneFrom_X3_sendUpdate rfl rfl rfl (by decide +kernel) ⟨(Nat.le_of_ble_eq_true rfl), (Nat.le_of_ble_eq_true rfl)⟩) 0 3 rfl rfl rfl rfl hl.1 rfl (Nat.le_of_ble_eq_true rfl) dX3_goneFrom_62 ⟨(Nat.le_of_ble_eq_true rfl), (Nat.le_of_ble_eq_true rfl)⟩ (fun u H locs hw hP2 hD2 hS2 => ?_)
      clear hP hD hS
      obtain ⟨zlox_16, fv0x_17, fu0x_18, rfl, hf_19⟩ := hw
      have hPD : PD D A [(Nl, .inl (g 1, 3, .inr (.inr (.inr (.inr (rf3 M0 M1 L0)))))), (Nn, .inr (3, [.int (nI hp), .int (nI cc), .int zrs, .int zad, .int zpr, .int (nI t), .int zlox_16, .int zps, .ref Nl, .ref Nf, .ref Nb])), (L0, .inr (2, [.int (nI d0), .int (fk0 1), .int (fk0 2), .int (fv0x_17 3), .int (fv0x_17 4), .int (fv0x_17 5), .ref L0c, .ref L0u, .ref L0p, .ref L0l])), (L0u, .inl (g 0, 15, .inl fu0x_18)), (L0l, .inl (g 2, 3, .inr (.inr (.inr (.inr (rf3 L0a L0b L0d)))))), (L0a, .inr (1, [.int (fa0 0), .int (fa0 1), .int (fa0 2), .int (fa0 3), .int (fa0 4), .int (fa0 5), .int (fa0 6)])), (L0b, .inr (1, [.int (fb0 0), .int y_12, .int (fb0 2), .int (fb0 3), .int (fb0 4), .int 0, .int (fb0 6)])), (L0d, .inr (1, [.int (fd0 0), .int (fd0 1), .int (fd0 2), .int (fd0 3), .int (fd0 4), .int (fd0 5), .int (fd0 6)]))] H := ⟨hP2, hD2⟩
      have hS := hS2; clear hP2 hD2 hS2; have hP := hPD.1; have hD := hPD.2; clear hPD
      refine W.widen (k := 0) (n := 0) (Nat.le_of_ble_eq_true rfl) (Nat.le_of_ble_eq_true rfl) ?_
      have hPD9 : PD D A [(Nn, .inr (3, [.int (nI hp), .int (nI cc), .int zrs, .int zad, .int zpr, .int (nI t), .int zlox_16, .int zps, .ref Nl, .ref Nf, .ref Nb])), (Nl, .inl (g 1, 3, .inr (.inr (.inr (.inr (rf3 M0 M1 L0)))))), (L0, .inr (2, [.int (nI d0), .int (fk0 1), .int (fk0 2), .int (fv0x_17 3), .int (fv0x_17 4), .int (fv0x_17 5), .ref L0c, .ref L0u, .ref L0p, .ref L0l])), (L0u, .inl (g 0, 15, .inl fu0x_18)), (L0l, .inl (g 2, 3, .inr (.inr (.inr (.inr (rf3 L0a L0b L0d)))))), (L0a, .inr (1, [.int (fa0 0), .int (fa0 1), .int (fa0 2), .int (fa0 3), .int (fa0 4), .int (fa0 5), .int (fa0 6)])), (L0b, .inr (1, [.int (fb0 0), .int y_12, .int (fb0 2), .int (fb0 3), .int (fb0 4), .int 0, .int (fb0 6)])), (L0d, .inr (1, [.int (fd0 0), .int (fd0 1), .int (fd0 2), .int (fd0 3), .int (fd0 4), .int (fd0 5), .int (fd0 6)]))] H := ⟨hP.sub [1, 0, 2, 3, 4, 5, 6, 7] rfl, hD.sub [1, 0, 2, 3, 4, 5, 6, 7] (by decide) rfl⟩
      have hP9 := hPD9.1; have hD9 := hPD9.2
      subst hQ
      refine W.widen (k := 0) (n := 0) (Nat.le_of_ble_eq_true rfl) (Nat.le_of_ble_eq_true rfl) ?_
      exact W.vret hx hb hr (fun tS htS _ => ⟨⟨_, rfl, ⟨zlox_16, fv0x_17, fu0x_18, fa0, (lf [fb0 0, y_12, fb0 2, 0, fb0 4, 0, fb0 6]), fd0, rfl, (hf_19)⟩, by rw [htS]; exact hP9, hD9⟩, hS.F htS⟩) hS.2.2 dX3_goneFrom_65
  · skip
    have hP := hPq_1; have hD := hDq_1; have hS := hSq_1; have hl := hlq_1; clear hPq_1 hDq_1 hSq_1 hlq_1
    refine va_aldq (C := "HopCredits$Lane") hx hb hK hP 4 2 rfl rfl (by unfold vp_in; decide) dX3_goneFrom_12 ?_
    refine lv_eqv (v2 := .ref L0d) rfl ?_
    refine lv_astore (lv' := [(4, .ref L0d), (3, .ref L0), (0, .ref Nn), (1, .int 2), (2, .int (nI 2))]) hx hb dX3_goneFrom_13 hl (by decide) rfl (fun ls hl => ?_)
    refine lv_aload hx hb dX3_goneFrom_15 (lv_at hl 0 rfl) ?_
    refine lv_aload hx hb dX3_goneFrom_17 (lv_at hl 0 rfl) ?_
    refine va_get (D := D) (ci := 1) (v := .int (fd0 1)) (C := RX1) (T := TX1) (N := 7) hx hb hts iX1 hown hK hP 7 rfl rfl 1 (by decide) f198 (fun _ h9 => h9) rfl dX3_goneFrom_19 ?_
    refine lv_iconst (v := 1) hx hb dX3_goneFrom_22 (by decide) ?_
    refine lv_iadd hx hb dX3_goneFrom_23 ?_
    refine lv_topi (fun y_20 _ => ?_)
    refine lv_bipush (v := 63) hx hb dX3_goneFrom_24 (by decide) ?_
    refine lv_iand hx hb dX3_goneFrom_26 ?_
    refine lv_topi (fun y_21 _ => ?_)
    refine va_put (D := D) (ci := 1) (v := .int y_21) (ty := .int) (C := RX1) (T := TX1) (N := 7) hx hb hts iX1 tyX1 tyX1_ok nmX1 hown hK hP hD hS 7 rfl rfl 1 (by decide) f198 (fun _ h9 => h9) rfl (by decide +kernel) (rfl) (rfl) (Nat.le_of_ble_eq_true rfl) dX3_goneFrom_27 (fun H locs hP2 hD2 hS2 => ?_)
    clear hP hD hS
    have hPD : PD D A [(Nn, .inr (3, [.int (nI hp), .int (nI cc), .int zrs, .int zad, .int zpr, .int (nI t), .int zlo, .int zps, .ref Nl, .ref Nf, .ref Nb])), (Nl, .inl (g 1, 3, .inr (.inr (.inr (.inr (rf3 M0 M1 L0)))))), (L0, .inr (2, [.int (nI d0), .int (fk0 1), .int (fk0 2), .int (fv0 3), .int (fv0 4), .int (fv0 5), .ref L0c, .ref L0u, .ref L0p, .ref L0l])), (L0u, .inl (g 0, 15, .inl fu0)), (L0l, .inl (g 2, 3, .inr (.inr (.inr (.inr (rf3 L0a L0b L0d)))))), (L0a, .inr (1, [.int (fa0 0), .int (fa0 1), .int (fa0 2), .int (fa0 3), .int (fa0 4), .int (fa0 5), .int (fa0 6)])), (L0b, .inr (1, [.int (fb0 0), .int (fb0 1), .int (fb0 2), .int (fb0 3), .int (fb0 4), .int (fb0 5), .int (fb0 6)])), (L0d, .inr (1, [.int (fd0 0), .int y_21, .int (fd0 2), .int (fd0 3), .int (fd0 4), .int (fd0 5), .int (fd0 6)]))] H := ⟨hP2, hD2⟩
    have hS := hS2; clear hP2 hD2 hS2; have hP := hPD.1; have hD := hPD.2; clear hPD
    refine lv_aload hx hb dX3_goneFrom_30 (lv_at hl 0 rfl) ?_
    refine lv_dup hx hb dX3_goneFrom_32 rfl ?_
    refine va_get (D := D) (ci := 1) (v := .int (fd0 5)) (C := RX1) (T := TX1) (N := 7) hx hb hts iX1 hown hK hP 7 rfl rfl 5 (by decide) f201 (fun _ h9 => h9) rfl dX3_goneFrom_33 ?_
    refine lv_iconst (v := 1) hx hb dX3_goneFrom_36 (by decide) ?_
    refine lv_iadd hx hb dX3_goneFrom_37 ?_
    refine lv_topi (fun y_22 _ => ?_)
    refine va_put (D := D) (ci := 1) (v := .int y_22) (ty := .int) (C := RX1) (T := TX1) (N := 7) hx hb hts iX1 tyX1 tyX1_ok nmX1 hown hK hP hD hS 7 rfl rfl 5 (by decide) f201 (fun _ h9 => h9) rfl (by decide +kernel) (rfl) (rfl) (Nat.le_of_ble_eq_true rfl) dX3_goneFrom_38 (fun H locs hP2 hD2 hS2 => ?_)
    clear hP hD hS
    have hPD : PD D A [(Nn, .inr (3, [.int (nI hp), .int (nI cc), .int zrs, .int zad, .int zpr, .int (nI t), .int zlo, .int zps, .ref Nl, .ref Nf, .ref Nb])), (Nl, .inl (g 1, 3, .inr (.inr (.inr (.inr (rf3 M0 M1 L0)))))), (L0, .inr (2, [.int (nI d0), .int (fk0 1), .int (fk0 2), .int (fv0 3), .int (fv0 4), .int (fv0 5), .ref L0c, .ref L0u, .ref L0p, .ref L0l])), (L0u, .inl (g 0, 15, .inl fu0)), (L0l, .inl (g 2, 3, .inr (.inr (.inr (.inr (rf3 L0a L0b L0d)))))), (L0a, .inr (1, [.int (fa0 0), .int (fa0 1), .int (fa0 2), .int (fa0 3), .int (fa0 4), .int (fa0 5), .int (fa0 6)])), (L0b, .inr (1, [.int (fb0 0), .int (fb0 1), .int (fb0 2), .int (fb0 3), .int (fb0 4), .int (fb0 5), .int (fb0 6)])), (L0d, .inr (1, [.int (fd0 0), .int y_21, .int (fd0 2), .int (fd0 3), .int (fd0 4), .int y_22, .int (fd0 6)]))] H := ⟨hP2, hD2⟩
    have hS := hS2; clear hP2 hD2 hS2; have hP := hPD.1; have hD := hPD.2; clear hPD
    refine lv_aload hx hb dX3_goneFrom_41 (lv_at hl 0 rfl) ?_
    refine va_get (D := D) (ci := 1) (v := .int y_22) (C := RX1) (T := TX1) (N := 7) hx hb hts iX1 hown hK hP 7 rfl rfl 5 (by decide) f201 (fun _ h9 => h9) rfl dX3_goneFrom_43 ?_
    refine lv_aload_n hx hb dX3_goneFrom_46 rfl (lv_at hl 1 rfl) ?_
    refine va_get (D := D) (ci := 2) (v := .int (fk0 2)) (C := RX2) (T := TX2) (N := 10) hx hb hts iX2 hown hK hP 2 rfl rfl 2 (by decide) f204 (fun _ h9 => h9) rfl dX3_goneFrom_47 ?_
    refine lv_icmp_lt (tgt := 65) hx hb dX3_goneFrom_50 (by decide) (fun cb_23 => ?_) (fun cb_23 => ?_)
    · skip
      have hP9 := hP; have hD9 := hD
      subst hQ
      refine W.widen (k := 0) (n := 0) (Nat.le_of_ble_eq_true rfl) (Nat.le_of_ble_eq_true rfl) ?_
      exact W.vret hx hb hr (fun tS htS _ => ⟨⟨_, rfl, ⟨zlo, fv0, fu0, fa0, fb0, (lf [fd0 0, y_21, fd0 2, 0, fd0 4, y_22, fd0 6]), rfl, (h3)⟩, by rw [htS]; exact hP9, hD9⟩, hS.F htS⟩) hS.2.2 dX3_goneFrom_65
    · skip
      refine lv_aload hx hb dX3_goneFrom_53 (lv_at hl 0 rfl) ?_
      refine lv_iconst (v := 0) hx hb dX3_goneFrom_55 (by decide) ?_
      refine va_put (D := D) (ci := 1) (v := .int 0) (ty := .int) (C := RX1) (T := TX1) (N := 7) hx hb hts iX1 tyX1 tyX1_ok nmX1 hown hK hP hD hS 7 rfl rfl 5 (by decide) f201 (fun _ h9 => h9) rfl (by decide +kernel) (rfl) (rfl) (Nat.le_of_ble_eq_true rfl) dX3_goneFrom_56 (fun H locs hP2 hD2 hS2 => ?_)
      clear hP hD hS
      have hPD : PD D A [(Nn, .inr (3, [.int (nI hp), .int (nI cc), .int zrs, .int zad, .int zpr, .int (nI t), .int zlo, .int zps, .ref Nl, .ref Nf, .ref Nb])), (Nl, .inl (g 1, 3, .inr (.inr (.inr (.inr (rf3 M0 M1 L0)))))), (L0, .inr (2, [.int (nI d0), .int (fk0 1), .int (fk0 2), .int (fv0 3), .int (fv0 4), .int (fv0 5), .ref L0c, .ref L0u, .ref L0p, .ref L0l])), (L0u, .inl (g 0, 15, .inl fu0)), (L0l, .inl (g 2, 3, .inr (.inr (.inr (.inr (rf3 L0a L0b L0d)))))), (L0a, .inr (1, [.int (fa0 0), .int (fa0 1), .int (fa0 2), .int (fa0 3), .int (fa0 4), .int (fa0 5), .int (fa0 6)])), (L0b, .inr (1, [.int (fb0 0), .int (fb0 1), .int (fb0 2), .int (fb0 3), .int (fb0 4), .int (fb0 5), .int (fb0 6)])), (L0d, .inr (1, [.int (fd0 0), .int y_21, .int (fd0 2), .int (fd0 3), .int (fd0 4), .int 0, .int (fd0 6)]))] H := ⟨hP2, hD2⟩
      have hS := hS2; clear hP2 hD2 hS2; have hP := hPD.1; have hD := hPD.2; clear hPD
      refine lv_aload_n hx hb dX3_goneFrom_59 rfl (lv_at hl 2 rfl) ?_
      refine lv_aload_n hx hb dX3_goneFrom_60 rfl (lv_at hl 1 rfl) ?_
      refine lv_iload_n hx hb dX3_goneFrom_61 rfl (lv_at hl 4 rfl) ?_
      refine ky_Vv (As := [.ref L0, .int (nI 2)]) (rest := []) ⟨hx, hb, hml, hown, hts⟩ ⟨hK, hN⟩ hZ hP hD hS hA [0, 2, 3, 4, 5, 6, 7] [1] (wc := [(Nn, .inr (3, [.int (nI hp), .int (nI cc), .int zrs, .int zad, .int zpr, .int (nI t), .int zlo, .int zps, .ref Nl, .ref Nf, .ref Nb])), (L0, .inr (2, [.int (nI d0), .int (fk0 1), .int (fk0 2), .int (fv0 3), .int (fv0 4), .int (fv0 5), .ref L0c, .ref L0u, .ref L0p, .ref L0l])), (L0u, .inl (g 0, 15, .inl fu0)), (L0l, .inl (g 2, 3, .inr (.inr (.inr (.inr (rf3 L0a L0b L0d)))))), (L0a, .inr (1, [.int (fa0 0), .int (fa0 1), .int (fa0 2), .int (fa0 3), .int (fa0 4), .int (fa0 5), .int (fa0 6)])), (L0b, .inr (1, [.int (fb0 0), .int (fb0 1), .int (fb0 2), .int (fb0 3), .int (fb0 4), .int (fb0 5), .int (fb0 6)])), (L0d, .inr (1, [.int (fd0 0), .int y_21, .int (fd0 2), .int (fd0 3), .int (fd0 4), .int 0, .int (fd0 6)]))]) (wr := [(Nl, .inl (g 1, 3, .inr (.inr (.inr (.inr (rf3 M0 M1 L0))))))]) rfl rfl rfl rfl (by decide) (k_X3_sendUpdate l D g H.size Nn L0 2 hp cc zrs zad zpr t zlo zps Nl Nf Nb d0 fk0 fv0 L0c L0u L0p L0l fu0 L0a L0b L0d fa0 fb0 (lf [fd0 0, y_21, fd0 2, fd0 3, fd0 4, 0, fd0 6]) (show 2 < 3 by omega) (show t < 2 ^ 30 by omega) (show d0 < 5 by omega) (h3)) (cwV 2 hts gX3_goneFrom_X3_sendUpdate rfl rfl rfl (by decide +kernel) ⟨(Nat.le_of_ble_eq_true rfl), (Nat.le_of_ble_eq_true rfl)⟩) 0 3 rfl rfl rfl rfl hl.1 rfl (Nat.le_of_ble_eq_true rfl) dX3_goneFrom_62 ⟨(Nat.le_of_ble_eq_true rfl), (Nat.le_of_ble_eq_true rfl)⟩ (fun u H locs hw hP2 hD2 hS2 => ?_)
      clear hP hD hS
      obtain ⟨zlox_25, fv0x_26, fu0x_27, rfl, hf_28⟩ := hw
      have hPD : PD D A [(Nl, .inl (g 1, 3, .inr (.inr (.inr (.inr (rf3 M0 M1 L0)))))), (Nn, .inr (3, [.int (nI hp), .int (nI cc), .int zrs, .int zad, .int zpr, .int (nI t), .int zlox_25, .int zps, .ref Nl, .ref Nf, .ref Nb])), (L0, .inr (2, [.int (nI d0), .int (fk0 1), .int (fk0 2), .int (fv0x_26 3), .int (fv0x_26 4), .int (fv0x_26 5), .ref L0c, .ref L0u, .ref L0p, .ref L0l])), (L0u, .inl (g 0, 15, .inl fu0x_27)), (L0l, .inl (g 2, 3, .inr (.inr (.inr (.inr (rf3 L0a L0b L0d)))))), (L0a, .inr (1, [.int (fa0 0), .int (fa0 1), .int (fa0 2), .int (fa0 3), .int (fa0 4), .int (fa0 5), .int (fa0 6)])), (L0b, .inr (1, [.int (fb0 0), .int (fb0 1), .int (fb0 2), .int (fb0 3), .int (fb0 4), .int (fb0 5), .int (fb0 6)])), (L0d, .inr (1, [.int (fd0 0), .int y_21, .int (fd0 2), .int (fd0 3), .int (fd0 4), .int 0, .int (fd0 6)]))] H := ⟨hP2, hD2⟩
      have hS := hS2; clear hP2 hD2 hS2; have hP := hPD.1; have hD := hPD.2; clear hPD
      refine W.widen (k := 0) (n := 0) (Nat.le_of_ble_eq_true rfl) (Nat.le_of_ble_eq_true rfl) ?_
      have hPD9 : PD D A [(Nn, .inr (3, [.int (nI hp), .int (nI cc), .int zrs, .int zad, .int zpr, .int (nI t), .int zlox_25, .int zps, .ref Nl, .ref Nf, .ref Nb])), (Nl, .inl (g 1, 3, .inr (.inr (.inr (.inr (rf3 M0 M1 L0)))))), (L0, .inr (2, [.int (nI d0), .int (fk0 1), .int (fk0 2), .int (fv0x_26 3), .int (fv0x_26 4), .int (fv0x_26 5), .ref L0c, .ref L0u, .ref L0p, .ref L0l])), (L0u, .inl (g 0, 15, .inl fu0x_27)), (L0l, .inl (g 2, 3, .inr (.inr (.inr (.inr (rf3 L0a L0b L0d)))))), (L0a, .inr (1, [.int (fa0 0), .int (fa0 1), .int (fa0 2), .int (fa0 3), .int (fa0 4), .int (fa0 5), .int (fa0 6)])), (L0b, .inr (1, [.int (fb0 0), .int (fb0 1), .int (fb0 2), .int (fb0 3), .int (fb0 4), .int (fb0 5), .int (fb0 6)])), (L0d, .inr (1, [.int (fd0 0), .int y_21, .int (fd0 2), .int (fd0 3), .int (fd0 4), .int 0, .int (fd0 6)]))] H := ⟨hP.sub [1, 0, 2, 3, 4, 5, 6, 7] rfl, hD.sub [1, 0, 2, 3, 4, 5, 6, 7] (by decide) rfl⟩
      have hP9 := hPD9.1; have hD9 := hPD9.2
      subst hQ
      refine W.widen (k := 0) (n := 0) (Nat.le_of_ble_eq_true rfl) (Nat.le_of_ble_eq_true rfl) ?_
      exact W.vret hx hb hr (fun tS htS _ => ⟨⟨_, rfl, ⟨zlox_25, fv0x_26, fu0x_27, fa0, fb0, (lf [fd0 0, y_21, fd0 2, 0, fd0 4, 0, fd0 6]), rfl, (hf_28)⟩, by rw [htS]; exact hP9, hD9⟩, hS.F htS⟩) hS.2.2 dX3_goneFrom_65

set_option maxHeartbeats 4000000 in
set_option maxRecDepth 100000 in
theorem k_X3_arriveOver_0 (l : Launch) (D : va_G) (g : Nat → ClassId) (sz : Nat) (Nn : Nat) (hp : Nat) (cc : Nat) (zrs : Int32) (zad : Int32) (zpr : Int32) (t : Nat) (zlo : Int32) (zps : Int32) (Nl : Nat) (Nf : Nat) (Nb : Nat) (L0 : Nat) (M1 : Nat) (M2 : Nat) (fbuf : Nat → Int32) (d0 : Nat) (fk0 : Nat → Int32) (fv0 : Nat → Int32) (L0c : Nat) (L0u : Nat) (L0p : Nat) (L0l : Nat) (fc0 : Nat → Int32) (fu0 : Nat → Int32) (fp0 : Nat → Int32) (L0a : Nat) (L0b : Nat) (L0d : Nat) (fa0 : Nat → Int32) (fb0 : Nat → Int32) (fd0 : Nat → Int32) (h0 : 1 ≤ cc) (h1 : cc ≤ 3) (h2 : t < 2 ^ 30) (h3 : d0 < 5) (h4 : okc (fv0 4)) (h5 : okF fc0) : Met l yX3_arriveOver wsX3_arriveOver ({ frames := 2, cells := 0, slots := 0, locals := 42 }) (va_Pc [.ref Nn, .int 0] (pre D g sz [(Nn, .inr (3, [.int (nI hp), .int (nI cc), .int zrs, .int zad, .int zpr, .int (nI t), .int zlo, .int zps, .ref Nl, .ref Nf, .ref Nb])), (Nl, .inl (g 1, 3, .inr (.inr (.inr (.inr (rf3 L0 M1 M2)))))), (Nb, .inl (g 0, 12, .inl fbuf)), (L0, .inr (2, [.int (nI d0), .int (fk0 1), .int (fk0 2), .int (fv0 3), .int (fv0 4), .int (fv0 5), .ref L0c, .ref L0u, .ref L0p, .ref L0l])), (L0c, .inl (g 0, 5, .inl fc0)), (L0u, .inl (g 0, 15, .inl fu0)), (L0p, .inl (g 0, 15, .inl fp0)), (L0l, .inl (g 2, 3, .inr (.inr (.inr (.inr (rf3 L0a L0b L0d)))))), (L0a, .inr (1, [.int (fa0 0), .int (fa0 1), .int (fa0 2), .int (fa0 3), .int (fa0 4), .int (fa0 5), .int (fa0 6)])), (L0b, .inr (1, [.int (fb0 0), .int (fb0 1), .int (fb0 2), .int (fb0 3), .int (fb0 4), .int (fb0 5), .int (fb0 6)])), (L0d, .inr (1, [.int (fd0 0), .int (fd0 1), .int (fd0 2), .int (fd0 3), .int (fd0 4), .int (fd0 5), .int (fd0 6)]))])) (va_Qv (fun (u : va_W) => ∃ (zlox : Int32) (fbufx : Nat → Int32) (fv0x : Nat → Int32) (fc0x : Nat → Int32) (fu0x : Nat → Int32) (fp0x : Nat → Int32) (fa0x : Nat → Int32) (fb0x : Nat → Int32) (fd0x : Nat → Int32), u = [(Nn, .inr (3, [.int (nI hp), .int (nI cc), .int zrs, .int zad, .int zpr, .int (nI t), .int zlox, .int zps, .ref Nl, .ref Nf, .ref Nb])), (Nl, .inl (g 1, 3, .inr (.inr (.inr (.inr (rf3 L0 M1 M2)))))), (Nb, .inl (g 0, 12, .inl fbufx)), (L0, .inr (2, [.int (nI d0), .int (fk0 1), .int (fk0 2), .int (fv0x 3), .int (fv0x 4), .int (fv0x 5), .ref L0c, .ref L0u, .ref L0p, .ref L0l])), (L0c, .inl (g 0, 5, .inl fc0x)), (L0u, .inl (g 0, 15, .inl fu0x)), (L0p, .inl (g 0, 15, .inl fp0x)), (L0l, .inl (g 2, 3, .inr (.inr (.inr (.inr (rf3 L0a L0b L0d)))))), (L0a, .inr (1, [.int (fa0x 0), .int (fa0x 1), .int (fa0x 2), .int (fa0 3), .int (fa0x 4), .int (fa0x 5), .int (fa0x 6)])), (L0b, .inr (1, [.int (fb0x 0), .int (fb0x 1), .int (fb0x 2), .int (fb0 3), .int (fb0x 4), .int (fb0x 5), .int (fb0x 6)])), (L0d, .inr (1, [.int (fd0x 0), .int (fd0x 1), .int (fd0x 2), .int (fd0 3), .int (fd0x 4), .int (fd0x 5), .int (fd0x 6)]))] ∧ (okc (fv0x 4)) ∧ (okF fc0x)) (wd D (va_A [(Nn, .inr (3, [.int (nI hp), .int (nI cc), .int zrs, .int zad, .int zpr, .int (nI t), .int zlo, .int zps, .ref Nl, .ref Nf, .ref Nb])), (Nl, .inl (g 1, 3, .inr (.inr (.inr (.inr (rf3 L0 M1 M2)))))), (Nb, .inl (g 0, 12, .inl fbuf)), (L0, .inr (2, [.int (nI d0), .int (fk0 1), .int (fk0 2), .int (fv0 3), .int (fv0 4), .int (fv0 5), .ref L0c, .ref L0u, .ref L0p, .ref L0l])), (L0c, .inl (g 0, 5, .inl fc0)), (L0u, .inl (g 0, 15, .inl fu0)), (L0p, .inl (g 0, 15, .inl fp0)), (L0l, .inl (g 2, 3, .inr (.inr (.inr (.inr (rf3 L0a L0b L0d)))))), (L0a, .inr (1, [.int (fa0 0), .int (fa0 1), .int (fa0 2), .int (fa0 3), .int (fa0 4), .int (fa0 5), .int (fa0 6)])), (L0b, .inr (1, [.int (fb0 0), .int (fb0 1), .int (fb0 2), .int (fb0 3), .int (fb0 4), .int (fb0 5), .int (fb0 6)])), (L0d, .inr (1, [.int (fd0 0), .int (fd0 1), .int (fd0 2), .int (fd0 3), .int (fd0 4), .int (fd0 5), .int (fd0 6)]))] sz)) (va_A [(Nn, .inr (3, [.int (nI hp), .int (nI cc), .int zrs, .int zad, .int zpr, .int (nI t), .int zlo, .int zps, .ref Nl, .ref Nf, .ref Nb])), (Nl, .inl (g 1, 3, .inr (.inr (.inr (.inr (rf3 L0 M1 M2)))))), (Nb, .inl (g 0, 12, .inl fbuf)), (L0, .inr (2, [.int (nI d0), .int (fk0 1), .int (fk0 2), .int (fv0 3), .int (fv0 4), .int (fv0 5), .ref L0c, .ref L0u, .ref L0p, .ref L0l])), (L0c, .inl (g 0, 5, .inl fc0)), (L0u, .inl (g 0, 15, .inl fu0)), (L0p, .inl (g 0, 15, .inl fp0)), (L0l, .inl (g 2, 3, .inr (.inr (.inr (.inr (rf3 L0a L0b L0d)))))), (L0a, .inr (1, [.int (fa0 0), .int (fa0 1), .int (fa0 2), .int (fa0 3), .int (fa0 4), .int (fa0 5), .int (fa0 6)])), (L0b, .inr (1, [.int (fb0 0), .int (fb0 1), .int (fb0 2), .int (fb0 3), .int (fb0 4), .int (fb0 5), .int (fb0 6)])), (L0d, .inr (1, [.int (fd0 0), .int (fd0 1), .int (fd0 2), .int (fd0 3), .int (fd0 4), .int (fd0 5), .int (fd0 6)]))] sz)) 0 0 (va_A [(Nn, .inr (3, [.int (nI hp), .int (nI cc), .int zrs, .int zad, .int zpr, .int (nI t), .int zlo, .int zps, .ref Nl, .ref Nf, .ref Nb])), (Nl, .inl (g 1, 3, .inr (.inr (.inr (.inr (rf3 L0 M1 M2)))))), (Nb, .inl (g 0, 12, .inl fbuf)), (L0, .inr (2, [.int (nI d0), .int (fk0 1), .int (fk0 2), .int (fv0 3), .int (fv0 4), .int (fv0 5), .ref L0c, .ref L0u, .ref L0p, .ref L0l])), (L0c, .inl (g 0, 5, .inl fc0)), (L0u, .inl (g 0, 15, .inl fu0)), (L0p, .inl (g 0, 15, .inl fp0)), (L0l, .inl (g 2, 3, .inr (.inr (.inr (.inr (rf3 L0a L0b L0d)))))), (L0a, .inr (1, [.int (fa0 0), .int (fa0 1), .int (fa0 2), .int (fa0 3), .int (fa0 4), .int (fa0 5), .int (fa0 6)])), (L0b, .inr (1, [.int (fb0 0), .int (fb0 1), .int (fb0 2), .int (fb0 3), .int (fb0 4), .int (fb0 5), .int (fb0 6)])), (L0d, .inr (1, [.int (fd0 0), .int (fd0 1), .int (fd0 2), .int (fd0 3), .int (fd0 4), .int (fd0 5), .int (fd0 6)]))] sz) := by
  refine Met.ofW (cc := cX3_arriveOver) (maxL := 9) (ret := none) (by decide) rfl ?_
  intro p e s m args below meth c s₁ B hml hv
  obtain ⟨rfl, hsz, hP, ⟨hK, hN⟩, hD0, hZ⟩ := hv
  have hx := B.exec
  have hb := B.bytes
  have hr := B.returns
  have hts := atoms_spec (ws := wsX3_arriveOver) B.pre
  have hown : s.vm.findClass RX3 = some m.cls := findClass_of_methodNamed B.named
  have hlocks := B.notSynchronized
  clear B
  subst hsz
  have hD := hD0.self (sz := s.heap.size)
  clear hD0
  generalize hAe : va_A [(Nn, .inr (3, [.int (nI hp), .int (nI cc), .int zrs, .int zad, .int zpr, .int (nI t), .int zlo, .int zps, .ref Nl, .ref Nf, .ref Nb])), (Nl, .inl (g 1, 3, .inr (.inr (.inr (.inr (rf3 L0 M1 M2)))))), (Nb, .inl (g 0, 12, .inl fbuf)), (L0, .inr (2, [.int (nI d0), .int (fk0 1), .int (fk0 2), .int (fv0 3), .int (fv0 4), .int (fv0 5), .ref L0c, .ref L0u, .ref L0p, .ref L0l])), (L0c, .inl (g 0, 5, .inl fc0)), (L0u, .inl (g 0, 15, .inl fu0)), (L0p, .inl (g 0, 15, .inl fp0)), (L0l, .inl (g 2, 3, .inr (.inr (.inr (.inr (rf3 L0a L0b L0d)))))), (L0a, .inr (1, [.int (fa0 0), .int (fa0 1), .int (fa0 2), .int (fa0 3), .int (fa0 4), .int (fa0 5), .int (fa0 6)])), (L0b, .inr (1, [.int (fb0 0), .int (fb0 1), .int (fb0 2), .int (fb0 3), .int (fb0 4), .int (fb0 5), .int (fb0 6)])), (L0d, .inr (1, [.int (fd0 0), .int (fd0 1), .int (fd0 2), .int (fd0 3), .int (fd0 4), .int (fd0 5), .int (fd0 6)]))] s.heap.size = A at hD hZ ⊢
  have hA : ∀ q : Nat, s.heap.size ≤ q → A q := fun q h => by rw [← hAe]; exact Or.inr h
  have hS : va_S A s.heap s.heap [] := va_S.rf
  have f11 := hts (.fieldLink RX3 11 "HopCredits$Net" "links" "[LHopCredits$Link;") (by decide +kernel)
  have f122 := hts (.fieldLink RX3 122 "HopCredits$Link" "cellAt" "[I") (by decide +kernel)
  have f125 := hts (.fieldLink RX3 125 "HopCredits$Link" "updateAt" "[I") (by decide +kernel)
  have f128 := hts (.fieldLink RX3 128 "HopCredits$Link" "lanes" "[LHopCredits$Lane;") (by decide +kernel)
  have f137 := hts (.fieldLink RX3 137 "HopCredits$Link" "probesAt" "[I") (by decide +kernel)
  have f23 := hts (.fieldLink RX3 23 "HopCredits$Net" "buffers" "[I") (by decide +kernel)
  have f62 := hts (.fieldLink RX3 62 "HopCredits$Net" "circuits" "I") (by decide +kernel)
  have f78 := hts (.fieldLink RX3 78 "HopCredits$Net" "tick" "I") (by decide +kernel)
  have iX2 : ∀ w ∈ u_ws RX2 TX2 10, w ∈ wsX3_arriveOver := by decide +kernel
  have iX3 : ∀ w ∈ u_ws RX3 TX3 11, w ∈ wsX3_arriveOver := by decide +kernel
  have hl := lv_entry ([.ref Nn, .int 0]) (n := 9) (Nat.le_of_ble_eq_true rfl)
  rw [lg_entry_eq]
  generalize (lg_sl ([.ref Nn, .int 0]) ++ List.replicate (9 - (lg_sl ([.ref Nn, .int 0])).length) Slot.unset).toArray = ls at hl ⊢
  have hl : lv_has ls 9 [(0, .ref Nn), (1, .int 0)] := hl
  generalize hQ : MQ below _ _ s _ _ _ = Q
  generalize hH : s.heap = H at hP ⊢
  have hS : va_S A s.heap H [] := by rw [← hH]; exact hS
  clear hH
  refine lv_aload_n hx hb dX3_arriveOver_0 rfl (lv_at hl 0 rfl) ?_
  refine va_get (D := D) (ci := 3) (v := .ref Nl) (C := RX3) (T := TX3) (N := 11) hx hb hts iX3 hown hK hP 0 rfl rfl 8 (by decide) f11 (fun _ h9 => h9) rfl dX3_arriveOver_1 ?_
  refine lv_iload_n hx hb dX3_arriveOver_4 rfl (lv_at hl 1 rfl) ?_
  refine va_aldq (C := "HopCredits$Link") hx hb hK hP 1 1 rfl rfl (by unfold vp_in; decide) dX3_arriveOver_5 ?_
  refine lv_eqv (v2 := .ref L0) rfl ?_
  refine lv_astore_n (lv' := [(2, .ref L0), (0, .ref Nn), (1, .int 0)]) hx hb dX3_arriveOver_6 rfl hl (by decide) rfl (fun ls hl => ?_)
  refine lv_aload_n hx hb dX3_arriveOver_7 rfl (lv_at hl 1 rfl) ?_
  refine va_get (D := D) (ci := 3) (v := .int (nI t)) (C := RX3) (T := TX3) (N := 11) hx hb hts iX3 hown hK hP 0 rfl rfl 5 (by decide) f78 (fun _ h9 => h9) rfl dX3_arriveOver_8 ?_
  refine lv_iconst (v := 5) hx hb dX3_arriveOver_11 (by decide) ?_
  refine lv_irem hx hb dX3_arriveOver_12 (by decide) ?_
  refine lv_eqi (y := (nI ((t) % 5))) (pk_rem (show t < 2 ^ 31 by omega) (show 0 < 5 by omega) (show 5 < 2 ^ 31 by omega)) ?_
  refine lv_istore_n (lv' := [(3, .int (nI ((t) % 5))), (2, .ref L0), (0, .ref Nn), (1, .int 0)]) hx hb dX3_arriveOver_13 rfl hl (by decide) rfl (fun ls hl => ?_)
  refine lv_aload_n hx hb dX3_arriveOver_14 rfl (lv_at hl 1 rfl) ?_
  refine va_get (D := D) (ci := 2) (v := .ref L0c) (C := RX2) (T := TX2) (N := 10) hx hb hts iX2 hown hK hP 3 rfl rfl 6 (by decide) f122 (fun _ h9 => h9) rfl dX3_arriveOver_15 ?_
  refine lv_iload_n hx hb dX3_arriveOver_18 rfl (lv_at hl 0 rfl) ?_
  refine va_iald hx hb hK hP 4 0 rfl rfl (vp_in_nI (show (t) % 5 < 5 by omega) (by decide)) dX3_arriveOver_19 ?_
  refine lv_eqi (y := (fc0 ((t) % 5))) (congrArg fc0 (nI_clamp (show (t) % 5 < 2 ^ 31 by omega))) ?_
  refine lv_topc (h5 ((t) % 5)) (fun y_1 hc_2 => ?_)
  refine lv_istore (lv' := [(4, .int y_1), (3, .int (nI ((t) % 5))), (2, .ref L0), (0, .ref Nn), (1, .int 0)]) hx hb dX3_arriveOver_20 hl (by decide) rfl (fun ls hl => ?_)
  refine lv_iload hx hb dX3_arriveOver_22 (lv_at hl 0 rfl) ?_
  refine lv_iconst (v := (-1)) hx hb dX3_arriveOver_24 (by decide) ?_
  have join_20 : ∀ (F_11 : Nat → Int32) (H : Heap) (locs : List Loc) (ls : Array Slot), va_P D vwCl [(Nn, .inr (3, [.int (nI hp), .int (nI cc), .int zrs, .int zad, .int zpr, .int (nI t), .int zlo, .int zps, .ref Nl, .ref Nf, .ref Nb])), (Nl, .inl (g 1, 3, .inr (.inr (.inr (.inr (rf3 L0 M1 M2)))))), (Nb, .inl (g 0, 12, .inl F_11)), (L0, .inr (2, [.int (nI d0), .int (fk0 1), .int (fk0 2), .int (fv0 3), .int (fv0 4), .int (fv0 5), .ref L0c, .ref L0u, .ref L0p, .ref L0l])), (L0c, .inl (g 0, 5, .inl fc0)), (L0u, .inl (g 0, 15, .inl fu0)), (L0p, .inl (g 0, 15, .inl fp0)), (L0l, .inl (g 2, 3, .inr (.inr (.inr (.inr (rf3 L0a L0b L0d)))))), (L0a, .inr (1, [.int (fa0 0), .int (fa0 1), .int (fa0 2), .int (fa0 3), .int (fa0 4), .int (fa0 5), .int (fa0 6)])), (L0b, .inr (1, [.int (fb0 0), .int (fb0 1), .int (fb0 2), .int (fb0 3), .int (fb0 4), .int (fb0 5), .int (fb0 6)])), (L0d, .inr (1, [.int (fd0 0), .int (fd0 1), .int (fd0 2), .int (fd0 3), .int (fd0 4), .int (fd0 5), .int (fd0 6)]))] H → va_D A [(Nn, .inr (3, [.int (nI hp), .int (nI cc), .int zrs, .int zad, .int zpr, .int (nI t), .int zlo, .int zps, .ref Nl, .ref Nf, .ref Nb])), (Nl, .inl (g 1, 3, .inr (.inr (.inr (.inr (rf3 L0 M1 M2)))))), (Nb, .inl (g 0, 12, .inl F_11)), (L0, .inr (2, [.int (nI d0), .int (fk0 1), .int (fk0 2), .int (fv0 3), .int (fv0 4), .int (fv0 5), .ref L0c, .ref L0u, .ref L0p, .ref L0l])), (L0c, .inl (g 0, 5, .inl fc0)), (L0u, .inl (g 0, 15, .inl fu0)), (L0p, .inl (g 0, 15, .inl fp0)), (L0l, .inl (g 2, 3, .inr (.inr (.inr (.inr (rf3 L0a L0b L0d)))))), (L0a, .inr (1, [.int (fa0 0), .int (fa0 1), .int (fa0 2), .int (fa0 3), .int (fa0 4), .int (fa0 5), .int (fa0 6)])), (L0b, .inr (1, [.int (fb0 0), .int (fb0 1), .int (fb0 2), .int (fb0 3), .int (fb0 4), .int (fb0 5), .int (fb0 6)])), (L0d, .inr (1, [.int (fd0 0), .int (fd0 1), .int (fd0 2), .int (fd0 3), .int (fd0 4), .int (fd0 5), .int (fd0 6)]))] → va_S A s.heap H locs → lv_has ls 9 [(3, .int (nI ((t) % 5))), (2, .ref L0), (0, .ref Nn)] → W p l e (headSpec wsX3_arriveOver ({ frames := 2, cells := 0, slots := 0, locals := 42 })).room s m ([.ref Nn, .int 0] : List Value).toArray below meth c H locs 0 0 Q (F0 m 45 ls []) := by
    clear hP hD hS hl
    intro F_11  H locs ls hP hD hS hl
    refine lv_iconst (v := 0) hx hb dX3_arriveOver_45 (by decide) ?_
    refine lv_istore (lv' := [(5, .int 0), (3, .int (nI ((t) % 5))), (2, .ref L0), (0, .ref Nn)]) hx hb dX3_arriveOver_46 hl (by decide) rfl (fun ls hl => ?_)
    have loop_261 : ∀ (Nloop_261 : Nat) (i_73 : Nat) (z_74 : Int32) (z_75 : Int32) (z_76 : Int32) (z_77 : Int32) (z_78 : Int32) (z_79 : Int32) (z_80 : Int32) (z_81 : Int32) (z_82 : Int32) (z_83 : Int32) (F_84 : Nat → Int32) (z_167 : Int32) (z_168 : Int32) (z_169 : Int32) (z_170 : Int32) (z_171 : Int32) (z_172 : Int32) (z_173 : Int32) (z_174 : Int32) (z_175 : Int32) (z_176 : Int32) (z_177 : Int32) (z_178 : Int32) (hz_82 : okc z_82) (hbi_73 : i_73 ≤ cc) (hmloop_261 : cc - i_73 < Nloop_261) (H : Heap) (locs : List Loc) (ls : Array Slot), va_P D vwCl [(Nn, .inr (3, [.int (nI hp), .int (nI cc), .int zrs, .int zad, .int zpr, .int (nI t), .int z_80, .int zps, .ref Nl, .ref Nf, .ref Nb])), (Nl, .inl (g 1, 3, .inr (.inr (.inr (.inr (rf3 L0 M1 M2)))))), (Nb, .inl (g 0, 12, .inl F_11)), (L0, .inr (2, [.int (nI d0), .int (fk0 1), .int (fk0 2), .int z_81, .int z_82, .int z_83, .ref L0c, .ref L0u, .ref L0p, .ref L0l])), (L0c, .inl (g 0, 5, .inl fc0)), (L0u, .inl (g 0, 15, .inl F_84)), (L0p, .inl (g 0, 15, .inl fp0)), (L0l, .inl (g 2, 3, .inr (.inr (.inr (.inr (rf3 L0a L0b L0d)))))), (L0a, .inr (1, [.int z_74, .int z_75, .int z_76, .int (fa0 3), .int z_77, .int z_78, .int z_79])), (L0b, .inr (1, [.int z_167, .int z_168, .int z_169, .int (fb0 3), .int z_170, .int z_171, .int z_172])), (L0d, .inr (1, [.int z_173, .int z_174, .int z_175, .int (fd0 3), .int z_176, .int z_177, .int z_178]))] H → va_D A [(Nn, .inr (3, [.int (nI hp), .int (nI cc), .int zrs, .int zad, .int zpr, .int (nI t), .int z_80, .int zps, .ref Nl, .ref Nf, .ref Nb])), (Nl, .inl (g 1, 3, .inr (.inr (.inr (.inr (rf3 L0 M1 M2)))))), (Nb, .inl (g 0, 12, .inl F_11)), (L0, .inr (2, [.int (nI d0), .int (fk0 1), .int (fk0 2), .int z_81, .int z_82, .int z_83, .ref L0c, .ref L0u, .ref L0p, .ref L0l])), (L0c, .inl (g 0, 5, .inl fc0)), (L0u, .inl (g 0, 15, .inl F_84)), (L0p, .inl (g 0, 15, .inl fp0)), (L0l, .inl (g 2, 3, .inr (.inr (.inr (.inr (rf3 L0a L0b L0d)))))), (L0a, .inr (1, [.int z_74, .int z_75, .int z_76, .int (fa0 3), .int z_77, .int z_78, .int z_79])), (L0b, .inr (1, [.int z_167, .int z_168, .int z_169, .int (fb0 3), .int z_170, .int z_171, .int z_172])), (L0d, .inr (1, [.int z_173, .int z_174, .int z_175, .int (fd0 3), .int z_176, .int z_177, .int z_178]))] → va_S A s.heap H locs → lv_has ls 9 [(5, .int (nI i_73)), (3, .int (nI ((t) % 5))), (2, .ref L0), (0, .ref Nn)] → W p l e (headSpec wsX3_arriveOver ({ frames := 2, cells := 0, slots := 0, locals := 42 })).room s m ([.ref Nn, .int 0] : List Value).toArray below meth c H locs 0 0 Q (F0 m 48 ls []) := by
      clear hP hD hS hl
      intro Nloop_261
      induction Nloop_261 with
      | zero => intro i_73 z_74 z_75 z_76 z_77 z_78 z_79 z_80 z_81 z_82 z_83 F_84 z_167 z_168 z_169 z_170 z_171 z_172 z_173 z_174 z_175 z_176 z_177 z_178 hz_82 hbi_73 hm9; exact absurd hm9 (Nat.not_lt_zero _)
      | succ Nloop_261 loop_261_ih =>
        intro i_73 z_74 z_75 z_76 z_77 z_78 z_79 z_80 z_81 z_82 z_83 F_84 z_167 z_168 z_169 z_170 z_171 z_172 z_173 z_174 z_175 z_176 z_177 z_178 hz_82 hbi_73 hmloop_261 H locs ls hP hD hS hl
        refine lv_iload hx hb dX3_arriveOver_48 (lv_at hl 0 rfl) ?_
        refine lv_aload_n hx hb dX3_arriveOver_50 rfl (lv_at hl 3 rfl) ?_
        refine va_get (D := D) (ci := 3) (v := .int (nI cc)) (C := RX3) (T := TX3) (N := 11) hx hb hts iX3 hown hK hP 0 rfl rfl 1 (by decide) f62 (fun _ h9 => h9) rfl dX3_arriveOver_51 ?_
        refine lv_icmp_ge (tgt := 130) hx hb dX3_arriveOver_54 (by decide) (fun cb_262 => ?_) (fun cb_262 => ?_)
        · skip
          have cn_263 : cc ≤ i_73 := (nI_leI (show cc < 2 ^ 31 by omega) (show i_73 < 2 ^ 31 by omega)).mp cb_262
          refine lv_aload_n hx hb dX3_arriveOver_130 rfl (lv_at hl 2 rfl) ?_
          refine lv_iload_n hx hb dX3_arriveOver_131 rfl (lv_at hl 1 rfl) ?_
          refine ky_Vv (As := [.int (nI ((t) % 5))]) (rest := []) ⟨hx, hb, hml, hown, hts⟩ ⟨hK, hN⟩ hZ hP hD hS hA [3, 4, 5, 6] [0, 1, 2, 7, 8, 9, 10] (wc := [(L0, .inr (2, [.int (nI d0), .int (fk0 1), .int (fk0 2), .int z_81, .int z_82, .int z_83, .ref L0c, .ref L0u, .ref L0p, .ref L0l])), (L0c, .inl (g 0, 5, .inl fc0)), (L0u, .inl (g 0, 15, .inl F_84)), (L0p, .inl (g 0, 15, .inl fp0))]) (wr := [(Nn, .inr (3, [.int (nI hp), .int (nI cc), .int zrs, .int zad, .int zpr, .int (nI t), .int z_80, .int zps, .ref Nl, .ref Nf, .ref Nb])), (Nl, .inl (g 1, 3, .inr (.inr (.inr (.inr (rf3 L0 M1 M2)))))), (Nb, .inl (g 0, 12, .inl F_11)), (L0l, .inl (g 2, 3, .inr (.inr (.inr (.inr (rf3 L0a L0b L0d)))))), (L0a, .inr (1, [.int z_74, .int z_75, .int z_76, .int (fa0 3), .int z_77, .int z_78, .int z_79])), (L0b, .inr (1, [.int z_167, .int z_168, .int z_169, .int (fb0 3), .int z_170, .int z_171, .int z_172])), (L0d, .inr (1, [.int z_173, .int z_174, .int z_175, .int (fd0 3), .int z_176, .int z_177, .int z_178]))]) rfl rfl rfl rfl (by decide) (k_X2_clearSlot l D g H.size L0 ((t) % 5) (lf [nI d0, fk0 1, fk0 2, z_81, z_82, z_83]) L0c L0u L0p L0l fc0 F_84 fp0 (show ((t) % 5) < 5 by omega) (h5)) (cwV 1 hts gX3_arriveOver_X2_clearSlot rfl rfl rfl (by decide +kernel) ⟨(Nat.le_of_ble_eq_true rfl), (Nat.le_of_ble_eq_true rfl)⟩) 3 2 rfl rfl rfl rfl hl.1 rfl (Nat.le_of_ble_eq_true rfl) dX3_arriveOver_132 ⟨(Nat.le_of_ble_eq_true rfl), (Nat.le_of_ble_eq_true rfl)⟩ (fun u H locs hw hP2 hD2 hS2 => ?_)
          clear hP hD hS
          obtain ⟨fcx_265, fux_266, fpx_267, rfl, hf_268⟩ := hw
          have hPD : PD D A [(Nn, .inr (3, [.int (nI hp), .int (nI cc), .int zrs, .int zad, .int zpr, .int (nI t), .int z_80, .int zps, .ref Nl, .ref Nf, .ref Nb])), (Nl, .inl (g 1, 3, .inr (.inr (.inr (.inr (rf3 L0 M1 M2)))))), (Nb, .inl (g 0, 12, .inl F_11)), (L0l, .inl (g 2, 3, .inr (.inr (.inr (.inr (rf3 L0a L0b L0d)))))), (L0a, .inr (1, [.int z_74, .int z_75, .int z_76, .int (fa0 3), .int z_77, .int z_78, .int z_79])), (L0b, .inr (1, [.int z_167, .int z_168, .int z_169, .int (fb0 3), .int z_170, .int z_171, .int z_172])), (L0d, .inr (1, [.int z_173, .int z_174, .int z_175, .int (fd0 3), .int z_176, .int z_177, .int z_178])), (L0, .inr (2, [.int (nI d0), .int (fk0 1), .int (fk0 2), .int z_81, .int z_82, .int z_83, .ref L0c, .ref L0u, .ref L0p, .ref L0l])), (L0c, .inl (g 0, 5, .inl fcx_265)), (L0u, .inl (g 0, 15, .inl fux_266)), (L0p, .inl (g 0, 15, .inl fpx_267))] H := ⟨hP2, hD2⟩
          have hS := hS2; clear hP2 hD2 hS2; have hP := hPD.1; have hD := hPD.2; clear hPD
          refine W.widen (k := 0) (n := 0) (Nat.le_of_ble_eq_true rfl) (Nat.le_of_ble_eq_true rfl) ?_
          have hPD9 : PD D A [(Nn, .inr (3, [.int (nI hp), .int (nI cc), .int zrs, .int zad, .int zpr, .int (nI t), .int z_80, .int zps, .ref Nl, .ref Nf, .ref Nb])), (Nl, .inl (g 1, 3, .inr (.inr (.inr (.inr (rf3 L0 M1 M2)))))), (Nb, .inl (g 0, 12, .inl F_11)), (L0, .inr (2, [.int (nI d0), .int (fk0 1), .int (fk0 2), .int z_81, .int z_82, .int z_83, .ref L0c, .ref L0u, .ref L0p, .ref L0l])), (L0c, .inl (g 0, 5, .inl fcx_265)), (L0u, .inl (g 0, 15, .inl fux_266)), (L0p, .inl (g 0, 15, .inl fpx_267)), (L0l, .inl (g 2, 3, .inr (.inr (.inr (.inr (rf3 L0a L0b L0d)))))), (L0a, .inr (1, [.int z_74, .int z_75, .int z_76, .int (fa0 3), .int z_77, .int z_78, .int z_79])), (L0b, .inr (1, [.int z_167, .int z_168, .int z_169, .int (fb0 3), .int z_170, .int z_171, .int z_172])), (L0d, .inr (1, [.int z_173, .int z_174, .int z_175, .int (fd0 3), .int z_176, .int z_177, .int z_178]))] H := ⟨hP.sub [0, 1, 2, 7, 8, 9, 10, 3, 4, 5, 6] rfl, hD.sub [0, 1, 2, 7, 8, 9, 10, 3, 4, 5, 6] (by decide) rfl⟩
          have hP9 := hPD9.1; have hD9 := hPD9.2
          subst hQ
          refine W.widen (k := 0) (n := 0) (Nat.le_of_ble_eq_true rfl) (Nat.le_of_ble_eq_true rfl) ?_
          exact W.vret hx hb hr (fun tS htS _ => ⟨⟨_, rfl, ⟨z_80, F_11, (lf [0, 0, 0, z_81, z_82, z_83]), fcx_265, fux_266, fpx_267, (lf [z_74, z_75, z_76, 0, z_77, z_78, z_79]), (lf [z_167, z_168, z_169, 0, z_170, z_171, z_172]), (lf [z_173, z_174, z_175, 0, z_176, z_177, z_178]), rfl, (hz_82), (hf_268)⟩, by rw [htS]; exact hP9, hD9⟩, hS.F htS⟩) hS.2.2 dX3_arriveOver_135
        · skip
          have cn_269 : i_73 < cc := Nat.lt_of_not_le (fun q9 => cb_262 ((nI_leI (show cc < 2 ^ 31 by omega) (show i_73 < 2 ^ 31 by omega)).mpr q9))
          refine lv_aload_n hx hb dX3_arriveOver_57 rfl (lv_at hl 2 rfl) ?_
          refine va_get (D := D) (ci := 2) (v := .ref L0u) (C := RX2) (T := TX2) (N := 10) hx hb hts iX2 hown hK hP 3 rfl rfl 7 (by decide) f125 (fun _ h9 => h9) rfl dX3_arriveOver_58 ?_
          refine lv_iload_n hx hb dX3_arriveOver_61 rfl (lv_at hl 1 rfl) ?_
          refine lv_iconst (v := 3) hx hb dX3_arriveOver_62 (by decide) ?_
          refine lv_imul hx hb dX3_arriveOver_63 ?_
          refine lv_eqi (y := (nI (((t) % 5) * 3))) (pk_mul ((t) % 5) (3)) ?_
          refine lv_iload hx hb dX3_arriveOver_64 (lv_at hl 0 rfl) ?_
          refine lv_iadd hx hb dX3_arriveOver_66 ?_
          refine lv_eqi (y := (nI (((t) % 5) * 3 + i_73))) (nI_add (((t) % 5) * 3) (i_73)) ?_
          refine va_iald hx hb hK hP 5 0 rfl rfl (vp_in_nI (show ((t) % 5) * 3 + i_73 < 15 by omega) (by decide)) dX3_arriveOver_67 ?_
          refine lv_eqi (y := (F_84 (((t) % 5) * 3 + i_73))) (congrArg F_84 (nI_clamp (show ((t) % 5) * 3 + i_73 < 2 ^ 31 by omega))) ?_
          refine lv_topi (fun y_270 _ => ?_)
          refine lv_istore (lv' := [(6, .int y_270), (5, .int (nI i_73)), (3, .int (nI ((t) % 5))), (2, .ref L0), (0, .ref Nn)]) hx hb dX3_arriveOver_68 hl (by decide) rfl (fun ls hl => ?_)
          refine lv_iload hx hb dX3_arriveOver_70 (lv_at hl 0 rfl) ?_
          refine lv_iconst (v := (-1)) hx hb dX3_arriveOver_72 (by decide) ?_
          have join_307 : ∀ (z_280 : Int32) (z_281 : Int32) (z_282 : Int32) (z_283 : Int32) (z_284 : Int32) (z_285 : Int32) (z_286 : Int32) (z_287 : Int32) (z_288 : Int32) (z_289 : Int32) (z_290 : Int32) (z_291 : Int32) (z_292 : Int32) (z_293 : Int32) (z_294 : Int32) (z_295 : Int32) (z_296 : Int32) (z_297 : Int32) (H : Heap) (locs : List Loc) (ls : Array Slot), va_P D vwCl [(Nn, .inr (3, [.int (nI hp), .int (nI cc), .int zrs, .int zad, .int zpr, .int (nI t), .int z_80, .int zps, .ref Nl, .ref Nf, .ref Nb])), (Nl, .inl (g 1, 3, .inr (.inr (.inr (.inr (rf3 L0 M1 M2)))))), (Nb, .inl (g 0, 12, .inl F_11)), (L0, .inr (2, [.int (nI d0), .int (fk0 1), .int (fk0 2), .int z_81, .int z_82, .int z_83, .ref L0c, .ref L0u, .ref L0p, .ref L0l])), (L0c, .inl (g 0, 5, .inl fc0)), (L0u, .inl (g 0, 15, .inl F_84)), (L0p, .inl (g 0, 15, .inl fp0)), (L0l, .inl (g 2, 3, .inr (.inr (.inr (.inr (rf3 L0a L0b L0d)))))), (L0a, .inr (1, [.int z_280, .int z_281, .int z_282, .int (fa0 3), .int z_283, .int z_284, .int z_285])), (L0b, .inr (1, [.int z_286, .int z_287, .int z_288, .int (fb0 3), .int z_289, .int z_290, .int z_291])), (L0d, .inr (1, [.int z_292, .int z_293, .int z_294, .int (fd0 3), .int z_295, .int z_296, .int z_297]))] H → va_D A [(Nn, .inr (3, [.int (nI hp), .int (nI cc), .int zrs, .int zad, .int zpr, .int (nI t), .int z_80, .int zps, .ref Nl, .ref Nf, .ref Nb])), (Nl, .inl (g 1, 3, .inr (.inr (.inr (.inr (rf3 L0 M1 M2)))))), (Nb, .inl (g 0, 12, .inl F_11)), (L0, .inr (2, [.int (nI d0), .int (fk0 1), .int (fk0 2), .int z_81, .int z_82, .int z_83, .ref L0c, .ref L0u, .ref L0p, .ref L0l])), (L0c, .inl (g 0, 5, .inl fc0)), (L0u, .inl (g 0, 15, .inl F_84)), (L0p, .inl (g 0, 15, .inl fp0)), (L0l, .inl (g 2, 3, .inr (.inr (.inr (.inr (rf3 L0a L0b L0d)))))), (L0a, .inr (1, [.int z_280, .int z_281, .int z_282, .int (fa0 3), .int z_283, .int z_284, .int z_285])), (L0b, .inr (1, [.int z_286, .int z_287, .int z_288, .int (fb0 3), .int z_289, .int z_290, .int z_291])), (L0d, .inr (1, [.int z_292, .int z_293, .int z_294, .int (fd0 3), .int z_295, .int z_296, .int z_297]))] → va_S A s.heap H locs → lv_has ls 9 [(5, .int (nI i_73)), (3, .int (nI ((t) % 5))), (2, .ref L0), (0, .ref Nn)] → W p l e (headSpec wsX3_arriveOver ({ frames := 2, cells := 0, slots := 0, locals := 42 })).room s m ([.ref Nn, .int 0] : List Value).toArray below meth c H locs 0 0 Q (F0 m 88 ls []) := by
            clear hP hD hS hl
            intro z_280 z_281 z_282 z_283 z_284 z_285 z_286 z_287 z_288 z_289 z_290 z_291 z_292 z_293 z_294 z_295 z_296 z_297  H locs ls hP hD hS hl
            refine lv_aload_n hx hb dX3_arriveOver_88 rfl (lv_at hl 2 rfl) ?_
            refine va_get (D := D) (ci := 2) (v := .ref L0p) (C := RX2) (T := TX2) (N := 10) hx hb hts iX2 hown hK hP 3 rfl rfl 8 (by decide) f137 (fun _ h9 => h9) rfl dX3_arriveOver_89 ?_
            refine lv_iload_n hx hb dX3_arriveOver_92 rfl (lv_at hl 1 rfl) ?_
            refine lv_iconst (v := 3) hx hb dX3_arriveOver_93 (by decide) ?_
            refine lv_imul hx hb dX3_arriveOver_94 ?_
            refine lv_eqi (y := (nI (((t) % 5) * 3))) (pk_mul ((t) % 5) (3)) ?_
            refine lv_iload hx hb dX3_arriveOver_95 (lv_at hl 0 rfl) ?_
            refine lv_iadd hx hb dX3_arriveOver_97 ?_
            refine lv_eqi (y := (nI (((t) % 5) * 3 + i_73))) (nI_add (((t) % 5) * 3) (i_73)) ?_
            refine va_iald hx hb hK hP 6 0 rfl rfl (vp_in_nI (show ((t) % 5) * 3 + i_73 < 15 by omega) (by decide)) dX3_arriveOver_98 ?_
            refine lv_eqi (y := (fp0 (((t) % 5) * 3 + i_73))) (congrArg fp0 (nI_clamp (show ((t) % 5) * 3 + i_73 < 2 ^ 31 by omega))) ?_
            refine lv_topi (fun y_308 _ => ?_)
            refine lv_istore (lv' := [(7, .int y_308), (5, .int (nI i_73)), (3, .int (nI ((t) % 5))), (2, .ref L0), (0, .ref Nn)]) hx hb dX3_arriveOver_99 hl (by decide) rfl (fun ls hl => ?_)
            refine lv_iconst (v := 0) hx hb dX3_arriveOver_101 (by decide) ?_
            refine lv_istore (lv' := [(8, .int 0), (7, .int y_308), (5, .int (nI i_73)), (3, .int (nI ((t) % 5))), (2, .ref L0), (0, .ref Nn)]) hx hb dX3_arriveOver_102 hl (by decide) rfl (fun ls hl => ?_)
            have loop_333 : ∀ (Nloop_333 : Nat) (i_315 : Int32) (z_316 : Int32) (z_317 : Int32) (z_318 : Int32) (z_319 : Int32) (F_320 : Nat → Int32) (hz_318 : okc z_318) (hmloop_333 : (y_308.toInt - i_315.toInt).toNat < Nloop_333) (H : Heap) (locs : List Loc) (ls : Array Slot), va_P D vwCl [(Nn, .inr (3, [.int (nI hp), .int (nI cc), .int zrs, .int zad, .int zpr, .int (nI t), .int z_316, .int zps, .ref Nl, .ref Nf, .ref Nb])), (Nl, .inl (g 1, 3, .inr (.inr (.inr (.inr (rf3 L0 M1 M2)))))), (Nb, .inl (g 0, 12, .inl F_11)), (L0, .inr (2, [.int (nI d0), .int (fk0 1), .int (fk0 2), .int z_317, .int z_318, .int z_319, .ref L0c, .ref L0u, .ref L0p, .ref L0l])), (L0c, .inl (g 0, 5, .inl fc0)), (L0u, .inl (g 0, 15, .inl F_320)), (L0p, .inl (g 0, 15, .inl fp0)), (L0l, .inl (g 2, 3, .inr (.inr (.inr (.inr (rf3 L0a L0b L0d)))))), (L0a, .inr (1, [.int z_280, .int z_281, .int z_282, .int (fa0 3), .int z_283, .int z_284, .int z_285])), (L0b, .inr (1, [.int z_286, .int z_287, .int z_288, .int (fb0 3), .int z_289, .int z_290, .int z_291])), (L0d, .inr (1, [.int z_292, .int z_293, .int z_294, .int (fd0 3), .int z_295, .int z_296, .int z_297]))] H → va_D A [(Nn, .inr (3, [.int (nI hp), .int (nI cc), .int zrs, .int zad, .int zpr, .int (nI t), .int z_316, .int zps, .ref Nl, .ref Nf, .ref Nb])), (Nl, .inl (g 1, 3, .inr (.inr (.inr (.inr (rf3 L0 M1 M2)))))), (Nb, .inl (g 0, 12, .inl F_11)), (L0, .inr (2, [.int (nI d0), .int (fk0 1), .int (fk0 2), .int z_317, .int z_318, .int z_319, .ref L0c, .ref L0u, .ref L0p, .ref L0l])), (L0c, .inl (g 0, 5, .inl fc0)), (L0u, .inl (g 0, 15, .inl F_320)), (L0p, .inl (g 0, 15, .inl fp0)), (L0l, .inl (g 2, 3, .inr (.inr (.inr (.inr (rf3 L0a L0b L0d)))))), (L0a, .inr (1, [.int z_280, .int z_281, .int z_282, .int (fa0 3), .int z_283, .int z_284, .int z_285])), (L0b, .inr (1, [.int z_286, .int z_287, .int z_288, .int (fb0 3), .int z_289, .int z_290, .int z_291])), (L0d, .inr (1, [.int z_292, .int z_293, .int z_294, .int (fd0 3), .int z_295, .int z_296, .int z_297]))] → va_S A s.heap H locs → lv_has ls 9 [(8, .int i_315), (7, .int y_308), (5, .int (nI i_73)), (3, .int (nI ((t) % 5))), (2, .ref L0), (0, .ref Nn)] → W p l e (headSpec wsX3_arriveOver ({ frames := 2, cells := 0, slots := 0, locals := 42 })).room s m ([.ref Nn, .int 0] : List Value).toArray below meth c H locs 0 0 Q (F0 m 104 ls []) := by
              clear hP hD hS hl
              intro Nloop_333
              induction Nloop_333 with
              | zero => intro i_315 z_316 z_317 z_318 z_319 F_320 hz_318 hm9; exact absurd hm9 (Nat.not_lt_zero _)
              | succ Nloop_333 loop_333_ih =>
                intro i_315 z_316 z_317 z_318 z_319 F_320 hz_318 hmloop_333 H locs ls hP hD hS hl
                refine lv_iload hx hb dX3_arriveOver_104 (lv_at hl 0 rfl) ?_
                refine lv_iload hx hb dX3_arriveOver_106 (lv_at hl 1 rfl) ?_
                refine lv_icmp_ge (tgt := 124) hx hb dX3_arriveOver_108 (by decide) (fun cb_334 => ?_) (fun cb_334 => ?_)
                · skip
                  refine lv_iinc (v := (nI (i_73 + 1))) (lv' := [(5, .int (nI (i_73 + 1))), (8, .int i_315), (7, .int y_308), (3, .int (nI ((t) % 5))), (2, .ref L0), (0, .ref Nn)]) hx hb dX3_arriveOver_124 hl (k := 2) rfl (nI_1 (i_73)) (by decide) rfl (fun ls hl => ?_)
                  refine lv_goto (tgt := 48) hx hb dX3_arriveOver_127 (by decide) ?_
                  exact loop_261_ih (i_73 + 1) z_280 z_281 z_282 z_283 z_284 z_285 z_316 z_317 z_318 z_319 F_320 z_286 z_287 z_288 z_289 z_290 z_291 z_292 z_293 z_294 z_295 z_296 z_297 (hz_318) (show (i_73 + 1) ≤ cc by omega) (show cc - (i_73 + 1) < Nloop_261 by omega) _ _ _ hP hD hS (lv_sub hl [0, 3, 4, 5] rfl)
                · skip
                  refine lv_aload_n hx hb dX3_arriveOver_111 rfl (lv_at hl 5 rfl) ?_
                  refine lv_aload_n hx hb dX3_arriveOver_112 rfl (lv_at hl 4 rfl) ?_
                  refine lv_iload hx hb dX3_arriveOver_113 (lv_at hl 2 rfl) ?_
                  refine ky_Vv (As := [.ref L0, .int (nI i_73)]) (rest := []) ⟨hx, hb, hml, hown, hts⟩ ⟨hK, hN⟩ hZ hP hD hS hA [0, 3, 5, 7, 8, 9, 10] [1, 2, 4, 6] (wc := [(Nn, .inr (3, [.int (nI hp), .int (nI cc), .int zrs, .int zad, .int zpr, .int (nI t), .int z_316, .int zps, .ref Nl, .ref Nf, .ref Nb])), (L0, .inr (2, [.int (nI d0), .int (fk0 1), .int (fk0 2), .int z_317, .int z_318, .int z_319, .ref L0c, .ref L0u, .ref L0p, .ref L0l])), (L0u, .inl (g 0, 15, .inl F_320)), (L0l, .inl (g 2, 3, .inr (.inr (.inr (.inr (rf3 L0a L0b L0d)))))), (L0a, .inr (1, [.int z_280, .int z_281, .int z_282, .int (fa0 3), .int z_283, .int z_284, .int z_285])), (L0b, .inr (1, [.int z_286, .int z_287, .int z_288, .int (fb0 3), .int z_289, .int z_290, .int z_291])), (L0d, .inr (1, [.int z_292, .int z_293, .int z_294, .int (fd0 3), .int z_295, .int z_296, .int z_297]))]) (wr := [(Nl, .inl (g 1, 3, .inr (.inr (.inr (.inr (rf3 L0 M1 M2)))))), (Nb, .inl (g 0, 12, .inl F_11)), (L0c, .inl (g 0, 5, .inl fc0)), (L0p, .inl (g 0, 15, .inl fp0))]) rfl rfl rfl rfl (by decide) (k_X3_sendUpdate l D g H.size Nn L0 i_73 hp cc zrs zad zpr t z_316 zps Nl Nf Nb d0 fk0 (lf [0, 0, 0, z_317, z_318, z_319]) L0c L0u L0p L0l F_320 L0a L0b L0d (lf [z_280, z_281, z_282, fa0 3, z_283, z_284, z_285]) (lf [z_286, z_287, z_288, fb0 3, z_289, z_290, z_291]) (lf [z_292, z_293, z_294, fd0 3, z_295, z_296, z_297]) (show i_73 < 3 by omega) (show t < 2 ^ 30 by omega) (show d0 < 5 by omega) (hz_318)) (cwV 2 hts gX3_arriveOver_X3_sendUpdate rfl rfl rfl (by decide +kernel) ⟨(Nat.le_of_ble_eq_true rfl), (Nat.le_of_ble_eq_true rfl)⟩) 0 3 rfl rfl rfl rfl hl.1 rfl (Nat.le_of_ble_eq_true rfl) dX3_arriveOver_115 ⟨(Nat.le_of_ble_eq_true rfl), (Nat.le_of_ble_eq_true rfl)⟩ (fun u H locs hw hP2 hD2 hS2 => ?_)
                  clear hP hD hS
                  obtain ⟨zlox_336, fv0x_337, fu0x_338, rfl, hf_339⟩ := hw
                  have hPD : PD D A [(Nl, .inl (g 1, 3, .inr (.inr (.inr (.inr (rf3 L0 M1 M2)))))), (Nb, .inl (g 0, 12, .inl F_11)), (L0c, .inl (g 0, 5, .inl fc0)), (L0p, .inl (g 0, 15, .inl fp0)), (Nn, .inr (3, [.int (nI hp), .int (nI cc), .int zrs, .int zad, .int zpr, .int (nI t), .int zlox_336, .int zps, .ref Nl, .ref Nf, .ref Nb])), (L0, .inr (2, [.int (nI d0), .int (fk0 1), .int (fk0 2), .int (fv0x_337 3), .int (fv0x_337 4), .int (fv0x_337 5), .ref L0c, .ref L0u, .ref L0p, .ref L0l])), (L0u, .inl (g 0, 15, .inl fu0x_338)), (L0l, .inl (g 2, 3, .inr (.inr (.inr (.inr (rf3 L0a L0b L0d)))))), (L0a, .inr (1, [.int z_280, .int z_281, .int z_282, .int (fa0 3), .int z_283, .int z_284, .int z_285])), (L0b, .inr (1, [.int z_286, .int z_287, .int z_288, .int (fb0 3), .int z_289, .int z_290, .int z_291])), (L0d, .inr (1, [.int z_292, .int z_293, .int z_294, .int (fd0 3), .int z_295, .int z_296, .int z_297]))] H := ⟨hP2, hD2⟩
                  have hS := hS2; clear hP2 hD2 hS2; have hP := hPD.1; have hD := hPD.2; clear hPD
                  refine W.widen (k := 0) (n := 0) (Nat.le_of_ble_eq_true rfl) (Nat.le_of_ble_eq_true rfl) ?_
                  refine lv_iinc (v := (i_315 + 1)) (lv' := [(8, .int (i_315 + 1)), (7, .int y_308), (5, .int (nI i_73)), (3, .int (nI ((t) % 5))), (2, .ref L0), (0, .ref Nn)]) hx hb dX3_arriveOver_118 hl (k := 0) rfl (rfl) (by decide) rfl (fun ls hl => ?_)
                  refine lv_goto (tgt := 104) hx hb dX3_arriveOver_121 (by decide) ?_
                  exact loop_333_ih (i_315 + 1) zlox_336 (fv0x_337 3) (fv0x_337 4) (fv0x_337 5) fu0x_338 (hf_339) (Nat.lt_of_lt_of_le (ms_lt (Int32.not_le.mp cb_334)) (Nat.le_of_lt_succ hmloop_333)) _ _ _ (hP.sub [4, 0, 1, 5, 2, 6, 3, 7, 8, 9, 10] rfl) (hD.sub [4, 0, 1, 5, 2, 6, 3, 7, 8, 9, 10] (by decide) rfl) hS hl
            exact loop_333 _ 0 z_80 z_81 z_82 z_83 F_84 (hz_82) (Nat.lt_succ_self _) _ _ _ hP hD hS hl
          refine lv_icmp_eq (tgt := 88) hx hb dX3_arriveOver_73 (by decide) (fun cb_340 => ?_) (fun cb_340 => ?_)
          · skip
            have hPq_341 := hP; have hDq_341 := hD; have hSq_341 := hS; have hlq_341 := hl; clear hP hD hS hl
            subst cb_340
            have hP := hPq_341; have hD := hDq_341; have hS := hSq_341; have hl := hlq_341; clear hPq_341 hDq_341 hSq_341 hlq_341
            exact join_307 z_74 z_75 z_76 z_77 z_78 z_79 z_167 z_168 z_169 z_170 z_171 z_172 z_173 z_174 z_175 z_176 z_177 z_178 _ _ _ hP hD hS (lv_sub hl [1, 2, 3, 4] rfl)
          · skip
            refine lv_aload_n hx hb dX3_arriveOver_76 rfl (lv_at hl 3 rfl) ?_
            refine va_get (D := D) (ci := 2) (v := .ref L0l) (C := RX2) (T := TX2) (N := 10) hx hb hts iX2 hown hK hP 3 rfl rfl 9 (by decide) f128 (fun _ h9 => h9) rfl dX3_arriveOver_77 ?_
            refine lv_iload hx hb dX3_arriveOver_80 (lv_at hl 1 rfl) ?_
            have hPq_342 := hP; have hDq_342 := hD; have hSq_342 := hS; have hlq_342 := hl; clear hP hD hS hl
            rcases (show i_73 = 0 ∨ i_73 = 1 ∨ i_73 = 2 by omega) with rfl | rfl | rfl
            · skip
              have hP := hPq_342; have hD := hDq_342; have hS := hSq_342; have hl := hlq_342; clear hPq_342 hDq_342 hSq_342 hlq_342
              refine va_aldq (C := "HopCredits$Lane") hx hb hK hP 7 2 rfl rfl (by unfold vp_in; decide) dX3_arriveOver_82 ?_
              refine lv_eqv (v2 := .ref L0a) rfl ?_
              refine lv_iload hx hb dX3_arriveOver_83 (lv_at hl 0 rfl) ?_
              refine ky_Vv (As := [.int y_270]) (rest := []) ⟨hx, hb, hml, hown, hts⟩ ⟨hK, hN⟩ hZ hP hD hS hA [8] [0, 1, 2, 3, 4, 5, 6, 7, 9, 10] (wc := [(L0a, .inr (1, [.int z_74, .int z_75, .int z_76, .int (fa0 3), .int z_77, .int z_78, .int z_79]))]) (wr := [(Nn, .inr (3, [.int (nI hp), .int (nI cc), .int zrs, .int zad, .int zpr, .int (nI t), .int z_80, .int zps, .ref Nl, .ref Nf, .ref Nb])), (Nl, .inl (g 1, 3, .inr (.inr (.inr (.inr (rf3 L0 M1 M2)))))), (Nb, .inl (g 0, 12, .inl F_11)), (L0, .inr (2, [.int (nI d0), .int (fk0 1), .int (fk0 2), .int z_81, .int z_82, .int z_83, .ref L0c, .ref L0u, .ref L0p, .ref L0l])), (L0c, .inl (g 0, 5, .inl fc0)), (L0u, .inl (g 0, 15, .inl F_84)), (L0p, .inl (g 0, 15, .inl fp0)), (L0l, .inl (g 2, 3, .inr (.inr (.inr (.inr (rf3 L0a L0b L0d)))))), (L0b, .inr (1, [.int z_167, .int z_168, .int z_169, .int (fb0 3), .int z_170, .int z_171, .int z_172])), (L0d, .inr (1, [.int z_173, .int z_174, .int z_175, .int (fd0 3), .int z_176, .int z_177, .int z_178]))]) rfl rfl rfl rfl (by decide) (k_X1_hear l D g H.size L0a y_270 (lf [z_74, z_75, z_76, fa0 3, z_77, z_78, z_79])) (cwV 1 hts gX3_arriveOver_X1_hear rfl rfl rfl (by decide +kernel) ⟨(Nat.le_of_ble_eq_true rfl), (Nat.le_of_ble_eq_true rfl)⟩) 8 1 rfl rfl rfl rfl hl.1 rfl (Nat.le_of_ble_eq_true rfl) dX3_arriveOver_85 ⟨(Nat.le_of_ble_eq_true rfl), (Nat.le_of_ble_eq_true rfl)⟩ (fun u H locs hw hP2 hD2 hS2 => ?_)
              clear hP hD hS
              obtain ⟨fwx_344, rfl⟩ := hw
              have hPD : PD D A [(Nn, .inr (3, [.int (nI hp), .int (nI cc), .int zrs, .int zad, .int zpr, .int (nI t), .int z_80, .int zps, .ref Nl, .ref Nf, .ref Nb])), (Nl, .inl (g 1, 3, .inr (.inr (.inr (.inr (rf3 L0 M1 M2)))))), (Nb, .inl (g 0, 12, .inl F_11)), (L0, .inr (2, [.int (nI d0), .int (fk0 1), .int (fk0 2), .int z_81, .int z_82, .int z_83, .ref L0c, .ref L0u, .ref L0p, .ref L0l])), (L0c, .inl (g 0, 5, .inl fc0)), (L0u, .inl (g 0, 15, .inl F_84)), (L0p, .inl (g 0, 15, .inl fp0)), (L0l, .inl (g 2, 3, .inr (.inr (.inr (.inr (rf3 L0a L0b L0d)))))), (L0b, .inr (1, [.int z_167, .int z_168, .int z_169, .int (fb0 3), .int z_170, .int z_171, .int z_172])), (L0d, .inr (1, [.int z_173, .int z_174, .int z_175, .int (fd0 3), .int z_176, .int z_177, .int z_178])), (L0a, .inr (1, [.int (fwx_344 0), .int (fwx_344 1), .int (fwx_344 2), .int (fa0 3), .int (fwx_344 4), .int (fwx_344 5), .int (fwx_344 6)]))] H := ⟨hP2, hD2⟩
              have hS := hS2; clear hP2 hD2 hS2; have hP := hPD.1; have hD := hPD.2; clear hPD
              refine W.widen (k := 0) (n := 0) (Nat.le_of_ble_eq_true rfl) (Nat.le_of_ble_eq_true rfl) ?_
              exact join_307 (fwx_344 0) (fwx_344 1) (fwx_344 2) (fwx_344 4) (fwx_344 5) (fwx_344 6) z_167 z_168 z_169 z_170 z_171 z_172 z_173 z_174 z_175 z_176 z_177 z_178 _ _ _ (hP.sub [0, 1, 2, 3, 4, 5, 6, 7, 10, 8, 9] rfl) (hD.sub [0, 1, 2, 3, 4, 5, 6, 7, 10, 8, 9] (by decide) rfl) hS (lv_sub hl [1, 2, 3, 4] rfl)
            · skip
              have hP := hPq_342; have hD := hDq_342; have hS := hSq_342; have hl := hlq_342; clear hPq_342 hDq_342 hSq_342 hlq_342
              refine va_aldq (C := "HopCredits$Lane") hx hb hK hP 7 2 rfl rfl (by unfold vp_in; decide) dX3_arriveOver_82 ?_
              refine lv_eqv (v2 := .ref L0b) rfl ?_
              refine lv_iload hx hb dX3_arriveOver_83 (lv_at hl 0 rfl) ?_
              refine ky_Vv (As := [.int y_270]) (rest := []) ⟨hx, hb, hml, hown, hts⟩ ⟨hK, hN⟩ hZ hP hD hS hA [9] [0, 1, 2, 3, 4, 5, 6, 7, 8, 10] (wc := [(L0b, .inr (1, [.int z_167, .int z_168, .int z_169, .int (fb0 3), .int z_170, .int z_171, .int z_172]))]) (wr := [(Nn, .inr (3, [.int (nI hp), .int (nI cc), .int zrs, .int zad, .int zpr, .int (nI t), .int z_80, .int zps, .ref Nl, .ref Nf, .ref Nb])), (Nl, .inl (g 1, 3, .inr (.inr (.inr (.inr (rf3 L0 M1 M2)))))), (Nb, .inl (g 0, 12, .inl F_11)), (L0, .inr (2, [.int (nI d0), .int (fk0 1), .int (fk0 2), .int z_81, .int z_82, .int z_83, .ref L0c, .ref L0u, .ref L0p, .ref L0l])), (L0c, .inl (g 0, 5, .inl fc0)), (L0u, .inl (g 0, 15, .inl F_84)), (L0p, .inl (g 0, 15, .inl fp0)), (L0l, .inl (g 2, 3, .inr (.inr (.inr (.inr (rf3 L0a L0b L0d)))))), (L0a, .inr (1, [.int z_74, .int z_75, .int z_76, .int (fa0 3), .int z_77, .int z_78, .int z_79])), (L0d, .inr (1, [.int z_173, .int z_174, .int z_175, .int (fd0 3), .int z_176, .int z_177, .int z_178]))]) rfl rfl rfl rfl (by decide) (k_X1_hear l D g H.size L0b y_270 (lf [z_167, z_168, z_169, fb0 3, z_170, z_171, z_172])) (cwV 1 hts gX3_arriveOver_X1_hear rfl rfl rfl (by decide +kernel) ⟨(Nat.le_of_ble_eq_true rfl), (Nat.le_of_ble_eq_true rfl)⟩) 9 1 rfl rfl rfl rfl hl.1 rfl (Nat.le_of_ble_eq_true rfl) dX3_arriveOver_85 ⟨(Nat.le_of_ble_eq_true rfl), (Nat.le_of_ble_eq_true rfl)⟩ (fun u H locs hw hP2 hD2 hS2 => ?_)
              clear hP hD hS
              obtain ⟨fwx_346, rfl⟩ := hw
              have hPD : PD D A [(Nn, .inr (3, [.int (nI hp), .int (nI cc), .int zrs, .int zad, .int zpr, .int (nI t), .int z_80, .int zps, .ref Nl, .ref Nf, .ref Nb])), (Nl, .inl (g 1, 3, .inr (.inr (.inr (.inr (rf3 L0 M1 M2)))))), (Nb, .inl (g 0, 12, .inl F_11)), (L0, .inr (2, [.int (nI d0), .int (fk0 1), .int (fk0 2), .int z_81, .int z_82, .int z_83, .ref L0c, .ref L0u, .ref L0p, .ref L0l])), (L0c, .inl (g 0, 5, .inl fc0)), (L0u, .inl (g 0, 15, .inl F_84)), (L0p, .inl (g 0, 15, .inl fp0)), (L0l, .inl (g 2, 3, .inr (.inr (.inr (.inr (rf3 L0a L0b L0d)))))), (L0a, .inr (1, [.int z_74, .int z_75, .int z_76, .int (fa0 3), .int z_77, .int z_78, .int z_79])), (L0d, .inr (1, [.int z_173, .int z_174, .int z_175, .int (fd0 3), .int z_176, .int z_177, .int z_178])), (L0b, .inr (1, [.int (fwx_346 0), .int (fwx_346 1), .int (fwx_346 2), .int (fb0 3), .int (fwx_346 4), .int (fwx_346 5), .int (fwx_346 6)]))] H := ⟨hP2, hD2⟩
              have hS := hS2; clear hP2 hD2 hS2; have hP := hPD.1; have hD := hPD.2; clear hPD
              refine W.widen (k := 0) (n := 0) (Nat.le_of_ble_eq_true rfl) (Nat.le_of_ble_eq_true rfl) ?_
              exact join_307 z_74 z_75 z_76 z_77 z_78 z_79 (fwx_346 0) (fwx_346 1) (fwx_346 2) (fwx_346 4) (fwx_346 5) (fwx_346 6) z_173 z_174 z_175 z_176 z_177 z_178 _ _ _ (hP.sub [0, 1, 2, 3, 4, 5, 6, 7, 8, 10, 9] rfl) (hD.sub [0, 1, 2, 3, 4, 5, 6, 7, 8, 10, 9] (by decide) rfl) hS (lv_sub hl [1, 2, 3, 4] rfl)
            · skip
              have hP := hPq_342; have hD := hDq_342; have hS := hSq_342; have hl := hlq_342; clear hPq_342 hDq_342 hSq_342 hlq_342
              refine va_aldq (C := "HopCredits$Lane") hx hb hK hP 7 2 rfl rfl (by unfold vp_in; decide) dX3_arriveOver_82 ?_
              refine lv_eqv (v2 := .ref L0d) rfl ?_
              refine lv_iload hx hb dX3_arriveOver_83 (lv_at hl 0 rfl) ?_
              refine ky_Vv (As := [.int y_270]) (rest := []) ⟨hx, hb, hml, hown, hts⟩ ⟨hK, hN⟩ hZ hP hD hS hA [10] [0, 1, 2, 3, 4, 5, 6, 7, 8, 9] (wc := [(L0d, .inr (1, [.int z_173, .int z_174, .int z_175, .int (fd0 3), .int z_176, .int z_177, .int z_178]))]) (wr := [(Nn, .inr (3, [.int (nI hp), .int (nI cc), .int zrs, .int zad, .int zpr, .int (nI t), .int z_80, .int zps, .ref Nl, .ref Nf, .ref Nb])), (Nl, .inl (g 1, 3, .inr (.inr (.inr (.inr (rf3 L0 M1 M2)))))), (Nb, .inl (g 0, 12, .inl F_11)), (L0, .inr (2, [.int (nI d0), .int (fk0 1), .int (fk0 2), .int z_81, .int z_82, .int z_83, .ref L0c, .ref L0u, .ref L0p, .ref L0l])), (L0c, .inl (g 0, 5, .inl fc0)), (L0u, .inl (g 0, 15, .inl F_84)), (L0p, .inl (g 0, 15, .inl fp0)), (L0l, .inl (g 2, 3, .inr (.inr (.inr (.inr (rf3 L0a L0b L0d)))))), (L0a, .inr (1, [.int z_74, .int z_75, .int z_76, .int (fa0 3), .int z_77, .int z_78, .int z_79])), (L0b, .inr (1, [.int z_167, .int z_168, .int z_169, .int (fb0 3), .int z_170, .int z_171, .int z_172]))]) rfl rfl rfl rfl (by decide) (k_X1_hear l D g H.size L0d y_270 (lf [z_173, z_174, z_175, fd0 3, z_176, z_177, z_178])) (cwV 1 hts gX3_arriveOver_X1_hear rfl rfl rfl (by decide +kernel) ⟨(Nat.le_of_ble_eq_true rfl), (Nat.le_of_ble_eq_true rfl)⟩) 10 1 rfl rfl rfl rfl hl.1 rfl (Nat.le_of_ble_eq_true rfl) dX3_arriveOver_85 ⟨(Nat.le_of_ble_eq_true rfl), (Nat.le_of_ble_eq_true rfl)⟩ (fun u H locs hw hP2 hD2 hS2 => ?_)
              clear hP hD hS
              obtain ⟨fwx_348, rfl⟩ := hw
              have hPD : PD D A [(Nn, .inr (3, [.int (nI hp), .int (nI cc), .int zrs, .int zad, .int zpr, .int (nI t), .int z_80, .int zps, .ref Nl, .ref Nf, .ref Nb])), (Nl, .inl (g 1, 3, .inr (.inr (.inr (.inr (rf3 L0 M1 M2)))))), (Nb, .inl (g 0, 12, .inl F_11)), (L0, .inr (2, [.int (nI d0), .int (fk0 1), .int (fk0 2), .int z_81, .int z_82, .int z_83, .ref L0c, .ref L0u, .ref L0p, .ref L0l])), (L0c, .inl (g 0, 5, .inl fc0)), (L0u, .inl (g 0, 15, .inl F_84)), (L0p, .inl (g 0, 15, .inl fp0)), (L0l, .inl (g 2, 3, .inr (.inr (.inr (.inr (rf3 L0a L0b L0d)))))), (L0a, .inr (1, [.int z_74, .int z_75, .int z_76, .int (fa0 3), .int z_77, .int z_78, .int z_79])), (L0b, .inr (1, [.int z_167, .int z_168, .int z_169, .int (fb0 3), .int z_170, .int z_171, .int z_172])), (L0d, .inr (1, [.int (fwx_348 0), .int (fwx_348 1), .int (fwx_348 2), .int (fd0 3), .int (fwx_348 4), .int (fwx_348 5), .int (fwx_348 6)]))] H := ⟨hP2, hD2⟩
              have hS := hS2; clear hP2 hD2 hS2; have hP := hPD.1; have hD := hPD.2; clear hPD
              refine W.widen (k := 0) (n := 0) (Nat.le_of_ble_eq_true rfl) (Nat.le_of_ble_eq_true rfl) ?_
              exact join_307 z_74 z_75 z_76 z_77 z_78 z_79 z_167 z_168 z_169 z_170 z_171 z_172 (fwx_348 0) (fwx_348 1) (fwx_348 2) (fwx_348 4) (fwx_348 5) (fwx_348 6) _ _ _ hP hD hS (lv_sub hl [1, 2, 3, 4] rfl)
    exact loop_261 _ 0 (fa0 0) (fa0 1) (fa0 2) (fa0 4) (fa0 5) (fa0 6) zlo (fv0 3) (fv0 4) (fv0 5) fu0 (fb0 0) (fb0 1) (fb0 2) (fb0 4) (fb0 5) (fb0 6) (fd0 0) (fd0 1) (fd0 2) (fd0 4) (fd0 5) (fd0 6) (h4) (show 0 ≤ cc by omega) (Nat.lt_succ_self _) _ _ _ hP hD hS hl
  refine lv_icmp_eq (tgt := 45) hx hb dX3_arriveOver_25 (by decide) (fun cb_349 => ?_) (fun cb_349 => ?_)
  · skip
    have hPq_350 := hP; have hDq_350 := hD; have hSq_350 := hS; have hlq_350 := hl; clear hP hD hS hl
    subst cb_349
    have hP := hPq_350; have hD := hDq_350; have hS := hSq_350; have hl := hlq_350; clear hPq_350 hDq_350 hSq_350 hlq_350
    exact join_20 fbuf _ _ _ hP hD hS (lv_sub hl [1, 2, 3] rfl)
  · skip
    have hPq_353 := hP; have hDq_353 := hD; have hSq_353 := hS; have hlq_353 := hl; clear hP hD hS hl
    obtain ⟨j_351, hj_352, rfl⟩ := okc_j (hc_2) cb_349
    have hP := hPq_353; have hD := hDq_353; have hS := hSq_353; have hl := hlq_353; clear hPq_353 hDq_353 hSq_353 hlq_353
    refine lv_aload_n hx hb dX3_arriveOver_28 rfl (lv_at hl 3 rfl) ?_
    refine va_get (D := D) (ci := 3) (v := .ref Nb) (C := RX3) (T := TX3) (N := 11) hx hb hts iX3 hown hK hP 0 rfl rfl 10 (by decide) f23 (fun _ h9 => h9) rfl dX3_arriveOver_29 ?_
    refine lv_iload_n hx hb dX3_arriveOver_32 rfl (lv_at hl 4 rfl) ?_
    refine lv_iconst (v := 1) hx hb dX3_arriveOver_33 (by decide) ?_
    refine lv_iadd hx hb dX3_arriveOver_34 ?_
    refine lv_eqi (y := 1) (by decide) ?_
    refine lv_iconst (v := 3) hx hb dX3_arriveOver_35 (by decide) ?_
    refine lv_imul hx hb dX3_arriveOver_36 ?_
    refine lv_eqi (y := 3) (by decide) ?_
    refine lv_iload hx hb dX3_arriveOver_37 (lv_at hl 0 rfl) ?_
    refine lv_iadd hx hb dX3_arriveOver_39 ?_
    refine lv_eqi (y := (nI (3 + j_351))) (nI_add (3) (j_351)) ?_
    refine lv_dup2_11 hx hb dX3_arriveOver_40 rfl rfl ?_
    refine va_iald hx hb hK hP 2 0 rfl rfl (vp_in_nI (show 3 + j_351 < 12 by omega) (by decide)) dX3_arriveOver_41 ?_
    refine lv_eqi (y := (fbuf (3 + j_351))) (congrArg fbuf (nI_clamp (show 3 + j_351 < 2 ^ 31 by omega))) ?_
    refine lv_topi (fun y_354 _ => ?_)
    refine lv_iconst (v := 1) hx hb dX3_arriveOver_42 (by decide) ?_
    refine lv_iadd hx hb dX3_arriveOver_43 ?_
    refine lv_topi (fun y_355 _ => ?_)
    refine va_iast hx hb hK hP hD hS 2 0 rfl rfl (vp_in_nI (show 3 + j_351 < 12 by omega) (by decide)) dX3_arriveOver_44 (fun H locs hP2 hD2 hS2 => ?_)
    clear hP hD hS
    have hPD : PD D A [(Nn, .inr (3, [.int (nI hp), .int (nI cc), .int zrs, .int zad, .int zpr, .int (nI t), .int zlo, .int zps, .ref Nl, .ref Nf, .ref Nb])), (Nl, .inl (g 1, 3, .inr (.inr (.inr (.inr (rf3 L0 M1 M2)))))), (Nb, .inl (g 0, 12, .inl (upd fbuf (nI (3 + j_351)).toNatClampNeg y_355))), (L0, .inr (2, [.int (nI d0), .int (fk0 1), .int (fk0 2), .int (fv0 3), .int (fv0 4), .int (fv0 5), .ref L0c, .ref L0u, .ref L0p, .ref L0l])), (L0c, .inl (g 0, 5, .inl fc0)), (L0u, .inl (g 0, 15, .inl fu0)), (L0p, .inl (g 0, 15, .inl fp0)), (L0l, .inl (g 2, 3, .inr (.inr (.inr (.inr (rf3 L0a L0b L0d)))))), (L0a, .inr (1, [.int (fa0 0), .int (fa0 1), .int (fa0 2), .int (fa0 3), .int (fa0 4), .int (fa0 5), .int (fa0 6)])), (L0b, .inr (1, [.int (fb0 0), .int (fb0 1), .int (fb0 2), .int (fb0 3), .int (fb0 4), .int (fb0 5), .int (fb0 6)])), (L0d, .inr (1, [.int (fd0 0), .int (fd0 1), .int (fd0 2), .int (fd0 3), .int (fd0 4), .int (fd0 5), .int (fd0 6)]))] H := ⟨hP2, hD2⟩
    have hS := hS2; clear hP2 hD2 hS2; have hP := hPD.1; have hD := hPD.2; clear hPD
    rw [nI_clamp (show 3 + j_351 < 2 ^ 31 by omega)] at hP hD
    have hPD : PD D A [(Nn, .inr (3, [.int (nI hp), .int (nI cc), .int zrs, .int zad, .int zpr, .int (nI t), .int zlo, .int zps, .ref Nl, .ref Nf, .ref Nb])), (Nl, .inl (g 1, 3, .inr (.inr (.inr (.inr (rf3 L0 M1 M2)))))), (Nb, .inl (g 0, 12, .inl (upd fbuf (3 + j_351) y_355))), (L0, .inr (2, [.int (nI d0), .int (fk0 1), .int (fk0 2), .int (fv0 3), .int (fv0 4), .int (fv0 5), .ref L0c, .ref L0u, .ref L0p, .ref L0l])), (L0c, .inl (g 0, 5, .inl fc0)), (L0u, .inl (g 0, 15, .inl fu0)), (L0p, .inl (g 0, 15, .inl fp0)), (L0l, .inl (g 2, 3, .inr (.inr (.inr (.inr (rf3 L0a L0b L0d)))))), (L0a, .inr (1, [.int (fa0 0), .int (fa0 1), .int (fa0 2), .int (fa0 3), .int (fa0 4), .int (fa0 5), .int (fa0 6)])), (L0b, .inr (1, [.int (fb0 0), .int (fb0 1), .int (fb0 2), .int (fb0 3), .int (fb0 4), .int (fb0 5), .int (fb0 6)])), (L0d, .inr (1, [.int (fd0 0), .int (fd0 1), .int (fd0 2), .int (fd0 3), .int (fd0 4), .int (fd0 5), .int (fd0 6)]))] H := ⟨hP, hD⟩
    clear hP hD; have hP := hPD.1; have hD := hPD.2; clear hPD
    generalize upd fbuf (3 + j_351) y_355 = F_356 at hP hD
    exact join_20 F_356 _ _ _ hP hD hS (lv_sub hl [1, 2, 3] rfl)
