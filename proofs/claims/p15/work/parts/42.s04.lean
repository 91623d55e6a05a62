set_option maxHeartbeats 4000000 in
set_option maxRecDepth 100000 in
theorem k_X3_waitAt_1 (l : Launch) (D : va_G) (g : Nat → ClassId) (sz : Nat) (Nn : Nat) (hp : Nat) (cc : Nat) (zrs : Int32) (zad : Int32) (zpr : Int32) (t : Nat) (zlo : Int32) (zps : Int32) (Nl : Nat) (Nf : Nat) (Nb : Nat) (M0 : Nat) (L0 : Nat) (M2 : Nat) (fbuf : Nat → Int32) (d0 : Nat) (fk0 : Nat → Int32) (fv0 : Nat → Int32) (L0c : Nat) (L0u : Nat) (L0p : Nat) (L0l : Nat) (fp0 : Nat → Int32) (L0a : Nat) (L0b : Nat) (L0d : Nat) (fa0 : Nat → Int32) (fb0 : Nat → Int32) (fd0 : Nat → Int32) (h0 : 1 ≤ cc) (h1 : cc ≤ 3) (h2 : t < 2 ^ 30) (h3 : d0 < 5) (h4 : okc (fv0 4)) : Met l yX3_waitAt wsX3_waitAt ({ frames := 2, cells := 0, slots := 0, locals := 42 }) (va_Pc [.ref Nn, .int 1] (pre D g sz [(Nn, .inr (3, [.int (nI hp), .int (nI cc), .int zrs, .int zad, .int zpr, .int (nI t), .int zlo, .int zps, .ref Nl, .ref Nf, .ref Nb])), (Nl, .inl (g 1, 3, .inr (.inr (.inr (.inr (rf3 M0 L0 M2)))))), (Nb, .inl (g 0, 12, .inl fbuf)), (L0, .inr (2, [.int (nI d0), .int (fk0 1), .int (fk0 2), .int (fv0 3), .int (fv0 4), .int (fv0 5), .ref L0c, .ref L0u, .ref L0p, .ref L0l])), (L0p, .inl (g 0, 15, .inl fp0)), (L0l, .inl (g 2, 3, .inr (.inr (.inr (.inr (rf3 L0a L0b L0d)))))), (L0a, .inr (1, [.int (fa0 0), .int (fa0 1), .int (fa0 2), .int (fa0 3), .int (fa0 4), .int (fa0 5), .int (fa0 6)])), (L0b, .inr (1, [.int (fb0 0), .int (fb0 1), .int (fb0 2), .int (fb0 3), .int (fb0 4), .int (fb0 5), .int (fb0 6)])), (L0d, .inr (1, [.int (fd0 0), .int (fd0 1), .int (fd0 2), .int (fd0 3), .int (fd0 4), .int (fd0 5), .int (fd0 6)]))])) (va_Qv (fun (u : va_W) => ∃ (zpsx : Int32) (fp0x : Nat → Int32) (fa0x : Nat → Int32) (fb0x : Nat → Int32) (fd0x : Nat → Int32), u = [(Nn, .inr (3, [.int (nI hp), .int (nI cc), .int zrs, .int zad, .int zpr, .int (nI t), .int zlo, .int zpsx, .ref Nl, .ref Nf, .ref Nb])), (Nl, .inl (g 1, 3, .inr (.inr (.inr (.inr (rf3 M0 L0 M2)))))), (Nb, .inl (g 0, 12, .inl fbuf)), (L0, .inr (2, [.int (nI d0), .int (fk0 1), .int (fk0 2), .int (fv0 3), .int (fv0 4), .int (fv0 5), .ref L0c, .ref L0u, .ref L0p, .ref L0l])), (L0p, .inl (g 0, 15, .inl fp0x)), (L0l, .inl (g 2, 3, .inr (.inr (.inr (.inr (rf3 L0a L0b L0d)))))), (L0a, .inr (1, [.int (fa0x 0), .int (fa0x 1), .int (fa0x 2), .int (fa0 3), .int (fa0x 4), .int (fa0x 5), .int (fa0x 6)])), (L0b, .inr (1, [.int (fb0x 0), .int (fb0x 1), .int (fb0x 2), .int (fb0 3), .int (fb0x 4), .int (fb0x 5), .int (fb0x 6)])), (L0d, .inr (1, [.int (fd0x 0), .int (fd0x 1), .int (fd0x 2), .int (fd0 3), .int (fd0x 4), .int (fd0x 5), .int (fd0x 6)]))]) (wd D (va_A [(Nn, .inr (3, [.int (nI hp), .int (nI cc), .int zrs, .int zad, .int zpr, .int (nI t), .int zlo, .int zps, .ref Nl, .ref Nf, .ref Nb])), (Nl, .inl (g 1, 3, .inr (.inr (.inr (.inr (rf3 M0 L0 M2)))))), (Nb, .inl (g 0, 12, .inl fbuf)), (L0, .inr (2, [.int (nI d0), .int (fk0 1), .int (fk0 2), .int (fv0 3), .int (fv0 4), .int (fv0 5), .ref L0c, .ref L0u, .ref L0p, .ref L0l])), (L0p, .inl (g 0, 15, .inl fp0)), (L0l, .inl (g 2, 3, .inr (.inr (.inr (.inr (rf3 L0a L0b L0d)))))), (L0a, .inr (1, [.int (fa0 0), .int (fa0 1), .int (fa0 2), .int (fa0 3), .int (fa0 4), .int (fa0 5), .int (fa0 6)])), (L0b, .inr (1, [.int (fb0 0), .int (fb0 1), .int (fb0 2), .int (fb0 3), .int (fb0 4), .int (fb0 5), .int (fb0 6)])), (L0d, .inr (1, [.int (fd0 0), .int (fd0 1), .int (fd0 2), .int (fd0 3), .int (fd0 4), .int (fd0 5), .int (fd0 6)]))] sz)) (va_A [(Nn, .inr (3, [.int (nI hp), .int (nI cc), .int zrs, .int zad, .int zpr, .int (nI t), .int zlo, .int zps, .ref Nl, .ref Nf, .ref Nb])), (Nl, .inl (g 1, 3, .inr (.inr (.inr (.inr (rf3 M0 L0 M2)))))), (Nb, .inl (g 0, 12, .inl fbuf)), (L0, .inr (2, [.int (nI d0), .int (fk0 1), .int (fk0 2), .int (fv0 3), .int (fv0 4), .int (fv0 5), .ref L0c, .ref L0u, .ref L0p, .ref L0l])), (L0p, .inl (g 0, 15, .inl fp0)), (L0l, .inl (g 2, 3, .inr (.inr (.inr (.inr (rf3 L0a L0b L0d)))))), (L0a, .inr (1, [.int (fa0 0), .int (fa0 1), .int (fa0 2), .int (fa0 3), .int (fa0 4), .int (fa0 5), .int (fa0 6)])), (L0b, .inr (1, [.int (fb0 0), .int (fb0 1), .int (fb0 2), .int (fb0 3), .int (fb0 4), .int (fb0 5), .int (fb0 6)])), (L0d, .inr (1, [.int (fd0 0), .int (fd0 1), .int (fd0 2), .int (fd0 3), .int (fd0 4), .int (fd0 5), .int (fd0 6)]))] sz)) 0 0 (va_A [(Nn, .inr (3, [.int (nI hp), .int (nI cc), .int zrs, .int zad, .int zpr, .int (nI t), .int zlo, .int zps, .ref Nl, .ref Nf, .ref Nb])), (Nl, .inl (g 1, 3, .inr (.inr (.inr (.inr (rf3 M0 L0 M2)))))), (Nb, .inl (g 0, 12, .inl fbuf)), (L0, .inr (2, [.int (nI d0), .int (fk0 1), .int (fk0 2), .int (fv0 3), .int (fv0 4), .int (fv0 5), .ref L0c, .ref L0u, .ref L0p, .ref L0l])), (L0p, .inl (g 0, 15, .inl fp0)), (L0l, .inl (g 2, 3, .inr (.inr (.inr (.inr (rf3 L0a L0b L0d)))))), (L0a, .inr (1, [.int (fa0 0), .int (fa0 1), .int (fa0 2), .int (fa0 3), .int (fa0 4), .int (fa0 5), .int (fa0 6)])), (L0b, .inr (1, [.int (fb0 0), .int (fb0 1), .int (fb0 2), .int (fb0 3), .int (fb0 4), .int (fb0 5), .int (fb0 6)])), (L0d, .inr (1, [.int (fd0 0), .int (fd0 1), .int (fd0 2), .int (fd0 3), .int (fd0 4), .int (fd0 5), .int (fd0 6)]))] sz) := by
  refine Met.ofW (cc := cX3_waitAt) (maxL := 4) (ret := none) (by decide) rfl ?_
  intro p e s m args below meth c s₁ B hml hv
  obtain ⟨rfl, hsz, hP, ⟨hK, hN⟩, hD0, hZ⟩ := hv
  have hx := B.exec
  have hb := B.bytes
  have hr := B.returns
  have hts := atoms_spec (ws := wsX3_waitAt) B.pre
  have hown : s.vm.findClass RX3 = some m.cls := findClass_of_methodNamed B.named
  have hlocks := B.notSynchronized
  clear B
  subst hsz
  have hD := hD0.self (sz := s.heap.size)
  clear hD0
  generalize hAe : va_A [(Nn, .inr (3, [.int (nI hp), .int (nI cc), .int zrs, .int zad, .int zpr, .int (nI t), .int zlo, .int zps, .ref Nl, .ref Nf, .ref Nb])), (Nl, .inl (g 1, 3, .inr (.inr (.inr (.inr (rf3 M0 L0 M2)))))), (Nb, .inl (g 0, 12, .inl fbuf)), (L0, .inr (2, [.int (nI d0), .int (fk0 1), .int (fk0 2), .int (fv0 3), .int (fv0 4), .int (fv0 5), .ref L0c, .ref L0u, .ref L0p, .ref L0l])), (L0p, .inl (g 0, 15, .inl fp0)), (L0l, .inl (g 2, 3, .inr (.inr (.inr (.inr (rf3 L0a L0b L0d)))))), (L0a, .inr (1, [.int (fa0 0), .int (fa0 1), .int (fa0 2), .int (fa0 3), .int (fa0 4), .int (fa0 5), .int (fa0 6)])), (L0b, .inr (1, [.int (fb0 0), .int (fb0 1), .int (fb0 2), .int (fb0 3), .int (fb0 4), .int (fb0 5), .int (fb0 6)])), (L0d, .inr (1, [.int (fd0 0), .int (fd0 1), .int (fd0 2), .int (fd0 3), .int (fd0 4), .int (fd0 5), .int (fd0 6)]))] s.heap.size = A at hD hZ ⊢
  have hA : ∀ q : Nat, s.heap.size ≤ q → A q := fun q h => by rw [← hAe]; exact Or.inr h
  have hS : va_S A s.heap s.heap [] := va_S.rf
  have f11 := hts (.fieldLink RX3 11 "HopCredits$Net" "links" "[LHopCredits$Link;") (List.mem_of_getElem? (i := 2) rfl)
  have f128 := hts (.fieldLink RX3 128 "HopCredits$Link" "lanes" "[LHopCredits$Lane;") (List.mem_of_getElem? (i := 3) rfl)
  have f210 := hts (.fieldLink RX3 210 "HopCredits$Lane" "waited" "I") (List.mem_of_getElem? (i := 4) rfl)
  have f50 := hts (.fieldLink RX3 50 "HopCredits$Net" "probes" "I") (List.mem_of_getElem? (i := 5) rfl)
  have f62 := hts (.fieldLink RX3 62 "HopCredits$Net" "circuits" "I") (List.mem_of_getElem? (i := 1) rfl)
  have iX1 : ∀ w ∈ u_ws RX1 TX1 7, w ∈ wsX3_waitAt := fun w h => List.mem_cons_of_mem _ (List.mem_append_right _ (h))
  have iX2 : ∀ w ∈ u_ws RX2 TX2 10, w ∈ wsX3_waitAt := fun w h => List.mem_cons_of_mem _ (List.mem_append_left _ (List.mem_append_right _ (h)))
  have iX3 : ∀ w ∈ u_ws RX3 TX3 11, w ∈ wsX3_waitAt := fun w h => List.mem_cons_of_mem _ (List.mem_append_left _ (List.mem_append_left _ (List.mem_append_right _ (h))))
  have hl := lv_entry ([.ref Nn, .int 1]) (n := 4) (Nat.le_of_ble_eq_true rfl)
  rw [lg_entry_eq]
  generalize (lg_sl ([.ref Nn, .int 1]) ++ List.replicate (4 - (lg_sl ([.ref Nn, .int 1])).length) Slot.unset).toArray = ls at hl ⊢
  have hl : lv_has ls 4 [(0, .ref Nn), (1, .int 1)] := hl
  generalize hQ : MQ below _ _ s _ _ _ = Q
  generalize hH : s.heap = H at hP ⊢
  have hS : va_S A s.heap H [] := by rw [← hH]; exact hS
  clear hH
  refine lv_iconst (v := 0) hx hb dX3_waitAt_0 (by decide) ?_
  refine lv_istore_n (lv' := [(2, .int 0), (0, .ref Nn), (1, .int 1)]) hx hb dX3_waitAt_1 rfl hl (by decide) rfl (fun ls hl => ?_)
  have loop_91 : ∀ (Nloop_91 : Nat) (G_21 : Nat → Int32) (G_22 : Nat → Int32) (G_23 : Nat → Int32) (i_24 : Nat) (z_25 : Int32) (F_26 : Nat → Int32) (hbi_24 : i_24 ≤ cc) (hmloop_91 : cc - i_24 < Nloop_91) (H : Heap) (locs : List Loc) (ls : Array Slot), va_P D vwCl [(Nn, .inr (3, [.int (nI hp), .int (nI cc), .int zrs, .int zad, .int zpr, .int (nI t), .int zlo, .int z_25, .ref Nl, .ref Nf, .ref Nb])), (Nl, .inl (g 1, 3, .inr (.inr (.inr (.inr (rf3 M0 L0 M2)))))), (Nb, .inl (g 0, 12, .inl fbuf)), (L0, .inr (2, [.int (nI d0), .int (fk0 1), .int (fk0 2), .int (fv0 3), .int (fv0 4), .int (fv0 5), .ref L0c, .ref L0u, .ref L0p, .ref L0l])), (L0p, .inl (g 0, 15, .inl F_26)), (L0l, .inl (g 2, 3, .inr (.inr (.inr (.inr (rf3 L0a L0b L0d)))))), (L0a, .inr (1, [.int (G_21 0), .int (G_21 1), .int (G_21 2), .int (fa0 3), .int (G_21 4), .int (G_21 5), .int (G_21 6)])), (L0b, .inr (1, [.int (G_22 0), .int (G_22 1), .int (G_22 2), .int (fb0 3), .int (G_22 4), .int (G_22 5), .int (G_22 6)])), (L0d, .inr (1, [.int (G_23 0), .int (G_23 1), .int (G_23 2), .int (fd0 3), .int (G_23 4), .int (G_23 5), .int (G_23 6)]))] H → va_D A [(Nn, .inr (3, [.int (nI hp), .int (nI cc), .int zrs, .int zad, .int zpr, .int (nI t), .int zlo, .int z_25, .ref Nl, .ref Nf, .ref Nb])), (Nl, .inl (g 1, 3, .inr (.inr (.inr (.inr (rf3 M0 L0 M2)))))), (Nb, .inl (g 0, 12, .inl fbuf)), (L0, .inr (2, [.int (nI d0), .int (fk0 1), .int (fk0 2), .int (fv0 3), .int (fv0 4), .int (fv0 5), .ref L0c, .ref L0u, .ref L0p, .ref L0l])), (L0p, .inl (g 0, 15, .inl F_26)), (L0l, .inl (g 2, 3, .inr (.inr (.inr (.inr (rf3 L0a L0b L0d)))))), (L0a, .inr (1, [.int (G_21 0), .int (G_21 1), .int (G_21 2), .int (fa0 3), .int (G_21 4), .int (G_21 5), .int (G_21 6)])), (L0b, .inr (1, [.int (G_22 0), .int (G_22 1), .int (G_22 2), .int (fb0 3), .int (G_22 4), .int (G_22 5), .int (G_22 6)])), (L0d, .inr (1, [.int (G_23 0), .int (G_23 1), .int (G_23 2), .int (fd0 3), .int (G_23 4), .int (G_23 5), .int (G_23 6)]))] → va_S A s.heap H locs → lv_has ls 4 [(2, .int (nI i_24)), (0, .ref Nn), (1, .int 1)] → W p l e (headSpec wsX3_waitAt ({ frames := 2, cells := 0, slots := 0, locals := 42 })).room s m ([.ref Nn, .int 1] : List Value).toArray below meth c H locs 0 0 Q (F0 m 2 ls []) := by
    clear hP hD hS hl
    intro Nloop_91
    induction Nloop_91 with
    | zero => intro G_21 G_22 G_23 i_24 z_25 F_26 hbi_24 hm9; exact absurd hm9 (Nat.not_lt_zero _)
    | succ Nloop_91 loop_91_ih =>
      intro G_21 G_22 G_23 i_24 z_25 F_26 hbi_24 hmloop_91 H locs ls hP hD hS hl
      refine lv_iload_n hx hb dX3_waitAt_2 rfl (lv_at hl 0 rfl) ?_
      refine lv_aload_n hx hb dX3_waitAt_3 rfl (lv_at hl 1 rfl) ?_
      refine va_get (D := D) (ci := 3) (v := .int (nI cc)) (C := RX3) (T := TX3) (N := 11) hx hb hts iX3 hown hK hP 0 rfl rfl 1 (by decide) f62 (fun _ h9 => h9) rfl dX3_waitAt_4 ?_
      refine lv_icmp_ge (tgt := 80) hx hb dX3_waitAt_7 (by decide) (fun cb_92 => ?_) (fun cb_92 => ?_)
      · skip
        have cn_93 : cc ≤ i_24 := (nI_leI (show cc < 2 ^ 31 by omega) (show i_24 < 2 ^ 31 by omega)).mp cb_92
        have hP9 := hP; have hD9 := hD
        subst hQ
        refine W.widen (k := 0) (n := 0) (Nat.le_of_ble_eq_true rfl) (Nat.le_of_ble_eq_true rfl) ?_
        exact W.vret hx hb hr (fun tS htS _ => ⟨⟨_, rfl, ⟨z_25, F_26, G_21, G_22, G_23, rfl⟩, by rw [htS]; exact hP9, hD9⟩, hS.F htS⟩) hS.2.2 dX3_waitAt_80
      · skip
        have cn_94 : i_24 < cc := Nat.lt_of_not_le (fun q9 => cb_92 ((nI_leI (show cc < 2 ^ 31 by omega) (show i_24 < 2 ^ 31 by omega)).mpr q9))
        refine lv_aload_n hx hb dX3_waitAt_10 rfl (lv_at hl 1 rfl) ?_
        refine va_get (D := D) (ci := 3) (v := .ref Nl) (C := RX3) (T := TX3) (N := 11) hx hb hts iX3 hown hK hP 0 rfl rfl 8 (by decide) f11 (fun _ h9 => h9) rfl dX3_waitAt_11 ?_
        refine lv_iload_n hx hb dX3_waitAt_14 rfl (lv_at hl 2 rfl) ?_
        refine va_aldq (C := "HopCredits$Link") hx hb hK hP 1 1 rfl rfl (by unfold vp_in; decide) dX3_waitAt_15 ?_
        refine lv_eqv (v2 := .ref L0) rfl ?_
        refine va_get (D := D) (ci := 2) (v := .ref L0l) (C := RX2) (T := TX2) (N := 10) hx hb hts iX2 hown hK hP 3 rfl rfl 9 (by decide) f128 (fun _ h9 => h9) rfl dX3_waitAt_16 ?_
        refine lv_iload_n hx hb dX3_waitAt_19 rfl (lv_at hl 0 rfl) ?_
        have hPq_95 := hP; have hDq_95 := hD; have hSq_95 := hS; have hlq_95 := hl; clear hP hD hS hl
        rcases (show i_24 = 0 ∨ i_24 = 1 ∨ i_24 = 2 by omega) with rfl | rfl | rfl
        · skip
          have hP := hPq_95; have hD := hDq_95; have hS := hSq_95; have hl := hlq_95; clear hPq_95 hDq_95 hSq_95 hlq_95
          refine va_aldq (C := "HopCredits$Lane") hx hb hK hP 5 2 rfl rfl (by unfold vp_in; decide) dX3_waitAt_20 ?_
          refine lv_eqv (v2 := .ref L0a) rfl ?_
          refine lv_astore_n (lv' := [(3, .ref L0a), (2, .int (nI 0)), (0, .ref Nn), (1, .int 1)]) hx hb dX3_waitAt_21 rfl hl (by decide) rfl (fun ls hl => ?_)
          refine lv_aload_n hx hb dX3_waitAt_22 rfl (lv_at hl 0 rfl) ?_
          refine lv_aload_n hx hb dX3_waitAt_23 rfl (lv_at hl 2 rfl) ?_
          refine lv_iload_n hx hb dX3_waitAt_24 rfl (lv_at hl 3 rfl) ?_
          refine lv_iload_n hx hb dX3_waitAt_25 rfl (lv_at hl 1 rfl) ?_
          refine ky_Vi (As := [.int 1, .int (nI 0)]) (rest := [.ref L0a]) ⟨hx, hb, hml, hown, hts⟩ ⟨hK, hN⟩ hZ hP hD hS hA [0, 1, 2, 3, 5, 6, 7, 8] [4] (wc := [(Nn, .inr (3, [.int (nI hp), .int (nI cc), .int zrs, .int zad, .int zpr, .int (nI t), .int zlo, .int z_25, .ref Nl, .ref Nf, .ref Nb])), (Nl, .inl (g 1, 3, .inr (.inr (.inr (.inr (rf3 M0 L0 M2)))))), (Nb, .inl (g 0, 12, .inl fbuf)), (L0, .inr (2, [.int (nI d0), .int (fk0 1), .int (fk0 2), .int (fv0 3), .int (fv0 4), .int (fv0 5), .ref L0c, .ref L0u, .ref L0p, .ref L0l])), (L0l, .inl (g 2, 3, .inr (.inr (.inr (.inr (rf3 L0a L0b L0d)))))), (L0a, .inr (1, [.int (G_21 0), .int (G_21 1), .int (G_21 2), .int (fa0 3), .int (G_21 4), .int (G_21 5), .int (G_21 6)])), (L0b, .inr (1, [.int (G_22 0), .int (G_22 1), .int (G_22 2), .int (fb0 3), .int (G_22 4), .int (G_22 5), .int (G_22 6)])), (L0d, .inr (1, [.int (G_23 0), .int (G_23 1), .int (G_23 2), .int (fd0 3), .int (G_23 4), .int (G_23 5), .int (G_23 6)]))]) (wr := [(L0p, .inl (g 0, 15, .inl F_26))]) rfl rfl rfl rfl (by decide) (k_X3_lacksCredit_1 l D g H.size Nn 0 (lf [nI hp, nI cc, zrs, zad, zpr, nI t, zlo, z_25]) Nl Nf Nb M0 L0 M2 fbuf d0 fk0 fv0 L0c L0u L0p L0l L0a L0b L0d (lf [G_21 0, G_21 1, G_21 2, fa0 3, G_21 4, G_21 5, G_21 6]) (lf [G_22 0, G_22 1, G_22 2, fb0 3, G_22 4, G_22 5, G_22 6]) (lf [G_23 0, G_23 1, G_23 2, fd0 3, G_23 4, G_23 5, G_23 6]) (show 0 < 3 by omega)) (cwV 2 hts gX3_waitAt_X3_lacksCredit rfl rfl rfl (by decide +kernel) ⟨(Nat.le_of_ble_eq_true rfl), (Nat.le_of_ble_eq_true rfl)⟩) 0 3 rfl rfl rfl rfl hl.1 rfl (Nat.le_of_ble_eq_true rfl) dX3_waitAt_26 ⟨(Nat.le_of_ble_eq_true rfl), (Nat.le_of_ble_eq_true rfl)⟩ (fun r_96 u H locs hw hP2 hD2 hS2 => ?_)
          clear hP hD hS
          obtain rfl := hw
          have hPD : PD D A [(L0p, .inl (g 0, 15, .inl F_26)), (Nn, .inr (3, [.int (nI hp), .int (nI cc), .int zrs, .int zad, .int zpr, .int (nI t), .int zlo, .int z_25, .ref Nl, .ref Nf, .ref Nb])), (Nl, .inl (g 1, 3, .inr (.inr (.inr (.inr (rf3 M0 L0 M2)))))), (Nb, .inl (g 0, 12, .inl fbuf)), (L0, .inr (2, [.int (nI d0), .int (fk0 1), .int (fk0 2), .int (fv0 3), .int (fv0 4), .int (fv0 5), .ref L0c, .ref L0u, .ref L0p, .ref L0l])), (L0l, .inl (g 2, 3, .inr (.inr (.inr (.inr (rf3 L0a L0b L0d)))))), (L0a, .inr (1, [.int (G_21 0), .int (G_21 1), .int (G_21 2), .int (fa0 3), .int (G_21 4), .int (G_21 5), .int (G_21 6)])), (L0b, .inr (1, [.int (G_22 0), .int (G_22 1), .int (G_22 2), .int (fb0 3), .int (G_22 4), .int (G_22 5), .int (G_22 6)])), (L0d, .inr (1, [.int (G_23 0), .int (G_23 1), .int (G_23 2), .int (fd0 3), .int (G_23 4), .int (G_23 5), .int (G_23 6)]))] H := ⟨hP2, hD2⟩
          have hS := hS2; clear hP2 hD2 hS2; have hP := hPD.1; have hD := hPD.2; clear hPD
          refine W.widen (k := 0) (n := 0) (Nat.le_of_ble_eq_true rfl) (Nat.le_of_ble_eq_true rfl) ?_
          have join_104 : ∀ (y_100 : Int32) (H : Heap) (locs : List Loc) (ls : Array Slot), va_P D vwCl [(L0p, .inl (g 0, 15, .inl F_26)), (Nn, .inr (3, [.int (nI hp), .int (nI cc), .int zrs, .int zad, .int zpr, .int (nI t), .int zlo, .int z_25, .ref Nl, .ref Nf, .ref Nb])), (Nl, .inl (g 1, 3, .inr (.inr (.inr (.inr (rf3 M0 L0 M2)))))), (Nb, .inl (g 0, 12, .inl fbuf)), (L0, .inr (2, [.int (nI d0), .int (fk0 1), .int (fk0 2), .int (fv0 3), .int (fv0 4), .int (fv0 5), .ref L0c, .ref L0u, .ref L0p, .ref L0l])), (L0l, .inl (g 2, 3, .inr (.inr (.inr (.inr (rf3 L0a L0b L0d)))))), (L0a, .inr (1, [.int (G_21 0), .int (G_21 1), .int (G_21 2), .int (fa0 3), .int (G_21 4), .int (G_21 5), .int (G_21 6)])), (L0b, .inr (1, [.int (G_22 0), .int (G_22 1), .int (G_22 2), .int (fb0 3), .int (G_22 4), .int (G_22 5), .int (G_22 6)])), (L0d, .inr (1, [.int (G_23 0), .int (G_23 1), .int (G_23 2), .int (fd0 3), .int (G_23 4), .int (G_23 5), .int (G_23 6)]))] H → va_D A [(L0p, .inl (g 0, 15, .inl F_26)), (Nn, .inr (3, [.int (nI hp), .int (nI cc), .int zrs, .int zad, .int zpr, .int (nI t), .int zlo, .int z_25, .ref Nl, .ref Nf, .ref Nb])), (Nl, .inl (g 1, 3, .inr (.inr (.inr (.inr (rf3 M0 L0 M2)))))), (Nb, .inl (g 0, 12, .inl fbuf)), (L0, .inr (2, [.int (nI d0), .int (fk0 1), .int (fk0 2), .int (fv0 3), .int (fv0 4), .int (fv0 5), .ref L0c, .ref L0u, .ref L0p, .ref L0l])), (L0l, .inl (g 2, 3, .inr (.inr (.inr (.inr (rf3 L0a L0b L0d)))))), (L0a, .inr (1, [.int (G_21 0), .int (G_21 1), .int (G_21 2), .int (fa0 3), .int (G_21 4), .int (G_21 5), .int (G_21 6)])), (L0b, .inr (1, [.int (G_22 0), .int (G_22 1), .int (G_22 2), .int (fb0 3), .int (G_22 4), .int (G_22 5), .int (G_22 6)])), (L0d, .inr (1, [.int (G_23 0), .int (G_23 1), .int (G_23 2), .int (fd0 3), .int (G_23 4), .int (G_23 5), .int (G_23 6)]))] → va_S A s.heap H locs → lv_has ls 4 [(3, .ref L0a), (2, .int (nI 0)), (0, .ref Nn), (1, .int 1)] → W p l e (headSpec wsX3_waitAt ({ frames := 2, cells := 0, slots := 0, locals := 42 })).room s m ([.ref Nn, .int 1] : List Value).toArray below meth c H locs 0 0 Q (F0 m 42 ls [.int y_100, .ref L0a]) := by
            clear hP hD hS hl
            intro y_100  H locs ls hP hD hS hl
            refine va_put (D := D) (ci := 1) (v := .int y_100) (ty := .int) (C := RX1) (T := TX1) (N := 7) hx hb hts iX1 tyX1 tyX1_ok nmX1 hown hK hP hD hS 6 rfl rfl 4 (by decide) f210 (fun _ h9 => h9) rfl (by decide +kernel) (rfl) (rfl) (Nat.le_of_ble_eq_true rfl) dX3_waitAt_42 (fun H locs hP2 hD2 hS2 => ?_)
            clear hP hD hS
            have hPD : PD D A [(L0p, .inl (g 0, 15, .inl F_26)), (Nn, .inr (3, [.int (nI hp), .int (nI cc), .int zrs, .int zad, .int zpr, .int (nI t), .int zlo, .int z_25, .ref Nl, .ref Nf, .ref Nb])), (Nl, .inl (g 1, 3, .inr (.inr (.inr (.inr (rf3 M0 L0 M2)))))), (Nb, .inl (g 0, 12, .inl fbuf)), (L0, .inr (2, [.int (nI d0), .int (fk0 1), .int (fk0 2), .int (fv0 3), .int (fv0 4), .int (fv0 5), .ref L0c, .ref L0u, .ref L0p, .ref L0l])), (L0l, .inl (g 2, 3, .inr (.inr (.inr (.inr (rf3 L0a L0b L0d)))))), (L0a, .inr (1, [.int (G_21 0), .int (G_21 1), .int (G_21 2), .int (fa0 3), .int y_100, .int (G_21 5), .int (G_21 6)])), (L0b, .inr (1, [.int (G_22 0), .int (G_22 1), .int (G_22 2), .int (fb0 3), .int (G_22 4), .int (G_22 5), .int (G_22 6)])), (L0d, .inr (1, [.int (G_23 0), .int (G_23 1), .int (G_23 2), .int (fd0 3), .int (G_23 4), .int (G_23 5), .int (G_23 6)]))] H := ⟨hP2, hD2⟩
            have hS := hS2; clear hP2 hD2 hS2; have hP := hPD.1; have hD := hPD.2; clear hPD
            refine lv_aload_n hx hb dX3_waitAt_45 rfl (lv_at hl 2 rfl) ?_
            refine va_get (D := D) (ci := 3) (v := .int zpr) (C := RX3) (T := TX3) (N := 11) hx hb hts iX3 hown hK hP 1 rfl rfl 4 (by decide) f50 (fun _ h9 => h9) rfl dX3_waitAt_46 ?_
            refine lv_if_le (tgt := 74) hx hb dX3_waitAt_49 (by decide) (fun cb_105 => ?_) (fun cb_105 => ?_)
            · skip
              refine lv_iinc (v := 1) (lv' := [(2, .int 1), (3, .ref L0a), (0, .ref Nn), (1, .int 1)]) hx hb dX3_waitAt_74 hl (k := 1) rfl (by decide) (by decide) rfl (fun ls hl => ?_)
              refine lv_goto (tgt := 2) hx hb dX3_waitAt_77 (by decide) ?_
              exact loop_91_ih (lf [G_21 0, G_21 1, G_21 2, 0, y_100, G_21 5, G_21 6]) G_22 G_23 1 z_25 F_26 (show 1 ≤ cc by omega) (show cc - 1 < Nloop_91 by omega) _ _ _ (hP.sub [1, 2, 3, 4, 0, 5, 6, 7, 8] rfl) (hD.sub [1, 2, 3, 4, 0, 5, 6, 7, 8] (by decide) rfl) hS (lv_sub hl [0, 2, 3] rfl)
            · skip
              refine lv_aload_n hx hb dX3_waitAt_52 rfl (lv_at hl 0 rfl) ?_
              refine va_get (D := D) (ci := 1) (v := .int y_100) (C := RX1) (T := TX1) (N := 7) hx hb hts iX1 hown hK hP 6 rfl rfl 4 (by decide) f210 (fun _ h9 => h9) rfl dX3_waitAt_53 ?_
              refine lv_aload_n hx hb dX3_waitAt_56 rfl (lv_at hl 2 rfl) ?_
              refine va_get (D := D) (ci := 3) (v := .int zpr) (C := RX3) (T := TX3) (N := 11) hx hb hts iX3 hown hK hP 1 rfl rfl 4 (by decide) f50 (fun _ h9 => h9) rfl dX3_waitAt_57 ?_
              refine lv_icmp_lt (tgt := 74) hx hb dX3_waitAt_60 (by decide) (fun cb_106 => ?_) (fun cb_106 => ?_)
              · skip
                refine lv_iinc (v := 1) (lv' := [(2, .int 1), (3, .ref L0a), (0, .ref Nn), (1, .int 1)]) hx hb dX3_waitAt_74 hl (k := 1) rfl (by decide) (by decide) rfl (fun ls hl => ?_)
                refine lv_goto (tgt := 2) hx hb dX3_waitAt_77 (by decide) ?_
                exact loop_91_ih (lf [G_21 0, G_21 1, G_21 2, 0, y_100, G_21 5, G_21 6]) G_22 G_23 1 z_25 F_26 (show 1 ≤ cc by omega) (show cc - 1 < Nloop_91 by omega) _ _ _ (hP.sub [1, 2, 3, 4, 0, 5, 6, 7, 8] rfl) (hD.sub [1, 2, 3, 4, 0, 5, 6, 7, 8] (by decide) rfl) hS (lv_sub hl [0, 2, 3] rfl)
              · skip
                refine lv_aload_n hx hb dX3_waitAt_63 rfl (lv_at hl 2 rfl) ?_
                refine lv_aload_n hx hb dX3_waitAt_64 rfl (lv_at hl 2 rfl) ?_
                refine va_get (D := D) (ci := 3) (v := .ref Nl) (C := RX3) (T := TX3) (N := 11) hx hb hts iX3 hown hK hP 1 rfl rfl 8 (by decide) f11 (fun _ h9 => h9) rfl dX3_waitAt_65 ?_
                refine lv_iload_n hx hb dX3_waitAt_68 rfl (lv_at hl 3 rfl) ?_
                refine va_aldq (C := "HopCredits$Link") hx hb hK hP 2 1 rfl rfl (by unfold vp_in; decide) dX3_waitAt_69 ?_
                refine lv_eqv (v2 := .ref L0) rfl ?_
                refine lv_iload_n hx hb dX3_waitAt_70 rfl (lv_at hl 1 rfl) ?_
                refine ky_Vv (As := [.ref L0, .int (nI 0)]) (rest := []) ⟨hx, hb, hml, hown, hts⟩ ⟨hK, hN⟩ hZ hP hD hS hA [1, 4, 0, 5, 6, 7, 8] [2, 3] (wc := [(Nn, .inr (3, [.int (nI hp), .int (nI cc), .int zrs, .int zad, .int zpr, .int (nI t), .int zlo, .int z_25, .ref Nl, .ref Nf, .ref Nb])), (L0, .inr (2, [.int (nI d0), .int (fk0 1), .int (fk0 2), .int (fv0 3), .int (fv0 4), .int (fv0 5), .ref L0c, .ref L0u, .ref L0p, .ref L0l])), (L0p, .inl (g 0, 15, .inl F_26)), (L0l, .inl (g 2, 3, .inr (.inr (.inr (.inr (rf3 L0a L0b L0d)))))), (L0a, .inr (1, [.int (G_21 0), .int (G_21 1), .int (G_21 2), .int (fa0 3), .int y_100, .int (G_21 5), .int (G_21 6)])), (L0b, .inr (1, [.int (G_22 0), .int (G_22 1), .int (G_22 2), .int (fb0 3), .int (G_22 4), .int (G_22 5), .int (G_22 6)])), (L0d, .inr (1, [.int (G_23 0), .int (G_23 1), .int (G_23 2), .int (fd0 3), .int (G_23 4), .int (G_23 5), .int (G_23 6)]))]) (wr := [(Nl, .inl (g 1, 3, .inr (.inr (.inr (.inr (rf3 M0 L0 M2)))))), (Nb, .inl (g 0, 12, .inl fbuf))]) rfl rfl rfl rfl (by decide) (k_X3_sendProbe l D g H.size Nn L0 0 hp cc zrs zad zpr t zlo z_25 Nl Nf Nb d0 fk0 fv0 L0c L0u L0p L0l F_26 L0a L0b L0d (lf [G_21 0, G_21 1, G_21 2, fa0 3, y_100, G_21 5, G_21 6]) (lf [G_22 0, G_22 1, G_22 2, fb0 3, G_22 4, G_22 5, G_22 6]) (lf [G_23 0, G_23 1, G_23 2, fd0 3, G_23 4, G_23 5, G_23 6]) (show 0 < 3 by omega) (show t < 2 ^ 30 by omega) (show d0 < 5 by omega) (h4)) (cwV 2 hts gX3_waitAt_X3_sendProbe rfl rfl rfl (by decide +kernel) ⟨(Nat.le_of_ble_eq_true rfl), (Nat.le_of_ble_eq_true rfl)⟩) 1 3 rfl rfl rfl rfl hl.1 rfl (Nat.le_of_ble_eq_true rfl) dX3_waitAt_71 ⟨(Nat.le_of_ble_eq_true rfl), (Nat.le_of_ble_eq_true rfl)⟩ (fun u H locs hw hP2 hD2 hS2 => ?_)
                clear hP hD hS
                obtain ⟨zpsx_108, fp0x_109, fa0x_110, fb0x_111, fd0x_112, rfl⟩ := hw
                have hPD : PD D A [(Nl, .inl (g 1, 3, .inr (.inr (.inr (.inr (rf3 M0 L0 M2)))))), (Nb, .inl (g 0, 12, .inl fbuf)), (Nn, .inr (3, [.int (nI hp), .int (nI cc), .int zrs, .int zad, .int zpr, .int (nI t), .int zlo, .int zpsx_108, .ref Nl, .ref Nf, .ref Nb])), (L0, .inr (2, [.int (nI d0), .int (fk0 1), .int (fk0 2), .int (fv0 3), .int (fv0 4), .int (fv0 5), .ref L0c, .ref L0u, .ref L0p, .ref L0l])), (L0p, .inl (g 0, 15, .inl fp0x_109)), (L0l, .inl (g 2, 3, .inr (.inr (.inr (.inr (rf3 L0a L0b L0d)))))), (L0a, .inr (1, [.int (fa0x_110 0), .int (fa0x_110 1), .int (fa0x_110 2), .int (fa0 3), .int (fa0x_110 4), .int (fa0x_110 5), .int (fa0x_110 6)])), (L0b, .inr (1, [.int (fb0x_111 0), .int (fb0x_111 1), .int (fb0x_111 2), .int (fb0 3), .int (fb0x_111 4), .int (fb0x_111 5), .int (fb0x_111 6)])), (L0d, .inr (1, [.int (fd0x_112 0), .int (fd0x_112 1), .int (fd0x_112 2), .int (fd0 3), .int (fd0x_112 4), .int (fd0x_112 5), .int (fd0x_112 6)]))] H := ⟨hP2, hD2⟩
                have hS := hS2; clear hP2 hD2 hS2; have hP := hPD.1; have hD := hPD.2; clear hPD
                refine W.widen (k := 0) (n := 0) (Nat.le_of_ble_eq_true rfl) (Nat.le_of_ble_eq_true rfl) ?_
                refine lv_iinc (v := 1) (lv' := [(2, .int 1), (3, .ref L0a), (0, .ref Nn), (1, .int 1)]) hx hb dX3_waitAt_74 hl (k := 1) rfl (by decide) (by decide) rfl (fun ls hl => ?_)
                refine lv_goto (tgt := 2) hx hb dX3_waitAt_77 (by decide) ?_
                exact loop_91_ih fa0x_110 fb0x_111 fd0x_112 1 zpsx_108 fp0x_109 (show 1 ≤ cc by omega) (show cc - 1 < Nloop_91 by omega) _ _ _ (hP.sub [2, 0, 1, 3, 4, 5, 6, 7, 8] rfl) (hD.sub [2, 0, 1, 3, 4, 5, 6, 7, 8] (by decide) rfl) hS (lv_sub hl [0, 2, 3] rfl)
          refine lv_if_eq (tgt := 41) hx hb dX3_waitAt_29 (by decide) (fun cb_113 => ?_) (fun cb_113 => ?_)
          · skip
            have hPq_114 := hP; have hDq_114 := hD; have hSq_114 := hS; have hlq_114 := hl; clear hP hD hS hl
            subst cb_113
            have hP := hPq_114; have hD := hDq_114; have hS := hSq_114; have hl := hlq_114; clear hPq_114 hDq_114 hSq_114 hlq_114
            refine lv_iconst (v := 0) hx hb dX3_waitAt_41 (by decide) ?_
            exact join_104 0 _ _ _ hP hD hS hl
          · skip
            refine lv_aload_n hx hb dX3_waitAt_32 rfl (lv_at hl 0 rfl) ?_
            refine va_get (D := D) (ci := 1) (v := .int (G_21 4)) (C := RX1) (T := TX1) (N := 7) hx hb hts iX1 hown hK hP 6 rfl rfl 4 (by decide) f210 (fun _ h9 => h9) rfl dX3_waitAt_33 ?_
            refine lv_iconst (v := 1) hx hb dX3_waitAt_36 (by decide) ?_
            refine lv_iadd hx hb dX3_waitAt_37 ?_
            refine lv_topi (fun y_115 _ => ?_)
            refine lv_goto (tgt := 42) hx hb dX3_waitAt_38 (by decide) ?_
            exact join_104 y_115 _ _ _ hP hD hS hl
        · skip
          have hP := hPq_95; have hD := hDq_95; have hS := hSq_95; have hl := hlq_95; clear hPq_95 hDq_95 hSq_95 hlq_95
          refine va_aldq (C := "HopCredits$Lane") hx hb hK hP 5 2 rfl rfl (by unfold vp_in; decide) dX3_waitAt_20 ?_
          refine lv_eqv (v2 := .ref L0b) rfl ?_
          refine lv_astore_n (lv' := [(3, .ref L0b), (2, .int (nI 1)), (0, .ref Nn), (1, .int 1)]) hx hb dX3_waitAt_21 rfl hl (by decide) rfl (fun ls hl => ?_)
          refine lv_aload_n hx hb dX3_waitAt_22 rfl (lv_at hl 0 rfl) ?_
          refine lv_aload_n hx hb dX3_waitAt_23 rfl (lv_at hl 2 rfl) ?_
          refine lv_iload_n hx hb dX3_waitAt_24 rfl (lv_at hl 3 rfl) ?_
          refine lv_iload_n hx hb dX3_waitAt_25 rfl (lv_at hl 1 rfl) ?_
          refine ky_Vi (As := [.int 1, .int (nI 1)]) (rest := [.ref L0b]) ⟨hx, hb, hml, hown, hts⟩ ⟨hK, hN⟩ hZ hP hD hS hA [0, 1, 2, 3, 5, 6, 7, 8] [4] (wc := [(Nn, .inr (3, [.int (nI hp), .int (nI cc), .int zrs, .int zad, .int zpr, .int (nI t), .int zlo, .int z_25, .ref Nl, .ref Nf, .ref Nb])), (Nl, .inl (g 1, 3, .inr (.inr (.inr (.inr (rf3 M0 L0 M2)))))), (Nb, .inl (g 0, 12, .inl fbuf)), (L0, .inr (2, [.int (nI d0), .int (fk0 1), .int (fk0 2), .int (fv0 3), .int (fv0 4), .int (fv0 5), .ref L0c, .ref L0u, .ref L0p, .ref L0l])), (L0l, .inl (g 2, 3, .inr (.inr (.inr (.inr (rf3 L0a L0b L0d)))))), (L0a, .inr (1, [.int (G_21 0), .int (G_21 1), .int (G_21 2), .int (fa0 3), .int (G_21 4), .int (G_21 5), .int (G_21 6)])), (L0b, .inr (1, [.int (G_22 0), .int (G_22 1), .int (G_22 2), .int (fb0 3), .int (G_22 4), .int (G_22 5), .int (G_22 6)])), (L0d, .inr (1, [.int (G_23 0), .int (G_23 1), .int (G_23 2), .int (fd0 3), .int (G_23 4), .int (G_23 5), .int (G_23 6)]))]) (wr := [(L0p, .inl (g 0, 15, .inl F_26))]) rfl rfl rfl rfl (by decide) (k_X3_lacksCredit_1 l D g H.size Nn 1 (lf [nI hp, nI cc, zrs, zad, zpr, nI t, zlo, z_25]) Nl Nf Nb M0 L0 M2 fbuf d0 fk0 fv0 L0c L0u L0p L0l L0a L0b L0d (lf [G_21 0, G_21 1, G_21 2, fa0 3, G_21 4, G_21 5, G_21 6]) (lf [G_22 0, G_22 1, G_22 2, fb0 3, G_22 4, G_22 5, G_22 6]) (lf [G_23 0, G_23 1, G_23 2, fd0 3, G_23 4, G_23 5, G_23 6]) (show 1 < 3 by omega)) (cwV 2 hts gX3_waitAt_X3_lacksCredit rfl rfl rfl (by decide +kernel) ⟨(Nat.le_of_ble_eq_true rfl), (Nat.le_of_ble_eq_true rfl)⟩) 0 3 rfl rfl rfl rfl hl.1 rfl (Nat.le_of_ble_eq_true rfl) dX3_waitAt_26 ⟨(Nat.le_of_ble_eq_true rfl), (Nat.le_of_ble_eq_true rfl)⟩ (fun r_116 u H locs hw hP2 hD2 hS2 => ?_)
          clear hP hD hS
          obtain rfl := hw
          have hPD : PD D A [(L0p, .inl (g 0, 15, .inl F_26)), (Nn, .inr (3, [.int (nI hp), .int (nI cc), .int zrs, .int zad, .int zpr, .int (nI t), .int zlo, .int z_25, .ref Nl, .ref Nf, .ref Nb])), (Nl, .inl (g 1, 3, .inr (.inr (.inr (.inr (rf3 M0 L0 M2)))))), (Nb, .inl (g 0, 12, .inl fbuf)), (L0, .inr (2, [.int (nI d0), .int (fk0 1), .int (fk0 2), .int (fv0 3), .int (fv0 4), .int (fv0 5), .ref L0c, .ref L0u, .ref L0p, .ref L0l])), (L0l, .inl (g 2, 3, .inr (.inr (.inr (.inr (rf3 L0a L0b L0d)))))), (L0a, .inr (1, [.int (G_21 0), .int (G_21 1), .int (G_21 2), .int (fa0 3), .int (G_21 4), .int (G_21 5), .int (G_21 6)])), (L0b, .inr (1, [.int (G_22 0), .int (G_22 1), .int (G_22 2), .int (fb0 3), .int (G_22 4), .int (G_22 5), .int (G_22 6)])), (L0d, .inr (1, [.int (G_23 0), .int (G_23 1), .int (G_23 2), .int (fd0 3), .int (G_23 4), .int (G_23 5), .int (G_23 6)]))] H := ⟨hP2, hD2⟩
          have hS := hS2; clear hP2 hD2 hS2; have hP := hPD.1; have hD := hPD.2; clear hPD
          refine W.widen (k := 0) (n := 0) (Nat.le_of_ble_eq_true rfl) (Nat.le_of_ble_eq_true rfl) ?_
          have join_124 : ∀ (y_120 : Int32) (H : Heap) (locs : List Loc) (ls : Array Slot), va_P D vwCl [(L0p, .inl (g 0, 15, .inl F_26)), (Nn, .inr (3, [.int (nI hp), .int (nI cc), .int zrs, .int zad, .int zpr, .int (nI t), .int zlo, .int z_25, .ref Nl, .ref Nf, .ref Nb])), (Nl, .inl (g 1, 3, .inr (.inr (.inr (.inr (rf3 M0 L0 M2)))))), (Nb, .inl (g 0, 12, .inl fbuf)), (L0, .inr (2, [.int (nI d0), .int (fk0 1), .int (fk0 2), .int (fv0 3), .int (fv0 4), .int (fv0 5), .ref L0c, .ref L0u, .ref L0p, .ref L0l])), (L0l, .inl (g 2, 3, .inr (.inr (.inr (.inr (rf3 L0a L0b L0d)))))), (L0a, .inr (1, [.int (G_21 0), .int (G_21 1), .int (G_21 2), .int (fa0 3), .int (G_21 4), .int (G_21 5), .int (G_21 6)])), (L0b, .inr (1, [.int (G_22 0), .int (G_22 1), .int (G_22 2), .int (fb0 3), .int (G_22 4), .int (G_22 5), .int (G_22 6)])), (L0d, .inr (1, [.int (G_23 0), .int (G_23 1), .int (G_23 2), .int (fd0 3), .int (G_23 4), .int (G_23 5), .int (G_23 6)]))] H → va_D A [(L0p, .inl (g 0, 15, .inl F_26)), (Nn, .inr (3, [.int (nI hp), .int (nI cc), .int zrs, .int zad, .int zpr, .int (nI t), .int zlo, .int z_25, .ref Nl, .ref Nf, .ref Nb])), (Nl, .inl (g 1, 3, .inr (.inr (.inr (.inr (rf3 M0 L0 M2)))))), (Nb, .inl (g 0, 12, .inl fbuf)), (L0, .inr (2, [.int (nI d0), .int (fk0 1), .int (fk0 2), .int (fv0 3), .int (fv0 4), .int (fv0 5), .ref L0c, .ref L0u, .ref L0p, .ref L0l])), (L0l, .inl (g 2, 3, .inr (.inr (.inr (.inr (rf3 L0a L0b L0d)))))), (L0a, .inr (1, [.int (G_21 0), .int (G_21 1), .int (G_21 2), .int (fa0 3), .int (G_21 4), .int (G_21 5), .int (G_21 6)])), (L0b, .inr (1, [.int (G_22 0), .int (G_22 1), .int (G_22 2), .int (fb0 3), .int (G_22 4), .int (G_22 5), .int (G_22 6)])), (L0d, .inr (1, [.int (G_23 0), .int (G_23 1), .int (G_23 2), .int (fd0 3), .int (G_23 4), .int (G_23 5), .int (G_23 6)]))] → va_S A s.heap H locs → lv_has ls 4 [(3, .ref L0b), (2, .int (nI 1)), (0, .ref Nn), (1, .int 1)] → W p l e (headSpec wsX3_waitAt ({ frames := 2, cells := 0, slots := 0, locals := 42 })).room s m ([.ref Nn, .int 1] : List Value).toArray below meth c H locs 0 0 Q (F0 m 42 ls [.int y_120, .ref L0b]) := by
            clear hP hD hS hl
            intro y_120  H locs ls hP hD hS hl
            refine va_put (D := D) (ci := 1) (v := .int y_120) (ty := .int) (C := RX1) (T := TX1) (N := 7) hx hb hts iX1 tyX1 tyX1_ok nmX1 hown hK hP hD hS 7 rfl rfl 4 (by decide) f210 (fun _ h9 => h9) rfl (by decide +kernel) (rfl) (rfl) (Nat.le_of_ble_eq_true rfl) dX3_waitAt_42 (fun H locs hP2 hD2 hS2 => ?_)
            clear hP hD hS
            have hPD : PD D A [(L0p, .inl (g 0, 15, .inl F_26)), (Nn, .inr (3, [.int (nI hp), .int (nI cc), .int zrs, .int zad, .int zpr, .int (nI t), .int zlo, .int z_25, .ref Nl, .ref Nf, .ref Nb])), (Nl, .inl (g 1, 3, .inr (.inr (.inr (.inr (rf3 M0 L0 M2)))))), (Nb, .inl (g 0, 12, .inl fbuf)), (L0, .inr (2, [.int (nI d0), .int (fk0 1), .int (fk0 2), .int (fv0 3), .int (fv0 4), .int (fv0 5), .ref L0c, .ref L0u, .ref L0p, .ref L0l])), (L0l, .inl (g 2, 3, .inr (.inr (.inr (.inr (rf3 L0a L0b L0d)))))), (L0a, .inr (1, [.int (G_21 0), .int (G_21 1), .int (G_21 2), .int (fa0 3), .int (G_21 4), .int (G_21 5), .int (G_21 6)])), (L0b, .inr (1, [.int (G_22 0), .int (G_22 1), .int (G_22 2), .int (fb0 3), .int y_120, .int (G_22 5), .int (G_22 6)])), (L0d, .inr (1, [.int (G_23 0), .int (G_23 1), .int (G_23 2), .int (fd0 3), .int (G_23 4), .int (G_23 5), .int (G_23 6)]))] H := ⟨hP2, hD2⟩
            have hS := hS2; clear hP2 hD2 hS2; have hP := hPD.1; have hD := hPD.2; clear hPD
            refine lv_aload_n hx hb dX3_waitAt_45 rfl (lv_at hl 2 rfl) ?_
            refine va_get (D := D) (ci := 3) (v := .int zpr) (C := RX3) (T := TX3) (N := 11) hx hb hts iX3 hown hK hP 1 rfl rfl 4 (by decide) f50 (fun _ h9 => h9) rfl dX3_waitAt_46 ?_
            refine lv_if_le (tgt := 74) hx hb dX3_waitAt_49 (by decide) (fun cb_125 => ?_) (fun cb_125 => ?_)
            · skip
              refine lv_iinc (v := 2) (lv' := [(2, .int 2), (3, .ref L0b), (0, .ref Nn), (1, .int 1)]) hx hb dX3_waitAt_74 hl (k := 1) rfl (by decide) (by decide) rfl (fun ls hl => ?_)
              refine lv_goto (tgt := 2) hx hb dX3_waitAt_77 (by decide) ?_
              exact loop_91_ih G_21 (lf [G_22 0, G_22 1, G_22 2, 0, y_120, G_22 5, G_22 6]) G_23 2 z_25 F_26 (show 2 ≤ cc by omega) (show cc - 2 < Nloop_91 by omega) _ _ _ (hP.sub [1, 2, 3, 4, 0, 5, 6, 7, 8] rfl) (hD.sub [1, 2, 3, 4, 0, 5, 6, 7, 8] (by decide) rfl) hS (lv_sub hl [0, 2, 3] rfl)
            · skip
              refine lv_aload_n hx hb dX3_waitAt_52 rfl (lv_at hl 0 rfl) ?_
              refine va_get (D := D) (ci := 1) (v := .int y_120) (C := RX1) (T := TX1) (N := 7) hx hb hts iX1 hown hK hP 7 rfl rfl 4 (by decide) f210 (fun _ h9 => h9) rfl dX3_waitAt_53 ?_
              refine lv_aload_n hx hb dX3_waitAt_56 rfl (lv_at hl 2 rfl) ?_
              refine va_get (D := D) (ci := 3) (v := .int zpr) (C := RX3) (T := TX3) (N := 11) hx hb hts iX3 hown hK hP 1 rfl rfl 4 (by decide) f50 (fun _ h9 => h9) rfl dX3_waitAt_57 ?_
              refine lv_icmp_lt (tgt := 74) hx hb dX3_waitAt_60 (by decide) (fun cb_126 => ?_) (fun cb_126 => ?_)
              · skip
                refine lv_iinc (v := 2) (lv' := [(2, .int 2), (3, .ref L0b), (0, .ref Nn), (1, .int 1)]) hx hb dX3_waitAt_74 hl (k := 1) rfl (by decide) (by decide) rfl (fun ls hl => ?_)
                refine lv_goto (tgt := 2) hx hb dX3_waitAt_77 (by decide) ?_
                exact loop_91_ih G_21 (lf [G_22 0, G_22 1, G_22 2, 0, y_120, G_22 5, G_22 6]) G_23 2 z_25 F_26 (show 2 ≤ cc by omega) (show cc - 2 < Nloop_91 by omega) _ _ _ (hP.sub [1, 2, 3, 4, 0, 5, 6, 7, 8] rfl) (hD.sub [1, 2, 3, 4, 0, 5, 6, 7, 8] (by decide) rfl) hS (lv_sub hl [0, 2, 3] rfl)
              · skip
                refine lv_aload_n hx hb dX3_waitAt_63 rfl (lv_at hl 2 rfl) ?_
                refine lv_aload_n hx hb dX3_waitAt_64 rfl (lv_at hl 2 rfl) ?_
                refine va_get (D := D) (ci := 3) (v := .ref Nl) (C := RX3) (T := TX3) (N := 11) hx hb hts iX3 hown hK hP 1 rfl rfl 8 (by decide) f11 (fun _ h9 => h9) rfl dX3_waitAt_65 ?_
                refine lv_iload_n hx hb dX3_waitAt_68 rfl (lv_at hl 3 rfl) ?_
                refine va_aldq (C := "HopCredits$Link") hx hb hK hP 2 1 rfl rfl (by unfold vp_in; decide) dX3_waitAt_69 ?_
                refine lv_eqv (v2 := .ref L0) rfl ?_
                refine lv_iload_n hx hb dX3_waitAt_70 rfl (lv_at hl 1 rfl) ?_
                refine ky_Vv (As := [.ref L0, .int (nI 1)]) (rest := []) ⟨hx, hb, hml, hown, hts⟩ ⟨hK, hN⟩ hZ hP hD hS hA [1, 4, 0, 5, 6, 7, 8] [2, 3] (wc := [(Nn, .inr (3, [.int (nI hp), .int (nI cc), .int zrs, .int zad, .int zpr, .int (nI t), .int zlo, .int z_25, .ref Nl, .ref Nf, .ref Nb])), (L0, .inr (2, [.int (nI d0), .int (fk0 1), .int (fk0 2), .int (fv0 3), .int (fv0 4), .int (fv0 5), .ref L0c, .ref L0u, .ref L0p, .ref L0l])), (L0p, .inl (g 0, 15, .inl F_26)), (L0l, .inl (g 2, 3, .inr (.inr (.inr (.inr (rf3 L0a L0b L0d)))))), (L0a, .inr (1, [.int (G_21 0), .int (G_21 1), .int (G_21 2), .int (fa0 3), .int (G_21 4), .int (G_21 5), .int (G_21 6)])), (L0b, .inr (1, [.int (G_22 0), .int (G_22 1), .int (G_22 2), .int (fb0 3), .int y_120, .int (G_22 5), .int (G_22 6)])), (L0d, .inr (1, [.int (G_23 0), .int (G_23 1), .int (G_23 2), .int (fd0 3), .int (G_23 4), .int (G_23 5), .int (G_23 6)]))]) (wr := [(Nl, .inl (g 1, 3, .inr (.inr (.inr (.inr (rf3 M0 L0 M2)))))), (Nb, .inl (g 0, 12, .inl fbuf))]) rfl rfl rfl rfl (by decide) (k_X3_sendProbe l D g H.size Nn L0 1 hp cc zrs zad zpr t zlo z_25 Nl Nf Nb d0 fk0 fv0 L0c L0u L0p L0l F_26 L0a L0b L0d (lf [G_21 0, G_21 1, G_21 2, fa0 3, G_21 4, G_21 5, G_21 6]) (lf [G_22 0, G_22 1, G_22 2, fb0 3, y_120, G_22 5, G_22 6]) (lf [G_23 0, G_23 1, G_23 2, fd0 3, G_23 4, G_23 5, G_23 6]) (show 1 < 3 by omega) (show t < 2 ^ 30 by omega) (show d0 < 5 by omega) (h4)) (cwV 2 hts gX3_waitAt_X3_sendProbe rfl rfl rfl (by decide +kernel) ⟨(Nat.le_of_ble_eq_true rfl), (Nat.le_of_ble_eq_true rfl)⟩) 1 3 rfl rfl rfl rfl hl.1 rfl (Nat.le_of_ble_eq_true rfl) dX3_waitAt_71 ⟨(Nat.le_of_ble_eq_true rfl), (Nat.le_of_ble_eq_true rfl)⟩ (fun u H locs hw hP2 hD2 hS2 => ?_)
                clear hP hD hS
                obtain ⟨zpsx_128, fp0x_129, fa0x_130, fb0x_131, fd0x_132, rfl⟩ := hw
                have hPD : PD D A [(Nl, .inl (g 1, 3, .inr (.inr (.inr (.inr (rf3 M0 L0 M2)))))), (Nb, .inl (g 0, 12, .inl fbuf)), (Nn, .inr (3, [.int (nI hp), .int (nI cc), .int zrs, .int zad, .int zpr, .int (nI t), .int zlo, .int zpsx_128, .ref Nl, .ref Nf, .ref Nb])), (L0, .inr (2, [.int (nI d0), .int (fk0 1), .int (fk0 2), .int (fv0 3), .int (fv0 4), .int (fv0 5), .ref L0c, .ref L0u, .ref L0p, .ref L0l])), (L0p, .inl (g 0, 15, .inl fp0x_129)), (L0l, .inl (g 2, 3, .inr (.inr (.inr (.inr (rf3 L0a L0b L0d)))))), (L0a, .inr (1, [.int (fa0x_130 0), .int (fa0x_130 1), .int (fa0x_130 2), .int (fa0 3), .int (fa0x_130 4), .int (fa0x_130 5), .int (fa0x_130 6)])), (L0b, .inr (1, [.int (fb0x_131 0), .int (fb0x_131 1), .int (fb0x_131 2), .int (fb0 3), .int (fb0x_131 4), .int (fb0x_131 5), .int (fb0x_131 6)])), (L0d, .inr (1, [.int (fd0x_132 0), .int (fd0x_132 1), .int (fd0x_132 2), .int (fd0 3), .int (fd0x_132 4), .int (fd0x_132 5), .int (fd0x_132 6)]))] H := ⟨hP2, hD2⟩
                have hS := hS2; clear hP2 hD2 hS2; have hP := hPD.1; have hD := hPD.2; clear hPD
                refine W.widen (k := 0) (n := 0) (Nat.le_of_ble_eq_true rfl) (Nat.le_of_ble_eq_true rfl) ?_
                refine lv_iinc (v := 2) (lv' := [(2, .int 2), (3, .ref L0b), (0, .ref Nn), (1, .int 1)]) hx hb dX3_waitAt_74 hl (k := 1) rfl (by decide) (by decide) rfl (fun ls hl => ?_)
                refine lv_goto (tgt := 2) hx hb dX3_waitAt_77 (by decide) ?_
                exact loop_91_ih fa0x_130 fb0x_131 fd0x_132 2 zpsx_128 fp0x_129 (show 2 ≤ cc by omega) (show cc - 2 < Nloop_91 by omega) _ _ _ (hP.sub [2, 0, 1, 3, 4, 5, 6, 7, 8] rfl) (hD.sub [2, 0, 1, 3, 4, 5, 6, 7, 8] (by decide) rfl) hS (lv_sub hl [0, 2, 3] rfl)
          refine lv_if_eq (tgt := 41) hx hb dX3_waitAt_29 (by decide) (fun cb_133 => ?_) (fun cb_133 => ?_)
          · skip
            have hPq_134 := hP; have hDq_134 := hD; have hSq_134 := hS; have hlq_134 := hl; clear hP hD hS hl
            subst cb_133
            have hP := hPq_134; have hD := hDq_134; have hS := hSq_134; have hl := hlq_134; clear hPq_134 hDq_134 hSq_134 hlq_134
            refine lv_iconst (v := 0) hx hb dX3_waitAt_41 (by decide) ?_
            exact join_124 0 _ _ _ hP hD hS hl
          · skip
            refine lv_aload_n hx hb dX3_waitAt_32 rfl (lv_at hl 0 rfl) ?_
            refine va_get (D := D) (ci := 1) (v := .int (G_22 4)) (C := RX1) (T := TX1) (N := 7) hx hb hts iX1 hown hK hP 7 rfl rfl 4 (by decide) f210 (fun _ h9 => h9) rfl dX3_waitAt_33 ?_
            refine lv_iconst (v := 1) hx hb dX3_waitAt_36 (by decide) ?_
            refine lv_iadd hx hb dX3_waitAt_37 ?_
            refine lv_topi (fun y_135 _ => ?_)
            refine lv_goto (tgt := 42) hx hb dX3_waitAt_38 (by decide) ?_
            exact join_124 y_135 _ _ _ hP hD hS hl
        · skip
          have hP := hPq_95; have hD := hDq_95; have hS := hSq_95; have hl := hlq_95; clear hPq_95 hDq_95 hSq_95 hlq_95
          refine va_aldq (C := "HopCredits$Lane") hx hb hK hP 5 2 rfl rfl (by unfold vp_in; decide) dX3_waitAt_20 ?_
          refine lv_eqv (v2 := .ref L0d) rfl ?_
          refine lv_astore_n (lv' := [(3, .ref L0d), (2, .int (nI 2)), (0, .ref Nn), (1, .int 1)]) hx hb dX3_waitAt_21 rfl hl (by decide) rfl (fun ls hl => ?_)
          refine lv_aload_n hx hb dX3_waitAt_22 rfl (lv_at hl 0 rfl) ?_
          refine lv_aload_n hx hb dX3_waitAt_23 rfl (lv_at hl 2 rfl) ?_
          refine lv_iload_n hx hb dX3_waitAt_24 rfl (lv_at hl 3 rfl) ?_
          refine lv_iload_n hx hb dX3_waitAt_25 rfl (lv_at hl 1 rfl) ?_
          refine ky_Vi (As := [.int 1, .int (nI 2)]) (rest := [.ref L0d]) ⟨hx, hb, hml, hown, hts⟩ ⟨hK, hN⟩ hZ hP hD hS hA [0, 1, 2, 3, 5, 6, 7, 8] [4] (wc := [(Nn, .inr (3, [.int (nI hp), .int (nI cc), .int zrs, .int zad, .int zpr, .int (nI t), .int zlo, .int z_25, .ref Nl, .ref Nf, .ref Nb])), (Nl, .inl (g 1, 3, .inr (.inr (.inr (.inr (rf3 M0 L0 M2)))))), (Nb, .inl (g 0, 12, .inl fbuf)), (L0, .inr (2, [.int (nI d0), .int (fk0 1), .int (fk0 2), .int (fv0 3), .int (fv0 4), .int (fv0 5), .ref L0c, .ref L0u, .ref L0p, .ref L0l])), (L0l, .inl (g 2, 3, .inr (.inr (.inr (.inr (rf3 L0a L0b L0d)))))), (L0a, .inr (1, [.int (G_21 0), .int (G_21 1), .int (G_21 2), .int (fa0 3), .int (G_21 4), .int (G_21 5), .int (G_21 6)])), (L0b, .inr (1, [.int (G_22 0), .int (G_22 1), .int (G_22 2), .int (fb0 3), .int (G_22 4), .int (G_22 5), .int (G_22 6)])), (L0d, .inr (1, [.int (G_23 0), .int (G_23 1), .int (G_23 2), .int (fd0 3), .int (G_23 4), .int (G_23 5), .int (G_23 6)]))]) (wr := [(L0p, .inl (g 0, 15, .inl F_26))]) rfl rfl rfl rfl (by decide) (k_X3_lacksCredit_1 l D g H.size Nn 2 (lf [nI hp, nI cc, zrs, zad, zpr, nI t, zlo, z_25]) Nl Nf Nb M0 L0 M2 fbuf d0 fk0 fv0 L0c L0u L0p L0l L0a L0b L0d (lf [G_21 0, G_21 1, G_21 2, fa0 3, G_21 4, G_21 5, G_21 6]) (lf [G_22 0, G_22 1, G_22 2, fb0 3, G_22 4, G_22 5, G_22 6]) (lf [G_23 0, G_23 1, G_23 2, fd0 3, G_23 4, G_23 5, G_23 6]) (show 2 < 3 by omega)) (cwV 2 hts gX3_waitAt_X3_lacksCredit rfl rfl rfl (by decide +kernel) ⟨(Nat.le_of_ble_eq_true rfl), (Nat.le_of_ble_eq_true rfl)⟩) 0 3 rfl rfl rfl rfl hl.1 rfl (Nat.le_of_ble_eq_true rfl) dX3_waitAt_26 ⟨(Nat.le_of_ble_eq_true rfl), (Nat.le_of_ble_eq_true rfl)⟩ (fun r_136 u H locs hw hP2 hD2 hS2 => ?_)
          clear hP hD hS
          obtain rfl := hw
          have hPD : PD D A [(L0p, .inl (g 0, 15, .inl F_26)), (Nn, .inr (3, [.int (nI hp), .int (nI cc), .int zrs, .int zad, .int zpr, .int (nI t), .int zlo, .int z_25, .ref Nl, .ref Nf, .ref Nb])), (Nl, .inl (g 1, 3, .inr (.inr (.inr (.inr (rf3 M0 L0 M2)))))), (Nb, .inl (g 0, 12, .inl fbuf)), (L0, .inr (2, [.int (nI d0), .int (fk0 1), .int (fk0 2), .int (fv0 3), .int (fv0 4), .int (fv0 5), .ref L0c, .ref L0u, .ref L0p, .ref L0l])), (L0l, .inl (g 2, 3, .inr (.inr (.inr (.inr (rf3 L0a L0b L0d)))))), (L0a, .inr (1, [.int (G_21 0), .int (G_21 1), .int (G_21 2), .int (fa0 3), .int (G_21 4), .int (G_21 5), .int (G_21 6)])), (L0b, .inr (1, [.int (G_22 0), .int (G_22 1), .int (G_22 2), .int (fb0 3), .int (G_22 4), .int (G_22 5), .int (G_22 6)])), (L0d, .inr (1, [.int (G_23 0), .int (G_23 1), .int (G_23 2), .int (fd0 3), .int (G_23 4), .int (G_23 5), .int (G_23 6)]))] H := ⟨hP2, hD2⟩
          have hS := hS2; clear hP2 hD2 hS2; have hP := hPD.1; have hD := hPD.2; clear hPD
          refine W.widen (k := 0) (n := 0) (Nat.le_of_ble_eq_true rfl) (Nat.le_of_ble_eq_true rfl) ?_
          have join_144 : ∀ (y_140 : Int32) (H : Heap) (locs : List Loc) (ls : Array Slot), va_P D vwCl [(L0p, .inl (g 0, 15, .inl F_26)), (Nn, .inr (3, [.int (nI hp), .int (nI cc), .int zrs, .int zad, .int zpr, .int (nI t), .int zlo, .int z_25, .ref Nl, .ref Nf, .ref Nb])), (Nl, .inl (g 1, 3, .inr (.inr (.inr (.inr (rf3 M0 L0 M2)))))), (Nb, .inl (g 0, 12, .inl fbuf)), (L0, .inr (2, [.int (nI d0), .int (fk0 1), .int (fk0 2), .int (fv0 3), .int (fv0 4), .int (fv0 5), .ref L0c, .ref L0u, .ref L0p, .ref L0l])), (L0l, .inl (g 2, 3, .inr (.inr (.inr (.inr (rf3 L0a L0b L0d)))))), (L0a, .inr (1, [.int (G_21 0), .int (G_21 1), .int (G_21 2), .int (fa0 3), .int (G_21 4), .int (G_21 5), .int (G_21 6)])), (L0b, .inr (1, [.int (G_22 0), .int (G_22 1), .int (G_22 2), .int (fb0 3), .int (G_22 4), .int (G_22 5), .int (G_22 6)])), (L0d, .inr (1, [.int (G_23 0), .int (G_23 1), .int (G_23 2), .int (fd0 3), .int (G_23 4), .int (G_23 5), .int (G_23 6)]))] H → va_D A [(L0p, .inl (g 0, 15, .inl F_26)), (Nn, .inr (3, [.int (nI hp), .int (nI cc), .int zrs, .int zad, .int zpr, .int (nI t), .int zlo, .int z_25, .ref Nl, .ref Nf, .ref Nb])), (Nl, .inl (g 1, 3, .inr (.inr (.inr (.inr (rf3 M0 L0 M2)))))), (Nb, .inl (g 0, 12, .inl fbuf)), (L0, .inr (2, [.int (nI d0), .int (fk0 1), .int (fk0 2), .int (fv0 3), .int (fv0 4), .int (fv0 5), .ref L0c, .ref L0u, .ref L0p, .ref L0l])), (L0l, .inl (g 2, 3, .inr (.inr (.inr (.inr (rf3 L0a L0b L0d)))))), (L0a, .inr (1, [.int (G_21 0), .int (G_21 1), .int (G_21 2), .int (fa0 3), .int (G_21 4), .int (G_21 5), .int (G_21 6)])), (L0b, .inr (1, [.int (G_22 0), .int (G_22 1), .int (G_22 2), .int (fb0 3), .int (G_22 4), .int (G_22 5), .int (G_22 6)])), (L0d, .inr (1, [.int (G_23 0), .int (G_23 1), .int (G_23 2), .int (fd0 3), .int (G_23 4), .int (G_23 5), .int (G_23 6)]))] → va_S A s.heap H locs → lv_has ls 4 [(3, .ref L0d), (2, .int (nI 2)), (0, .ref Nn), (1, .int 1)] → W p l e (headSpec wsX3_waitAt ({ frames := 2, cells := 0, slots := 0, locals := 42 })).room s m ([.ref Nn, .int 1] : List Value).toArray below meth c H locs 0 0 Q (F0 m 42 ls [.int y_140, .ref L0d]) := by
            clear hP hD hS hl
            intro y_140  H locs ls hP hD hS hl
            refine va_put (D := D) (ci := 1) (v := .int y_140) (ty := .int) (C := RX1) (T := TX1) (N := 7) hx hb hts iX1 tyX1 tyX1_ok nmX1 hown hK hP hD hS 8 rfl rfl 4 (by decide) f210 (fun _ h9 => h9) rfl (by decide +kernel) (rfl) (rfl) (Nat.le_of_ble_eq_true rfl) dX3_waitAt_42 (fun H locs hP2 hD2 hS2 => ?_)
            clear hP hD hS
            have hPD : PD D A [(L0p, .inl (g 0, 15, .inl F_26)), (Nn, .inr (3, [.int (nI hp), .int (nI cc), .int zrs, .int zad, .int zpr, .int (nI t), .int zlo, .int z_25, .ref Nl, .ref Nf, .ref Nb])), (Nl, .inl (g 1, 3, .inr (.inr (.inr (.inr (rf3 M0 L0 M2)))))), (Nb, .inl (g 0, 12, .inl fbuf)), (L0, .inr (2, [.int (nI d0), .int (fk0 1), .int (fk0 2), .int (fv0 3), .int (fv0 4), .int (fv0 5), .ref L0c, .ref L0u, .ref L0p, .ref L0l])), (L0l, .inl (g 2, 3, .inr (.inr (.inr (.inr (rf3 L0a L0b L0d)))))), (L0a, .inr (1, [.int (G_21 0), .int (G_21 1), .int (G_21 2), .int (fa0 3), .int (G_21 4), .int (G_21 5), .int (G_21 6)])), (L0b, .inr (1, [.int (G_22 0), .int (G_22 1), .int (G_22 2), .int (fb0 3), .int (G_22 4), .int (G_22 5), .int (G_22 6)])), (L0d, .inr (1, [.int (G_23 0), .int (G_23 1), .int (G_23 2), .int (fd0 3), .int y_140, .int (G_23 5), .int (G_23 6)]))] H := ⟨hP2, hD2⟩
            have hS := hS2; clear hP2 hD2 hS2; have hP := hPD.1; have hD := hPD.2; clear hPD
            refine lv_aload_n hx hb dX3_waitAt_45 rfl (lv_at hl 2 rfl) ?_
            refine va_get (D := D) (ci := 3) (v := .int zpr) (C := RX3) (T := TX3) (N := 11) hx hb hts iX3 hown hK hP 1 rfl rfl 4 (by decide) f50 (fun _ h9 => h9) rfl dX3_waitAt_46 ?_
            refine lv_if_le (tgt := 74) hx hb dX3_waitAt_49 (by decide) (fun cb_145 => ?_) (fun cb_145 => ?_)
            · skip
              refine lv_iinc (v := 3) (lv' := [(2, .int 3), (3, .ref L0d), (0, .ref Nn), (1, .int 1)]) hx hb dX3_waitAt_74 hl (k := 1) rfl (by decide) (by decide) rfl (fun ls hl => ?_)
              refine lv_goto (tgt := 2) hx hb dX3_waitAt_77 (by decide) ?_
              exact loop_91_ih G_21 G_22 (lf [G_23 0, G_23 1, G_23 2, 0, y_140, G_23 5, G_23 6]) 3 z_25 F_26 (show 3 ≤ cc by omega) (show cc - 3 < Nloop_91 by omega) _ _ _ (hP.sub [1, 2, 3, 4, 0, 5, 6, 7, 8] rfl) (hD.sub [1, 2, 3, 4, 0, 5, 6, 7, 8] (by decide) rfl) hS (lv_sub hl [0, 2, 3] rfl)
            · skip
              refine lv_aload_n hx hb dX3_waitAt_52 rfl (lv_at hl 0 rfl) ?_
              refine va_get (D := D) (ci := 1) (v := .int y_140) (C := RX1) (T := TX1) (N := 7) hx hb hts iX1 hown hK hP 8 rfl rfl 4 (by decide) f210 (fun _ h9 => h9) rfl dX3_waitAt_53 ?_
              refine lv_aload_n hx hb dX3_waitAt_56 rfl (lv_at hl 2 rfl) ?_
              refine va_get (D := D) (ci := 3) (v := .int zpr) (C := RX3) (T := TX3) (N := 11) hx hb hts iX3 hown hK hP 1 rfl rfl 4 (by decide) f50 (fun _ h9 => h9) rfl dX3_waitAt_57 ?_
              refine lv_icmp_lt (tgt := 74) hx hb dX3_waitAt_60 (by decide) (fun cb_146 => ?_) (fun cb_146 => ?_)
              · skip
                refine lv_iinc (v := 3) (lv' := [(2, .int 3), (3, .ref L0d), (0, .ref Nn), (1, .int 1)]) hx hb dX3_waitAt_74 hl (k := 1) rfl (by decide) (by decide) rfl (fun ls hl => ?_)
                refine lv_goto (tgt := 2) hx hb dX3_waitAt_77 (by decide) ?_
                exact loop_91_ih G_21 G_22 (lf [G_23 0, G_23 1, G_23 2, 0, y_140, G_23 5, G_23 6]) 3 z_25 F_26 (show 3 ≤ cc by omega) (show cc - 3 < Nloop_91 by omega) _ _ _ (hP.sub [1, 2, 3, 4, 0, 5, 6, 7, 8] rfl) (hD.sub [1, 2, 3, 4, 0, 5, 6, 7, 8] (by decide) rfl) hS (lv_sub hl [0, 2, 3] rfl)
              · skip
                refine lv_aload_n hx hb dX3_waitAt_63 rfl (lv_at hl 2 rfl) ?_
                refine lv_aload_n hx hb dX3_waitAt_64 rfl (lv_at hl 2 rfl) ?_
                refine va_get (D := D) (ci := 3) (v := .ref Nl) (C := RX3) (T := TX3) (N := 11) hx hb hts iX3 hown hK hP 1 rfl rfl 8 (by decide) f11 (fun _ h9 => h9) rfl dX3_waitAt_65 ?_
                refine lv_iload_n hx hb dX3_waitAt_68 rfl (lv_at hl 3 rfl) ?_
                refine va_aldq (C := "HopCredits$Link") hx hb hK hP 2 1 rfl rfl (by unfold vp_in; decide) dX3_waitAt_69 ?_
                refine lv_eqv (v2 := .ref L0) rfl ?_
                refine lv_iload_n hx hb dX3_waitAt_70 rfl (lv_at hl 1 rfl) ?_
                refine ky_Vv (As := [.ref L0, .int (nI 2)]) (rest := []) ⟨hx, hb, hml, hown, hts⟩ ⟨hK, hN⟩ hZ hP hD hS hA [1, 4, 0, 5, 6, 7, 8] [2, 3] (wc := [(Nn, .inr (3, [.int (nI hp), .int (nI cc), .int zrs, .int zad, .int zpr, .int (nI t), .int zlo, .int z_25, .ref Nl, .ref Nf, .ref Nb])), (L0, .inr (2, [.int (nI d0), .int (fk0 1), .int (fk0 2), .int (fv0 3), .int (fv0 4), .int (fv0 5), .ref L0c, .ref L0u, .ref L0p, .ref L0l])), (L0p, .inl (g 0, 15, .inl F_26)), (L0l, .inl (g 2, 3, .inr (.inr (.inr (.inr (rf3 L0a L0b L0d)))))), (L0a, .inr (1, [.int (G_21 0), .int (G_21 1), .int (G_21 2), .int (fa0 3), .int (G_21 4), .int (G_21 5), .int (G_21 6)])), (L0b, .inr (1, [.int (G_22 0), .int (G_22 1), .int (G_22 2), .int (fb0 3), .int (G_22 4), .int (G_22 5), .int (G_22 6)])), (L0d, .inr (1, [.int (G_23 0), .int (G_23 1), .int (G_23 2), .int (fd0 3), .int y_140, .int (G_23 5), .int (G_23 6)]))]) (wr := [(Nl, .inl (g 1, 3, .inr (.inr (.inr (.inr (rf3 M0 L0 M2)))))), (Nb, .inl (g 0, 12, .inl fbuf))]) rfl rfl rfl rfl (by decide) (k_X3_sendProbe l D g H.size Nn L0 2 hp cc zrs zad zpr t zlo z_25 Nl Nf Nb d0 fk0 fv0 L0c L0u L0p L0l F_26 L0a L0b L0d (lf [G_21 0, G_21 1, G_21 2, fa0 3, G_21 4, G_21 5, G_21 6]) (lf [G_22 0, G_22 1, G_22 2, fb0 3, G_22 4, G_22 5, G_22 6]) (lf [G_23 0, G_23 1, G_23 2, fd0 3, y_140, G_23 5, G_23 6]) (show 2 < 3 by omega) (show t < 2 ^ 30 by omega) (show d0 < 5 by omega) (h4)) (cwV 2 hts gX3_waitAt_X3_sendProbe rfl rfl rfl (by decide +kernel) ⟨(Nat.le_of_ble_eq_true rfl), (Nat.le_of_ble_eq_true rfl)⟩) 1 3 rfl rfl rfl rfl hl.1 rfl (Nat.le_of_ble_eq_true rfl) dX3_waitAt_71 ⟨(Nat.le_of_ble_eq_true rfl), (Nat.le_of_ble_eq_true rfl)⟩ (fun u H locs hw hP2 hD2 hS2 => ?_)
                clear hP hD hS
                obtain ⟨zpsx_148, fp0x_149, fa0x_150, fb0x_151, fd0x_152, rfl⟩ := hw
                have hPD : PD D A [(Nl, .inl (g 1, 3, .inr (.inr (.inr (.inr (rf3 M0 L0 M2)))))), (Nb, .inl (g 0, 12, .inl fbuf)), (Nn, .inr (3, [.int (nI hp), .int (nI cc), .int zrs, .int zad, .int zpr, .int (nI t), .int zlo, .int zpsx_148, .ref Nl, .ref Nf, .ref Nb])), (L0, .inr (2, [.int (nI d0), .int (fk0 1), .int (fk0 2), .int (fv0 3), .int (fv0 4), .int (fv0 5), .ref L0c, .ref L0u, .ref L0p, .ref L0l])), (L0p, .inl (g 0, 15, .inl fp0x_149)), (L0l, .inl (g 2, 3, .inr (.inr (.inr (.inr (rf3 L0a L0b L0d)))))), (L0a, .inr (1, [.int (fa0x_150 0), .int (fa0x_150 1), .int (fa0x_150 2), .int (fa0 3), .int (fa0x_150 4), .int (fa0x_150 5), .int (fa0x_150 6)])), (L0b, .inr (1, [.int (fb0x_151 0), .int (fb0x_151 1), .int (fb0x_151 2), .int (fb0 3), .int (fb0x_151 4), .int (fb0x_151 5), .int (fb0x_151 6)])), (L0d, .inr (1, [.int (fd0x_152 0), .int (fd0x_152 1), .int (fd0x_152 2), .int (fd0 3), .int (fd0x_152 4), .int (fd0x_152 5), .int (fd0x_152 6)]))] H := ⟨hP2, hD2⟩
                have hS := hS2; clear hP2 hD2 hS2; have hP := hPD.1; have hD := hPD.2; clear hPD
                refine W.widen (k := 0) (n := 0) (Nat.le_of_ble_eq_true rfl) (Nat.le_of_ble_eq_true rfl) ?_
                refine lv_iinc (v := 3) (lv' := [(2, .int 3), (3, .ref L0d), (0, .ref Nn), (1, .int 1)]) hx hb dX3_waitAt_74 hl (k := 1) rfl (by decide) (by decide) rfl (fun ls hl => ?_)
                refine lv_goto (tgt := 2) hx hb dX3_waitAt_77 (by decide) ?_
                exact loop_91_ih fa0x_150 fb0x_151 fd0x_152 3 zpsx_148 fp0x_149 (show 3 ≤ cc by omega) (show cc - 3 < Nloop_91 by omega) _ _ _ (hP.sub [2, 0, 1, 3, 4, 5, 6, 7, 8] rfl) (hD.sub [2, 0, 1, 3, 4, 5, 6, 7, 8] (by decide) rfl) hS (lv_sub hl [0, 2, 3] rfl)
          refine lv_if_eq (tgt := 41) hx hb dX3_waitAt_29 (by decide) (fun cb_153 => ?_) (fun cb_153 => ?_)
          · skip
            have hPq_154 := hP; have hDq_154 := hD; have hSq_154 := hS; have hlq_154 := hl; clear hP hD hS hl
            subst cb_153
            have hP := hPq_154; have hD := hDq_154; have hS := hSq_154; have hl := hlq_154; clear hPq_154 hDq_154 hSq_154 hlq_154
            refine lv_iconst (v := 0) hx hb dX3_waitAt_41 (by decide) ?_
            exact join_144 0 _ _ _ hP hD hS hl
          · skip
            refine lv_aload_n hx hb dX3_waitAt_32 rfl (lv_at hl 0 rfl) ?_
            refine va_get (D := D) (ci := 1) (v := .int (G_23 4)) (C := RX1) (T := TX1) (N := 7) hx hb hts iX1 hown hK hP 8 rfl rfl 4 (by decide) f210 (fun _ h9 => h9) rfl dX3_waitAt_33 ?_
            refine lv_iconst (v := 1) hx hb dX3_waitAt_36 (by decide) ?_
            refine lv_iadd hx hb dX3_waitAt_37 ?_
            refine lv_topi (fun y_155 _ => ?_)
            refine lv_goto (tgt := 42) hx hb dX3_waitAt_38 (by decide) ?_
            exact join_144 y_155 _ _ _ hP hD hS hl
  exact loop_91 _ fa0 fb0 fd0 0 zps fp0 (show 0 ≤ cc by omega) (Nat.lt_succ_self _) _ _ _ hP hD hS hl

set_option maxHeartbeats 4000000 in
set_option maxRecDepth 100000 in
theorem k_X3_waitAt_2 (l : Launch) (D : va_G) (g : Nat → ClassId) (sz : Nat) (Nn : Nat) (hp : Nat) (cc : Nat) (zrs : Int32) (zad : Int32) (zpr : Int32) (t : Nat) (zlo : Int32) (zps : Int32) (Nl : Nat) (Nf : Nat) (Nb : Nat) (M0 : Nat) (M1 : Nat) (L0 : Nat) (fbuf : Nat → Int32) (d0 : Nat) (fk0 : Nat → Int32) (fv0 : Nat → Int32) (L0c : Nat) (L0u : Nat) (L0p : Nat) (L0l : Nat) (fp0 : Nat → Int32) (L0a : Nat) (L0b : Nat) (L0d : Nat) (fa0 : Nat → Int32) (fb0 : Nat → Int32) (fd0 : Nat → Int32) (h0 : 1 ≤ cc) (h1 : cc ≤ 3) (h2 : t < 2 ^ 30) (h3 : d0 < 5) (h4 : okc (fv0 4)) : Met l yX3_waitAt wsX3_waitAt ({ frames := 2, cells := 0, slots := 0, locals := 42 }) (va_Pc [.ref Nn, .int 2] (pre D g sz [(Nn, .inr (3, [.int (nI hp), .int (nI cc), .int zrs, .int zad, .int zpr, .int (nI t), .int zlo, .int zps, .ref Nl, .ref Nf, .ref Nb])), (Nl, .inl (g 1, 3, .inr (.inr (.inr (.inr (rf3 M0 M1 L0)))))), (Nb, .inl (g 0, 12, .inl fbuf)), (L0, .inr (2, [.int (nI d0), .int (fk0 1), .int (fk0 2), .int (fv0 3), .int (fv0 4), .int (fv0 5), .ref L0c, .ref L0u, .ref L0p, .ref L0l])), (L0p, .inl (g 0, 15, .inl fp0)), (L0l, .inl (g 2, 3, .inr (.inr (.inr (.inr (rf3 L0a L0b L0d)))))), (L0a, .inr (1, [.int (fa0 0), .int (fa0 1), .int (fa0 2), .int (fa0 3), .int (fa0 4), .int (fa0 5), .int (fa0 6)])), (L0b, .inr (1, [.int (fb0 0), .int (fb0 1), .int (fb0 2), .int (fb0 3), .int (fb0 4), .int (fb0 5), .int (fb0 6)])), (L0d, .inr (1, [.int (fd0 0), .int (fd0 1), .int (fd0 2), .int (fd0 3), .int (fd0 4), .int (fd0 5), .int (fd0 6)]))])) (va_Qv (fun (u : va_W) => ∃ (zpsx : Int32) (fp0x : Nat → Int32) (fa0x : Nat → Int32) (fb0x : Nat → Int32) (fd0x : Nat → Int32), u = [(Nn, .inr (3, [.int (nI hp), .int (nI cc), .int zrs, .int zad, .int zpr, .int (nI t), .int zlo, .int zpsx, .ref Nl, .ref Nf, .ref Nb])), (Nl, .inl (g 1, 3, .inr (.inr (.inr (.inr (rf3 M0 M1 L0)))))), (Nb, .inl (g 0, 12, .inl fbuf)), (L0, .inr (2, [.int (nI d0), .int (fk0 1), .int (fk0 2), .int (fv0 3), .int (fv0 4), .int (fv0 5), .ref L0c, .ref L0u, .ref L0p, .ref L0l])), (L0p, .inl (g 0, 15, .inl fp0x)), (L0l, .inl (g 2, 3, .inr (.inr (.inr (.inr (rf3 L0a L0b L0d)))))), (L0a, .inr (1, [.int (fa0x 0), .int (fa0x 1), .int (fa0x 2), .int (fa0 3), .int (fa0x 4), .int (fa0x 5), .int (fa0x 6)])), (L0b, .inr (1, [.int (fb0x 0), .int (fb0x 1), .int (fb0x 2), .int (fb0 3), .int (fb0x 4), .int (fb0x 5), .int (fb0x 6)])), (L0d, .inr (1, [.int (fd0x 0), .int (fd0x 1), .int (fd0x 2), .int (fd0 3), .int (fd0x 4), .int (fd0x 5), .int (fd0x 6)]))]) (wd D (va_A [(Nn, .inr (3, [.int (nI hp), .int (nI cc), .int zrs, .int zad, .int zpr, .int (nI t), .int zlo, .int zps, .ref Nl, .ref Nf, .ref Nb])), (Nl, .inl (g 1, 3, .inr (.inr (.inr (.inr (rf3 M0 M1 L0)))))), (Nb, .inl (g 0, 12, .inl fbuf)), (L0, .inr (2, [.int (nI d0), .int (fk0 1), .int (fk0 2), .int (fv0 3), .int (fv0 4), .int (fv0 5), .ref L0c, .ref L0u, .ref L0p, .ref L0l])), (L0p, .inl (g 0, 15, .inl fp0)), (L0l, .inl (g 2, 3, .inr (.inr (.inr (.inr (rf3 L0a L0b L0d)))))), (L0a, .inr (1, [.int (fa0 0), .int (fa0 1), .int (fa0 2), .int (fa0 3), .int (fa0 4), .int (fa0 5), .int (fa0 6)])), (L0b, .inr (1, [.int (fb0 0), .int (fb0 1), .int (fb0 2), .int (fb0 3), .int (fb0 4), .int (fb0 5), .int (fb0 6)])), (L0d, .inr (1, [.int (fd0 0), .int (fd0 1), .int (fd0 2), .int (fd0 3), .int (fd0 4), .int (fd0 5), .int (fd0 6)]))] sz)) (va_A [(Nn, .inr (3, [.int (nI hp), .int (nI cc), .int zrs, .int zad, .int zpr, .int (nI t), .int zlo, .int zps, .ref Nl, .ref Nf, .ref Nb])), (Nl, .inl (g 1, 3, .inr (.inr (.inr (.inr (rf3 M0 M1 L0)))))), (Nb, .inl (g 0, 12, .inl fbuf)), (L0, .inr (2, [.int (nI d0), .int (fk0 1), .int (fk0 2), .int (fv0 3), .int (fv0 4), .int (fv0 5), .ref L0c, .ref L0u, .ref L0p, .ref L0l])), (L0p, .inl (g 0, 15, .inl fp0)), (L0l, .inl (g 2, 3, .inr (.inr (.inr (.inr (rf3 L0a L0b L0d)))))), (L0a, .inr (1, [.int (fa0 0), .int (fa0 1), .int (fa0 2), .int (fa0 3), .int (fa0 4), .int (fa0 5), .int (fa0 6)])), (L0b, .inr (1, [.int (fb0 0), .int (fb0 1), .int (fb0 2), .int (fb0 3), .int (fb0 4), .int (fb0 5), .int (fb0 6)])), (L0d, .inr (1, [.int (fd0 0), .int (fd0 1), .int (fd0 2), .int (fd0 3), .int (fd0 4), .int (fd0 5), .int (fd0 6)]))] sz)) 0 0 (va_A [(Nn, .inr (3, [.int (nI hp), .int (nI cc), .int zrs, .int zad, .int zpr, .int (nI t), .int zlo, .int zps, .ref Nl, .ref Nf, .ref Nb])), (Nl, .inl (g 1, 3, .inr (.inr (.inr (.inr (rf3 M0 M1 L0)))))), (Nb, .inl (g 0, 12, .inl fbuf)), (L0, .inr (2, [.int (nI d0), .int (fk0 1), .int (fk0 2), .int (fv0 3), .int (fv0 4), .int (fv0 5), .ref L0c, .ref L0u, .ref L0p, .ref L0l])), (L0p, .inl (g 0, 15, .inl fp0)), (L0l, .inl (g 2, 3, .inr (.inr (.inr (.inr (rf3 L0a L0b L0d)))))), (L0a, .inr (1, [.int (fa0 0), .int (fa0 1), .int (fa0 2), .int (fa0 3), .int (fa0 4), .int (fa0 5), .int (fa0 6)])), (L0b, .inr (1, [.int (fb0 0), .int (fb0 1), .int (fb0 2), .int (fb0 3), .int (fb0 4), .int (fb0 5), .int (fb0 6)])), (L0d, .inr (1, [.int (fd0 0), .int (fd0 1), .int (fd0 2), .int (fd0 3), .int (fd0 4), .int (fd0 5), .int (fd0 6)]))] sz) := by
  refine Met.ofW (cc := cX3_waitAt) (maxL := 4) (ret := none) (by decide) rfl ?_
  intro p e s m args below meth c s₁ B hml hv
  obtain ⟨rfl, hsz, hP, ⟨hK, hN⟩, hD0, hZ⟩ := hv
  have hx := B.exec
  have hb := B.bytes
  have hr := B.returns
  have hts := atoms_spec (ws := wsX3_waitAt) B.pre
  have hown : s.vm.findClass RX3 = some m.cls := findClass_of_methodNamed B.named
  have hlocks := B.notSynchronized
  clear B
  subst hsz
  have hD := hD0.self (sz := s.heap.size)
  clear hD0
  generalize hAe : va_A [(Nn, .inr (3, [.int (nI hp), .int (nI cc), .int zrs, .int zad, .int zpr, .int (nI t), .int zlo, .int zps, .ref Nl, .ref Nf, .ref Nb])), (Nl, .inl (g 1, 3, .inr (.inr (.inr (.inr (rf3 M0 M1 L0)))))), (Nb, .inl (g 0, 12, .inl fbuf)), (L0, .inr (2, [.int (nI d0), .int (fk0 1), .int (fk0 2), .int (fv0 3), .int (fv0 4), .int (fv0 5), .ref L0c, .ref L0u, .ref L0p, .ref L0l])), (L0p, .inl (g 0, 15, .inl fp0)), (L0l, .inl (g 2, 3, .inr (.inr (.inr (.inr (rf3 L0a L0b L0d)))))), (L0a, .inr (1, [.int (fa0 0), .int (fa0 1), .int (fa0 2), .int (fa0 3), .int (fa0 4), .int (fa0 5), .int (fa0 6)])), (L0b, .inr (1, [.int (fb0 0), .int (fb0 1), .int (fb0 2), .int (fb0 3), .int (fb0 4), .int (fb0 5), .int (fb0 6)])), (L0d, .inr (1, [.int (fd0 0), .int (fd0 1), .int (fd0 2), .int (fd0 3), .int (fd0 4), .int (fd0 5), .int (fd0 6)]))] s.heap.size = A at hD hZ ⊢
  have hA : ∀ q : Nat, s.heap.size ≤ q → A q := fun q h => by rw [← hAe]; exact Or.inr h
  have hS : va_S A s.heap s.heap [] := va_S.rf
  have f11 := hts (.fieldLink RX3 11 "HopCredits$Net" "links" "[LHopCredits$Link;") (List.mem_of_getElem? (i := 2) rfl)
  have f128 := hts (.fieldLink RX3 128 "HopCredits$Link" "lanes" "[LHopCredits$Lane;") (List.mem_of_getElem? (i := 3) rfl)
  have f210 := hts (.fieldLink RX3 210 "HopCredits$Lane" "waited" "I") (List.mem_of_getElem? (i := 4) rfl)
  have f50 := hts (.fieldLink RX3 50 "HopCredits$Net" "probes" "I") (List.mem_of_getElem? (i := 5) rfl)
  have f62 := hts (.fieldLink RX3 62 "HopCredits$Net" "circuits" "I") (List.mem_of_getElem? (i := 1) rfl)
  have iX1 : ∀ w ∈ u_ws RX1 TX1 7, w ∈ wsX3_waitAt := fun w h => List.mem_cons_of_mem _ (List.mem_append_right _ (h))
  have iX2 : ∀ w ∈ u_ws RX2 TX2 10, w ∈ wsX3_waitAt := fun w h => List.mem_cons_of_mem _ (List.mem_append_left _ (List.mem_append_right _ (h)))
  have iX3 : ∀ w ∈ u_ws RX3 TX3 11, w ∈ wsX3_waitAt := fun w h => List.mem_cons_of_mem _ (List.mem_append_left _ (List.mem_append_left _ (List.mem_append_right _ (h))))
  have hl := lv_entry ([.ref Nn, .int 2]) (n := 4) (Nat.le_of_ble_eq_true rfl)
  rw [lg_entry_eq]
  generalize (lg_sl ([.ref Nn, .int 2]) ++ List.replicate (4 - (lg_sl ([.ref Nn, .int 2])).length) Slot.unset).toArray = ls at hl ⊢
  have hl : lv_has ls 4 [(0, .ref Nn), (1, .int 2)] := hl
  generalize hQ : MQ below _ _ s _ _ _ = Q
  generalize hH : s.heap = H at hP ⊢
  have hS : va_S A s.heap H [] := by rw [← hH]; exact hS
  clear hH
  refine lv_iconst (v := 0) hx hb dX3_waitAt_0 (by decide) ?_
  refine lv_istore_n (lv' := [(2, .int 0), (0, .ref Nn), (1, .int 2)]) hx hb dX3_waitAt_1 rfl hl (by decide) rfl (fun ls hl => ?_)
  have loop_91 : ∀ (Nloop_91 : Nat) (G_21 : Nat → Int32) (G_22 : Nat → Int32) (G_23 : Nat → Int32) (i_24 : Nat) (z_25 : Int32) (F_26 : Nat → Int32) (hbi_24 : i_24 ≤ cc) (hmloop_91 : cc - i_24 < Nloop_91) (H : Heap) (locs : List Loc) (ls : Array Slot), va_P D vwCl [(Nn, .inr (3, [.int (nI hp), .int (nI cc), .int zrs, .int zad, .int zpr, .int (nI t), .int zlo, .int z_25, .ref Nl, .ref Nf, .ref Nb])), (Nl, .inl (g 1, 3, .inr (.inr (.inr (.inr (rf3 M0 M1 L0)))))), (Nb, .inl (g 0, 12, .inl fbuf)), (L0, .inr (2, [.int (nI d0), .int (fk0 1), .int (fk0 2), .int (fv0 3), .int (fv0 4), .int (fv0 5), .ref L0c, .ref L0u, .ref L0p, .ref L0l])), (L0p, .inl (g 0, 15, .inl F_26)), (L0l, .inl (g 2, 3, .inr (.inr (.inr (.inr (rf3 L0a L0b L0d)))))), (L0a, .inr (1, [.int (G_21 0), .int (G_21 1), .int (G_21 2), .int (fa0 3), .int (G_21 4), .int (G_21 5), .int (G_21 6)])), (L0b, .inr (1, [.int (G_22 0), .int (G_22 1), .int (G_22 2), .int (fb0 3), .int (G_22 4), .int (G_22 5), .int (G_22 6)])), (L0d, .inr (1, [.int (G_23 0), .int (G_23 1), .int (G_23 2), .int (fd0 3), .int (G_23 4), .int (G_23 5), .int (G_23 6)]))] H → va_D A [(Nn, .inr (3, [.int (nI hp), .int (nI cc), .int zrs, .int zad, .int zpr, .int (nI t), .int zlo, .int z_25, .ref Nl, .ref Nf, .ref Nb])), (Nl, .inl (g 1, 3, .inr (.inr (.inr (.inr (rf3 M0 M1 L0)))))), (Nb, .inl (g 0, 12, .inl fbuf)), (L0, .inr (2, [.int (nI d0), .int (fk0 1), .int (fk0 2), .int (fv0 3), .int (fv0 4), .int (fv0 5), .ref L0c, .ref L0u, .ref L0p, .ref L0l])), (L0p, .inl (g 0, 15, .inl F_26)), (L0l, .inl (g 2, 3, .inr (.inr (.inr (.inr (rf3 L0a L0b L0d)))))), (L0a, .inr (1, [.int (G_21 0), .int (G_21 1), .int (G_21 2), .int (fa0 3), .int (G_21 4), .int (G_21 5), .int (G_21 6)])), (L0b, .inr (1, [.int (G_22 0), .int (G_22 1), .int (G_22 2), .int (fb0 3), .int (G_22 4), .int (G_22 5), .int (G_22 6)])), (L0d, .inr (1, [.int (G_23 0), .int (G_23 1), .int (G_23 2), .int (fd0 3), .int (G_23 4), .int (G_23 5), .int (G_23 6)]))] → va_S A s.heap H locs → lv_has ls 4 [(2, .int (nI i_24)), (0, .ref Nn), (1, .int 2)] → W p l e (headSpec wsX3_waitAt ({ frames := 2, cells := 0, slots := 0, locals := 42 })).room s m ([.ref Nn, .int 2] : List Value).toArray below meth c H locs 0 0 Q (F0 m 2 ls []) := by
    clear hP hD hS hl
    intro Nloop_91
    induction Nloop_91 with
    | zero => intro G_21 G_22 G_23 i_24 z_25 F_26 hbi_24 hm9; exact absurd hm9 (Nat.not_lt_zero _)
    | succ Nloop_91 loop_91_ih =>
      intro G_21 G_22 G_23 i_24 z_25 F_26 hbi_24 hmloop_91 H locs ls hP hD hS hl
      refine lv_iload_n hx hb dX3_waitAt_2 rfl (lv_at hl 0 rfl) ?_
      refine lv_aload_n hx hb dX3_waitAt_3 rfl (lv_at hl 1 rfl) ?_
      refine va_get (D := D) (ci := 3) (v := .int (nI cc)) (C := RX3) (T := TX3) (N := 11) hx hb hts iX3 hown hK hP 0 rfl rfl 1 (by decide) f62 (fun _ h9 => h9) rfl dX3_waitAt_4 ?_
      refine lv_icmp_ge (tgt := 80) hx hb dX3_waitAt_7 (by decide) (fun cb_92 => ?_) (fun cb_92 => ?_)
      · skip
        have cn_93 : cc ≤ i_24 := (nI_leI (show cc < 2 ^ 31 by omega) (show i_24 < 2 ^ 31 by omega)).mp cb_92
        have hP9 := hP; have hD9 := hD
        subst hQ
        refine W.widen (k := 0) (n := 0) (Nat.le_of_ble_eq_true rfl) (Nat.le_of_ble_eq_true rfl) ?_
        exact W.vret hx hb hr (fun tS htS _ => ⟨⟨_, rfl, ⟨z_25, F_26, G_21, G_22, G_23, rfl⟩, by rw [htS]; exact hP9, hD9⟩, hS.F htS⟩) hS.2.2 dX3_waitAt_80
      · skip
        have cn_94 : i_24 < cc := Nat.lt_of_not_le (fun q9 => cb_92 ((nI_leI (show cc < 2 ^ 31 by omega) (show i_24 < 2 ^ 31 by omega)).mpr q9))
        refine lv_aload_n hx hb dX3_waitAt_10 rfl (lv_at hl 1 rfl) ?_
        refine va_get (D := D) (ci := 3) (v := .ref Nl) (C := RX3) (T := TX3) (N := 11) hx hb hts iX3 hown hK hP 0 rfl rfl 8 (by decide) f11 (fun _ h9 => h9) rfl dX3_waitAt_11 ?_
        refine lv_iload_n hx hb dX3_waitAt_14 rfl (lv_at hl 2 rfl) ?_
        refine va_aldq (C := "HopCredits$Link") hx hb hK hP 1 1 rfl rfl (by unfold vp_in; decide) dX3_waitAt_15 ?_
        refine lv_eqv (v2 := .ref L0) rfl ?_
        refine va_get (D := D) (ci := 2) (v := .ref L0l) (C := RX2) (T := TX2) (N := 10) hx hb hts iX2 hown hK hP 3 rfl rfl 9 (by decide) f128 (fun _ h9 => h9) rfl dX3_waitAt_16 ?_
        refine lv_iload_n hx hb dX3_waitAt_19 rfl (lv_at hl 0 rfl) ?_
        have hPq_95 := hP; have hDq_95 := hD; have hSq_95 := hS; have hlq_95 := hl; clear hP hD hS hl
        rcases (show i_24 = 0 ∨ i_24 = 1 ∨ i_24 = 2 by omega) with rfl | rfl | rfl
        · skip
          have hP := hPq_95; have hD := hDq_95; have hS := hSq_95; have hl := hlq_95; clear hPq_95 hDq_95 hSq_95 hlq_95
          refine va_aldq (C := "HopCredits$Lane") hx hb hK hP 5 2 rfl rfl (by unfold vp_in; decide) dX3_waitAt_20 ?_
          refine lv_eqv (v2 := .ref L0a) rfl ?_
          refine lv_astore_n (lv' := [(3, .ref L0a), (2, .int (nI 0)), (0, .ref Nn), (1, .int 2)]) hx hb dX3_waitAt_21 rfl hl (by decide) rfl (fun ls hl => ?_)
          refine lv_aload_n hx hb dX3_waitAt_22 rfl (lv_at hl 0 rfl) ?_
          refine lv_aload_n hx hb dX3_waitAt_23 rfl (lv_at hl 2 rfl) ?_
          refine lv_iload_n hx hb dX3_waitAt_24 rfl (lv_at hl 3 rfl) ?_
          refine lv_iload_n hx hb dX3_waitAt_25 rfl (lv_at hl 1 rfl) ?_
          refine ky_Vi (As := [.int 2, .int (nI 0)]) (rest := [.ref L0a]) ⟨hx, hb, hml, hown, hts⟩ ⟨hK, hN⟩ hZ hP hD hS hA [0, 1, 2, 3, 5, 6, 7, 8] [4] (wc := [(Nn, .inr (3, [.int (nI hp), .int (nI cc), .int zrs, .int zad, .int zpr, .int (nI t), .int zlo, .int z_25, .ref Nl, .ref Nf, .ref Nb])), (Nl, .inl (g 1, 3, .inr (.inr (.inr (.inr (rf3 M0 M1 L0)))))), (Nb, .inl (g 0, 12, .inl fbuf)), (L0, .inr (2, [.int (nI d0), .int (fk0 1), .int (fk0 2), .int (fv0 3), .int (fv0 4), .int (fv0 5), .ref L0c, .ref L0u, .ref L0p, .ref L0l])), (L0l, .inl (g 2, 3, .inr (.inr (.inr (.inr (rf3 L0a L0b L0d)))))), (L0a, .inr (1, [.int (G_21 0), .int (G_21 1), .int (G_21 2), .int (fa0 3), .int (G_21 4), .int (G_21 5), .int (G_21 6)])), (L0b, .inr (1, [.int (G_22 0), .int (G_22 1), .int (G_22 2), .int (fb0 3), .int (G_22 4), .int (G_22 5), .int (G_22 6)])), (L0d, .inr (1, [.int (G_23 0), .int (G_23 1), .int (G_23 2), .int (fd0 3), .int (G_23 4), .int (G_23 5), .int (G_23 6)]))]) (wr := [(L0p, .inl (g 0, 15, .inl F_26))]) rfl rfl rfl rfl (by decide) (k_X3_lacksCredit_2 l D g H.size Nn 0 (lf [nI hp, nI cc, zrs, zad, zpr, nI t, zlo, z_25]) Nl Nf Nb M0 M1 L0 fbuf d0 fk0 fv0 L0c L0u L0p L0l L0a L0b L0d (lf [G_21 0, G_21 1, G_21 2, fa0 3, G_21 4, G_21 5, G_21 6]) (lf [G_22 0, G_22 1, G_22 2, fb0 3, G_22 4, G_22 5, G_22 6]) (lf [G_23 0, G_23 1, G_23 2, fd0 3, G_23 4, G_23 5, G_23 6]) (show 0 < 3 by omega)) (cwV 2 hts gX3_waitAt_X3_lacksCredit rfl rfl rfl (by decide +kernel) ⟨(Nat.le_of_ble_eq_true rfl), (Nat.le_of_ble_eq_true rfl)⟩) 0 3 rfl rfl rfl rfl hl.1 rfl (Nat.le_of_ble_eq_true rfl) dX3_waitAt_26 ⟨(Nat.le_of_ble_eq_true rfl), (Nat.le_of_ble_eq_true rfl)⟩ (fun r_96 u H locs hw hP2 hD2 hS2 => ?_)
          clear hP hD hS
          obtain rfl := hw
          have hPD : PD D A [(L0p, .inl (g 0, 15, .inl F_26)), (Nn, .inr (3, [.int (nI hp), .int (nI cc), .int zrs, .int zad, .int zpr, .int (nI t), .int zlo, .int z_25, .ref Nl, .ref Nf, .ref Nb])), (Nl, .inl (g 1, 3, .inr (.inr (.inr (.inr (rf3 M0 M1 L0)))))), (Nb, .inl (g 0, 12, .inl fbuf)), (L0, .inr (2, [.int (nI d0), .int (fk0 1), .int (fk0 2), .int (fv0 3), .int (fv0 4), .int (fv0 5), .ref L0c, .ref L0u, .ref L0p, .ref L0l])), (L0l, .inl (g 2, 3, .inr (.inr (.inr (.inr (rf3 L0a L0b L0d)))))), (L0a, .inr (1, [.int (G_21 0), .int (G_21 1), .int (G_21 2), .int (fa0 3), .int (G_21 4), .int (G_21 5), .int (G_21 6)])), (L0b, .inr (1, [.int (G_22 0), .int (G_22 1), .int (G_22 2), .int (fb0 3), .int (G_22 4), .int (G_22 5), .int (G_22 6)])), (L0d, .inr (1, [.int (G_23 0), .int (G_23 1), .int (G_23 2), .int (fd0 3), .int (G_23 4), .int (G_23 5), .int (G_23 6)]))] H := ⟨hP2, hD2⟩
          have hS := hS2; clear hP2 hD2 hS2; have hP := hPD.1; have hD := hPD.2; clear hPD
          refine W.widen (k := 0) (n := 0) (Nat.le_of_ble_eq_true rfl) (Nat.le_of_ble_eq_true rfl) ?_
          have join_104 : ∀ (y_100 : Int32) (H : Heap) (locs : List Loc) (ls : Array Slot), va_P D vwCl [(L0p, .inl (g 0, 15, .inl F_26)), (Nn, .inr (3, [.int (nI hp), .int (nI cc), .int zrs, .int zad, .int zpr, .int (nI t), .int zlo, .int z_25, .ref Nl, .ref Nf, .ref Nb])), (Nl, .inl (g 1, 3, .inr (.inr (.inr (.inr (rf3 M0 M1 L0)))))), (Nb, .inl (g 0, 12, .inl fbuf)), (L0, .inr (2, [.int (nI d0), .int (fk0 1), .int (fk0 2), .int (fv0 3), .int (fv0 4), .int (fv0 5), .ref L0c, .ref L0u, .ref L0p, .ref L0l])), (L0l, .inl (g 2, 3, .inr (.inr (.inr (.inr (rf3 L0a L0b L0d)))))), (L0a, .inr (1, [.int (G_21 0), .int (G_21 1), .int (G_21 2), .int (fa0 3), .int (G_21 4), .int (G_21 5), .int (G_21 6)])), (L0b, .inr (1, [.int (G_22 0), .int (G_22 1), .int (G_22 2), .int (fb0 3), .int (G_22 4), .int (G_22 5), .int (G_22 6)])), (L0d, .inr (1, [.int (G_23 0), .int (G_23 1), .int (G_23 2), .int (fd0 3), .int (G_23 4), .int (G_23 5), .int (G_23 6)]))] H → va_D A [(L0p, .inl (g 0, 15, .inl F_26)), (Nn, .inr (3, [.int (nI hp), .int (nI cc), .int zrs, .int zad, .int zpr, .int (nI t), .int zlo, .int z_25, .ref Nl, .ref Nf, .ref Nb])), (Nl, .inl (g 1, 3, .inr (.inr (.inr (.inr (rf3 M0 M1 L0)))))), (Nb, .inl (g 0, 12, .inl fbuf)), (L0, .inr (2, [.int (nI d0), .int (fk0 1), .int (fk0 2), .int (fv0 3), .int (fv0 4), .int (fv0 5), .ref L0c, .ref L0u, .ref L0p, .ref L0l])), (L0l, .inl (g 2, 3, .inr (.inr (.inr (.inr (rf3 L0a L0b L0d)))))), (L0a, .inr (1, [.int (G_21 0), .int (G_21 1), .int (G_21 2), .int (fa0 3), .int (G_21 4), .int (G_21 5), .int (G_21 6)])), (L0b, .inr (1, [.int (G_22 0), .int (G_22 1), .int (G_22 2), .int (fb0 3), .int (G_22 4), .int (G_22 5), .int (G_22 6)])), (L0d, .inr (1, [.int (G_23 0), .int (G_23 1), .int (G_23 2), .int (fd0 3), .int (G_23 4), .int (G_23 5), .int (G_23 6)]))] → va_S A s.heap H locs → lv_has ls 4 [(3, .ref L0a), (2, .int (nI 0)), (0, .ref Nn), (1, .int 2)] → W p l e (headSpec wsX3_waitAt ({ frames := 2, cells := 0, slots := 0, locals := 42 })).room s m ([.ref Nn, .int 2] : List Value).toArray below meth c H locs 0 0 Q (F0 m 42 ls [.int y_100, .ref L0a]) := by
            clear hP hD hS hl
            intro y_100  H locs ls hP hD hS hl
            refine va_put (D := D) (ci := 1) (v := .int y_100) (ty := .int) (C := RX1) (T := TX1) (N := 7) hx hb hts iX1 tyX1 tyX1_ok nmX1 hown hK hP hD hS 6 rfl rfl 4 (by decide) f210 (fun _ h9 => h9) rfl (by decide +kernel) (rfl) (rfl) (Nat.le_of_ble_eq_true rfl) dX3_waitAt_42 (fun H locs hP2 hD2 hS2 => ?_)
            clear hP hD hS
            have hPD : PD D A [(L0p, .inl (g 0, 15, .inl F_26)), (Nn, .inr (3, [.int (nI hp), .int (nI cc), .int zrs, .int zad, .int zpr, .int (nI t), .int zlo, .int z_25, .ref Nl, .ref Nf, .ref Nb])), (Nl, .inl (g 1, 3, .inr (.inr (.inr (.inr (rf3 M0 M1 L0)))))), (Nb, .inl (g 0, 12, .inl fbuf)), (L0, .inr (2, [.int (nI d0), .int (fk0 1), .int (fk0 2), .int (fv0 3), .int (fv0 4), .int (fv0 5), .ref L0c, .ref L0u, .ref L0p, .ref L0l])), (L0l, .inl (g 2, 3, .inr (.inr (.inr (.inr (rf3 L0a L0b L0d)))))), (L0a, .inr (1, [.int (G_21 0), .int (G_21 1), .int (G_21 2), .int (fa0 3), .int y_100, .int (G_21 5), .int (G_21 6)])), (L0b, .inr (1, [.int (G_22 0), .int (G_22 1), .int (G_22 2), .int (fb0 3), .int (G_22 4), .int (G_22 5), .int (G_22 6)])), (L0d, .inr (1, [.int (G_23 0), .int (G_23 1), .int (G_23 2), .int (fd0 3), .int (G_23 4), .int (G_23 5), .int (G_23 6)]))] H := ⟨hP2, hD2⟩
            have hS := hS2; clear hP2 hD2 hS2; have hP := hPD.1; have hD := hPD.2; clear hPD
            refine lv_aload_n hx hb dX3_waitAt_45 rfl (lv_at hl 2 rfl) ?_
            refine va_get (D := D) (ci := 3) (v := .int zpr) (C := RX3) (T := TX3) (N := 11) hx hb hts iX3 hown hK hP 1 rfl rfl 4 (by decide) f50 (fun _ h9 => h9) rfl dX3_waitAt_46 ?_
            refine lv_if_le (tgt := 74) hx hb dX3_waitAt_49 (by decide) (fun cb_105 => ?_) (fun cb_105 => ?_)
            · skip
              refine lv_iinc (v := 1) (lv' := [(2, .int 1), (3, .ref L0a), (0, .ref Nn), (1, .int 2)]) hx hb dX3_waitAt_74 hl (k := 1) rfl (by decide) (by decide) rfl (fun ls hl => ?_)
              refine lv_goto (tgt := 2) hx hb dX3_waitAt_77 (by decide) ?_
              exact loop_91_ih (lf [G_21 0, G_21 1, G_21 2, 0, y_100, G_21 5, G_21 6]) G_22 G_23 1 z_25 F_26 (show 1 ≤ cc by omega) (show cc - 1 < Nloop_91 by omega) _ _ _ (hP.sub [1, 2, 3, 4, 0, 5, 6, 7, 8] rfl) (hD.sub [1, 2, 3, 4, 0, 5, 6, 7, 8] (by decide) rfl) hS (lv_sub hl [0, 2, 3] rfl)
            · skip
              refine lv_aload_n hx hb dX3_waitAt_52 rfl (lv_at hl 0 rfl) ?_
              refine va_get (D := D) (ci := 1) (v := .int y_100) (C := RX1) (T := TX1) (N := 7) hx hb hts iX1 hown hK hP 6 rfl rfl 4 (by decide) f210 (fun _ h9 => h9) rfl dX3_waitAt_53 ?_
              refine lv_aload_n hx hb dX3_waitAt_56 rfl (lv_at hl 2 rfl) ?_
              refine va_get (D := D) (ci := 3) (v := .int zpr) (C := RX3) (T := TX3) (N := 11) hx hb hts iX3 hown hK hP 1 rfl rfl 4 (by decide) f50 (fun _ h9 => h9) rfl dX3_waitAt_57 ?_
              refine lv_icmp_lt (tgt := 74) hx hb dX3_waitAt_60 (by decide) (fun cb_106 => ?_) (fun cb_106 => ?_)
              · skip
                refine lv_iinc (v := 1) (lv' := [(2, .int 1), (3, .ref L0a), (0, .ref Nn), (1, .int 2)]) hx hb dX3_waitAt_74 hl (k := 1) rfl (by decide) (by decide) rfl (fun ls hl => ?_)
                refine lv_goto (tgt := 2) hx hb dX3_waitAt_77 (by decide) ?_
                exact loop_91_ih (lf [G_21 0, G_21 1, G_21 2, 0, y_100, G_21 5, G_21 6]) G_22 G_23 1 z_25 F_26 (show 1 ≤ cc by omega) (show cc - 1 < Nloop_91 by omega) _ _ _ (hP.sub [1, 2, 3, 4, 0, 5, 6, 7, 8] rfl) (hD.sub [1, 2, 3, 4, 0, 5, 6, 7, 8] (by decide) rfl) hS (lv_sub hl [0, 2, 3] rfl)
              · skip
                refine lv_aload_n hx hb dX3_waitAt_63 rfl (lv_at hl 2 rfl) ?_
                refine lv_aload_n hx hb dX3_waitAt_64 rfl (lv_at hl 2 rfl) ?_
                refine va_get (D := D) (ci := 3) (v := .ref Nl) (C := RX3) (T := TX3) (N := 11) hx hb hts iX3 hown hK hP 1 rfl rfl 8 (by decide) f11 (fun _ h9 => h9) rfl dX3_waitAt_65 ?_
                refine lv_iload_n hx hb dX3_waitAt_68 rfl (lv_at hl 3 rfl) ?_
                refine va_aldq (C := "HopCredits$Link") hx hb hK hP 2 1 rfl rfl (by unfold vp_in; decide) dX3_waitAt_69 ?_
                refine lv_eqv (v2 := .ref L0) rfl ?_
                refine lv_iload_n hx hb dX3_waitAt_70 rfl (lv_at hl 1 rfl) ?_
                refine ky_Vv (As := [.ref L0, .int (nI 0)]) (rest := []) ⟨hx, hb, hml, hown, hts⟩ ⟨hK, hN⟩ hZ hP hD hS hA [1, 4, 0, 5, 6, 7, 8] [2, 3] (wc := [(Nn, .inr (3, [.int (nI hp), .int (nI cc), .int zrs, .int zad, .int zpr, .int (nI t), .int zlo, .int z_25, .ref Nl, .ref Nf, .ref Nb])), (L0, .inr (2, [.int (nI d0), .int (fk0 1), .int (fk0 2), .int (fv0 3), .int (fv0 4), .int (fv0 5), .ref L0c, .ref L0u, .ref L0p, .ref L0l])), (L0p, .inl (g 0, 15, .inl F_26)), (L0l, .inl (g 2, 3, .inr (.inr (.inr (.inr (rf3 L0a L0b L0d)))))), (L0a, .inr (1, [.int (G_21 0), .int (G_21 1), .int (G_21 2), .int (fa0 3), .int y_100, .int (G_21 5), .int (G_21 6)])), (L0b, .inr (1, [.int (G_22 0), .int (G_22 1), .int (G_22 2), .int (fb0 3), .int (G_22 4), .int (G_22 5), .int (G_22 6)])), (L0d, .inr (1, [.int (G_23 0), .int (G_23 1), .int (G_23 2), .int (fd0 3), .int (G_23 4), .int (G_23 5), .int (G_23 6)]))]) (wr := [(Nl, .inl (g 1, 3, .inr (.inr (.inr (.inr (rf3 M0 M1 L0)))))), (Nb, .inl (g 0, 12, .inl fbuf))]) rfl rfl rfl rfl (by decide) (k_X3_sendProbe l D g H.size Nn L0 0 hp cc zrs zad zpr t zlo z_25 Nl Nf Nb d0 fk0 fv0 L0c L0u L0p L0l F_26 L0a L0b L0d (lf [G_21 0, G_21 1, G_21 2, fa0 3, y_100, G_21 5, G_21 6]) (lf [G_22 0, G_22 1, G_22 2, fb0 3, G_22 4, G_22 5, G_22 6]) (lf [G_23 0, G_23 1, G_23 2, fd0 3, G_23 4, G_23 5, G_23 6]) (show 0 < 3 by omega) (show t < 2 ^ 30 by omega) (show d0 < 5 by omega) (h4)) (cwV 2 hts gX3_waitAt_X3_sendProbe rfl rfl rfl (by decide +kernel) ⟨(Nat.le_of_ble_eq_true rfl), (Nat.le_of_ble_eq_true rfl)⟩) 1 3 rfl rfl rfl rfl hl.1 rfl (Nat.le_of_ble_eq_true rfl) dX3_waitAt_71 ⟨(Nat.le_of_ble_eq_true rfl), (Nat.le_of_ble_eq_true rfl)⟩ (fun u H locs hw hP2 hD2 hS2 => ?_)
                clear hP hD hS
                obtain ⟨zpsx_108, fp0x_109, fa0x_110, fb0x_111, fd0x_112, rfl⟩ := hw
                have hPD : PD D A [(Nl, .inl (g 1, 3, .inr (.inr (.inr (.inr (rf3 M0 M1 L0)))))), (Nb, .inl (g 0, 12, .inl fbuf)), (Nn, .inr (3, [.int (nI hp), .int (nI cc), .int zrs, .int zad, .int zpr, .int (nI t), .int zlo, .int zpsx_108, .ref Nl, .ref Nf, .ref Nb])), (L0, .inr (2, [.int (nI d0), .int (fk0 1), .int (fk0 2), .int (fv0 3), .int (fv0 4), .int (fv0 5), .ref L0c, .ref L0u, .ref L0p, .ref L0l])), (L0p, .inl (g 0, 15, .inl fp0x_109)), (L0l, .inl (g 2, 3, .inr (.inr (.inr (.inr (rf3 L0a L0b L0d)))))), (L0a, .inr (1, [.int (fa0x_110 0), .int (fa0x_110 1), .int (fa0x_110 2), .int (fa0 3), .int (fa0x_110 4), .int (fa0x_110 5), .int (fa0x_110 6)])), (L0b, .inr (1, [.int (fb0x_111 0), .int (fb0x_111 1), .int (fb0x_111 2), .int (fb0 3), .int (fb0x_111 4), .int (fb0x_111 5), .int (fb0x_111 6)])), (L0d, .inr (1, [.int (fd0x_112 0), .int (fd0x_112 1), .int (fd0x_112 2), .int (fd0 3), .int (fd0x_112 4), .int (fd0x_112 5), .int (fd0x_112 6)]))] H := ⟨hP2, hD2⟩
                have hS := hS2; clear hP2 hD2 hS2; have hP := hPD.1; have hD := hPD.2; clear hPD
                refine W.widen (k := 0) (n := 0) (Nat.le_of_ble_eq_true rfl) (Nat.le_of_ble_eq_true rfl) ?_
                refine lv_iinc (v := 1) (lv' := [(2, .int 1), (3, .ref L0a), (0, .ref Nn), (1, .int 2)]) hx hb dX3_waitAt_74 hl (k := 1) rfl (by decide) (by decide) rfl (fun ls hl => ?_)
                refine lv_goto (tgt := 2) hx hb dX3_waitAt_77 (by decide) ?_
                exact loop_91_ih fa0x_110 fb0x_111 fd0x_112 1 zpsx_108 fp0x_109 (show 1 ≤ cc by omega) (show cc - 1 < Nloop_91 by omega) _ _ _ (hP.sub [2, 0, 1, 3, 4, 5, 6, 7, 8] rfl) (hD.sub [2, 0, 1, 3, 4, 5, 6, 7, 8] (by decide) rfl) hS (lv_sub hl [0, 2, 3] rfl)
          refine lv_if_eq (tgt := 41) hx hb dX3_waitAt_29 (by decide) (fun cb_113 => ?_) (fun cb_113 => ?_)
          · skip
            have hPq_114 := hP; have hDq_114 := hD; have hSq_114 := hS; have hlq_114 := hl; clear hP hD hS hl
            subst cb_113
            have hP := hPq_114; have hD := hDq_114; have hS := hSq_114; have hl := hlq_114; clear hPq_114 hDq_114 hSq_114 hlq_114
            refine lv_iconst (v := 0) hx hb dX3_waitAt_41 (by decide) ?_
            exact join_104 0 _ _ _ hP hD hS hl
          · skip
            refine lv_aload_n hx hb dX3_waitAt_32 rfl (lv_at hl 0 rfl) ?_
            refine va_get (D := D) (ci := 1) (v := .int (G_21 4)) (C := RX1) (T := TX1) (N := 7) hx hb hts iX1 hown hK hP 6 rfl rfl 4 (by decide) f210 (fun _ h9 => h9) rfl dX3_waitAt_33 ?_
            refine lv_iconst (v := 1) hx hb dX3_waitAt_36 (by decide) ?_
            refine lv_iadd hx hb dX3_waitAt_37 ?_
            refine lv_topi (fun y_115 _ => ?_)
            refine lv_goto (tgt := 42) hx hb dX3_waitAt_38 (by decide) ?_
            exact join_104 y_115 _ _ _ hP hD hS hl
        · skip
          have hP := hPq_95; have hD := hDq_95; have hS := hSq_95; have hl := hlq_95; clear hPq_95 hDq_95 hSq_95 hlq_95
          refine va_aldq (C := "HopCredits$Lane") hx hb hK hP 5 2 rfl rfl (by unfold vp_in; decide) dX3_waitAt_20 ?_
          refine lv_eqv (v2 := .ref L0b) rfl ?_
          refine lv_astore_n (lv' := [(3, .ref L0b), (2, .int (nI 1)), (0, .ref Nn), (1, .int 2)]) hx hb dX3_waitAt_21 rfl hl (by decide) rfl (fun ls hl => ?_)
          refine lv_aload_n hx hb dX3_waitAt_22 rfl (lv_at hl 0 rfl) ?_
          refine lv_aload_n hx hb dX3_waitAt_23 rfl (lv_at hl 2 rfl) ?_
          refine lv_iload_n hx hb dX3_waitAt_24 rfl (lv_at hl 3 rfl) ?_
          refine lv_iload_n hx hb dX3_waitAt_25 rfl (lv_at hl 1 rfl) ?_
          refine ky_Vi (As := [.int 2, .int (nI 1)]) (rest := [.ref L0b]) ⟨hx, hb, hml, hown, hts⟩ ⟨hK, hN⟩ hZ hP hD hS hA [0, 1, 2, 3, 5, 6, 7, 8] [4] (wc := [(Nn, .inr (3, [.int (nI hp), .int (nI cc), .int zrs, .int zad, .int zpr, .int (nI t), .int zlo, .int z_25, .ref Nl, .ref Nf, .ref Nb])), (Nl, .inl (g 1, 3, .inr (.inr (.inr (.inr (rf3 M0 M1 L0)))))), (Nb, .inl (g 0, 12, .inl fbuf)), (L0, .inr (2, [.int (nI d0), .int (fk0 1), .int (fk0 2), .int (fv0 3), .int (fv0 4), .int (fv0 5), .ref L0c, .ref L0u, .ref L0p, .ref L0l])), (L0l, .inl (g 2, 3, .inr (.inr (.inr (.inr (rf3 L0a L0b L0d)))))), (L0a, .inr (1, [.int (G_21 0), .int (G_21 1), .int (G_21 2), .int (fa0 3), .int (G_21 4), .int (G_21 5), .int (G_21 6)])), (L0b, .inr (1, [.int (G_22 0), .int (G_22 1), .int (G_22 2), .int (fb0 3), .int (G_22 4), .int (G_22 5), .int (G_22 6)])), (L0d, .inr (1, [.int (G_23 0), .int (G_23 1), .int (G_23 2), .int (fd0 3), .int (G_23 4), .int (G_23 5), .int (G_23 6)]))]) (wr := [(L0p, .inl (g 0, 15, .inl F_26))]) rfl rfl rfl rfl (by decide) (k_X3_lacksCredit_2 l D g H.size Nn 1 (lf [nI hp, nI cc, zrs, zad, zpr, nI t, zlo, z_25]) Nl Nf Nb M0 M1 L0 fbuf d0 fk0 fv0 L0c L0u L0p L0l L0a L0b L0d (lf [G_21 0, G_21 1, G_21 2, fa0 3, G_21 4, G_21 5, G_21 6]) (lf [G_22 0, G_22 1, G_22 2, fb0 3, G_22 4, G_22 5, G_22 6]) (lf [G_23 0, G_23 1, G_23 2, fd0 3, G_23 4, G_23 5, G_23 6]) (show 1 < 3 by omega)) (cwV 2 hts gX3_waitAt_X3_lacksCredit rfl rfl rfl (by decide +kernel) ⟨(Nat.le_of_ble_eq_true rfl), (Nat.le_of_ble_eq_true rfl)⟩) 0 3 rfl rfl rfl rfl hl.1 rfl (Nat.le_of_ble_eq_true rfl) dX3_waitAt_26 ⟨(Nat.le_of_ble_eq_true rfl), (Nat.le_of_ble_eq_true rfl)⟩ (fun r_116 u H locs hw hP2 hD2 hS2 => ?_)
          clear hP hD hS
          obtain rfl := hw
          have hPD : PD D A [(L0p, .inl (g 0, 15, .inl F_26)), (Nn, .inr (3, [.int (nI hp), .int (nI cc), .int zrs, .int zad, .int zpr, .int (nI t), .int zlo, .int z_25, .ref Nl, .ref Nf, .ref Nb])), (Nl, .inl (g 1, 3, .inr (.inr (.inr (.inr (rf3 M0 M1 L0)))))), (Nb, .inl (g 0, 12, .inl fbuf)), (L0, .inr (2, [.int (nI d0), .int (fk0 1), .int (fk0 2), .int (fv0 3), .int (fv0 4), .int (fv0 5), .ref L0c, .ref L0u, .ref L0p, .ref L0l])), (L0l, .inl (g 2, 3, .inr (.inr (.inr (.inr (rf3 L0a L0b L0d)))))), (L0a, .inr (1, [.int (G_21 0), .int (G_21 1), .int (G_21 2), .int (fa0 3), .int (G_21 4), .int (G_21 5), .int (G_21 6)])), (L0b, .inr (1, [.int (G_22 0), .int (G_22 1), .int (G_22 2), .int (fb0 3), .int (G_22 4), .int (G_22 5), .int (G_22 6)])), (L0d, .inr (1, [.int (G_23 0), .int (G_23 1), .int (G_23 2), .int (fd0 3), .int (G_23 4), .int (G_23 5), .int (G_23 6)]))] H := ⟨hP2, hD2⟩
          have hS := hS2; clear hP2 hD2 hS2; have hP := hPD.1; have hD := hPD.2; clear hPD
          refine W.widen (k := 0) (n := 0) (Nat.le_of_ble_eq_true rfl) (Nat.le_of_ble_eq_true rfl) ?_
          have join_124 : ∀ (y_120 : Int32) (H : Heap) (locs : List Loc) (ls : Array Slot), va_P D vwCl [(L0p, .inl (g 0, 15, .inl F_26)), (Nn, .inr (3, [.int (nI hp), .int (nI cc), .int zrs, .int zad, .int zpr, .int (nI t), .int zlo, .int z_25, .ref Nl, .ref Nf, .ref Nb])), (Nl, .inl (g 1, 3, .inr (.inr (.inr (.inr (rf3 M0 M1 L0)))))), (Nb, .inl (g 0, 12, .inl fbuf)), (L0, .inr (2, [.int (nI d0), .int (fk0 1), .int (fk0 2), .int (fv0 3), .int (fv0 4), .int (fv0 5), .ref L0c, .ref L0u, .ref L0p, .ref L0l])), (L0l, .inl (g 2, 3, .inr (.inr (.inr (.inr (rf3 L0a L0b L0d)))))), (L0a, .inr (1, [.int (G_21 0), .int (G_21 1), .int (G_21 2), .int (fa0 3), .int (G_21 4), .int (G_21 5), .int (G_21 6)])), (L0b, .inr (1, [.int (G_22 0), .int (G_22 1), .int (G_22 2), .int (fb0 3), .int (G_22 4), .int (G_22 5), .int (G_22 6)])), (L0d, .inr (1, [.int (G_23 0), .int (G_23 1), .int (G_23 2), .int (fd0 3), .int (G_23 4), .int (G_23 5), .int (G_23 6)]))] H → va_D A [(L0p, .inl (g 0, 15, .inl F_26)), (Nn, .inr (3, [.int (nI hp), .int (nI cc), .int zrs, .int zad, .int zpr, .int (nI t), .int zlo, .int z_25, .ref Nl, .ref Nf, .ref Nb])), (Nl, .inl (g 1, 3, .inr (.inr (.inr (.inr (rf3 M0 M1 L0)))))), (Nb, .inl (g 0, 12, .inl fbuf)), (L0, .inr (2, [.int (nI d0), .int (fk0 1), .int (fk0 2), .int (fv0 3), .int (fv0 4), .int (fv0 5), .ref L0c, .ref L0u, .ref L0p, .ref L0l])), (L0l, .inl (g 2, 3, .inr (.inr (.inr (.inr (rf3 L0a L0b L0d)))))), (L0a, .inr (1, [.int (G_21 0), .int (G_21 1), .int (G_21 2), .int (fa0 3), .int (G_21 4), .int (G_21 5), .int (G_21 6)])), (L0b, .inr (1, [.int (G_22 0), .int (G_22 1), .int (G_22 2), .int (fb0 3), .int (G_22 4), .int (G_22 5), .int (G_22 6)])), (L0d, .inr (1, [.int (G_23 0), .int (G_23 1), .int (G_23 2), .int (fd0 3), .int (G_23 4), .int (G_23 5), .int (G_23 6)]))] → va_S A s.heap H locs → lv_has ls 4 [(3, .ref L0b), (2, .int (nI 1)), (0, .ref Nn), (1, .int 2)] → W p l e (headSpec wsX3_waitAt ({ frames := 2, cells := 0, slots := 0, locals := 42 })).room s m ([.ref Nn, .int 2] : List Value).toArray below meth c H locs 0 0 Q (F0 m 42 ls [.int y_120, .ref L0b]) := by
            clear hP hD hS hl
            intro y_120  H locs ls hP hD hS hl
            refine va_put (D := D) (ci := 1) (v := .int y_120) (ty := .int) (C := RX1) (T := TX1) (N := 7) hx hb hts iX1 tyX1 tyX1_ok nmX1 hown hK hP hD hS 7 rfl rfl 4 (by decide) f210 (fun _ h9 => h9) rfl (by decide +kernel) (rfl) (rfl) (Nat.le_of_ble_eq_true rfl) dX3_waitAt_42 (fun H locs hP2 hD2 hS2 => ?_)
            clear hP hD hS
            have hPD : PD D A [(L0p, .inl (g 0, 15, .inl F_26)), (Nn, .inr (3, [.int (nI hp), .int (nI cc), .int zrs, .int zad, .int zpr, .int (nI t), .int zlo, .int z_25, .ref Nl, .ref Nf, .ref Nb])), (Nl, .inl (g 1, 3, .inr (.inr (.inr (.inr (rf3 M0 M1 L0)))))), (Nb, .inl (g 0, 12, .inl fbuf)), (L0, .inr (2, [.int (nI d0), .int (fk0 1), .int (fk0 2), .int (fv0 3), .int (fv0 4), .int (fv0 5), .ref L0c, .ref L0u, .ref L0p, .ref L0l])), (L0l, .inl (g 2, 3, .inr (.inr (.inr (.inr (rf3 L0a L0b L0d)))))), (L0a, .inr (1, [.int (G_21 0), .int (G_21 1), .int (G_21 2), .int (fa0 3), .int (G_21 4), .int (G_21 5), .int (G_21 6)])), (L0b, .inr (1, [.int (G_22 0), .int (G_22 1), .int (G_22 2), .int (fb0 3), .int y_120, .int (G_22 5), .int (G_22 6)])), (L0d, .inr (1, [.int (G_23 0), .int (G_23 1), .int (G_23 2), .int (fd0 3), .int (G_23 4), .int (G_23 5), .int (G_23 6)]))] H := ⟨hP2, hD2⟩
            have hS := hS2; clear hP2 hD2 hS2; have hP := hPD.1; have hD := hPD.2; clear hPD
            refine lv_aload_n hx hb dX3_waitAt_45 rfl (lv_at hl 2 rfl) ?_
            refine va_get (D := D) (ci := 3) (v := .int zpr) (C := RX3) (T := TX3) (N := 11) hx hb hts iX3 hown hK hP 1 rfl rfl 4 (by decide) f50 (fun _ h9 => h9) rfl dX3_waitAt_46 ?_
            refine lv_if_le (tgt := 74) hx hb dX3_waitAt_49 (by decide) (fun cb_125 => ?_) (fun cb_125 => ?_)
            · skip
              refine lv_iinc (v := 2) (lv' := [(2, .int 2), (3, .ref L0b), (0, .ref Nn), (1, .int 2)]) hx hb dX3_waitAt_74 hl (k := 1) rfl (by decide) (by decide) rfl (fun ls hl => ?_)
              refine lv_goto (tgt := 2) hx hb dX3_waitAt_77 (by decide) ?_
              exact loop_91_ih G_21 (lf [G_22 0, G_22 1, G_22 2, 0, y_120, G_22 5, G_22 6]) G_23 2 z_25 F_26 (show 2 ≤ cc by omega) (show cc - 2 < Nloop_91 by omega) _ _ _ (hP.sub [1, 2, 3, 4, 0, 5, 6, 7, 8] rfl) (hD.sub [1, 2, 3, 4, 0, 5, 6, 7, 8] (by decide) rfl) hS (lv_sub hl [0, 2, 3] rfl)
            · skip
              refine lv_aload_n hx hb dX3_waitAt_52 rfl (lv_at hl 0 rfl) ?_
              refine va_get (D := D) (ci := 1) (v := .int y_120) (C := RX1) (T := TX1) (N := 7) hx hb hts iX1 hown hK hP 7 rfl rfl 4 (by decide) f210 (fun _ h9 => h9) rfl dX3_waitAt_53 ?_
              refine lv_aload_n hx hb dX3_waitAt_56 rfl (lv_at hl 2 rfl) ?_
              refine va_get (D := D) (ci := 3) (v := .int zpr) (C := RX3) (T := TX3) (N := 11) hx hb hts iX3 hown hK hP 1 rfl rfl 4 (by decide) f50 (fun _ h9 => h9) rfl dX3_waitAt_57 ?_
              refine lv_icmp_lt (tgt := 74) hx hb dX3_waitAt_60 (by decide) (fun cb_126 => ?_) (fun cb_126 => ?_)
              · skip
                refine lv_iinc (v := 2) (lv' := [(2, .int 2), (3, .ref L0b), (0, .ref Nn), (1, .int 2)]) hx hb dX3_waitAt_74 hl (k := 1) rfl (by decide) (by decide) rfl (fun ls hl => ?_)
                refine lv_goto (tgt := 2) hx hb dX3_waitAt_77 (by decide) ?_
                exact loop_91_ih G_21 (lf [G_22 0, G_22 1, G_22 2, 0, y_120, G_22 5, G_22 6]) G_23 2 z_25 F_26 (show 2 ≤ cc by omega) (show cc - 2 < Nloop_91 by omega) _ _ _ (hP.sub [1, 2, 3, 4, 0, 5, 6, 7, 8] rfl) (hD.sub [1, 2, 3, 4, 0, 5, 6, 7, 8] (by decide) rfl) hS (lv_sub hl [0, 2, 3] rfl)
              · skip
                refine lv_aload_n hx hb dX3_waitAt_63 rfl (lv_at hl 2 rfl) ?_
                refine lv_aload_n hx hb dX3_waitAt_64 rfl (lv_at hl 2 rfl) ?_
                refine va_get (D := D) (ci := 3) (v := .ref Nl) (C := RX3) (T := TX3) (N := 11) hx hb hts iX3 hown hK hP 1 rfl rfl 8 (by decide) f11 (fun _ h9 => h9) rfl dX3_waitAt_65 ?_
                refine lv_iload_n hx hb dX3_waitAt_68 rfl (lv_at hl 3 rfl) ?_
                refine va_aldq (C := "HopCredits$Link") hx hb hK hP 2 1 rfl rfl (by unfold vp_in; decide) dX3_waitAt_69 ?_
                refine lv_eqv (v2 := .ref L0) rfl ?_
                refine lv_iload_n hx hb dX3_waitAt_70 rfl (lv_at hl 1 rfl) ?_
                refine ky_Vv (As := [.ref L0, .int (nI 1)]) (rest := []) ⟨hx, hb, hml, hown, hts⟩ ⟨hK, hN⟩ hZ hP hD hS hA [1, 4, 0, 5, 6, 7, 8] [2, 3] (wc := [(Nn, .inr (3, [.int (nI hp), .int (nI cc), .int zrs, .int zad, .int zpr, .int (nI t), .int zlo, .int z_25, .ref Nl, .ref Nf, .ref Nb])), (L0, .inr (2, [.int (nI d0), .int (fk0 1), .int (fk0 2), .int (fv0 3), .int (fv0 4), .int (fv0 5), .ref L0c, .ref L0u, .ref L0p, .ref L0l])), (L0p, .inl (g 0, 15, .inl F_26)), (L0l, .inl (g 2, 3, .inr (.inr (.inr (.inr (rf3 L0a L0b L0d)))))), (L0a, .inr (1, [.int (G_21 0), .int (G_21 1), .int (G_21 2), .int (fa0 3), .int (G_21 4), .int (G_21 5), .int (G_21 6)])), (L0b, .inr (1, [.int (G_22 0), .int (G_22 1), .int (G_22 2), .int (fb0 3), .int y_120, .int (G_22 5), .int (G_22 6)])), (L0d, .inr (1, [.int (G_23 0), .int (G_23 1), .int (G_23 2), .int (fd0 3), .int (G_23 4), .int (G_23 5), .int (G_23 6)]))]) (wr := [(Nl, .inl (g 1, 3, .inr (.inr (.inr (.inr (rf3 M0 M1 L0)))))), (Nb, .inl (g 0, 12, .inl fbuf))]) rfl rfl rfl rfl (by decide) (k_X3_sendProbe l D g H.size Nn L0 1 hp cc zrs zad zpr t zlo z_25 Nl Nf Nb d0 fk0 fv0 L0c L0u L0p L0l F_26 L0a L0b L0d (lf [G_21 0, G_21 1, G_21 2, fa0 3, G_21 4, G_21 5, G_21 6]) (lf [G_22 0, G_22 1, G_22 2, fb0 3, y_120, G_22 5, G_22 6]) (lf [G_23 0, G_23 1, G_23 2, fd0 3, G_23 4, G_23 5, G_23 6]) (show 1 < 3 by omega) (show t < 2 ^ 30 by omega) (show d0 < 5 by omega) (h4)) (cwV 2 hts gX3_waitAt_X3_sendProbe rfl rfl rfl (by decide +kernel) ⟨(Nat.le_of_ble_eq_true rfl), (Nat.le_of_ble_eq_true rfl)⟩) 1 3 rfl rfl rfl rfl hl.1 rfl (Nat.le_of_ble_eq_true rfl) dX3_waitAt_71 ⟨(Nat.le_of_ble_eq_true rfl), (Nat.le_of_ble_eq_true rfl)⟩ (fun u H locs hw hP2 hD2 hS2 => ?_)
                clear hP hD hS
                obtain ⟨zpsx_128, fp0x_129, fa0x_130, fb0x_131, fd0x_132, rfl⟩ := hw
                have hPD : PD D A [(Nl, .inl (g 1, 3, .inr (.inr (.inr (.inr (rf3 M0 M1 L0)))))), (Nb, .inl (g 0, 12, .inl fbuf)), (Nn, .inr (3, [.int (nI hp), .int (nI cc), .int zrs, .int zad, .int zpr, .int (nI t), .int zlo, .int zpsx_128, .ref Nl, .ref Nf, .ref Nb])), (L0, .inr (2, [.int (nI d0), .int (fk0 1), .int (fk0 2), .int (fv0 3), .int (fv0 4), .int (fv0 5), .ref L0c, .ref L0u, .ref L0p, .ref L0l])), (L0p, .inl (g 0, 15, .inl fp0x_129)), (L0l, .inl (g 2, 3, .inr (.inr (.inr (.inr (rf3 L0a L0b L0d)))))), (L0a, .inr (1, [.int (fa0x_130 0), .int (fa0x_130 1), .int (fa0x_130 2), .int (fa0 3), .int (fa0x_130 4), .int (fa0x_130 5), .int (fa0x_130 6)])), (L0b, .inr (1, [.int (fb0x_131 0), .int (fb0x_131 1), .int (fb0x_131 2), .int (fb0 3), .int (fb0x_131 4), .int (fb0x_131 5), .int (fb0x_131 6)])), (L0d, .inr (1, [.int (fd0x_132 0), .int (fd0x_132 1), .int (fd0x_132 2), .int (fd0 3), .int (fd0x_132 4), .int (fd0x_132 5), .int (fd0x_132 6)]))] H := ⟨hP2, hD2⟩
                have hS := hS2; clear hP2 hD2 hS2; have hP := hPD.1; have hD := hPD.2; clear hPD
                refine W.widen (k := 0) (n := 0) (Nat.le_of_ble_eq_true rfl) (Nat.le_of_ble_eq_true rfl) ?_
                refine lv_iinc (v := 2) (lv' := [(2, .int 2), (3, .ref L0b), (0, .ref Nn), (1, .int 2)]) hx hb dX3_waitAt_74 hl (k := 1) rfl (by decide) (by decide) rfl (fun ls hl => ?_)
                refine lv_goto (tgt := 2) hx hb dX3_waitAt_77 (by decide) ?_
                exact loop_91_ih fa0x_130 fb0x_131 fd0x_132 2 zpsx_128 fp0x_129 (show 2 ≤ cc by omega) (show cc - 2 < Nloop_91 by omega) _ _ _ (hP.sub [2, 0, 1, 3, 4, 5, 6, 7, 8] rfl) (hD.sub [2, 0, 1, 3, 4, 5, 6, 7, 8] (by decide) rfl) hS (lv_sub hl [0, 2, 3] rfl)
          refine lv_if_eq (tgt := 41) hx hb dX3_waitAt_29 (by decide) (fun cb_133 => ?_) (fun cb_133 => ?_)
          · skip
            have hPq_134 := hP; have hDq_134 := hD; have hSq_134 := hS; have hlq_134 := hl; clear hP hD hS hl
            subst cb_133
            have hP := hPq_134; have hD := hDq_134; have hS := hSq_134; have hl := hlq_134; clear hPq_134 hDq_134 hSq_134 hlq_134
            refine lv_iconst (v := 0) hx hb dX3_waitAt_41 (by decide) ?_
            exact join_124 0 _ _ _ hP hD hS hl
          · skip
            refine lv_aload_n hx hb dX3_waitAt_32 rfl (lv_at hl 0 rfl) ?_
            refine va_get (D := D) (ci := 1) (v := .int (G_22 4)) (C := RX1) (T := TX1) (N := 7) hx hb hts iX1 hown hK hP 7 rfl rfl 4 (by decide) f210 (fun _ h9 => h9) rfl dX3_waitAt_33 ?_
            refine lv_iconst (v := 1) hx hb dX3_waitAt_36 (by decide) ?_
            refine lv_iadd hx hb dX3_waitAt_37 ?_
            refine lv_topi (fun y_135 _ => ?_)
            refine lv_goto (tgt := 42) hx hb dX3_waitAt_38 (by decide) ?_
            exact join_124 y_135 _ _ _ hP hD hS hl
        · skip
          have hP := hPq_95; have hD := hDq_95; have hS := hSq_95; have hl := hlq_95; clear hPq_95 hDq_95 hSq_95 hlq_95
          refine va_aldq (C := "HopCredits$Lane") hx hb hK hP 5 2 rfl rfl (by unfold vp_in; decide) dX3_waitAt_20 ?_
          refine lv_eqv (v2 := .ref L0d) rfl ?_
          refine lv_astore_n (lv' := [(3, .ref L0d), (2, .int (nI 2)), (0, .ref Nn), (1, .int 2)]) hx hb dX3_waitAt_21 rfl hl (by decide) rfl (fun ls hl => ?_)
          refine lv_aload_n hx hb dX3_waitAt_22 rfl (lv_at hl 0 rfl) ?_
          refine lv_aload_n hx hb dX3_waitAt_23 rfl (lv_at hl 2 rfl) ?_
          refine lv_iload_n hx hb dX3_waitAt_24 rfl (lv_at hl 3 rfl) ?_
          refine lv_iload_n hx hb dX3_waitAt_25 rfl (lv_at hl 1 rfl) ?_
          refine ky_Vi (As := [.int 2, .int (nI 2)]) (rest := [.ref L0d]) ⟨hx, hb, hml, hown, hts⟩ ⟨hK, hN⟩ hZ hP hD hS hA [0, 1, 2, 3, 5, 6, 7, 8] [4] (wc := [(Nn, .inr (3, [.int (nI hp), .int (nI cc), .int zrs, .int zad, .int zpr, .int (nI t), .int zlo, .int z_25, .ref Nl, .ref Nf, .ref Nb])), (Nl, .inl (g 1, 3, .inr (.inr (.inr (.inr (rf3 M0 M1 L0)))))), (Nb, .inl (g 0, 12, .inl fbuf)), (L0, .inr (2, [.int (nI d0), .int (fk0 1), .int (fk0 2), .int (fv0 3), .int (fv0 4), .int (fv0 5), .ref L0c, .ref L0u, .ref L0p, .ref L0l])), (L0l, .inl (g 2, 3, .inr (.inr (.inr (.inr (rf3 L0a L0b L0d)))))), (L0a, .inr (1, [.int (G_21 0), .int (G_21 1), .int (G_21 2), .int (fa0 3), .int (G_21 4), .int (G_21 5), .int (G_21 6)])), (L0b, .inr (1, [.int (G_22 0), .int (G_22 1), .int (G_22 2), .int (fb0 3), .int (G_22 4), .int (G_22 5), .int (G_22 6)])), (L0d, .inr (1, [.int (G_23 0), .int (G_23 1), .int (G_23 2), .int (fd0 3), .int (G_23 4), .int (G_23 5), .int (G_23 6)]))]) (wr := [(L0p, .inl (g 0, 15, .inl F_26))]) rfl rfl rfl rfl (by decide) (k_X3_lacksCredit_2 l D g H.size Nn 2 (lf [nI hp, nI cc, zrs, zad, zpr, nI t, zlo, z_25]) Nl Nf Nb M0 M1 L0 fbuf d0 fk0 fv0 L0c L0u L0p L0l L0a L0b L0d (lf [G_21 0, G_21 1, G_21 2, fa0 3, G_21 4, G_21 5, G_21 6]) (lf [G_22 0, G_22 1, G_22 2, fb0 3, G_22 4, G_22 5, G_22 6]) (lf [G_23 0, G_23 1, G_23 2, fd0 3, G_23 4, G_23 5, G_23 6]) (show 2 < 3 by omega)) (cwV 2 hts gX3_waitAt_X3_lacksCredit rfl rfl rfl (by decide +kernel) ⟨(Nat.le_of_ble_eq_true rfl), (Nat.le_of_ble_eq_true rfl)⟩) 0 3 rfl rfl rfl rfl hl.1 rfl (Nat.le_of_ble_eq_true rfl) dX3_waitAt_26 ⟨(Nat.le_of_ble_eq_true rfl), (Nat.le_of_ble_eq_true rfl)⟩ (fun r_136 u H locs hw hP2 hD2 hS2 => ?_)
          clear hP hD hS
          obtain rfl := hw
          have hPD : PD D A [(L0p, .inl (g 0, 15, .inl F_26)), (Nn, .inr (3, [.int (nI hp), .int (nI cc), .int zrs, .int zad, .int zpr, .int (nI t), .int zlo, .int z_25, .ref Nl, .ref Nf, .ref Nb])), (Nl, .inl (g 1, 3, .inr (.inr (.inr (.inr (rf3 M0 M1 L0)))))), (Nb, .inl (g 0, 12, .inl fbuf)), (L0, .inr (2, [.int (nI d0), .int (fk0 1), .int (fk0 2), .int (fv0 3), .int (fv0 4), .int (fv0 5), .ref L0c, .ref L0u, .ref L0p, .ref L0l])), (L0l, .inl (g 2, 3, .inr (.inr (.inr (.inr (rf3 L0a L0b L0d)))))), (L0a, .inr (1, [.int (G_21 0), .int (G_21 1), .int (G_21 2), .int (fa0 3), .int (G_21 4), .int (G_21 5), .int (G_21 6)])), (L0b, .inr (1, [.int (G_22 0), .int (G_22 1), .int (G_22 2), .int (fb0 3), .int (G_22 4), .int (G_22 5), .int (G_22 6)])), (L0d, .inr (1, [.int (G_23 0), .int (G_23 1), .int (G_23 2), .int (fd0 3), .int (G_23 4), .int (G_23 5), .int (G_23 6)]))] H := ⟨hP2, hD2⟩
          have hS := hS2; clear hP2 hD2 hS2; have hP := hPD.1; have hD := hPD.2; clear hPD
          refine W.widen (k := 0) (n := 0) (Nat.le_of_ble_eq_true rfl) (Nat.le_of_ble_eq_true rfl) ?_
          have join_144 : ∀ (y_140 : Int32) (H : Heap) (locs : List Loc) (ls : Array Slot), va_P D vwCl [(L0p, .inl (g 0, 15, .inl F_26)), (Nn, .inr (3, [.int (nI hp), .int (nI cc), .int zrs, .int zad, .int zpr, .int (nI t), .int zlo, .int z_25, .ref Nl, .ref Nf, .ref Nb])), (Nl, .inl (g 1, 3, .inr (.inr (.inr (.inr (rf3 M0 M1 L0)))))), (Nb, .inl (g 0, 12, .inl fbuf)), (L0, .inr (2, [.int (nI d0), .int (fk0 1), .int (fk0 2), .int (fv0 3), .int (fv0 4), .int (fv0 5), .ref L0c, .ref L0u, .ref L0p, .ref L0l])), (L0l, .inl (g 2, 3, .inr (.inr (.inr (.inr (rf3 L0a L0b L0d)))))), (L0a, .inr (1, [.int (G_21 0), .int (G_21 1), .int (G_21 2), .int (fa0 3), .int (G_21 4), .int (G_21 5), .int (G_21 6)])), (L0b, .inr (1, [.int (G_22 0), .int (G_22 1), .int (G_22 2), .int (fb0 3), .int (G_22 4), .int (G_22 5), .int (G_22 6)])), (L0d, .inr (1, [.int (G_23 0), .int (G_23 1), .int (G_23 2), .int (fd0 3), .int (G_23 4), .int (G_23 5), .int (G_23 6)]))] H → va_D A [(L0p, .inl (g 0, 15, .inl F_26)), (Nn, .inr (3, [.int (nI hp), .int (nI cc), .int zrs, .int zad, .int zpr, .int (nI t), .int zlo, .int z_25, .ref Nl, .ref Nf, .ref Nb])), (Nl, .inl (g 1, 3, .inr (.inr (.inr (.inr (rf3 M0 M1 L0)))))), (Nb, .inl (g 0, 12, .inl fbuf)), (L0, .inr (2, [.int (nI d0), .int (fk0 1), .int (fk0 2), .int (fv0 3), .int (fv0 4), .int (fv0 5), .ref L0c, .ref L0u, .ref L0p, .ref L0l])), (L0l, .inl (g 2, 3, .inr (.inr (.inr (.inr (rf3 L0a L0b L0d)))))), (L0a, .inr (1, [.int (G_21 0), .int (G_21 1), .int (G_21 2), .int (fa0 3), .int (G_21 4), .int (G_21 5), .int (G_21 6)])), (L0b, .inr (1, [.int (G_22 0), .int (G_22 1), .int (G_22 2), .int (fb0 3), .int (G_22 4), .int (G_22 5), .int (G_22 6)])), (L0d, .inr (1, [.int (G_23 0), .int (G_23 1), .int (G_23 2), .int (fd0 3), .int (G_23 4), .int (G_23 5), .int (G_23 6)]))] → va_S A s.heap H locs → lv_has ls 4 [(3, .ref L0d), (2, .int (nI 2)), (0, .ref Nn), (1, .int 2)] → W p l e (headSpec wsX3_waitAt ({ frames := 2, cells := 0, slots := 0, locals := 42 })).room s m ([.ref Nn, .int 2] : List Value).toArray below meth c H locs 0 0 Q (F0 m 42 ls [.int y_140, .ref L0d]) := by
            clear hP hD hS hl
            intro y_140  H locs ls hP hD hS hl
            refine va_put (D := D) (ci := 1) (v := .int y_140) (ty := .int) (C := RX1) (T := TX1) (N := 7) hx hb hts iX1 tyX1 tyX1_ok nmX1 hown hK hP hD hS 8 rfl rfl 4 (by decide) f210 (fun _ h9 => h9) rfl (by decide +kernel) (rfl) (rfl) (Nat.le_of_ble_eq_true rfl) dX3_waitAt_42 (fun H locs hP2 hD2 hS2 => ?_)
            clear hP hD hS
            have hPD : PD D A [(L0p, .inl (g 0, 15, .inl F_26)), (Nn, .inr (3, [.int (nI hp), .int (nI cc), .int zrs, .int zad, .int zpr, .int (nI t), .int zlo, .int z_25, .ref Nl, .ref Nf, .ref Nb])), (Nl, .inl (g 1, 3, .inr (.inr (.inr (.inr (rf3 M0 M1 L0)))))), (Nb, .inl (g 0, 12, .inl fbuf)), (L0, .inr (2, [.int (nI d0), .int (fk0 1), .int (fk0 2), .int (fv0 3), .int (fv0 4), .int (fv0 5), .ref L0c, .ref L0u, .ref L0p, .ref L0l])), (L0l, .inl (g 2, 3, .inr (.inr (.inr (.inr (rf3 L0a L0b L0d)))))), (L0a, .inr (1, [.int (G_21 0), .int (G_21 1), .int (G_21 2), .int (fa0 3), .int (G_21 4), .int (G_21 5), .int (G_21 6)])), (L0b, .inr (1, [.int (G_22 0), .int (G_22 1), .int (G_22 2), .int (fb0 3), .int (G_22 4), .int (G_22 5), .int (G_22 6)])), (L0d, .inr (1, [.int (G_23 0), .int (G_23 1), .int (G_23 2), .int (fd0 3), .int y_140, .int (G_23 5), .int (G_23 6)]))] H := ⟨hP2, hD2⟩
            have hS := hS2; clear hP2 hD2 hS2; have hP := hPD.1; have hD := hPD.2; clear hPD
            refine lv_aload_n hx hb dX3_waitAt_45 rfl (lv_at hl 2 rfl) ?_
            refine va_get (D := D) (ci := 3) (v := .int zpr) (C := RX3) (T := TX3) (N := 11) hx hb hts iX3 hown hK hP 1 rfl rfl 4 (by decide) f50 (fun _ h9 => h9) rfl dX3_waitAt_46 ?_
            refine lv_if_le (tgt := 74) hx hb dX3_waitAt_49 (by decide) (fun cb_145 => ?_) (fun cb_145 => ?_)
            · skip
              refine lv_iinc (v := 3) (lv' := [(2, .int 3), (3, .ref L0d), (0, .ref Nn), (1, .int 2)]) hx hb dX3_waitAt_74 hl (k := 1) rfl (by decide) (by decide) rfl (fun ls hl => ?_)
              refine lv_goto (tgt := 2) hx hb dX3_waitAt_77 (by decide) ?_
              exact loop_91_ih G_21 G_22 (lf [G_23 0, G_23 1, G_23 2, 0, y_140, G_23 5, G_23 6]) 3 z_25 F_26 (show 3 ≤ cc by omega) (show cc - 3 < Nloop_91 by omega) _ _ _ (hP.sub [1, 2, 3, 4, 0, 5, 6, 7, 8] rfl) (hD.sub [1, 2, 3, 4, 0, 5, 6, 7, 8] (by decide) rfl) hS (lv_sub hl [0, 2, 3] rfl)
            · skip
              refine lv_aload_n hx hb dX3_waitAt_52 rfl (lv_at hl 0 rfl) ?_
              refine va_get (D := D) (ci := 1) (v := .int y_140) (C := RX1) (T := TX1) (N := 7) hx hb hts iX1 hown hK hP 8 rfl rfl 4 (by decide) f210 (fun _ h9 => h9) rfl dX3_waitAt_53 ?_
              refine lv_aload_n hx hb dX3_waitAt_56 rfl (lv_at hl 2 rfl) ?_
              refine va_get (D := D) (ci := 3) (v := .int zpr) (C := RX3) (T := TX3) (N := 11) hx hb hts iX3 hown hK hP 1 rfl rfl 4 (by decide) f50 (fun _ h9 => h9) rfl dX3_waitAt_57 ?_
              refine lv_icmp_lt (tgt := 74) hx hb dX3_waitAt_60 (by decide) (fun cb_146 => ?_) (fun cb_146 => ?_)
              · skip
                refine lv_iinc (v := 3) (lv' := [(2, .int 3), (3, .ref L0d), (0, .ref Nn), (1, .int 2)]) hx hb dX3_waitAt_74 hl (k := 1) rfl (by decide) (by decide) rfl (fun ls hl => ?_)
                refine lv_goto (tgt := 2) hx hb dX3_waitAt_77 (by decide) ?_
                exact loop_91_ih G_21 G_22 (lf [G_23 0, G_23 1, G_23 2, 0, y_140, G_23 5, G_23 6]) 3 z_25 F_26 (show 3 ≤ cc by omega) (show cc - 3 < Nloop_91 by omega) _ _ _ (hP.sub [1, 2, 3, 4, 0, 5, 6, 7, 8] rfl) (hD.sub [1, 2, 3, 4, 0, 5, 6, 7, 8] (by decide) rfl) hS (lv_sub hl [0, 2, 3] rfl)
              · skip
                refine lv_aload_n hx hb dX3_waitAt_63 rfl (lv_at hl 2 rfl) ?_
                refine lv_aload_n hx hb dX3_waitAt_64 rfl (lv_at hl 2 rfl) ?_
                refine va_get (D := D) (ci := 3) (v := .ref Nl) (C := RX3) (T := TX3) (N := 11) hx hb hts iX3 hown hK hP 1 rfl rfl 8 (by decide) f11 (fun _ h9 => h9) rfl dX3_waitAt_65 ?_
                refine lv_iload_n hx hb dX3_waitAt_68 rfl (lv_at hl 3 rfl) ?_
                refine va_aldq (C := "HopCredits$Link") hx hb hK hP 2 1 rfl rfl (by unfold vp_in; decide) dX3_waitAt_69 ?_
                refine lv_eqv (v2 := .ref L0) rfl ?_
                refine lv_iload_n hx hb dX3_waitAt_70 rfl (lv_at hl 1 rfl) ?_
                refine ky_Vv (As := [.ref L0, .int (nI 2)]) (rest := []) ⟨hx, hb, hml, hown, hts⟩ ⟨hK, hN⟩ hZ hP hD hS hA [1, 4, 0, 5, 6, 7, 8] [2, 3] (wc := [(Nn, .inr (3, [.int (nI hp), .int (nI cc), .int zrs, .int zad, .int zpr, .int (nI t), .int zlo, .int z_25, .ref Nl, .ref Nf, .ref Nb])), (L0, .inr (2, [.int (nI d0), .int (fk0 1), .int (fk0 2), .int (fv0 3), .int (fv0 4), .int (fv0 5), .ref L0c, .ref L0u, .ref L0p, .ref L0l])), (L0p, .inl (g 0, 15, .inl F_26)), (L0l, .inl (g 2, 3, .inr (.inr (.inr (.inr (rf3 L0a L0b L0d)))))), (L0a, .inr (1, [.int (G_21 0), .int (G_21 1), .int (G_21 2), .int (fa0 3), .int (G_21 4), .int (G_21 5), .int (G_21 6)])), (L0b, .inr (1, [.int (G_22 0), .int (G_22 1), .int (G_22 2), .int (fb0 3), .int (G_22 4), .int (G_22 5), .int (G_22 6)])), (L0d, .inr (1, [.int (G_23 0), .int (G_23 1), .int (G_23 2), .int (fd0 3), .int y_140, .int (G_23 5), .int (G_23 6)]))]) (wr := [(Nl, .inl (g 1, 3, .inr (.inr (.inr (.inr (rf3 M0 M1 L0)))))), (Nb, .inl (g 0, 12, .inl fbuf))]) rfl rfl rfl rfl (by decide) (k_X3_sendProbe l D g H.size Nn L0 2 hp cc zrs zad zpr t zlo z_25 Nl Nf Nb d0 fk0 fv0 L0c L0u L0p L0l F_26 L0a L0b L0d (lf [G_21 0, G_21 1, G_21 2, fa0 3, G_21 4, G_21 5, G_21 6]) (lf [G_22 0, G_22 1, G_22 2, fb0 3, G_22 4, G_22 5, G_22 6]) (lf [G_23 0, G_23 1, G_23 2, fd0 3, y_140, G_23 5, G_23 6]) (show 2 < 3 by omega) (show t < 2 ^ 30 by omega) (show d0 < 5 by omega) (h4)) (cwV 2 hts gX3_waitAt_X3_sendProbe rfl rfl rfl (by decide +kernel) ⟨(Nat.le_of_ble_eq_true rfl), (Nat.le_of_ble_eq_true rfl)⟩) 1 3 rfl rfl rfl rfl hl.1 rfl (Nat.le_of_ble_eq_true rfl) dX3_waitAt_71 ⟨(Nat.le_of_ble_eq_true rfl), (Nat.le_of_ble_eq_true rfl)⟩ (fun u H locs hw hP2 hD2 hS2 => ?_)
                clear hP hD hS
                obtain ⟨zpsx_148, fp0x_149, fa0x_150, fb0x_151, fd0x_152, rfl⟩ := hw
                have hPD : PD D A [(Nl, .inl (g 1, 3, .inr (.inr (.inr (.inr (rf3 M0 M1 L0)))))), (Nb, .inl (g 0, 12, .inl fbuf)), (Nn, .inr (3, [.int (nI hp), .int (nI cc), .int zrs, .int zad, .int zpr, .int (nI t), .int zlo, .int zpsx_148, .ref Nl, .ref Nf, .ref Nb])), (L0, .inr (2, [.int (nI d0), .int (fk0 1), .int (fk0 2), .int (fv0 3), .int (fv0 4), .int (fv0 5), .ref L0c, .ref L0u, .ref L0p, .ref L0l])), (L0p, .inl (g 0, 15, .inl fp0x_149)), (L0l, .inl (g 2, 3, .inr (.inr (.inr (.inr (rf3 L0a L0b L0d)))))), (L0a, .inr (1, [.int (fa0x_150 0), .int (fa0x_150 1), .int (fa0x_150 2), .int (fa0 3), .int (fa0x_150 4), .int (fa0x_150 5), .int (fa0x_150 6)])), (L0b, .inr (1, [.int (fb0x_151 0), .int (fb0x_151 1), .int (fb0x_151 2), .int (fb0 3), .int (fb0x_151 4), .int (fb0x_151 5), .int (fb0x_151 6)])), (L0d, .inr (1, [.int (fd0x_152 0), .int (fd0x_152 1), .int (fd0x_152 2), .int (fd0 3), .int (fd0x_152 4), .int (fd0x_152 5), .int (fd0x_152 6)]))] H := ⟨hP2, hD2⟩
                have hS := hS2; clear hP2 hD2 hS2; have hP := hPD.1; have hD := hPD.2; clear hPD
                refine W.widen (k := 0) (n := 0) (Nat.le_of_ble_eq_true rfl) (Nat.le_of_ble_eq_true rfl) ?_
                refine lv_iinc (v := 3) (lv' := [(2, .int 3), (3, .ref L0d), (0, .ref Nn), (1, .int 2)]) hx hb dX3_waitAt_74 hl (k := 1) rfl (by decide) (by decide) rfl (fun ls hl => ?_)
                refine lv_goto (tgt := 2) hx hb dX3_waitAt_77 (by decide) ?_
                exact loop_91_ih fa0x_150 fb0x_151 fd0x_152 3 zpsx_148 fp0x_149 (show 3 ≤ cc by omega) (show cc - 3 < Nloop_91 by omega) _ _ _ (hP.sub [2, 0, 1, 3, 4, 5, 6, 7, 8] rfl) (hD.sub [2, 0, 1, 3, 4, 5, 6, 7, 8] (by decide) rfl) hS (lv_sub hl [0, 2, 3] rfl)
          refine lv_if_eq (tgt := 41) hx hb dX3_waitAt_29 (by decide) (fun cb_153 => ?_) (fun cb_153 => ?_)
          · skip
            have hPq_154 := hP; have hDq_154 := hD; have hSq_154 := hS; have hlq_154 := hl; clear hP hD hS hl
            subst cb_153
            have hP := hPq_154; have hD := hDq_154; have hS := hSq_154; have hl := hlq_154; clear hPq_154 hDq_154 hSq_154 hlq_154
            refine lv_iconst (v := 0) hx hb dX3_waitAt_41 (by decide) ?_
            exact join_144 0 _ _ _ hP hD hS hl
          · skip
            refine lv_aload_n hx hb dX3_waitAt_32 rfl (lv_at hl 0 rfl) ?_
            refine va_get (D := D) (ci := 1) (v := .int (G_23 4)) (C := RX1) (T := TX1) (N := 7) hx hb hts iX1 hown hK hP 8 rfl rfl 4 (by decide) f210 (fun _ h9 => h9) rfl dX3_waitAt_33 ?_
            refine lv_iconst (v := 1) hx hb dX3_waitAt_36 (by decide) ?_
            refine lv_iadd hx hb dX3_waitAt_37 ?_
            refine lv_topi (fun y_155 _ => ?_)
            refine lv_goto (tgt := 42) hx hb dX3_waitAt_38 (by decide) ?_
            exact join_144 y_155 _ _ _ hP hD hS hl
  exact loop_91 _ fa0 fb0 fd0 0 zps fp0 (show 0 ≤ cc by omega) (Nat.lt_succ_self _) _ _ _ hP hD hS hl

set_option maxHeartbeats 4000000 in
set_option maxRecDepth 100000 in
theorem k_X3_aimOf (l : Launch) (D : va_G) (g : Nat → ClassId) (sz : Nat) (Nn : Nat) (L0 : Nat) (cx : Nat) (hp : Nat) (cc : Nat) (zrs : Int32) (zad : Int32) (zpr : Int32) (t : Nat) (zlo : Int32) (zps : Int32) (Nl : Nat) (Nf : Nat) (Nb : Nat) (d0 : Nat) (fk0 : Nat → Int32) (fv0 : Nat → Int32) (L0c : Nat) (L0u : Nat) (L0p : Nat) (L0l : Nat) (L0a : Nat) (L0b : Nat) (L0d : Nat) (fa0 : Nat → Int32) (fb0 : Nat → Int32) (fd0 : Nat → Int32) (h0 : cx < 3) (h1 : 1 ≤ cc) (h2 : cc ≤ 3) : Met l yX3_aimOf wsX3_aimOf ({ frames := 0, cells := 0, slots := 0, locals := 0 }) (va_Pc [.ref Nn, .ref L0, .int (nI cx)] (pre D g sz [(Nn, .inr (3, [.int (nI hp), .int (nI cc), .int zrs, .int zad, .int zpr, .int (nI t), .int zlo, .int zps, .ref Nl, .ref Nf, .ref Nb])), (L0, .inr (2, [.int (nI d0), .int (fk0 1), .int (fk0 2), .int (fv0 3), .int (fv0 4), .int (fv0 5), .ref L0c, .ref L0u, .ref L0p, .ref L0l])), (L0l, .inl (g 2, 3, .inr (.inr (.inr (.inr (rf3 L0a L0b L0d)))))), (L0a, .inr (1, [.int (fa0 0), .int (fa0 1), .int (fa0 2), .int (fa0 3), .int (fa0 4), .int (fa0 5), .int (fa0 6)])), (L0b, .inr (1, [.int (fb0 0), .int (fb0 1), .int (fb0 2), .int (fb0 3), .int (fb0 4), .int (fb0 5), .int (fb0 6)])), (L0d, .inr (1, [.int (fd0 0), .int (fd0 1), .int (fd0 2), .int (fd0 3), .int (fd0 4), .int (fd0 5), .int (fd0 6)]))])) (va_Qi (fun (r : Int32) (u : va_W) => u = [(Nn, .inr (3, [.int (nI hp), .int (nI cc), .int zrs, .int zad, .int zpr, .int (nI t), .int zlo, .int zps, .ref Nl, .ref Nf, .ref Nb])), (L0, .inr (2, [.int (nI d0), .int (fk0 1), .int (fk0 2), .int (fv0 3), .int (fv0 4), .int (fv0 5), .ref L0c, .ref L0u, .ref L0p, .ref L0l])), (L0l, .inl (g 2, 3, .inr (.inr (.inr (.inr (rf3 L0a L0b L0d)))))), (L0a, .inr (1, [.int (fa0 0), .int (fa0 1), .int (fa0 2), .int (fa0 3), .int (fa0 4), .int (fa0 5), .int (fa0 6)])), (L0b, .inr (1, [.int (fb0 0), .int (fb0 1), .int (fb0 2), .int (fb0 3), .int (fb0 4), .int (fb0 5), .int (fb0 6)])), (L0d, .inr (1, [.int (fd0 0), .int (fd0 1), .int (fd0 2), .int (fd0 3), .int (fd0 4), .int (fd0 5), .int (fd0 6)]))]) (wd D (va_A [(Nn, .inr (3, [.int (nI hp), .int (nI cc), .int zrs, .int zad, .int zpr, .int (nI t), .int zlo, .int zps, .ref Nl, .ref Nf, .ref Nb])), (L0, .inr (2, [.int (nI d0), .int (fk0 1), .int (fk0 2), .int (fv0 3), .int (fv0 4), .int (fv0 5), .ref L0c, .ref L0u, .ref L0p, .ref L0l])), (L0l, .inl (g 2, 3, .inr (.inr (.inr (.inr (rf3 L0a L0b L0d)))))), (L0a, .inr (1, [.int (fa0 0), .int (fa0 1), .int (fa0 2), .int (fa0 3), .int (fa0 4), .int (fa0 5), .int (fa0 6)])), (L0b, .inr (1, [.int (fb0 0), .int (fb0 1), .int (fb0 2), .int (fb0 3), .int (fb0 4), .int (fb0 5), .int (fb0 6)])), (L0d, .inr (1, [.int (fd0 0), .int (fd0 1), .int (fd0 2), .int (fd0 3), .int (fd0 4), .int (fd0 5), .int (fd0 6)]))] sz)) (va_A [(Nn, .inr (3, [.int (nI hp), .int (nI cc), .int zrs, .int zad, .int zpr, .int (nI t), .int zlo, .int zps, .ref Nl, .ref Nf, .ref Nb])), (L0, .inr (2, [.int (nI d0), .int (fk0 1), .int (fk0 2), .int (fv0 3), .int (fv0 4), .int (fv0 5), .ref L0c, .ref L0u, .ref L0p, .ref L0l])), (L0l, .inl (g 2, 3, .inr (.inr (.inr (.inr (rf3 L0a L0b L0d)))))), (L0a, .inr (1, [.int (fa0 0), .int (fa0 1), .int (fa0 2), .int (fa0 3), .int (fa0 4), .int (fa0 5), .int (fa0 6)])), (L0b, .inr (1, [.int (fb0 0), .int (fb0 1), .int (fb0 2), .int (fb0 3), .int (fb0 4), .int (fb0 5), .int (fb0 6)])), (L0d, .inr (1, [.int (fd0 0), .int (fd0 1), .int (fd0 2), .int (fd0 3), .int (fd0 4), .int (fd0 5), .int (fd0 6)]))] sz)) 0 0 (va_A [(Nn, .inr (3, [.int (nI hp), .int (nI cc), .int zrs, .int zad, .int zpr, .int (nI t), .int zlo, .int zps, .ref Nl, .ref Nf, .ref Nb])), (L0, .inr (2, [.int (nI d0), .int (fk0 1), .int (fk0 2), .int (fv0 3), .int (fv0 4), .int (fv0 5), .ref L0c, .ref L0u, .ref L0p, .ref L0l])), (L0l, .inl (g 2, 3, .inr (.inr (.inr (.inr (rf3 L0a L0b L0d)))))), (L0a, .inr (1, [.int (fa0 0), .int (fa0 1), .int (fa0 2), .int (fa0 3), .int (fa0 4), .int (fa0 5), .int (fa0 6)])), (L0b, .inr (1, [.int (fb0 0), .int (fb0 1), .int (fb0 2), .int (fb0 3), .int (fb0 4), .int (fb0 5), .int (fb0 6)])), (L0d, .inr (1, [.int (fd0 0), .int (fd0 1), .int (fd0 2), .int (fd0 3), .int (fd0 4), .int (fd0 5), .int (fd0 6)]))] sz) := by
  refine Met.ofW (cc := cX3_aimOf) (maxL := 5) (ret := (some .int)) (by decide) rfl ?_
  intro p e s m args below meth c s₁ B hml hv
  obtain ⟨rfl, hsz, hP, ⟨hK, hN⟩, hD0, hZ⟩ := hv
  have hx := B.exec
  have hb := B.bytes
  have hr := B.returns
  have hts := atoms_spec (ws := wsX3_aimOf) B.pre
  have hown : s.vm.findClass RX3 = some m.cls := findClass_of_methodNamed B.named
  have hlocks := B.notSynchronized
  clear B
  subst hsz
  have hD := hD0.self (sz := s.heap.size)
  clear hD0
  generalize hAe : va_A [(Nn, .inr (3, [.int (nI hp), .int (nI cc), .int zrs, .int zad, .int zpr, .int (nI t), .int zlo, .int zps, .ref Nl, .ref Nf, .ref Nb])), (L0, .inr (2, [.int (nI d0), .int (fk0 1), .int (fk0 2), .int (fv0 3), .int (fv0 4), .int (fv0 5), .ref L0c, .ref L0u, .ref L0p, .ref L0l])), (L0l, .inl (g 2, 3, .inr (.inr (.inr (.inr (rf3 L0a L0b L0d)))))), (L0a, .inr (1, [.int (fa0 0), .int (fa0 1), .int (fa0 2), .int (fa0 3), .int (fa0 4), .int (fa0 5), .int (fa0 6)])), (L0b, .inr (1, [.int (fb0 0), .int (fb0 1), .int (fb0 2), .int (fb0 3), .int (fb0 4), .int (fb0 5), .int (fb0 6)])), (L0d, .inr (1, [.int (fd0 0), .int (fd0 1), .int (fd0 2), .int (fd0 3), .int (fd0 4), .int (fd0 5), .int (fd0 6)]))] s.heap.size = A at hD hZ ⊢
  have hA : ∀ q : Nat, s.heap.size ≤ q → A q := fun q h => by rw [← hAe]; exact Or.inr h
  have hS : va_S A s.heap s.heap [] := va_S.rf
  have f128 := hts (.fieldLink RX3 128 "HopCredits$Link" "lanes" "[LHopCredits$Lane;") (List.mem_of_getElem? (i := 2) rfl)
  have f189 := hts (.fieldLink RX3 189 "HopCredits$Lane" "sinceAdapt" "I") (List.mem_of_getElem? (i := 3) rfl)
  have f230 := hts (.fieldLink RX3 230 "HopCredits$Link" "pool" "I") (List.mem_of_getElem? (i := 4) rfl)
  have f59 := hts (.fieldLink RX3 59 "HopCredits$Net" "reserve" "I") (List.mem_of_getElem? (i := 5) rfl)
  have f62 := hts (.fieldLink RX3 62 "HopCredits$Net" "circuits" "I") (List.mem_of_getElem? (i := 1) rfl)
  have iX1 : ∀ w ∈ u_ws RX1 TX1 7, w ∈ wsX3_aimOf := fun w h => List.mem_cons_of_mem _ (List.mem_append_right _ (h))
  have iX2 : ∀ w ∈ u_ws RX2 TX2 10, w ∈ wsX3_aimOf := fun w h => List.mem_cons_of_mem _ (List.mem_append_left _ (List.mem_append_right _ (h)))
  have iX3 : ∀ w ∈ u_ws RX3 TX3 11, w ∈ wsX3_aimOf := fun w h => List.mem_cons_of_mem _ (List.mem_append_left _ (List.mem_append_left _ (List.mem_append_right _ (h))))
  have hl := lv_entry ([.ref Nn, .ref L0, .int (nI cx)]) (n := 5) (Nat.le_of_ble_eq_true rfl)
  rw [lg_entry_eq]
  generalize (lg_sl ([.ref Nn, .ref L0, .int (nI cx)]) ++ List.replicate (5 - (lg_sl ([.ref Nn, .ref L0, .int (nI cx)])).length) Slot.unset).toArray = ls at hl ⊢
  have hl : lv_has ls 5 [(0, .ref Nn), (1, .ref L0), (2, .int (nI cx))] := hl
  generalize hQ : MQ below _ _ s _ _ _ = Q
  generalize hH : s.heap = H at hP ⊢
  have hS : va_S A s.heap H [] := by rw [← hH]; exact hS
  clear hH
  refine lv_iconst (v := 0) hx hb dX3_aimOf_0 (by decide) ?_
  refine lv_istore_n (lv' := [(3, .int 0), (0, .ref Nn), (1, .ref L0), (2, .int (nI cx))]) hx hb dX3_aimOf_1 rfl hl (by decide) rfl (fun ls hl => ?_)
  refine lv_iconst (v := 0) hx hb dX3_aimOf_2 (by decide) ?_
  refine lv_istore (lv' := [(4, .int 0), (3, .int 0), (0, .ref Nn), (1, .ref L0), (2, .int (nI cx))]) hx hb dX3_aimOf_3 hl (by decide) rfl (fun ls hl => ?_)
  have loop_11 : ∀ (Nloop_11 : Nat) (i_2 : Nat) (i_3 : Int32) (hbi_2 : i_2 ≤ cc) (hmloop_11 : cc - i_2 < Nloop_11) (H : Heap) (locs : List Loc) (ls : Array Slot), va_P D vwCl [(Nn, .inr (3, [.int (nI hp), .int (nI cc), .int zrs, .int zad, .int zpr, .int (nI t), .int zlo, .int zps, .ref Nl, .ref Nf, .ref Nb])), (L0, .inr (2, [.int (nI d0), .int (fk0 1), .int (fk0 2), .int (fv0 3), .int (fv0 4), .int (fv0 5), .ref L0c, .ref L0u, .ref L0p, .ref L0l])), (L0l, .inl (g 2, 3, .inr (.inr (.inr (.inr (rf3 L0a L0b L0d)))))), (L0a, .inr (1, [.int (fa0 0), .int (fa0 1), .int (fa0 2), .int (fa0 3), .int (fa0 4), .int (fa0 5), .int (fa0 6)])), (L0b, .inr (1, [.int (fb0 0), .int (fb0 1), .int (fb0 2), .int (fb0 3), .int (fb0 4), .int (fb0 5), .int (fb0 6)])), (L0d, .inr (1, [.int (fd0 0), .int (fd0 1), .int (fd0 2), .int (fd0 3), .int (fd0 4), .int (fd0 5), .int (fd0 6)]))] H → va_D A [(Nn, .inr (3, [.int (nI hp), .int (nI cc), .int zrs, .int zad, .int zpr, .int (nI t), .int zlo, .int zps, .ref Nl, .ref Nf, .ref Nb])), (L0, .inr (2, [.int (nI d0), .int (fk0 1), .int (fk0 2), .int (fv0 3), .int (fv0 4), .int (fv0 5), .ref L0c, .ref L0u, .ref L0p, .ref L0l])), (L0l, .inl (g 2, 3, .inr (.inr (.inr (.inr (rf3 L0a L0b L0d)))))), (L0a, .inr (1, [.int (fa0 0), .int (fa0 1), .int (fa0 2), .int (fa0 3), .int (fa0 4), .int (fa0 5), .int (fa0 6)])), (L0b, .inr (1, [.int (fb0 0), .int (fb0 1), .int (fb0 2), .int (fb0 3), .int (fb0 4), .int (fb0 5), .int (fb0 6)])), (L0d, .inr (1, [.int (fd0 0), .int (fd0 1), .int (fd0 2), .int (fd0 3), .int (fd0 4), .int (fd0 5), .int (fd0 6)]))] → va_S A s.heap H locs → lv_has ls 5 [(4, .int (nI i_2)), (3, .int i_3), (0, .ref Nn), (1, .ref L0), (2, .int (nI cx))] → W p l e (headSpec wsX3_aimOf ({ frames := 0, cells := 0, slots := 0, locals := 0 })).room s m ([.ref Nn, .ref L0, .int (nI cx)] : List Value).toArray below meth c H locs 0 0 Q (F0 m 5 ls []) := by
    clear hP hD hS hl
    intro Nloop_11
    induction Nloop_11 with
    | zero => intro i_2 i_3 hbi_2 hm9; exact absurd hm9 (Nat.not_lt_zero _)
    | succ Nloop_11 loop_11_ih =>
      intro i_2 i_3 hbi_2 hmloop_11 H locs ls hP hD hS hl
      refine lv_iload hx hb dX3_aimOf_5 (lv_at hl 0 rfl) ?_
      refine lv_aload_n hx hb dX3_aimOf_7 rfl (lv_at hl 2 rfl) ?_
      refine va_get (D := D) (ci := 3) (v := .int (nI cc)) (C := RX3) (T := TX3) (N := 11) hx hb hts iX3 hown hK hP 0 rfl rfl 1 (by decide) f62 (fun _ h9 => h9) rfl dX3_aimOf_8 ?_
      refine lv_icmp_ge (tgt := 33) hx hb dX3_aimOf_11 (by decide) (fun cb_12 => ?_) (fun cb_12 => ?_)
      · skip
        have cn_13 : cc ≤ i_2 := (nI_leI (show cc < 2 ^ 31 by omega) (show i_2 < 2 ^ 31 by omega)).mp cb_12
        refine lv_aload_n hx hb dX3_aimOf_33 rfl (lv_at hl 3 rfl) ?_
        refine va_get (D := D) (ci := 2) (v := .int (fk0 1)) (C := RX2) (T := TX2) (N := 10) hx hb hts iX2 hown hK hP 1 rfl rfl 1 (by decide) f230 (fun _ h9 => h9) rfl dX3_aimOf_34 ?_
        refine lv_aload_n hx hb dX3_aimOf_37 rfl (lv_at hl 2 rfl) ?_
        refine va_get (D := D) (ci := 3) (v := .int zrs) (C := RX3) (T := TX3) (N := 11) hx hb hts iX3 hown hK hP 0 rfl rfl 2 (by decide) f59 (fun _ h9 => h9) rfl dX3_aimOf_38 ?_
        refine lv_aload_n hx hb dX3_aimOf_41 rfl (lv_at hl 2 rfl) ?_
        refine va_get (D := D) (ci := 3) (v := .int (nI cc)) (C := RX3) (T := TX3) (N := 11) hx hb hts iX3 hown hK hP 0 rfl rfl 1 (by decide) f62 (fun _ h9 => h9) rfl dX3_aimOf_42 ?_
        refine lv_imul hx hb dX3_aimOf_45 ?_
        refine lv_topi (fun y_14 _ => ?_)
        refine lv_isub hx hb dX3_aimOf_46 ?_
        refine lv_topi (fun y_15 _ => ?_)
        refine lv_istore (lv' := [(4, .int y_15), (3, .int i_3), (0, .ref Nn), (1, .ref L0), (2, .int (nI cx))]) hx hb dX3_aimOf_47 hl (by decide) rfl (fun ls hl => ?_)
        refine lv_iload_n hx hb dX3_aimOf_49 rfl (lv_at hl 1 rfl) ?_
        refine lv_if_le (tgt := 73) hx hb dX3_aimOf_50 (by decide) (fun cb_16 => ?_) (fun cb_16 => ?_)
        · skip
          refine lv_aload_n hx hb dX3_aimOf_73 rfl (lv_at hl 2 rfl) ?_
          refine va_get (D := D) (ci := 3) (v := .int (nI cc)) (C := RX3) (T := TX3) (N := 11) hx hb hts iX3 hown hK hP 0 rfl rfl 1 (by decide) f62 (fun _ h9 => h9) rfl dX3_aimOf_74 ?_
          refine lv_if_le (tgt := 95) hx hb dX3_aimOf_77 (by decide) (fun cb => absurd cb (nI_ge (show 0 < cc by omega) (show cc < 2 ^ 31 by omega))) (fun _ => ?_)
          refine lv_aload_n hx hb dX3_aimOf_80 rfl (lv_at hl 2 rfl) ?_
          refine va_get (D := D) (ci := 3) (v := .int zrs) (C := RX3) (T := TX3) (N := 11) hx hb hts iX3 hown hK hP 0 rfl rfl 2 (by decide) f59 (fun _ h9 => h9) rfl dX3_aimOf_81 ?_
          refine lv_iload hx hb dX3_aimOf_84 (lv_at hl 0 rfl) ?_
          refine lv_aload_n hx hb dX3_aimOf_86 rfl (lv_at hl 2 rfl) ?_
          refine va_get (D := D) (ci := 3) (v := .int (nI cc)) (C := RX3) (T := TX3) (N := 11) hx hb hts iX3 hown hK hP 0 rfl rfl 1 (by decide) f62 (fun _ h9 => h9) rfl dX3_aimOf_87 ?_
          refine lv_idiv hx hb dX3_aimOf_90 (nI_ne0 (show 0 < cc by omega) (show cc < 2 ^ 31 by omega)) ?_
          refine lv_topi (fun y_17 _ => ?_)
          refine lv_iadd hx hb dX3_aimOf_91 ?_
          refine lv_topi (fun y_18 _ => ?_)
          refine lv_goto (tgt := 99) hx hb dX3_aimOf_92 (by decide) ?_
          have hP9 := hP; have hD9 := hD
          subst hQ
          refine W.widen (k := 0) (n := 0) (Nat.le_of_ble_eq_true rfl) (Nat.le_of_ble_eq_true rfl) ?_
          exact W.iret (v := y_18) hx hb hr (fun tS htS _ => ⟨⟨_, _, rfl, rfl, by rw [htS]; exact hP9, hD9⟩, hS.F htS⟩) hS.2.2 dX3_aimOf_99
        · skip
          refine lv_aload_n hx hb dX3_aimOf_53 rfl (lv_at hl 2 rfl) ?_
          refine va_get (D := D) (ci := 3) (v := .int zrs) (C := RX3) (T := TX3) (N := 11) hx hb hts iX3 hown hK hP 0 rfl rfl 2 (by decide) f59 (fun _ h9 => h9) rfl dX3_aimOf_54 ?_
          refine lv_iload hx hb dX3_aimOf_57 (lv_at hl 0 rfl) ?_
          refine lv_aload_n hx hb dX3_aimOf_59 rfl (lv_at hl 3 rfl) ?_
          refine va_get (D := D) (ci := 2) (v := .ref L0l) (C := RX2) (T := TX2) (N := 10) hx hb hts iX2 hown hK hP 1 rfl rfl 9 (by decide) f128 (fun _ h9 => h9) rfl dX3_aimOf_60 ?_
          refine lv_iload_n hx hb dX3_aimOf_63 rfl (lv_at hl 4 rfl) ?_
          have hPq_19 := hP; have hDq_19 := hD; have hSq_19 := hS; have hlq_19 := hl; clear hP hD hS hl
          rcases (show cx = 0 ∨ cx = 1 ∨ cx = 2 by omega) with rfl | rfl | rfl
          · skip
            have hP := hPq_19; have hD := hDq_19; have hS := hSq_19; have hl := hlq_19; clear hPq_19 hDq_19 hSq_19 hlq_19
            refine va_aldq (C := "HopCredits$Lane") hx hb hK hP 2 2 rfl rfl (by unfold vp_in; decide) dX3_aimOf_64 ?_
            refine lv_eqv (v2 := .ref L0a) rfl ?_
            refine va_get (D := D) (ci := 1) (v := .int (fa0 6)) (C := RX1) (T := TX1) (N := 7) hx hb hts iX1 hown hK hP 3 rfl rfl 6 (by decide) f189 (fun _ h9 => h9) rfl dX3_aimOf_65 ?_
            refine lv_imul hx hb dX3_aimOf_68 ?_
            refine lv_topi (fun y_20 _ => ?_)
            refine lv_iload_n hx hb dX3_aimOf_69 rfl (lv_at hl 1 rfl) ?_
            refine lv_idiv hx hb dX3_aimOf_70 (nz_le cb_16) ?_
            refine lv_topi (fun y_21 _ => ?_)
            refine lv_iadd hx hb dX3_aimOf_71 ?_
            refine lv_topi (fun y_22 _ => ?_)
            have hP9 := hP; have hD9 := hD
            subst hQ
            refine W.widen (k := 0) (n := 0) (Nat.le_of_ble_eq_true rfl) (Nat.le_of_ble_eq_true rfl) ?_
            exact W.iret (v := y_22) hx hb hr (fun tS htS _ => ⟨⟨_, _, rfl, rfl, by rw [htS]; exact hP9, hD9⟩, hS.F htS⟩) hS.2.2 dX3_aimOf_72
          · skip
            have hP := hPq_19; have hD := hDq_19; have hS := hSq_19; have hl := hlq_19; clear hPq_19 hDq_19 hSq_19 hlq_19
            refine va_aldq (C := "HopCredits$Lane") hx hb hK hP 2 2 rfl rfl (by unfold vp_in; decide) dX3_aimOf_64 ?_
            refine lv_eqv (v2 := .ref L0b) rfl ?_
            refine va_get (D := D) (ci := 1) (v := .int (fb0 6)) (C := RX1) (T := TX1) (N := 7) hx hb hts iX1 hown hK hP 4 rfl rfl 6 (by decide) f189 (fun _ h9 => h9) rfl dX3_aimOf_65 ?_
            refine lv_imul hx hb dX3_aimOf_68 ?_
            refine lv_topi (fun y_23 _ => ?_)
            refine lv_iload_n hx hb dX3_aimOf_69 rfl (lv_at hl 1 rfl) ?_
            refine lv_idiv hx hb dX3_aimOf_70 (nz_le cb_16) ?_
            refine lv_topi (fun y_24 _ => ?_)
            refine lv_iadd hx hb dX3_aimOf_71 ?_
            refine lv_topi (fun y_25 _ => ?_)
            have hP9 := hP; have hD9 := hD
            subst hQ
            refine W.widen (k := 0) (n := 0) (Nat.le_of_ble_eq_true rfl) (Nat.le_of_ble_eq_true rfl) ?_
            exact W.iret (v := y_25) hx hb hr (fun tS htS _ => ⟨⟨_, _, rfl, rfl, by rw [htS]; exact hP9, hD9⟩, hS.F htS⟩) hS.2.2 dX3_aimOf_72
          · skip
            have hP := hPq_19; have hD := hDq_19; have hS := hSq_19; have hl := hlq_19; clear hPq_19 hDq_19 hSq_19 hlq_19
            refine va_aldq (C := "HopCredits$Lane") hx hb hK hP 2 2 rfl rfl (by unfold vp_in; decide) dX3_aimOf_64 ?_
            refine lv_eqv (v2 := .ref L0d) rfl ?_
            refine va_get (D := D) (ci := 1) (v := .int (fd0 6)) (C := RX1) (T := TX1) (N := 7) hx hb hts iX1 hown hK hP 5 rfl rfl 6 (by decide) f189 (fun _ h9 => h9) rfl dX3_aimOf_65 ?_
            refine lv_imul hx hb dX3_aimOf_68 ?_
            refine lv_topi (fun y_26 _ => ?_)
            refine lv_iload_n hx hb dX3_aimOf_69 rfl (lv_at hl 1 rfl) ?_
            refine lv_idiv hx hb dX3_aimOf_70 (nz_le cb_16) ?_
            refine lv_topi (fun y_27 _ => ?_)
            refine lv_iadd hx hb dX3_aimOf_71 ?_
            refine lv_topi (fun y_28 _ => ?_)
            have hP9 := hP; have hD9 := hD
            subst hQ
            refine W.widen (k := 0) (n := 0) (Nat.le_of_ble_eq_true rfl) (Nat.le_of_ble_eq_true rfl) ?_
            exact W.iret (v := y_28) hx hb hr (fun tS htS _ => ⟨⟨_, _, rfl, rfl, by rw [htS]; exact hP9, hD9⟩, hS.F htS⟩) hS.2.2 dX3_aimOf_72
      · skip
        have cn_29 : i_2 < cc := Nat.lt_of_not_le (fun q9 => cb_12 ((nI_leI (show cc < 2 ^ 31 by omega) (show i_2 < 2 ^ 31 by omega)).mpr q9))
        refine lv_iload_n hx hb dX3_aimOf_14 rfl (lv_at hl 1 rfl) ?_
        refine lv_aload_n hx hb dX3_aimOf_15 rfl (lv_at hl 3 rfl) ?_
        refine va_get (D := D) (ci := 2) (v := .ref L0l) (C := RX2) (T := TX2) (N := 10) hx hb hts iX2 hown hK hP 1 rfl rfl 9 (by decide) f128 (fun _ h9 => h9) rfl dX3_aimOf_16 ?_
        refine lv_iload hx hb dX3_aimOf_19 (lv_at hl 0 rfl) ?_
        have hPq_30 := hP; have hDq_30 := hD; have hSq_30 := hS; have hlq_30 := hl; clear hP hD hS hl
        rcases (show i_2 = 0 ∨ i_2 = 1 ∨ i_2 = 2 by omega) with rfl | rfl | rfl
        · skip
          have hP := hPq_30; have hD := hDq_30; have hS := hSq_30; have hl := hlq_30; clear hPq_30 hDq_30 hSq_30 hlq_30
          refine va_aldq (C := "HopCredits$Lane") hx hb hK hP 2 2 rfl rfl (by unfold vp_in; decide) dX3_aimOf_21 ?_
          refine lv_eqv (v2 := .ref L0a) rfl ?_
          refine va_get (D := D) (ci := 1) (v := .int (fa0 6)) (C := RX1) (T := TX1) (N := 7) hx hb hts iX1 hown hK hP 3 rfl rfl 6 (by decide) f189 (fun _ h9 => h9) rfl dX3_aimOf_22 ?_
          refine lv_iadd hx hb dX3_aimOf_25 ?_
          refine lv_topi (fun y_31 _ => ?_)
          refine lv_istore_n (lv' := [(3, .int y_31), (4, .int (nI 0)), (0, .ref Nn), (1, .ref L0), (2, .int (nI cx))]) hx hb dX3_aimOf_26 rfl hl (by decide) rfl (fun ls hl => ?_)
          refine lv_iinc (v := 1) (lv' := [(4, .int 1), (3, .int y_31), (0, .ref Nn), (1, .ref L0), (2, .int (nI cx))]) hx hb dX3_aimOf_27 hl (k := 1) rfl (by decide) (by decide) rfl (fun ls hl => ?_)
          refine lv_goto (tgt := 5) hx hb dX3_aimOf_30 (by decide) ?_
          exact loop_11_ih 1 y_31 (show 1 ≤ cc by omega) (show cc - 1 < Nloop_11 by omega) _ _ _ hP hD hS hl
        · skip
          have hP := hPq_30; have hD := hDq_30; have hS := hSq_30; have hl := hlq_30; clear hPq_30 hDq_30 hSq_30 hlq_30
          refine va_aldq (C := "HopCredits$Lane") hx hb hK hP 2 2 rfl rfl (by unfold vp_in; decide) dX3_aimOf_21 ?_
          refine lv_eqv (v2 := .ref L0b) rfl ?_
          refine va_get (D := D) (ci := 1) (v := .int (fb0 6)) (C := RX1) (T := TX1) (N := 7) hx hb hts iX1 hown hK hP 4 rfl rfl 6 (by decide) f189 (fun _ h9 => h9) rfl dX3_aimOf_22 ?_
          refine lv_iadd hx hb dX3_aimOf_25 ?_
          refine lv_topi (fun y_32 _ => ?_)
          refine lv_istore_n (lv' := [(3, .int y_32), (4, .int (nI 1)), (0, .ref Nn), (1, .ref L0), (2, .int (nI cx))]) hx hb dX3_aimOf_26 rfl hl (by decide) rfl (fun ls hl => ?_)
          refine lv_iinc (v := 2) (lv' := [(4, .int 2), (3, .int y_32), (0, .ref Nn), (1, .ref L0), (2, .int (nI cx))]) hx hb dX3_aimOf_27 hl (k := 1) rfl (by decide) (by decide) rfl (fun ls hl => ?_)
          refine lv_goto (tgt := 5) hx hb dX3_aimOf_30 (by decide) ?_
          exact loop_11_ih 2 y_32 (show 2 ≤ cc by omega) (show cc - 2 < Nloop_11 by omega) _ _ _ hP hD hS hl
        · skip
          have hP := hPq_30; have hD := hDq_30; have hS := hSq_30; have hl := hlq_30; clear hPq_30 hDq_30 hSq_30 hlq_30
          refine va_aldq (C := "HopCredits$Lane") hx hb hK hP 2 2 rfl rfl (by unfold vp_in; decide) dX3_aimOf_21 ?_
          refine lv_eqv (v2 := .ref L0d) rfl ?_
          refine va_get (D := D) (ci := 1) (v := .int (fd0 6)) (C := RX1) (T := TX1) (N := 7) hx hb hts iX1 hown hK hP 5 rfl rfl 6 (by decide) f189 (fun _ h9 => h9) rfl dX3_aimOf_22 ?_
          refine lv_iadd hx hb dX3_aimOf_25 ?_
          refine lv_topi (fun y_33 _ => ?_)
          refine lv_istore_n (lv' := [(3, .int y_33), (4, .int (nI 2)), (0, .ref Nn), (1, .ref L0), (2, .int (nI cx))]) hx hb dX3_aimOf_26 rfl hl (by decide) rfl (fun ls hl => ?_)
          refine lv_iinc (v := 3) (lv' := [(4, .int 3), (3, .int y_33), (0, .ref Nn), (1, .ref L0), (2, .int (nI cx))]) hx hb dX3_aimOf_27 hl (k := 1) rfl (by decide) (by decide) rfl (fun ls hl => ?_)
          refine lv_goto (tgt := 5) hx hb dX3_aimOf_30 (by decide) ?_
          exact loop_11_ih 3 y_33 (show 3 ≤ cc by omega) (show cc - 3 < Nloop_11 by omega) _ _ _ hP hD hS hl
  exact loop_11 _ 0 0 (show 0 ≤ cc by omega) (Nat.lt_succ_self _) _ _ _ hP hD hS hl

set_option maxHeartbeats 4000000 in
set_option maxRecDepth 100000 in
theorem k_X3_adapt (l : Launch) (D : va_G) (g : Nat → ClassId) (sz : Nat) (Nn : Nat) (L0 : Nat) (hp : Nat) (cc : Nat) (zrs : Int32) (zad : Int32) (zpr : Int32) (t : Nat) (zlo : Int32) (zps : Int32) (Nl : Nat) (Nf : Nat) (Nb : Nat) (d0 : Nat) (fk0 : Nat → Int32) (fv0 : Nat → Int32) (L0c : Nat) (L0u : Nat) (L0p : Nat) (L0l : Nat) (L0a : Nat) (L0b : Nat) (L0d : Nat) (fa0 : Nat → Int32) (fb0 : Nat → Int32) (fd0 : Nat → Int32) (h0 : 1 ≤ cc) (h1 : cc ≤ 3) (h2 : o64 (fk0 1)) (h3 : lz (fa0 3)) (h4 : lz (fb0 3)) (h5 : lz (fd0 3)) : Met l yX3_adapt wsX3_adapt ({ frames := 2, cells := 0, slots := 0, locals := 48 }) (va_Pc [.ref Nn, .ref L0] (pre D g sz [(Nn, .inr (3, [.int (nI hp), .int (nI cc), .int zrs, .int zad, .int zpr, .int (nI t), .int zlo, .int zps, .ref Nl, .ref Nf, .ref Nb])), (L0, .inr (2, [.int (nI d0), .int (fk0 1), .int (fk0 2), .int (fv0 3), .int (fv0 4), .int (fv0 5), .ref L0c, .ref L0u, .ref L0p, .ref L0l])), (L0l, .inl (g 2, 3, .inr (.inr (.inr (.inr (rf3 L0a L0b L0d)))))), (L0a, .inr (1, [.int (fa0 0), .int (fa0 1), .int (fa0 2), .int (fa0 3), .int (fa0 4), .int (fa0 5), .int (fa0 6)])), (L0b, .inr (1, [.int (fb0 0), .int (fb0 1), .int (fb0 2), .int (fb0 3), .int (fb0 4), .int (fb0 5), .int (fb0 6)])), (L0d, .inr (1, [.int (fd0 0), .int (fd0 1), .int (fd0 2), .int (fd0 3), .int (fd0 4), .int (fd0 5), .int (fd0 6)]))])) (va_Qv (fun (u : va_W) => ∃ (fa0x : Nat → Int32) (fb0x : Nat → Int32) (fd0x : Nat → Int32), u = [(Nn, .inr (3, [.int (nI hp), .int (nI cc), .int zrs, .int zad, .int zpr, .int (nI t), .int zlo, .int zps, .ref Nl, .ref Nf, .ref Nb])), (L0, .inr (2, [.int (nI d0), .int (fk0 1), .int (fk0 2), .int (fv0 3), .int (fv0 4), .int (fv0 5), .ref L0c, .ref L0u, .ref L0p, .ref L0l])), (L0l, .inl (g 2, 3, .inr (.inr (.inr (.inr (rf3 L0a L0b L0d)))))), (L0a, .inr (1, [.int (fa0x 0), .int (fa0x 1), .int (fa0x 2), .int (fa0x 3), .int (fa0x 4), .int (fa0x 5), .int (fa0x 6)])), (L0b, .inr (1, [.int (fb0x 0), .int (fb0x 1), .int (fb0x 2), .int (fb0x 3), .int (fb0x 4), .int (fb0x 5), .int (fb0x 6)])), (L0d, .inr (1, [.int (fd0x 0), .int (fd0x 1), .int (fd0x 2), .int (fd0x 3), .int (fd0x 4), .int (fd0x 5), .int (fd0x 6)]))] ∧ (lz (fa0x 3)) ∧ (lz (fb0x 3)) ∧ (lz (fd0x 3))) (wd D (va_A [(Nn, .inr (3, [.int (nI hp), .int (nI cc), .int zrs, .int zad, .int zpr, .int (nI t), .int zlo, .int zps, .ref Nl, .ref Nf, .ref Nb])), (L0, .inr (2, [.int (nI d0), .int (fk0 1), .int (fk0 2), .int (fv0 3), .int (fv0 4), .int (fv0 5), .ref L0c, .ref L0u, .ref L0p, .ref L0l])), (L0l, .inl (g 2, 3, .inr (.inr (.inr (.inr (rf3 L0a L0b L0d)))))), (L0a, .inr (1, [.int (fa0 0), .int (fa0 1), .int (fa0 2), .int (fa0 3), .int (fa0 4), .int (fa0 5), .int (fa0 6)])), (L0b, .inr (1, [.int (fb0 0), .int (fb0 1), .int (fb0 2), .int (fb0 3), .int (fb0 4), .int (fb0 5), .int (fb0 6)])), (L0d, .inr (1, [.int (fd0 0), .int (fd0 1), .int (fd0 2), .int (fd0 3), .int (fd0 4), .int (fd0 5), .int (fd0 6)]))] sz)) (va_A [(Nn, .inr (3, [.int (nI hp), .int (nI cc), .int zrs, .int zad, .int zpr, .int (nI t), .int zlo, .int zps, .ref Nl, .ref Nf, .ref Nb])), (L0, .inr (2, [.int (nI d0), .int (fk0 1), .int (fk0 2), .int (fv0 3), .int (fv0 4), .int (fv0 5), .ref L0c, .ref L0u, .ref L0p, .ref L0l])), (L0l, .inl (g 2, 3, .inr (.inr (.inr (.inr (rf3 L0a L0b L0d)))))), (L0a, .inr (1, [.int (fa0 0), .int (fa0 1), .int (fa0 2), .int (fa0 3), .int (fa0 4), .int (fa0 5), .int (fa0 6)])), (L0b, .inr (1, [.int (fb0 0), .int (fb0 1), .int (fb0 2), .int (fb0 3), .int (fb0 4), .int (fb0 5), .int (fb0 6)])), (L0d, .inr (1, [.int (fd0 0), .int (fd0 1), .int (fd0 2), .int (fd0 3), .int (fd0 4), .int (fd0 5), .int (fd0 6)]))] sz)) 0 0 (va_A [(Nn, .inr (3, [.int (nI hp), .int (nI cc), .int zrs, .int zad, .int zpr, .int (nI t), .int zlo, .int zps, .ref Nl, .ref Nf, .ref Nb])), (L0, .inr (2, [.int (nI d0), .int (fk0 1), .int (fk0 2), .int (fv0 3), .int (fv0 4), .int (fv0 5), .ref L0c, .ref L0u, .ref L0p, .ref L0l])), (L0l, .inl (g 2, 3, .inr (.inr (.inr (.inr (rf3 L0a L0b L0d)))))), (L0a, .inr (1, [.int (fa0 0), .int (fa0 1), .int (fa0 2), .int (fa0 3), .int (fa0 4), .int (fa0 5), .int (fa0 6)])), (L0b, .inr (1, [.int (fb0 0), .int (fb0 1), .int (fb0 2), .int (fb0 3), .int (fb0 4), .int (fb0 5), .int (fb0 6)])), (L0d, .inr (1, [.int (fd0 0), .int (fd0 1), .int (fd0 2), .int (fd0 3), .int (fd0 4), .int (fd0 5), .int (fd0 6)]))] sz) := by
  refine Met.ofW (cc := cX3_adapt) (maxL := 5) (ret := none) (by decide) rfl ?_
  intro p e s m args below meth c s₁ B hml hv
  obtain ⟨rfl, hsz, hP, ⟨hK, hN⟩, hD0, hZ⟩ := hv
  have hx := B.exec
  have hb := B.bytes
  have hr := B.returns
  have hts := atoms_spec (ws := wsX3_adapt) B.pre
  have hown : s.vm.findClass RX3 = some m.cls := findClass_of_methodNamed B.named
  have hlocks := B.notSynchronized
  clear B
  subst hsz
  have hD := hD0.self (sz := s.heap.size)
  clear hD0
  generalize hAe : va_A [(Nn, .inr (3, [.int (nI hp), .int (nI cc), .int zrs, .int zad, .int zpr, .int (nI t), .int zlo, .int zps, .ref Nl, .ref Nf, .ref Nb])), (L0, .inr (2, [.int (nI d0), .int (fk0 1), .int (fk0 2), .int (fv0 3), .int (fv0 4), .int (fv0 5), .ref L0c, .ref L0u, .ref L0p, .ref L0l])), (L0l, .inl (g 2, 3, .inr (.inr (.inr (.inr (rf3 L0a L0b L0d)))))), (L0a, .inr (1, [.int (fa0 0), .int (fa0 1), .int (fa0 2), .int (fa0 3), .int (fa0 4), .int (fa0 5), .int (fa0 6)])), (L0b, .inr (1, [.int (fb0 0), .int (fb0 1), .int (fb0 2), .int (fb0 3), .int (fb0 4), .int (fb0 5), .int (fb0 6)])), (L0d, .inr (1, [.int (fd0 0), .int (fd0 1), .int (fd0 2), .int (fd0 3), .int (fd0 4), .int (fd0 5), .int (fd0 6)]))] s.heap.size = A at hD hZ ⊢
  have hA : ∀ q : Nat, s.heap.size ≤ q → A q := fun q h => by rw [← hAe]; exact Or.inr h
  have hS : va_S A s.heap s.heap [] := va_S.rf
  have f128 := hts (.fieldLink RX3 128 "HopCredits$Link" "lanes" "[LHopCredits$Lane;") (List.mem_of_getElem? (i := 2) rfl)
  have f189 := hts (.fieldLink RX3 189 "HopCredits$Lane" "sinceAdapt" "I") (List.mem_of_getElem? (i := 11) rfl)
  have f195 := hts (.fieldLink RX3 195 "HopCredits$Lane" "zone" "I") (List.mem_of_getElem? (i := 3) rfl)
  have f62 := hts (.fieldLink RX3 62 "HopCredits$Net" "circuits" "I") (List.mem_of_getElem? (i := 1) rfl)
  have mcmax := hts (.code Lib.Math.max.name Lib.Math.max.code 2 (some .int)) (List.mem_of_getElem? (i := 10) rfl)
  have mcmin := hts (.code Lib.Math.min.name Lib.Math.min.code 2 (some .int)) (List.mem_of_getElem? (i := 7) rfl)
  have mi := hts (.initialized "java/lang/Math") (List.mem_of_getElem? (i := 6) rfl)
  have mmmax := hts (.methodLink RX3 64 Lib.Math.max.name) (List.mem_of_getElem? (i := 8) rfl)
  have mmmin := hts (.methodLink RX3 224 Lib.Math.min.name) (List.mem_of_getElem? (i := 4) rfl)
  have mtmax := hts (.static Lib.Math.max.name) (List.mem_of_getElem? (i := 9) rfl)
  have mtmin := hts (.static Lib.Math.min.name) (List.mem_of_getElem? (i := 5) rfl)
  have iX1 : ∀ w ∈ u_ws RX1 TX1 7, w ∈ wsX3_adapt := fun w h => List.mem_cons_of_mem _ (List.mem_append_right _ (h))
  have iX2 : ∀ w ∈ u_ws RX2 TX2 10, w ∈ wsX3_adapt := fun w h => List.mem_cons_of_mem _ (List.mem_append_left _ (List.mem_append_right _ (h)))
  have iX3 : ∀ w ∈ u_ws RX3 TX3 11, w ∈ wsX3_adapt := fun w h => List.mem_cons_of_mem _ (List.mem_append_left _ (List.mem_append_left _ (List.mem_append_right _ (h))))
  have hl := lv_entry ([.ref Nn, .ref L0]) (n := 5) (Nat.le_of_ble_eq_true rfl)
  rw [lg_entry_eq]
  generalize (lg_sl ([.ref Nn, .ref L0]) ++ List.replicate (5 - (lg_sl ([.ref Nn, .ref L0])).length) Slot.unset).toArray = ls at hl ⊢
  have hl : lv_has ls 5 [(0, .ref Nn), (1, .ref L0)] := hl
  generalize hQ : MQ below _ _ s _ _ _ = Q
  generalize hH : s.heap = H at hP ⊢
  have hS : va_S A s.heap H [] := by rw [← hH]; exact hS
  clear hH
  refine lv_iconst (v := 0) hx hb dX3_adapt_0 (by decide) ?_
  refine lv_istore_n (lv' := [(2, .int 0), (0, .ref Nn), (1, .ref L0)]) hx hb dX3_adapt_1 rfl hl (by decide) rfl (fun ls hl => ?_)
  have loop_34 : ∀ (Nloop_34 : Nat) (i_4 : Nat) (z_5 : Int32) (z_19 : Int32) (z_20 : Int32) (hz_5 : lz z_5) (hz_19 : lz z_19) (hz_20 : lz z_20) (hbi_4 : i_4 ≤ cc) (hmloop_34 : cc - i_4 < Nloop_34) (H : Heap) (locs : List Loc) (ls : Array Slot), va_P D vwCl [(Nn, .inr (3, [.int (nI hp), .int (nI cc), .int zrs, .int zad, .int zpr, .int (nI t), .int zlo, .int zps, .ref Nl, .ref Nf, .ref Nb])), (L0, .inr (2, [.int (nI d0), .int (fk0 1), .int (fk0 2), .int (fv0 3), .int (fv0 4), .int (fv0 5), .ref L0c, .ref L0u, .ref L0p, .ref L0l])), (L0l, .inl (g 2, 3, .inr (.inr (.inr (.inr (rf3 L0a L0b L0d)))))), (L0a, .inr (1, [.int (fa0 0), .int (fa0 1), .int (fa0 2), .int z_5, .int (fa0 4), .int (fa0 5), .int (fa0 6)])), (L0b, .inr (1, [.int (fb0 0), .int (fb0 1), .int (fb0 2), .int z_19, .int (fb0 4), .int (fb0 5), .int (fb0 6)])), (L0d, .inr (1, [.int (fd0 0), .int (fd0 1), .int (fd0 2), .int z_20, .int (fd0 4), .int (fd0 5), .int (fd0 6)]))] H → va_D A [(Nn, .inr (3, [.int (nI hp), .int (nI cc), .int zrs, .int zad, .int zpr, .int (nI t), .int zlo, .int zps, .ref Nl, .ref Nf, .ref Nb])), (L0, .inr (2, [.int (nI d0), .int (fk0 1), .int (fk0 2), .int (fv0 3), .int (fv0 4), .int (fv0 5), .ref L0c, .ref L0u, .ref L0p, .ref L0l])), (L0l, .inl (g 2, 3, .inr (.inr (.inr (.inr (rf3 L0a L0b L0d)))))), (L0a, .inr (1, [.int (fa0 0), .int (fa0 1), .int (fa0 2), .int z_5, .int (fa0 4), .int (fa0 5), .int (fa0 6)])), (L0b, .inr (1, [.int (fb0 0), .int (fb0 1), .int (fb0 2), .int z_19, .int (fb0 4), .int (fb0 5), .int (fb0 6)])), (L0d, .inr (1, [.int (fd0 0), .int (fd0 1), .int (fd0 2), .int z_20, .int (fd0 4), .int (fd0 5), .int (fd0 6)]))] → va_S A s.heap H locs → lv_has ls 5 [(2, .int (nI i_4)), (0, .ref Nn), (1, .ref L0)] → W p l e (headSpec wsX3_adapt ({ frames := 2, cells := 0, slots := 0, locals := 48 })).room s m ([.ref Nn, .ref L0] : List Value).toArray below meth c H locs 0 0 Q (F0 m 2 ls []) := by
    clear hP hD hS hl
    intro Nloop_34
    induction Nloop_34 with
    | zero => intro i_4 z_5 z_19 z_20 hz_5 hz_19 hz_20 hbi_4 hm9; exact absurd hm9 (Nat.not_lt_zero _)
    | succ Nloop_34 loop_34_ih =>
      intro i_4 z_5 z_19 z_20 hz_5 hz_19 hz_20 hbi_4 hmloop_34 H locs ls hP hD hS hl
      refine lv_iload_n hx hb dX3_adapt_2 rfl (lv_at hl 0 rfl) ?_
      refine lv_aload_n hx hb dX3_adapt_3 rfl (lv_at hl 1 rfl) ?_
      refine va_get (D := D) (ci := 3) (v := .int (nI cc)) (C := RX3) (T := TX3) (N := 11) hx hb hts iX3 hown hK hP 0 rfl rfl 1 (by decide) f62 (fun _ h9 => h9) rfl dX3_adapt_4 ?_
      refine lv_icmp_ge (tgt := 40) hx hb dX3_adapt_7 (by decide) (fun cb_35 => ?_) (fun cb_35 => ?_)
      · skip
        have cn_36 : cc ≤ i_4 := (nI_leI (show cc < 2 ^ 31 by omega) (show i_4 < 2 ^ 31 by omega)).mp cb_35
        refine lv_iconst (v := 0) hx hb dX3_adapt_40 (by decide) ?_
        refine lv_istore_n (lv' := [(2, .int 0), (0, .ref Nn), (1, .ref L0)]) hx hb dX3_adapt_41 rfl hl (by decide) rfl (fun ls hl => ?_)
        have loop_105 : ∀ (Nloop_105 : Nat) (i_45 : Nat) (z_46 : Int32) (z_75 : Int32) (z_76 : Int32) (hz_46 : lz z_46) (hz_75 : lz z_75) (hz_76 : lz z_76) (hbi_45 : i_45 ≤ cc) (hmloop_105 : cc - i_45 < Nloop_105) (H : Heap) (locs : List Loc) (ls : Array Slot), va_P D vwCl [(Nn, .inr (3, [.int (nI hp), .int (nI cc), .int zrs, .int zad, .int zpr, .int (nI t), .int zlo, .int zps, .ref Nl, .ref Nf, .ref Nb])), (L0, .inr (2, [.int (nI d0), .int (fk0 1), .int (fk0 2), .int (fv0 3), .int (fv0 4), .int (fv0 5), .ref L0c, .ref L0u, .ref L0p, .ref L0l])), (L0l, .inl (g 2, 3, .inr (.inr (.inr (.inr (rf3 L0a L0b L0d)))))), (L0a, .inr (1, [.int (fa0 0), .int (fa0 1), .int (fa0 2), .int z_46, .int (fa0 4), .int (fa0 5), .int (fa0 6)])), (L0b, .inr (1, [.int (fb0 0), .int (fb0 1), .int (fb0 2), .int z_75, .int (fb0 4), .int (fb0 5), .int (fb0 6)])), (L0d, .inr (1, [.int (fd0 0), .int (fd0 1), .int (fd0 2), .int z_76, .int (fd0 4), .int (fd0 5), .int (fd0 6)]))] H → va_D A [(Nn, .inr (3, [.int (nI hp), .int (nI cc), .int zrs, .int zad, .int zpr, .int (nI t), .int zlo, .int zps, .ref Nl, .ref Nf, .ref Nb])), (L0, .inr (2, [.int (nI d0), .int (fk0 1), .int (fk0 2), .int (fv0 3), .int (fv0 4), .int (fv0 5), .ref L0c, .ref L0u, .ref L0p, .ref L0l])), (L0l, .inl (g 2, 3, .inr (.inr (.inr (.inr (rf3 L0a L0b L0d)))))), (L0a, .inr (1, [.int (fa0 0), .int (fa0 1), .int (fa0 2), .int z_46, .int (fa0 4), .int (fa0 5), .int (fa0 6)])), (L0b, .inr (1, [.int (fb0 0), .int (fb0 1), .int (fb0 2), .int z_75, .int (fb0 4), .int (fb0 5), .int (fb0 6)])), (L0d, .inr (1, [.int (fd0 0), .int (fd0 1), .int (fd0 2), .int z_76, .int (fd0 4), .int (fd0 5), .int (fd0 6)]))] → va_S A s.heap H locs → lv_has ls 5 [(2, .int (nI i_45)), (0, .ref Nn), (1, .ref L0)] → W p l e (headSpec wsX3_adapt ({ frames := 2, cells := 0, slots := 0, locals := 48 })).room s m ([.ref Nn, .ref L0] : List Value).toArray below meth c H locs 0 0 Q (F0 m 42 ls []) := by
          clear hP hD hS hl
          intro Nloop_105
          induction Nloop_105 with
          | zero => intro i_45 z_46 z_75 z_76 hz_46 hz_75 hz_76 hbi_45 hm9; exact absurd hm9 (Nat.not_lt_zero _)
          | succ Nloop_105 loop_105_ih =>
            intro i_45 z_46 z_75 z_76 hz_46 hz_75 hz_76 hbi_45 hmloop_105 H locs ls hP hD hS hl
            refine lv_iload_n hx hb dX3_adapt_42 rfl (lv_at hl 0 rfl) ?_
            refine lv_aload_n hx hb dX3_adapt_43 rfl (lv_at hl 1 rfl) ?_
            refine va_get (D := D) (ci := 3) (v := .int (nI cc)) (C := RX3) (T := TX3) (N := 11) hx hb hts iX3 hown hK hP 0 rfl rfl 1 (by decide) f62 (fun _ h9 => h9) rfl dX3_adapt_44 ?_
            refine lv_icmp_ge (tgt := 96) hx hb dX3_adapt_47 (by decide) (fun cb_106 => ?_) (fun cb_106 => ?_)
            · skip
              have cn_107 : cc ≤ i_45 := (nI_leI (show cc < 2 ^ 31 by omega) (show i_45 < 2 ^ 31 by omega)).mp cb_106
              refine lv_iconst (v := 0) hx hb dX3_adapt_96 (by decide) ?_
              refine lv_istore_n (lv' := [(2, .int 0), (0, .ref Nn), (1, .ref L0)]) hx hb dX3_adapt_97 rfl hl (by decide) rfl (fun ls hl => ?_)
              have loop_120 : ∀ (Nloop_120 : Nat) (i_108 : Nat) (z_109 : Int32) (z_114 : Int32) (z_115 : Int32) (hbi_108 : i_108 ≤ cc) (hmloop_120 : cc - i_108 < Nloop_120) (H : Heap) (locs : List Loc) (ls : Array Slot), va_P D vwCl [(Nn, .inr (3, [.int (nI hp), .int (nI cc), .int zrs, .int zad, .int zpr, .int (nI t), .int zlo, .int zps, .ref Nl, .ref Nf, .ref Nb])), (L0, .inr (2, [.int (nI d0), .int (fk0 1), .int (fk0 2), .int (fv0 3), .int (fv0 4), .int (fv0 5), .ref L0c, .ref L0u, .ref L0p, .ref L0l])), (L0l, .inl (g 2, 3, .inr (.inr (.inr (.inr (rf3 L0a L0b L0d)))))), (L0a, .inr (1, [.int (fa0 0), .int (fa0 1), .int (fa0 2), .int z_46, .int (fa0 4), .int (fa0 5), .int z_109])), (L0b, .inr (1, [.int (fb0 0), .int (fb0 1), .int (fb0 2), .int z_75, .int (fb0 4), .int (fb0 5), .int z_114])), (L0d, .inr (1, [.int (fd0 0), .int (fd0 1), .int (fd0 2), .int z_76, .int (fd0 4), .int (fd0 5), .int z_115]))] H → va_D A [(Nn, .inr (3, [.int (nI hp), .int (nI cc), .int zrs, .int zad, .int zpr, .int (nI t), .int zlo, .int zps, .ref Nl, .ref Nf, .ref Nb])), (L0, .inr (2, [.int (nI d0), .int (fk0 1), .int (fk0 2), .int (fv0 3), .int (fv0 4), .int (fv0 5), .ref L0c, .ref L0u, .ref L0p, .ref L0l])), (L0l, .inl (g 2, 3, .inr (.inr (.inr (.inr (rf3 L0a L0b L0d)))))), (L0a, .inr (1, [.int (fa0 0), .int (fa0 1), .int (fa0 2), .int z_46, .int (fa0 4), .int (fa0 5), .int z_109])), (L0b, .inr (1, [.int (fb0 0), .int (fb0 1), .int (fb0 2), .int z_75, .int (fb0 4), .int (fb0 5), .int z_114])), (L0d, .inr (1, [.int (fd0 0), .int (fd0 1), .int (fd0 2), .int z_76, .int (fd0 4), .int (fd0 5), .int z_115]))] → va_S A s.heap H locs → lv_has ls 5 [(2, .int (nI i_108)), (0, .ref Nn), (1, .ref L0)] → W p l e (headSpec wsX3_adapt ({ frames := 2, cells := 0, slots := 0, locals := 48 })).room s m ([.ref Nn, .ref L0] : List Value).toArray below meth c H locs 0 0 Q (F0 m 98 ls []) := by
                clear hP hD hS hl
                intro Nloop_120
                induction Nloop_120 with
                | zero => intro i_108 z_109 z_114 z_115 hbi_108 hm9; exact absurd hm9 (Nat.not_lt_zero _)
                | succ Nloop_120 loop_120_ih =>
                  intro i_108 z_109 z_114 z_115 hbi_108 hmloop_120 H locs ls hP hD hS hl
                  refine lv_iload_n hx hb dX3_adapt_98 rfl (lv_at hl 0 rfl) ?_
                  refine lv_aload_n hx hb dX3_adapt_99 rfl (lv_at hl 1 rfl) ?_
                  refine va_get (D := D) (ci := 3) (v := .int (nI cc)) (C := RX3) (T := TX3) (N := 11) hx hb hts iX3 hown hK hP 0 rfl rfl 1 (by decide) f62 (fun _ h9 => h9) rfl dX3_adapt_100 ?_
                  refine lv_icmp_ge (tgt := 122) hx hb dX3_adapt_103 (by decide) (fun cb_121 => ?_) (fun cb_121 => ?_)
                  · skip
                    have cn_122 : cc ≤ i_108 := (nI_leI (show cc < 2 ^ 31 by omega) (show i_108 < 2 ^ 31 by omega)).mp cb_121
                    have hP9 := hP; have hD9 := hD
                    subst hQ
                    refine W.widen (k := 0) (n := 0) (Nat.le_of_ble_eq_true rfl) (Nat.le_of_ble_eq_true rfl) ?_
                    exact W.vret hx hb hr (fun tS htS _ => ⟨⟨_, rfl, ⟨(lf [fa0 0, fa0 1, fa0 2, z_46, fa0 4, fa0 5, z_109]), (lf [fb0 0, fb0 1, fb0 2, z_75, fb0 4, fb0 5, z_114]), (lf [fd0 0, fd0 1, fd0 2, z_76, fd0 4, fd0 5, z_115]), rfl, (hz_46), (hz_75), (hz_76)⟩, by rw [htS]; exact hP9, hD9⟩, hS.F htS⟩) hS.2.2 dX3_adapt_122
                  · skip
                    have cn_123 : i_108 < cc := Nat.lt_of_not_le (fun q9 => cb_121 ((nI_leI (show cc < 2 ^ 31 by omega) (show i_108 < 2 ^ 31 by omega)).mpr q9))
                    refine lv_aload_n hx hb dX3_adapt_106 rfl (lv_at hl 2 rfl) ?_
                    refine va_get (D := D) (ci := 2) (v := .ref L0l) (C := RX2) (T := TX2) (N := 10) hx hb hts iX2 hown hK hP 1 rfl rfl 9 (by decide) f128 (fun _ h9 => h9) rfl dX3_adapt_107 ?_
                    refine lv_iload_n hx hb dX3_adapt_110 rfl (lv_at hl 0 rfl) ?_
                    have hPq_124 := hP; have hDq_124 := hD; have hSq_124 := hS; have hlq_124 := hl; clear hP hD hS hl
                    rcases (show i_108 = 0 ∨ i_108 = 1 ∨ i_108 = 2 by omega) with rfl | rfl | rfl
                    · skip
                      have hP := hPq_124; have hD := hDq_124; have hS := hSq_124; have hl := hlq_124; clear hPq_124 hDq_124 hSq_124 hlq_124
                      refine va_aldq (C := "HopCredits$Lane") hx hb hK hP 2 2 rfl rfl (by unfold vp_in; decide) dX3_adapt_111 ?_
                      refine lv_eqv (v2 := .ref L0a) rfl ?_
                      refine lv_iconst (v := 0) hx hb dX3_adapt_112 (by decide) ?_
                      refine va_put (D := D) (ci := 1) (v := .int 0) (ty := .int) (C := RX1) (T := TX1) (N := 7) hx hb hts iX1 tyX1 tyX1_ok nmX1 hown hK hP hD hS 3 rfl rfl 6 (by decide) f189 (fun _ h9 => h9) rfl (by decide +kernel) (rfl) (rfl) (Nat.le_of_ble_eq_true rfl) dX3_adapt_113 (fun H locs hP2 hD2 hS2 => ?_)
                      clear hP hD hS
                      have hPD : PD D A [(Nn, .inr (3, [.int (nI hp), .int (nI cc), .int zrs, .int zad, .int zpr, .int (nI t), .int zlo, .int zps, .ref Nl, .ref Nf, .ref Nb])), (L0, .inr (2, [.int (nI d0), .int (fk0 1), .int (fk0 2), .int (fv0 3), .int (fv0 4), .int (fv0 5), .ref L0c, .ref L0u, .ref L0p, .ref L0l])), (L0l, .inl (g 2, 3, .inr (.inr (.inr (.inr (rf3 L0a L0b L0d)))))), (L0a, .inr (1, [.int (fa0 0), .int (fa0 1), .int (fa0 2), .int z_46, .int (fa0 4), .int (fa0 5), .int 0])), (L0b, .inr (1, [.int (fb0 0), .int (fb0 1), .int (fb0 2), .int z_75, .int (fb0 4), .int (fb0 5), .int z_114])), (L0d, .inr (1, [.int (fd0 0), .int (fd0 1), .int (fd0 2), .int z_76, .int (fd0 4), .int (fd0 5), .int z_115]))] H := ⟨hP2, hD2⟩
                      have hS := hS2; clear hP2 hD2 hS2; have hP := hPD.1; have hD := hPD.2; clear hPD
                      refine lv_iinc (v := 1) (lv' := [(2, .int 1), (0, .ref Nn), (1, .ref L0)]) hx hb dX3_adapt_116 hl (k := 0) rfl (by decide) (by decide) rfl (fun ls hl => ?_)
                      refine lv_goto (tgt := 98) hx hb dX3_adapt_119 (by decide) ?_
                      exact loop_120_ih 1 0 z_114 z_115 (show 1 ≤ cc by omega) (show cc - 1 < Nloop_120 by omega) _ _ _ hP hD hS hl
                    · skip
                      have hP := hPq_124; have hD := hDq_124; have hS := hSq_124; have hl := hlq_124; clear hPq_124 hDq_124 hSq_124 hlq_124
                      refine va_aldq (C := "HopCredits$Lane") hx hb hK hP 2 2 rfl rfl (by unfold vp_in; decide) dX3_adapt_111 ?_
                      refine lv_eqv (v2 := .ref L0b) rfl ?_
                      refine lv_iconst (v := 0) hx hb dX3_adapt_112 (by decide) ?_
                      refine va_put (D := D) (ci := 1) (v := .int 0) (ty := .int) (C := RX1) (T := TX1) (N := 7) hx hb hts iX1 tyX1 tyX1_ok nmX1 hown hK hP hD hS 4 rfl rfl 6 (by decide) f189 (fun _ h9 => h9) rfl (by decide +kernel) (rfl) (rfl) (Nat.le_of_ble_eq_true rfl) dX3_adapt_113 (fun H locs hP2 hD2 hS2 => ?_)
                      clear hP hD hS
                      have hPD : PD D A [(Nn, .inr (3, [.int (nI hp), .int (nI cc), .int zrs, .int zad, .int zpr, .int (nI t), .int zlo, .int zps, .ref Nl, .ref Nf, .ref Nb])), (L0, .inr (2, [.int (nI d0), .int (fk0 1), .int (fk0 2), .int (fv0 3), .int (fv0 4), .int (fv0 5), .ref L0c, .ref L0u, .ref L0p, .ref L0l])), (L0l, .inl (g 2, 3, .inr (.inr (.inr (.inr (rf3 L0a L0b L0d)))))), (L0a, .inr (1, [.int (fa0 0), .int (fa0 1), .int (fa0 2), .int z_46, .int (fa0 4), .int (fa0 5), .int z_109])), (L0b, .inr (1, [.int (fb0 0), .int (fb0 1), .int (fb0 2), .int z_75, .int (fb0 4), .int (fb0 5), .int 0])), (L0d, .inr (1, [.int (fd0 0), .int (fd0 1), .int (fd0 2), .int z_76, .int (fd0 4), .int (fd0 5), .int z_115]))] H := ⟨hP2, hD2⟩
                      have hS := hS2; clear hP2 hD2 hS2; have hP := hPD.1; have hD := hPD.2; clear hPD
                      refine lv_iinc (v := 2) (lv' := [(2, .int 2), (0, .ref Nn), (1, .ref L0)]) hx hb dX3_adapt_116 hl (k := 0) rfl (by decide) (by decide) rfl (fun ls hl => ?_)
                      refine lv_goto (tgt := 98) hx hb dX3_adapt_119 (by decide) ?_
                      exact loop_120_ih 2 z_109 0 z_115 (show 2 ≤ cc by omega) (show cc - 2 < Nloop_120 by omega) _ _ _ hP hD hS hl
                    · skip
                      have hP := hPq_124; have hD := hDq_124; have hS := hSq_124; have hl := hlq_124; clear hPq_124 hDq_124 hSq_124 hlq_124
                      refine va_aldq (C := "HopCredits$Lane") hx hb hK hP 2 2 rfl rfl (by unfold vp_in; decide) dX3_adapt_111 ?_
                      refine lv_eqv (v2 := .ref L0d) rfl ?_
                      refine lv_iconst (v := 0) hx hb dX3_adapt_112 (by decide) ?_
                      refine va_put (D := D) (ci := 1) (v := .int 0) (ty := .int) (C := RX1) (T := TX1) (N := 7) hx hb hts iX1 tyX1 tyX1_ok nmX1 hown hK hP hD hS 5 rfl rfl 6 (by decide) f189 (fun _ h9 => h9) rfl (by decide +kernel) (rfl) (rfl) (Nat.le_of_ble_eq_true rfl) dX3_adapt_113 (fun H locs hP2 hD2 hS2 => ?_)
                      clear hP hD hS
                      have hPD : PD D A [(Nn, .inr (3, [.int (nI hp), .int (nI cc), .int zrs, .int zad, .int zpr, .int (nI t), .int zlo, .int zps, .ref Nl, .ref Nf, .ref Nb])), (L0, .inr (2, [.int (nI d0), .int (fk0 1), .int (fk0 2), .int (fv0 3), .int (fv0 4), .int (fv0 5), .ref L0c, .ref L0u, .ref L0p, .ref L0l])), (L0l, .inl (g 2, 3, .inr (.inr (.inr (.inr (rf3 L0a L0b L0d)))))), (L0a, .inr (1, [.int (fa0 0), .int (fa0 1), .int (fa0 2), .int z_46, .int (fa0 4), .int (fa0 5), .int z_109])), (L0b, .inr (1, [.int (fb0 0), .int (fb0 1), .int (fb0 2), .int z_75, .int (fb0 4), .int (fb0 5), .int z_114])), (L0d, .inr (1, [.int (fd0 0), .int (fd0 1), .int (fd0 2), .int z_76, .int (fd0 4), .int (fd0 5), .int 0]))] H := ⟨hP2, hD2⟩
                      have hS := hS2; clear hP2 hD2 hS2; have hP := hPD.1; have hD := hPD.2; clear hPD
                      refine lv_iinc (v := 3) (lv' := [(2, .int 3), (0, .ref Nn), (1, .ref L0)]) hx hb dX3_adapt_116 hl (k := 0) rfl (by decide) (by decide) rfl (fun ls hl => ?_)
                      refine lv_goto (tgt := 98) hx hb dX3_adapt_119 (by decide) ?_
                      exact loop_120_ih 3 z_109 z_114 0 (show 3 ≤ cc by omega) (show cc - 3 < Nloop_120 by omega) _ _ _ hP hD hS hl
              exact loop_120 _ 0 (fa0 6) (fb0 6) (fd0 6) (show 0 ≤ cc by omega) (Nat.lt_succ_self _) _ _ _ hP hD hS hl
            · skip
              have cn_125 : i_45 < cc := Nat.lt_of_not_le (fun q9 => cb_106 ((nI_leI (show cc < 2 ^ 31 by omega) (show i_45 < 2 ^ 31 by omega)).mpr q9))
              refine lv_aload_n hx hb dX3_adapt_50 rfl (lv_at hl 2 rfl) ?_
              refine va_get (D := D) (ci := 2) (v := .ref L0l) (C := RX2) (T := TX2) (N := 10) hx hb hts iX2 hown hK hP 1 rfl rfl 9 (by decide) f128 (fun _ h9 => h9) rfl dX3_adapt_51 ?_
              refine lv_iload_n hx hb dX3_adapt_54 rfl (lv_at hl 0 rfl) ?_
              have hPq_126 := hP; have hDq_126 := hD; have hSq_126 := hS; have hlq_126 := hl; clear hP hD hS hl
              rcases (show i_45 = 0 ∨ i_45 = 1 ∨ i_45 = 2 by omega) with rfl | rfl | rfl
              · skip
                have hP := hPq_126; have hD := hDq_126; have hS := hSq_126; have hl := hlq_126; clear hPq_126 hDq_126 hSq_126 hlq_126
                refine va_aldq (C := "HopCredits$Lane") hx hb hK hP 2 2 rfl rfl (by unfold vp_in; decide) dX3_adapt_55 ?_
                refine lv_eqv (v2 := .ref L0a) rfl ?_
                refine lv_astore_n (lv' := [(3, .ref L0a), (2, .int (nI 0)), (0, .ref Nn), (1, .ref L0)]) hx hb dX3_adapt_56 rfl hl (by decide) rfl (fun ls hl => ?_)
                refine lv_aload_n hx hb dX3_adapt_57 rfl (lv_at hl 2 rfl) ?_
                refine lv_aload_n hx hb dX3_adapt_58 rfl (lv_at hl 3 rfl) ?_
                refine lv_iload_n hx hb dX3_adapt_59 rfl (lv_at hl 1 rfl) ?_
                refine ky_Vi (As := [.ref L0, .int (nI 0)]) (rest := []) ⟨hx, hb, hml, hown, hts⟩ ⟨hK, hN⟩ hZ hP hD hS hA [0, 1, 2, 3, 4, 5] [] (wc := [(Nn, .inr (3, [.int (nI hp), .int (nI cc), .int zrs, .int zad, .int zpr, .int (nI t), .int zlo, .int zps, .ref Nl, .ref Nf, .ref Nb])), (L0, .inr (2, [.int (nI d0), .int (fk0 1), .int (fk0 2), .int (fv0 3), .int (fv0 4), .int (fv0 5), .ref L0c, .ref L0u, .ref L0p, .ref L0l])), (L0l, .inl (g 2, 3, .inr (.inr (.inr (.inr (rf3 L0a L0b L0d)))))), (L0a, .inr (1, [.int (fa0 0), .int (fa0 1), .int (fa0 2), .int z_46, .int (fa0 4), .int (fa0 5), .int (fa0 6)])), (L0b, .inr (1, [.int (fb0 0), .int (fb0 1), .int (fb0 2), .int z_75, .int (fb0 4), .int (fb0 5), .int (fb0 6)])), (L0d, .inr (1, [.int (fd0 0), .int (fd0 1), .int (fd0 2), .int z_76, .int (fd0 4), .int (fd0 5), .int (fd0 6)]))]) (wr := []) rfl rfl rfl rfl (by decide) (k_X3_aimOf l D g H.size Nn L0 0 hp cc zrs zad zpr t zlo zps Nl Nf Nb d0 fk0 fv0 L0c L0u L0p L0l L0a L0b L0d (lf [fa0 0, fa0 1, fa0 2, z_46, fa0 4, fa0 5, fa0 6]) (lf [fb0 0, fb0 1, fb0 2, z_75, fb0 4, fb0 5, fb0 6]) (lf [fd0 0, fd0 1, fd0 2, z_76, fd0 4, fd0 5, fd0 6]) (show 0 < 3 by omega) (show 1 ≤ cc by omega) (show cc ≤ 3 by omega)) (cwV 2 hts gX3_adapt_X3_aimOf rfl rfl rfl (by decide +kernel) ⟨(Nat.le_of_ble_eq_true rfl), (Nat.le_of_ble_eq_true rfl)⟩) 0 3 rfl rfl rfl rfl hl.1 rfl (Nat.le_of_ble_eq_true rfl) dX3_adapt_60 ⟨(Nat.le_of_ble_eq_true rfl), (Nat.le_of_ble_eq_true rfl)⟩ (fun r_127 u H locs hw hP2 hD2 hS2 => ?_)
                clear hP hD hS
                obtain rfl := hw
                have hPD : PD D A [(Nn, .inr (3, [.int (nI hp), .int (nI cc), .int zrs, .int zad, .int zpr, .int (nI t), .int zlo, .int zps, .ref Nl, .ref Nf, .ref Nb])), (L0, .inr (2, [.int (nI d0), .int (fk0 1), .int (fk0 2), .int (fv0 3), .int (fv0 4), .int (fv0 5), .ref L0c, .ref L0u, .ref L0p, .ref L0l])), (L0l, .inl (g 2, 3, .inr (.inr (.inr (.inr (rf3 L0a L0b L0d)))))), (L0a, .inr (1, [.int (fa0 0), .int (fa0 1), .int (fa0 2), .int z_46, .int (fa0 4), .int (fa0 5), .int (fa0 6)])), (L0b, .inr (1, [.int (fb0 0), .int (fb0 1), .int (fb0 2), .int z_75, .int (fb0 4), .int (fb0 5), .int (fb0 6)])), (L0d, .inr (1, [.int (fd0 0), .int (fd0 1), .int (fd0 2), .int z_76, .int (fd0 4), .int (fd0 5), .int (fd0 6)]))] H := ⟨hP2, hD2⟩
                have hS := hS2; clear hP2 hD2 hS2; have hP := hPD.1; have hD := hPD.2; clear hPD
                refine W.widen (k := 0) (n := 0) (Nat.le_of_ble_eq_true rfl) (Nat.le_of_ble_eq_true rfl) ?_
                refine lv_aload_n hx hb dX3_adapt_63 rfl (lv_at hl 3 rfl) ?_
                refine lv_iload_n hx hb dX3_adapt_64 rfl (lv_at hl 1 rfl) ?_
                refine lv_aload_n hx hb dX3_adapt_65 rfl (lv_at hl 2 rfl) ?_
                refine va_get (D := D) (ci := 3) (v := .int (nI cc)) (C := RX3) (T := TX3) (N := 11) hx hb hts iX3 hown hK hP 0 rfl rfl 1 (by decide) f62 (fun _ h9 => h9) rfl dX3_adapt_66 ?_
                refine ky_Vi (As := [.int (nI 0), .int (nI cc)]) (rest := [.int r_127]) ⟨hx, hb, hml, hown, hts⟩ ⟨hK, hN⟩ hZ hP hD hS hA [1, 2, 3, 4, 5] [0] (wc := [(L0, .inr (2, [.int (nI d0), .int (fk0 1), .int (fk0 2), .int (fv0 3), .int (fv0 4), .int (fv0 5), .ref L0c, .ref L0u, .ref L0p, .ref L0l])), (L0l, .inl (g 2, 3, .inr (.inr (.inr (.inr (rf3 L0a L0b L0d)))))), (L0a, .inr (1, [.int (fa0 0), .int (fa0 1), .int (fa0 2), .int z_46, .int (fa0 4), .int (fa0 5), .int (fa0 6)])), (L0b, .inr (1, [.int (fb0 0), .int (fb0 1), .int (fb0 2), .int z_75, .int (fb0 4), .int (fb0 5), .int (fb0 6)])), (L0d, .inr (1, [.int (fd0 0), .int (fd0 1), .int (fd0 2), .int z_76, .int (fd0 4), .int (fd0 5), .int (fd0 6)]))]) (wr := [(Nn, .inr (3, [.int (nI hp), .int (nI cc), .int zrs, .int zad, .int zpr, .int (nI t), .int zlo, .int zps, .ref Nl, .ref Nf, .ref Nb]))]) rfl rfl rfl rfl (by decide) (k_X2_roomFor l D g H.size L0 (nI 0) cc (lf [nI d0, fk0 1, fk0 2, fv0 3, fv0 4, fv0 5]) L0c L0u L0p L0l L0a L0b L0d (lf [fa0 0, fa0 1, fa0 2, z_46, fa0 4, fa0 5, fa0 6]) (lf [fb0 0, fb0 1, fb0 2, z_75, fb0 4, fb0 5, fb0 6]) (lf [fd0 0, fd0 1, fd0 2, z_76, fd0 4, fd0 5, fd0 6]) (show cc < 4 by omega) (h2) (hz_46) (hz_75) (hz_76)) (cwV 2 hts gX3_adapt_X2_roomFor rfl rfl rfl (by decide +kernel) ⟨(Nat.le_of_ble_eq_true rfl), (Nat.le_of_ble_eq_true rfl)⟩) 1 2 rfl rfl rfl rfl hl.1 rfl (Nat.le_of_ble_eq_true rfl) dX3_adapt_69 ⟨(Nat.le_of_ble_eq_true rfl), (Nat.le_of_ble_eq_true rfl)⟩ (fun r_128 u H locs hw hP2 hD2 hS2 => ?_)
                clear hP hD hS
                obtain ⟨zr_129, rfl, rfl, hf_130⟩ := hw
                have hPD : PD D A [(Nn, .inr (3, [.int (nI hp), .int (nI cc), .int zrs, .int zad, .int zpr, .int (nI t), .int zlo, .int zps, .ref Nl, .ref Nf, .ref Nb])), (L0, .inr (2, [.int (nI d0), .int (fk0 1), .int (fk0 2), .int (fv0 3), .int (fv0 4), .int (fv0 5), .ref L0c, .ref L0u, .ref L0p, .ref L0l])), (L0l, .inl (g 2, 3, .inr (.inr (.inr (.inr (rf3 L0a L0b L0d)))))), (L0a, .inr (1, [.int (fa0 0), .int (fa0 1), .int (fa0 2), .int z_46, .int (fa0 4), .int (fa0 5), .int (fa0 6)])), (L0b, .inr (1, [.int (fb0 0), .int (fb0 1), .int (fb0 2), .int z_75, .int (fb0 4), .int (fb0 5), .int (fb0 6)])), (L0d, .inr (1, [.int (fd0 0), .int (fd0 1), .int (fd0 2), .int z_76, .int (fd0 4), .int (fd0 5), .int (fd0 6)]))] H := ⟨hP2, hD2⟩
                have hS := hS2; clear hP2 hD2 hS2; have hP := hPD.1; have hD := hPD.2; clear hPD
                refine W.widen (k := 0) (n := 0) (Nat.le_of_ble_eq_true rfl) (Nat.le_of_ble_eq_true rfl) ?_
                refine va_mmin hx hb (hml.trans hl.1.symm) hown mmmin mtmin mi mcmin (Nat.le_of_ble_eq_true rfl) (Nat.le_of_ble_eq_true rfl) (Nat.le_of_ble_eq_true rfl) (Nat.le_of_ble_eq_true rfl) dX3_adapt_72 ?_
                refine lv_topP (P := lz) (lz_min_r (hf_130)) (fun y_131 hy_132 => ?_)
                refine lv_istore (lv' := [(4, .int y_131), (3, .ref L0a), (2, .int (nI 0)), (0, .ref Nn), (1, .ref L0)]) hx hb dX3_adapt_75 hl (by decide) rfl (fun ls hl => ?_)
                refine lv_aload_n hx hb dX3_adapt_77 rfl (lv_at hl 1 rfl) ?_
                refine lv_aload_n hx hb dX3_adapt_78 rfl (lv_at hl 1 rfl) ?_
                refine va_get (D := D) (ci := 1) (v := .int z_46) (C := RX1) (T := TX1) (N := 7) hx hb hts iX1 hown hK hP 3 rfl rfl 3 (by decide) f195 (fun _ h9 => h9) rfl dX3_adapt_79 ?_
                refine lv_iload hx hb dX3_adapt_82 (lv_at hl 0 rfl) ?_
                refine va_mmax hx hb (hml.trans hl.1.symm) hown mmmax mtmax mi mcmax (Nat.le_of_ble_eq_true rfl) (Nat.le_of_ble_eq_true rfl) (Nat.le_of_ble_eq_true rfl) (Nat.le_of_ble_eq_true rfl) dX3_adapt_84 ?_
                refine lv_topP (P := lz) (lz_max (hz_46) (hy_132)) (fun y_133 hy_134 => ?_)
                refine va_put (D := D) (ci := 1) (v := .int y_133) (ty := .int) (C := RX1) (T := TX1) (N := 7) hx hb hts iX1 tyX1 tyX1_ok nmX1 hown hK hP hD hS 3 rfl rfl 3 (by decide) f195 (fun _ h9 => h9) rfl (by decide +kernel) (rfl) (rfl) (Nat.le_of_ble_eq_true rfl) dX3_adapt_87 (fun H locs hP2 hD2 hS2 => ?_)
                clear hP hD hS
                have hPD : PD D A [(Nn, .inr (3, [.int (nI hp), .int (nI cc), .int zrs, .int zad, .int zpr, .int (nI t), .int zlo, .int zps, .ref Nl, .ref Nf, .ref Nb])), (L0, .inr (2, [.int (nI d0), .int (fk0 1), .int (fk0 2), .int (fv0 3), .int (fv0 4), .int (fv0 5), .ref L0c, .ref L0u, .ref L0p, .ref L0l])), (L0l, .inl (g 2, 3, .inr (.inr (.inr (.inr (rf3 L0a L0b L0d)))))), (L0a, .inr (1, [.int (fa0 0), .int (fa0 1), .int (fa0 2), .int y_133, .int (fa0 4), .int (fa0 5), .int (fa0 6)])), (L0b, .inr (1, [.int (fb0 0), .int (fb0 1), .int (fb0 2), .int z_75, .int (fb0 4), .int (fb0 5), .int (fb0 6)])), (L0d, .inr (1, [.int (fd0 0), .int (fd0 1), .int (fd0 2), .int z_76, .int (fd0 4), .int (fd0 5), .int (fd0 6)]))] H := ⟨hP2, hD2⟩
                have hS := hS2; clear hP2 hD2 hS2; have hP := hPD.1; have hD := hPD.2; clear hPD
                refine lv_iinc (v := 1) (lv' := [(2, .int 1), (4, .int y_131), (3, .ref L0a), (0, .ref Nn), (1, .ref L0)]) hx hb dX3_adapt_90 hl (k := 2) rfl (by decide) (by decide) rfl (fun ls hl => ?_)
                refine lv_goto (tgt := 42) hx hb dX3_adapt_93 (by decide) ?_
                exact loop_105_ih 1 y_133 z_75 z_76 (hy_134) (hz_75) (hz_76) (show 1 ≤ cc by omega) (show cc - 1 < Nloop_105 by omega) _ _ _ hP hD hS (lv_sub hl [0, 3, 4] rfl)
              · skip
                have hP := hPq_126; have hD := hDq_126; have hS := hSq_126; have hl := hlq_126; clear hPq_126 hDq_126 hSq_126 hlq_126
                refine va_aldq (C := "HopCredits$Lane") hx hb hK hP 2 2 rfl rfl (by unfold vp_in; decide) dX3_adapt_55 ?_
                refine lv_eqv (v2 := .ref L0b) rfl ?_
                refine lv_astore_n (lv' := [(3, .ref L0b), (2, .int (nI 1)), (0, .ref Nn), (1, .ref L0)]) hx hb dX3_adapt_56 rfl hl (by decide) rfl (fun ls hl => ?_)
                refine lv_aload_n hx hb dX3_adapt_57 rfl (lv_at hl 2 rfl) ?_
                refine lv_aload_n hx hb dX3_adapt_58 rfl (lv_at hl 3 rfl) ?_
                refine lv_iload_n hx hb dX3_adapt_59 rfl (lv_at hl 1 rfl) ?_
                refine ky_Vi (As := [.ref L0, .int (nI 1)]) (rest := []) ⟨hx, hb, hml, hown, hts⟩ ⟨hK, hN⟩ hZ hP hD hS hA [0, 1, 2, 3, 4, 5] [] (wc := [(Nn, .inr (3, [.int (nI hp), .int (nI cc), .int zrs, .int zad, .int zpr, .int (nI t), .int zlo, .int zps, .ref Nl, .ref Nf, .ref Nb])), (L0, .inr (2, [.int (nI d0), .int (fk0 1), .int (fk0 2), .int (fv0 3), .int (fv0 4), .int (fv0 5), .ref L0c, .ref L0u, .ref L0p, .ref L0l])), (L0l, .inl (g 2, 3, .inr (.inr (.inr (.inr (rf3 L0a L0b L0d)))))), (L0a, .inr (1, [.int (fa0 0), .int (fa0 1), .int (fa0 2), .int z_46, .int (fa0 4), .int (fa0 5), .int (fa0 6)])), (L0b, .inr (1, [.int (fb0 0), .int (fb0 1), .int (fb0 2), .int z_75, .int (fb0 4), .int (fb0 5), .int (fb0 6)])), (L0d, .inr (1, [.int (fd0 0), .int (fd0 1), .int (fd0 2), .int z_76, .int (fd0 4), .int (fd0 5), .int (fd0 6)]))]) (wr := []) rfl rfl rfl rfl (by decide) (k_X3_aimOf l D g H.size Nn L0 1 hp cc zrs zad zpr t zlo zps Nl Nf Nb d0 fk0 fv0 L0c L0u L0p L0l L0a L0b L0d (lf [fa0 0, fa0 1, fa0 2, z_46, fa0 4, fa0 5, fa0 6]) (lf [fb0 0, fb0 1, fb0 2, z_75, fb0 4, fb0 5, fb0 6]) (lf [fd0 0, fd0 1, fd0 2, z_76, fd0 4, fd0 5, fd0 6]) (show 1 < 3 by omega) (show 1 ≤ cc by omega) (show cc ≤ 3 by omega)) (cwV 2 hts gX3_adapt_X3_aimOf rfl rfl rfl (by decide +kernel) ⟨(Nat.le_of_ble_eq_true rfl), (Nat.le_of_ble_eq_true rfl)⟩) 0 3 rfl rfl rfl rfl hl.1 rfl (Nat.le_of_ble_eq_true rfl) dX3_adapt_60 ⟨(Nat.le_of_ble_eq_true rfl), (Nat.le_of_ble_eq_true rfl)⟩ (fun r_135 u H locs hw hP2 hD2 hS2 => ?_)
                clear hP hD hS
                obtain rfl := hw
                have hPD : PD D A [(Nn, .inr (3, [.int (nI hp), .int (nI cc), .int zrs, .int zad, .int zpr, .int (nI t), .int zlo, .int zps, .ref Nl, .ref Nf, .ref Nb])), (L0, .inr (2, [.int (nI d0), .int (fk0 1), .int (fk0 2), .int (fv0 3), .int (fv0 4), .int (fv0 5), .ref L0c, .ref L0u, .ref L0p, .ref L0l])), (L0l, .inl (g 2, 3, .inr (.inr (.inr (.inr (rf3 L0a L0b L0d)))))), (L0a, .inr (1, [.int (fa0 0), .int (fa0 1), .int (fa0 2), .int z_46, .int (fa0 4), .int (fa0 5), .int (fa0 6)])), (L0b, .inr (1, [.int (fb0 0), .int (fb0 1), .int (fb0 2), .int z_75, .int (fb0 4), .int (fb0 5), .int (fb0 6)])), (L0d, .inr (1, [.int (fd0 0), .int (fd0 1), .int (fd0 2), .int z_76, .int (fd0 4), .int (fd0 5), .int (fd0 6)]))] H := ⟨hP2, hD2⟩
                have hS := hS2; clear hP2 hD2 hS2; have hP := hPD.1; have hD := hPD.2; clear hPD
                refine W.widen (k := 0) (n := 0) (Nat.le_of_ble_eq_true rfl) (Nat.le_of_ble_eq_true rfl) ?_
                refine lv_aload_n hx hb dX3_adapt_63 rfl (lv_at hl 3 rfl) ?_
                refine lv_iload_n hx hb dX3_adapt_64 rfl (lv_at hl 1 rfl) ?_
                refine lv_aload_n hx hb dX3_adapt_65 rfl (lv_at hl 2 rfl) ?_
                refine va_get (D := D) (ci := 3) (v := .int (nI cc)) (C := RX3) (T := TX3) (N := 11) hx hb hts iX3 hown hK hP 0 rfl rfl 1 (by decide) f62 (fun _ h9 => h9) rfl dX3_adapt_66 ?_
                refine ky_Vi (As := [.int (nI 1), .int (nI cc)]) (rest := [.int r_135]) ⟨hx, hb, hml, hown, hts⟩ ⟨hK, hN⟩ hZ hP hD hS hA [1, 2, 3, 4, 5] [0] (wc := [(L0, .inr (2, [.int (nI d0), .int (fk0 1), .int (fk0 2), .int (fv0 3), .int (fv0 4), .int (fv0 5), .ref L0c, .ref L0u, .ref L0p, .ref L0l])), (L0l, .inl (g 2, 3, .inr (.inr (.inr (.inr (rf3 L0a L0b L0d)))))), (L0a, .inr (1, [.int (fa0 0), .int (fa0 1), .int (fa0 2), .int z_46, .int (fa0 4), .int (fa0 5), .int (fa0 6)])), (L0b, .inr (1, [.int (fb0 0), .int (fb0 1), .int (fb0 2), .int z_75, .int (fb0 4), .int (fb0 5), .int (fb0 6)])), (L0d, .inr (1, [.int (fd0 0), .int (fd0 1), .int (fd0 2), .int z_76, .int (fd0 4), .int (fd0 5), .int (fd0 6)]))]) (wr := [(Nn, .inr (3, [.int (nI hp), .int (nI cc), .int zrs, .int zad, .int zpr, .int (nI t), .int zlo, .int zps, .ref Nl, .ref Nf, .ref Nb]))]) rfl rfl rfl rfl (by decide) (k_X2_roomFor l D g H.size L0 (nI 1) cc (lf [nI d0, fk0 1, fk0 2, fv0 3, fv0 4, fv0 5]) L0c L0u L0p L0l L0a L0b L0d (lf [fa0 0, fa0 1, fa0 2, z_46, fa0 4, fa0 5, fa0 6]) (lf [fb0 0, fb0 1, fb0 2, z_75, fb0 4, fb0 5, fb0 6]) (lf [fd0 0, fd0 1, fd0 2, z_76, fd0 4, fd0 5, fd0 6]) (show cc < 4 by omega) (h2) (hz_46) (hz_75) (hz_76)) (cwV 2 hts gX3_adapt_X2_roomFor rfl rfl rfl (by decide +kernel) ⟨(Nat.le_of_ble_eq_true rfl), (Nat.le_of_ble_eq_true rfl)⟩) 1 2 rfl rfl rfl rfl hl.1 rfl (Nat.le_of_ble_eq_true rfl) dX3_adapt_69 ⟨(Nat.le_of_ble_eq_true rfl), (Nat.le_of_ble_eq_true rfl)⟩ (fun r_136 u H locs hw hP2 hD2 hS2 => ?_)
                clear hP hD hS
                obtain ⟨zr_137, rfl, rfl, hf_138⟩ := hw
                have hPD : PD D A [(Nn, .inr (3, [.int (nI hp), .int (nI cc), .int zrs, .int zad, .int zpr, .int (nI t), .int zlo, .int zps, .ref Nl, .ref Nf, .ref Nb])), (L0, .inr (2, [.int (nI d0), .int (fk0 1), .int (fk0 2), .int (fv0 3), .int (fv0 4), .int (fv0 5), .ref L0c, .ref L0u, .ref L0p, .ref L0l])), (L0l, .inl (g 2, 3, .inr (.inr (.inr (.inr (rf3 L0a L0b L0d)))))), (L0a, .inr (1, [.int (fa0 0), .int (fa0 1), .int (fa0 2), .int z_46, .int (fa0 4), .int (fa0 5), .int (fa0 6)])), (L0b, .inr (1, [.int (fb0 0), .int (fb0 1), .int (fb0 2), .int z_75, .int (fb0 4), .int (fb0 5), .int (fb0 6)])), (L0d, .inr (1, [.int (fd0 0), .int (fd0 1), .int (fd0 2), .int z_76, .int (fd0 4), .int (fd0 5), .int (fd0 6)]))] H := ⟨hP2, hD2⟩
                have hS := hS2; clear hP2 hD2 hS2; have hP := hPD.1; have hD := hPD.2; clear hPD
                refine W.widen (k := 0) (n := 0) (Nat.le_of_ble_eq_true rfl) (Nat.le_of_ble_eq_true rfl) ?_
                refine va_mmin hx hb (hml.trans hl.1.symm) hown mmmin mtmin mi mcmin (Nat.le_of_ble_eq_true rfl) (Nat.le_of_ble_eq_true rfl) (Nat.le_of_ble_eq_true rfl) (Nat.le_of_ble_eq_true rfl) dX3_adapt_72 ?_
                refine lv_topP (P := lz) (lz_min_r (hf_138)) (fun y_139 hy_140 => ?_)
                refine lv_istore (lv' := [(4, .int y_139), (3, .ref L0b), (2, .int (nI 1)), (0, .ref Nn), (1, .ref L0)]) hx hb dX3_adapt_75 hl (by decide) rfl (fun ls hl => ?_)
                refine lv_aload_n hx hb dX3_adapt_77 rfl (lv_at hl 1 rfl) ?_
                refine lv_aload_n hx hb dX3_adapt_78 rfl (lv_at hl 1 rfl) ?_
                refine va_get (D := D) (ci := 1) (v := .int z_75) (C := RX1) (T := TX1) (N := 7) hx hb hts iX1 hown hK hP 4 rfl rfl 3 (by decide) f195 (fun _ h9 => h9) rfl dX3_adapt_79 ?_
                refine lv_iload hx hb dX3_adapt_82 (lv_at hl 0 rfl) ?_
                refine va_mmax hx hb (hml.trans hl.1.symm) hown mmmax mtmax mi mcmax (Nat.le_of_ble_eq_true rfl) (Nat.le_of_ble_eq_true rfl) (Nat.le_of_ble_eq_true rfl) (Nat.le_of_ble_eq_true rfl) dX3_adapt_84 ?_
                refine lv_topP (P := lz) (lz_max (hz_75) (hy_140)) (fun y_141 hy_142 => ?_)
                refine va_put (D := D) (ci := 1) (v := .int y_141) (ty := .int) (C := RX1) (T := TX1) (N := 7) hx hb hts iX1 tyX1 tyX1_ok nmX1 hown hK hP hD hS 4 rfl rfl 3 (by decide) f195 (fun _ h9 => h9) rfl (by decide +kernel) (rfl) (rfl) (Nat.le_of_ble_eq_true rfl) dX3_adapt_87 (fun H locs hP2 hD2 hS2 => ?_)
                clear hP hD hS
                have hPD : PD D A [(Nn, .inr (3, [.int (nI hp), .int (nI cc), .int zrs, .int zad, .int zpr, .int (nI t), .int zlo, .int zps, .ref Nl, .ref Nf, .ref Nb])), (L0, .inr (2, [.int (nI d0), .int (fk0 1), .int (fk0 2), .int (fv0 3), .int (fv0 4), .int (fv0 5), .ref L0c, .ref L0u, .ref L0p, .ref L0l])), (L0l, .inl (g 2, 3, .inr (.inr (.inr (.inr (rf3 L0a L0b L0d)))))), (L0a, .inr (1, [.int (fa0 0), .int (fa0 1), .int (fa0 2), .int z_46, .int (fa0 4), .int (fa0 5), .int (fa0 6)])), (L0b, .inr (1, [.int (fb0 0), .int (fb0 1), .int (fb0 2), .int y_141, .int (fb0 4), .int (fb0 5), .int (fb0 6)])), (L0d, .inr (1, [.int (fd0 0), .int (fd0 1), .int (fd0 2), .int z_76, .int (fd0 4), .int (fd0 5), .int (fd0 6)]))] H := ⟨hP2, hD2⟩
                have hS := hS2; clear hP2 hD2 hS2; have hP := hPD.1; have hD := hPD.2; clear hPD
                refine lv_iinc (v := 2) (lv' := [(2, .int 2), (4, .int y_139), (3, .ref L0b), (0, .ref Nn), (1, .ref L0)]) hx hb dX3_adapt_90 hl (k := 2) rfl (by decide) (by decide) rfl (fun ls hl => ?_)
                refine lv_goto (tgt := 42) hx hb dX3_adapt_93 (by decide) ?_
                exact loop_105_ih 2 z_46 y_141 z_76 (hz_46) (hy_142) (hz_76) (show 2 ≤ cc by omega) (show cc - 2 < Nloop_105 by omega) _ _ _ hP hD hS (lv_sub hl [0, 3, 4] rfl)
              · skip
                have hP := hPq_126; have hD := hDq_126; have hS := hSq_126; have hl := hlq_126; clear hPq_126 hDq_126 hSq_126 hlq_126
                refine va_aldq (C := "HopCredits$Lane") hx hb hK hP 2 2 rfl rfl (by unfold vp_in; decide) dX3_adapt_55 ?_
                refine lv_eqv (v2 := .ref L0d) rfl ?_
                refine lv_astore_n (lv' := [(3, .ref L0d), (2, .int (nI 2)), (0, .ref Nn), (1, .ref L0)]) hx hb dX3_adapt_56 rfl hl (by decide) rfl (fun ls hl => ?_)
                refine lv_aload_n hx hb dX3_adapt_57 rfl (lv_at hl 2 rfl) ?_
                refine lv_aload_n hx hb dX3_adapt_58 rfl (lv_at hl 3 rfl) ?_
                refine lv_iload_n hx hb dX3_adapt_59 rfl (lv_at hl 1 rfl) ?_
                refine ky_Vi (As := [.ref L0, .int (nI 2)]) (rest := []) ⟨hx, hb, hml, hown, hts⟩ ⟨hK, hN⟩ hZ hP hD hS hA [0, 1, 2, 3, 4, 5] [] (wc := [(Nn, .inr (3, [.int (nI hp), .int (nI cc), .int zrs, .int zad, .int zpr, .int (nI t), .int zlo, .int zps, .ref Nl, .ref Nf, .ref Nb])), (L0, .inr (2, [.int (nI d0), .int (fk0 1), .int (fk0 2), .int (fv0 3), .int (fv0 4), .int (fv0 5), .ref L0c, .ref L0u, .ref L0p, .ref L0l])), (L0l, .inl (g 2, 3, .inr (.inr (.inr (.inr (rf3 L0a L0b L0d)))))), (L0a, .inr (1, [.int (fa0 0), .int (fa0 1), .int (fa0 2), .int z_46, .int (fa0 4), .int (fa0 5), .int (fa0 6)])), (L0b, .inr (1, [.int (fb0 0), .int (fb0 1), .int (fb0 2), .int z_75, .int (fb0 4), .int (fb0 5), .int (fb0 6)])), (L0d, .inr (1, [.int (fd0 0), .int (fd0 1), .int (fd0 2), .int z_76, .int (fd0 4), .int (fd0 5), .int (fd0 6)]))]) (wr := []) rfl rfl rfl rfl (by decide) (k_X3_aimOf l D g H.size Nn L0 2 hp cc zrs zad zpr t zlo zps Nl Nf Nb d0 fk0 fv0 L0c L0u L0p L0l L0a L0b L0d (lf [fa0 0, fa0 1, fa0 2, z_46, fa0 4, fa0 5, fa0 6]) (lf [fb0 0, fb0 1, fb0 2, z_75, fb0 4, fb0 5, fb0 6]) (lf [fd0 0, fd0 1, fd0 2, z_76, fd0 4, fd0 5, fd0 6]) (show 2 < 3 by omega) (show 1 ≤ cc by omega) (show cc ≤ 3 by omega)) (cwV 2 hts gX3_adapt_X3_aimOf rfl rfl rfl (by decide +kernel) ⟨(Nat.le_of_ble_eq_true rfl), (Nat.le_of_ble_eq_true rfl)⟩) 0 3 rfl rfl rfl rfl hl.1 rfl (Nat.le_of_ble_eq_true rfl) dX3_adapt_60 ⟨(Nat.le_of_ble_eq_true rfl), (Nat.le_of_ble_eq_true rfl)⟩ (fun r_143 u H locs hw hP2 hD2 hS2 => ?_)
                clear hP hD hS
                obtain rfl := hw
                have hPD : PD D A [(Nn, .inr (3, [.int (nI hp), .int (nI cc), .int zrs, .int zad, .int zpr, .int (nI t), .int zlo, .int zps, .ref Nl, .ref Nf, .ref Nb])), (L0, .inr (2, [.int (nI d0), .int (fk0 1), .int (fk0 2), .int (fv0 3), .int (fv0 4), .int (fv0 5), .ref L0c, .ref L0u, .ref L0p, .ref L0l])), (L0l, .inl (g 2, 3, .inr (.inr (.inr (.inr (rf3 L0a L0b L0d)))))), (L0a, .inr (1, [.int (fa0 0), .int (fa0 1), .int (fa0 2), .int z_46, .int (fa0 4), .int (fa0 5), .int (fa0 6)])), (L0b, .inr (1, [.int (fb0 0), .int (fb0 1), .int (fb0 2), .int z_75, .int (fb0 4), .int (fb0 5), .int (fb0 6)])), (L0d, .inr (1, [.int (fd0 0), .int (fd0 1), .int (fd0 2), .int z_76, .int (fd0 4), .int (fd0 5), .int (fd0 6)]))] H := ⟨hP2, hD2⟩
                have hS := hS2; clear hP2 hD2 hS2; have hP := hPD.1; have hD := hPD.2; clear hPD
                refine W.widen (k := 0) (n := 0) (Nat.le_of_ble_eq_true rfl) (Nat.le_of_ble_eq_true rfl) ?_
                refine lv_aload_n hx hb dX3_adapt_63 rfl (lv_at hl 3 rfl) ?_
                refine lv_iload_n hx hb dX3_adapt_64 rfl (lv_at hl 1 rfl) ?_
                refine lv_aload_n hx hb dX3_adapt_65 rfl (lv_at hl 2 rfl) ?_
                refine va_get (D := D) (ci := 3) (v := .int (nI cc)) (C := RX3) (T := TX3) (N := 11) hx hb hts iX3 hown hK hP 0 rfl rfl 1 (by decide) f62 (fun _ h9 => h9) rfl dX3_adapt_66 ?_
                refine ky_Vi (As := [.int (nI 2), .int (nI cc)]) (rest := [.int r_143]) ⟨hx, hb, hml, hown, hts⟩ ⟨hK, hN⟩ hZ hP hD hS hA [1, 2, 3, 4, 5] [0] (wc := [(L0, .inr (2, [.int (nI d0), .int (fk0 1), .int (fk0 2), .int (fv0 3), .int (fv0 4), .int (fv0 5), .ref L0c, .ref L0u, .ref L0p, .ref L0l])), (L0l, .inl (g 2, 3, .inr (.inr (.inr (.inr (rf3 L0a L0b L0d)))))), (L0a, .inr (1, [.int (fa0 0), .int (fa0 1), .int (fa0 2), .int z_46, .int (fa0 4), .int (fa0 5), .int (fa0 6)])), (L0b, .inr (1, [.int (fb0 0), .int (fb0 1), .int (fb0 2), .int z_75, .int (fb0 4), .int (fb0 5), .int (fb0 6)])), (L0d, .inr (1, [.int (fd0 0), .int (fd0 1), .int (fd0 2), .int z_76, .int (fd0 4), .int (fd0 5), .int (fd0 6)]))]) (wr := [(Nn, .inr (3, [.int (nI hp), .int (nI cc), .int zrs, .int zad, .int zpr, .int (nI t), .int zlo, .int zps, .ref Nl, .ref Nf, .ref Nb]))]) rfl rfl rfl rfl (by decide) (k_X2_roomFor l D g H.size L0 (nI 2) cc (lf [nI d0, fk0 1, fk0 2, fv0 3, fv0 4, fv0 5]) L0c L0u L0p L0l L0a L0b L0d (lf [fa0 0, fa0 1, fa0 2, z_46, fa0 4, fa0 5, fa0 6]) (lf [fb0 0, fb0 1, fb0 2, z_75, fb0 4, fb0 5, fb0 6]) (lf [fd0 0, fd0 1, fd0 2, z_76, fd0 4, fd0 5, fd0 6]) (show cc < 4 by omega) (h2) (hz_46) (hz_75) (hz_76)) (cwV 2 hts gX3_adapt_X2_roomFor rfl rfl rfl (by decide +kernel) ⟨(Nat.le_of_ble_eq_true rfl), (Nat.le_of_ble_eq_true rfl)⟩) 1 2 rfl rfl rfl rfl hl.1 rfl (Nat.le_of_ble_eq_true rfl) dX3_adapt_69 ⟨(Nat.le_of_ble_eq_true rfl), (Nat.le_of_ble_eq_true rfl)⟩ (fun r_144 u H locs hw hP2 hD2 hS2 => ?_)
                clear hP hD hS
                obtain ⟨zr_145, rfl, rfl, hf_146⟩ := hw
                have hPD : PD D A [(Nn, .inr (3, [.int (nI hp), .int (nI cc), .int zrs, .int zad, .int zpr, .int (nI t), .int zlo, .int zps, .ref Nl, .ref Nf, .ref Nb])), (L0, .inr (2, [.int (nI d0), .int (fk0 1), .int (fk0 2), .int (fv0 3), .int (fv0 4), .int (fv0 5), .ref L0c, .ref L0u, .ref L0p, .ref L0l])), (L0l, .inl (g 2, 3, .inr (.inr (.inr (.inr (rf3 L0a L0b L0d)))))), (L0a, .inr (1, [.int (fa0 0), .int (fa0 1), .int (fa0 2), .int z_46, .int (fa0 4), .int (fa0 5), .int (fa0 6)])), (L0b, .inr (1, [.int (fb0 0), .int (fb0 1), .int (fb0 2), .int z_75, .int (fb0 4), .int (fb0 5), .int (fb0 6)])), (L0d, .inr (1, [.int (fd0 0), .int (fd0 1), .int (fd0 2), .int z_76, .int (fd0 4), .int (fd0 5), .int (fd0 6)]))] H := ⟨hP2, hD2⟩
                have hS := hS2; clear hP2 hD2 hS2; have hP := hPD.1; have hD := hPD.2; clear hPD
                refine W.widen (k := 0) (n := 0) (Nat.le_of_ble_eq_true rfl) (Nat.le_of_ble_eq_true rfl) ?_
                refine va_mmin hx hb (hml.trans hl.1.symm) hown mmmin mtmin mi mcmin (Nat.le_of_ble_eq_true rfl) (Nat.le_of_ble_eq_true rfl) (Nat.le_of_ble_eq_true rfl) (Nat.le_of_ble_eq_true rfl) dX3_adapt_72 ?_
                refine lv_topP (P := lz) (lz_min_r (hf_146)) (fun y_147 hy_148 => ?_)
                refine lv_istore (lv' := [(4, .int y_147), (3, .ref L0d), (2, .int (nI 2)), (0, .ref Nn), (1, .ref L0)]) hx hb dX3_adapt_75 hl (by decide) rfl (fun ls hl => ?_)
                refine lv_aload_n hx hb dX3_adapt_77 rfl (lv_at hl 1 rfl) ?_
                refine lv_aload_n hx hb dX3_adapt_78 rfl (lv_at hl 1 rfl) ?_
                refine va_get (D := D) (ci := 1) (v := .int z_76) (C := RX1) (T := TX1) (N := 7) hx hb hts iX1 hown hK hP 5 rfl rfl 3 (by decide) f195 (fun _ h9 => h9) rfl dX3_adapt_79 ?_
                refine lv_iload hx hb dX3_adapt_82 (lv_at hl 0 rfl) ?_
                refine va_mmax hx hb (hml.trans hl.1.symm) hown mmmax mtmax mi mcmax (Nat.le_of_ble_eq_true rfl) (Nat.le_of_ble_eq_true rfl) (Nat.le_of_ble_eq_true rfl) (Nat.le_of_ble_eq_true rfl) dX3_adapt_84 ?_
                refine lv_topP (P := lz) (lz_max (hz_76) (hy_148)) (fun y_149 hy_150 => ?_)
                refine va_put (D := D) (ci := 1) (v := .int y_149) (ty := .int) (C := RX1) (T := TX1) (N := 7) hx hb hts iX1 tyX1 tyX1_ok nmX1 hown hK hP hD hS 5 rfl rfl 3 (by decide) f195 (fun _ h9 => h9) rfl (by decide +kernel) (rfl) (rfl) (Nat.le_of_ble_eq_true rfl) dX3_adapt_87 (fun H locs hP2 hD2 hS2 => ?_)
                clear hP hD hS
                have hPD : PD D A [(Nn, .inr (3, [.int (nI hp), .int (nI cc), .int zrs, .int zad, .int zpr, .int (nI t), .int zlo, .int zps, .ref Nl, .ref Nf, .ref Nb])), (L0, .inr (2, [.int (nI d0), .int (fk0 1), .int (fk0 2), .int (fv0 3), .int (fv0 4), .int (fv0 5), .ref L0c, .ref L0u, .ref L0p, .ref L0l])), (L0l, .inl (g 2, 3, .inr (.inr (.inr (.inr (rf3 L0a L0b L0d)))))), (L0a, .inr (1, [.int (fa0 0), .int (fa0 1), .int (fa0 2), .int z_46, .int (fa0 4), .int (fa0 5), .int (fa0 6)])), (L0b, .inr (1, [.int (fb0 0), .int (fb0 1), .int (fb0 2), .int z_75, .int (fb0 4), .int (fb0 5), .int (fb0 6)])), (L0d, .inr (1, [.int (fd0 0), .int (fd0 1), .int (fd0 2), .int y_149, .int (fd0 4), .int (fd0 5), .int (fd0 6)]))] H := ⟨hP2, hD2⟩
                have hS := hS2; clear hP2 hD2 hS2; have hP := hPD.1; have hD := hPD.2; clear hPD
                refine lv_iinc (v := 3) (lv' := [(2, .int 3), (4, .int y_147), (3, .ref L0d), (0, .ref Nn), (1, .ref L0)]) hx hb dX3_adapt_90 hl (k := 2) rfl (by decide) (by decide) rfl (fun ls hl => ?_)
                refine lv_goto (tgt := 42) hx hb dX3_adapt_93 (by decide) ?_
                exact loop_105_ih 3 z_46 z_75 y_149 (hz_46) (hz_75) (hy_150) (show 3 ≤ cc by omega) (show cc - 3 < Nloop_105 by omega) _ _ _ hP hD hS (lv_sub hl [0, 3, 4] rfl)
        exact loop_105 _ 0 z_5 z_19 z_20 (hz_5) (hz_19) (hz_20) (show 0 ≤ cc by omega) (Nat.lt_succ_self _) _ _ _ hP hD hS hl
      · skip
        have cn_151 : i_4 < cc := Nat.lt_of_not_le (fun q9 => cb_35 ((nI_leI (show cc < 2 ^ 31 by omega) (show i_4 < 2 ^ 31 by omega)).mpr q9))
        refine lv_aload_n hx hb dX3_adapt_10 rfl (lv_at hl 2 rfl) ?_
        refine va_get (D := D) (ci := 2) (v := .ref L0l) (C := RX2) (T := TX2) (N := 10) hx hb hts iX2 hown hK hP 1 rfl rfl 9 (by decide) f128 (fun _ h9 => h9) rfl dX3_adapt_11 ?_
        refine lv_iload_n hx hb dX3_adapt_14 rfl (lv_at hl 0 rfl) ?_
        have hPq_152 := hP; have hDq_152 := hD; have hSq_152 := hS; have hlq_152 := hl; clear hP hD hS hl
        rcases (show i_4 = 0 ∨ i_4 = 1 ∨ i_4 = 2 by omega) with rfl | rfl | rfl
        · skip
          have hP := hPq_152; have hD := hDq_152; have hS := hSq_152; have hl := hlq_152; clear hPq_152 hDq_152 hSq_152 hlq_152
          refine va_aldq (C := "HopCredits$Lane") hx hb hK hP 2 2 rfl rfl (by unfold vp_in; decide) dX3_adapt_15 ?_
          refine lv_eqv (v2 := .ref L0a) rfl ?_
          refine lv_astore_n (lv' := [(3, .ref L0a), (2, .int (nI 0)), (0, .ref Nn), (1, .ref L0)]) hx hb dX3_adapt_16 rfl hl (by decide) rfl (fun ls hl => ?_)
          refine lv_aload_n hx hb dX3_adapt_17 rfl (lv_at hl 0 rfl) ?_
          refine lv_aload_n hx hb dX3_adapt_18 rfl (lv_at hl 0 rfl) ?_
          refine va_get (D := D) (ci := 1) (v := .int z_5) (C := RX1) (T := TX1) (N := 7) hx hb hts iX1 hown hK hP 3 rfl rfl 3 (by decide) f195 (fun _ h9 => h9) rfl dX3_adapt_19 ?_
          refine lv_aload_n hx hb dX3_adapt_22 rfl (lv_at hl 2 rfl) ?_
          refine lv_aload_n hx hb dX3_adapt_23 rfl (lv_at hl 3 rfl) ?_
          refine lv_iload_n hx hb dX3_adapt_24 rfl (lv_at hl 1 rfl) ?_
          refine ky_Vi (As := [.ref L0, .int (nI 0)]) (rest := [.int z_5, .ref L0a]) ⟨hx, hb, hml, hown, hts⟩ ⟨hK, hN⟩ hZ hP hD hS hA [0, 1, 2, 3, 4, 5] [] (wc := [(Nn, .inr (3, [.int (nI hp), .int (nI cc), .int zrs, .int zad, .int zpr, .int (nI t), .int zlo, .int zps, .ref Nl, .ref Nf, .ref Nb])), (L0, .inr (2, [.int (nI d0), .int (fk0 1), .int (fk0 2), .int (fv0 3), .int (fv0 4), .int (fv0 5), .ref L0c, .ref L0u, .ref L0p, .ref L0l])), (L0l, .inl (g 2, 3, .inr (.inr (.inr (.inr (rf3 L0a L0b L0d)))))), (L0a, .inr (1, [.int (fa0 0), .int (fa0 1), .int (fa0 2), .int z_5, .int (fa0 4), .int (fa0 5), .int (fa0 6)])), (L0b, .inr (1, [.int (fb0 0), .int (fb0 1), .int (fb0 2), .int z_19, .int (fb0 4), .int (fb0 5), .int (fb0 6)])), (L0d, .inr (1, [.int (fd0 0), .int (fd0 1), .int (fd0 2), .int z_20, .int (fd0 4), .int (fd0 5), .int (fd0 6)]))]) (wr := []) rfl rfl rfl rfl (by decide) (k_X3_aimOf l D g H.size Nn L0 0 hp cc zrs zad zpr t zlo zps Nl Nf Nb d0 fk0 fv0 L0c L0u L0p L0l L0a L0b L0d (lf [fa0 0, fa0 1, fa0 2, z_5, fa0 4, fa0 5, fa0 6]) (lf [fb0 0, fb0 1, fb0 2, z_19, fb0 4, fb0 5, fb0 6]) (lf [fd0 0, fd0 1, fd0 2, z_20, fd0 4, fd0 5, fd0 6]) (show 0 < 3 by omega) (show 1 ≤ cc by omega) (show cc ≤ 3 by omega)) (cwV 2 hts gX3_adapt_X3_aimOf rfl rfl rfl (by decide +kernel) ⟨(Nat.le_of_ble_eq_true rfl), (Nat.le_of_ble_eq_true rfl)⟩) 0 3 rfl rfl rfl rfl hl.1 rfl (Nat.le_of_ble_eq_true rfl) dX3_adapt_25 ⟨(Nat.le_of_ble_eq_true rfl), (Nat.le_of_ble_eq_true rfl)⟩ (fun r_153 u H locs hw hP2 hD2 hS2 => ?_)
          clear hP hD hS
          obtain rfl := hw
          have hPD : PD D A [(Nn, .inr (3, [.int (nI hp), .int (nI cc), .int zrs, .int zad, .int zpr, .int (nI t), .int zlo, .int zps, .ref Nl, .ref Nf, .ref Nb])), (L0, .inr (2, [.int (nI d0), .int (fk0 1), .int (fk0 2), .int (fv0 3), .int (fv0 4), .int (fv0 5), .ref L0c, .ref L0u, .ref L0p, .ref L0l])), (L0l, .inl (g 2, 3, .inr (.inr (.inr (.inr (rf3 L0a L0b L0d)))))), (L0a, .inr (1, [.int (fa0 0), .int (fa0 1), .int (fa0 2), .int z_5, .int (fa0 4), .int (fa0 5), .int (fa0 6)])), (L0b, .inr (1, [.int (fb0 0), .int (fb0 1), .int (fb0 2), .int z_19, .int (fb0 4), .int (fb0 5), .int (fb0 6)])), (L0d, .inr (1, [.int (fd0 0), .int (fd0 1), .int (fd0 2), .int z_20, .int (fd0 4), .int (fd0 5), .int (fd0 6)]))] H := ⟨hP2, hD2⟩
          have hS := hS2; clear hP2 hD2 hS2; have hP := hPD.1; have hD := hPD.2; clear hPD
          refine W.widen (k := 0) (n := 0) (Nat.le_of_ble_eq_true rfl) (Nat.le_of_ble_eq_true rfl) ?_
          refine va_mmin hx hb (hml.trans hl.1.symm) hown mmmin mtmin mi mcmin (Nat.le_of_ble_eq_true rfl) (Nat.le_of_ble_eq_true rfl) (Nat.le_of_ble_eq_true rfl) (Nat.le_of_ble_eq_true rfl) dX3_adapt_28 ?_
          refine lv_topP (P := lz) (lz_min_l (hz_5)) (fun y_154 hy_155 => ?_)
          refine va_put (D := D) (ci := 1) (v := .int y_154) (ty := .int) (C := RX1) (T := TX1) (N := 7) hx hb hts iX1 tyX1 tyX1_ok nmX1 hown hK hP hD hS 3 rfl rfl 3 (by decide) f195 (fun _ h9 => h9) rfl (by decide +kernel) (rfl) (rfl) (Nat.le_of_ble_eq_true rfl) dX3_adapt_31 (fun H locs hP2 hD2 hS2 => ?_)
          clear hP hD hS
          have hPD : PD D A [(Nn, .inr (3, [.int (nI hp), .int (nI cc), .int zrs, .int zad, .int zpr, .int (nI t), .int zlo, .int zps, .ref Nl, .ref Nf, .ref Nb])), (L0, .inr (2, [.int (nI d0), .int (fk0 1), .int (fk0 2), .int (fv0 3), .int (fv0 4), .int (fv0 5), .ref L0c, .ref L0u, .ref L0p, .ref L0l])), (L0l, .inl (g 2, 3, .inr (.inr (.inr (.inr (rf3 L0a L0b L0d)))))), (L0a, .inr (1, [.int (fa0 0), .int (fa0 1), .int (fa0 2), .int y_154, .int (fa0 4), .int (fa0 5), .int (fa0 6)])), (L0b, .inr (1, [.int (fb0 0), .int (fb0 1), .int (fb0 2), .int z_19, .int (fb0 4), .int (fb0 5), .int (fb0 6)])), (L0d, .inr (1, [.int (fd0 0), .int (fd0 1), .int (fd0 2), .int z_20, .int (fd0 4), .int (fd0 5), .int (fd0 6)]))] H := ⟨hP2, hD2⟩
          have hS := hS2; clear hP2 hD2 hS2; have hP := hPD.1; have hD := hPD.2; clear hPD
          refine lv_iinc (v := 1) (lv' := [(2, .int 1), (3, .ref L0a), (0, .ref Nn), (1, .ref L0)]) hx hb dX3_adapt_34 hl (k := 1) rfl (by decide) (by decide) rfl (fun ls hl => ?_)
          refine lv_goto (tgt := 2) hx hb dX3_adapt_37 (by decide) ?_
          exact loop_34_ih 1 y_154 z_19 z_20 (hy_155) (hz_19) (hz_20) (show 1 ≤ cc by omega) (show cc - 1 < Nloop_34 by omega) _ _ _ hP hD hS (lv_sub hl [0, 2, 3] rfl)
        · skip
          have hP := hPq_152; have hD := hDq_152; have hS := hSq_152; have hl := hlq_152; clear hPq_152 hDq_152 hSq_152 hlq_152
          refine va_aldq (C := "HopCredits$Lane") hx hb hK hP 2 2 rfl rfl (by unfold vp_in; decide) dX3_adapt_15 ?_
          refine lv_eqv (v2 := .ref L0b) rfl ?_
          refine lv_astore_n (lv' := [(3, .ref L0b), (2, .int (nI 1)), (0, .ref Nn), (1, .ref L0)]) hx hb dX3_adapt_16 rfl hl (by decide) rfl (fun ls hl => ?_)
          refine lv_aload_n hx hb dX3_adapt_17 rfl (lv_at hl 0 rfl) ?_
          refine lv_aload_n hx hb dX3_adapt_18 rfl (lv_at hl 0 rfl) ?_
          refine va_get (D := D) (ci := 1) (v := .int z_19) (C := RX1) (T := TX1) (N := 7) hx hb hts iX1 hown hK hP 4 rfl rfl 3 (by decide) f195 (fun _ h9 => h9) rfl dX3_adapt_19 ?_
          refine lv_aload_n hx hb dX3_adapt_22 rfl (lv_at hl 2 rfl) ?_
          refine lv_aload_n hx hb dX3_adapt_23 rfl (lv_at hl 3 rfl) ?_
          refine lv_iload_n hx hb dX3_adapt_24 rfl (lv_at hl 1 rfl) ?_
          refine ky_Vi (As := [.ref L0, .int (nI 1)]) (rest := [.int z_19, .ref L0b]) ⟨hx, hb, hml, hown, hts⟩ ⟨hK, hN⟩ hZ hP hD hS hA [0, 1, 2, 3, 4, 5] [] (wc := [(Nn, .inr (3, [.int (nI hp), .int (nI cc), .int zrs, .int zad, .int zpr, .int (nI t), .int zlo, .int zps, .ref Nl, .ref Nf, .ref Nb])), (L0, .inr (2, [.int (nI d0), .int (fk0 1), .int (fk0 2), .int (fv0 3), .int (fv0 4), .int (fv0 5), .ref L0c, .ref L0u, .ref L0p, .ref L0l])), (L0l, .inl (g 2, 3, .inr (.inr (.inr (.inr (rf3 L0a L0b L0d)))))), (L0a, .inr (1, [.int (fa0 0), .int (fa0 1), .int (fa0 2), .int z_5, .int (fa0 4), .int (fa0 5), .int (fa0 6)])), (L0b, .inr (1, [.int (fb0 0), .int (fb0 1), .int (fb0 2), .int z_19, .int (fb0 4), .int (fb0 5), .int (fb0 6)])), (L0d, .inr (1, [.int (fd0 0), .int (fd0 1), .int (fd0 2), .int z_20, .int (fd0 4), .int (fd0 5), .int (fd0 6)]))]) (wr := []) rfl rfl rfl rfl (by decide) (k_X3_aimOf l D g H.size Nn L0 1 hp cc zrs zad zpr t zlo zps Nl Nf Nb d0 fk0 fv0 L0c L0u L0p L0l L0a L0b L0d (lf [fa0 0, fa0 1, fa0 2, z_5, fa0 4, fa0 5, fa0 6]) (lf [fb0 0, fb0 1, fb0 2, z_19, fb0 4, fb0 5, fb0 6]) (lf [fd0 0, fd0 1, fd0 2, z_20, fd0 4, fd0 5, fd0 6]) (show 1 < 3 by omega) (show 1 ≤ cc by omega) (show cc ≤ 3 by omega)) (cwV 2 hts gX3_adapt_X3_aimOf rfl rfl rfl (by decide +kernel) ⟨(Nat.le_of_ble_eq_true rfl), (Nat.le_of_ble_eq_true rfl)⟩) 0 3 rfl rfl rfl rfl hl.1 rfl (Nat.le_of_ble_eq_true rfl) dX3_adapt_25 ⟨(Nat.le_of_ble_eq_true rfl), (Nat.le_of_ble_eq_true rfl)⟩ (fun r_156 u H locs hw hP2 hD2 hS2 => ?_)
          clear hP hD hS
          obtain rfl := hw
          have hPD : PD D A [(Nn, .inr (3, [.int (nI hp), .int (nI cc), .int zrs, .int zad, .int zpr, .int (nI t), .int zlo, .int zps, .ref Nl, .ref Nf, .ref Nb])), (L0, .inr (2, [.int (nI d0), .int (fk0 1), .int (fk0 2), .int (fv0 3), .int (fv0 4), .int (fv0 5), .ref L0c, .ref L0u, .ref L0p, .ref L0l])), (L0l, .inl (g 2, 3, .inr (.inr (.inr (.inr (rf3 L0a L0b L0d)))))), (L0a, .inr (1, [.int (fa0 0), .int (fa0 1), .int (fa0 2), .int z_5, .int (fa0 4), .int (fa0 5), .int (fa0 6)])), (L0b, .inr (1, [.int (fb0 0), .int (fb0 1), .int (fb0 2), .int z_19, .int (fb0 4), .int (fb0 5), .int (fb0 6)])), (L0d, .inr (1, [.int (fd0 0), .int (fd0 1), .int (fd0 2), .int z_20, .int (fd0 4), .int (fd0 5), .int (fd0 6)]))] H := ⟨hP2, hD2⟩
          have hS := hS2; clear hP2 hD2 hS2; have hP := hPD.1; have hD := hPD.2; clear hPD
          refine W.widen (k := 0) (n := 0) (Nat.le_of_ble_eq_true rfl) (Nat.le_of_ble_eq_true rfl) ?_
          refine va_mmin hx hb (hml.trans hl.1.symm) hown mmmin mtmin mi mcmin (Nat.le_of_ble_eq_true rfl) (Nat.le_of_ble_eq_true rfl) (Nat.le_of_ble_eq_true rfl) (Nat.le_of_ble_eq_true rfl) dX3_adapt_28 ?_
          refine lv_topP (P := lz) (lz_min_l (hz_19)) (fun y_157 hy_158 => ?_)
          refine va_put (D := D) (ci := 1) (v := .int y_157) (ty := .int) (C := RX1) (T := TX1) (N := 7) hx hb hts iX1 tyX1 tyX1_ok nmX1 hown hK hP hD hS 4 rfl rfl 3 (by decide) f195 (fun _ h9 => h9) rfl (by decide +kernel) (rfl) (rfl) (Nat.le_of_ble_eq_true rfl) dX3_adapt_31 (fun H locs hP2 hD2 hS2 => ?_)
          clear hP hD hS
          have hPD : PD D A [(Nn, .inr (3, [.int (nI hp), .int (nI cc), .int zrs, .int zad, .int zpr, .int (nI t), .int zlo, .int zps, .ref Nl, .ref Nf, .ref Nb])), (L0, .inr (2, [.int (nI d0), .int (fk0 1), .int (fk0 2), .int (fv0 3), .int (fv0 4), .int (fv0 5), .ref L0c, .ref L0u, .ref L0p, .ref L0l])), (L0l, .inl (g 2, 3, .inr (.inr (.inr (.inr (rf3 L0a L0b L0d)))))), (L0a, .inr (1, [.int (fa0 0), .int (fa0 1), .int (fa0 2), .int z_5, .int (fa0 4), .int (fa0 5), .int (fa0 6)])), (L0b, .inr (1, [.int (fb0 0), .int (fb0 1), .int (fb0 2), .int y_157, .int (fb0 4), .int (fb0 5), .int (fb0 6)])), (L0d, .inr (1, [.int (fd0 0), .int (fd0 1), .int (fd0 2), .int z_20, .int (fd0 4), .int (fd0 5), .int (fd0 6)]))] H := ⟨hP2, hD2⟩
          have hS := hS2; clear hP2 hD2 hS2; have hP := hPD.1; have hD := hPD.2; clear hPD
          refine lv_iinc (v := 2) (lv' := [(2, .int 2), (3, .ref L0b), (0, .ref Nn), (1, .ref L0)]) hx hb dX3_adapt_34 hl (k := 1) rfl (by decide) (by decide) rfl (fun ls hl => ?_)
          refine lv_goto (tgt := 2) hx hb dX3_adapt_37 (by decide) ?_
          exact loop_34_ih 2 z_5 y_157 z_20 (hz_5) (hy_158) (hz_20) (show 2 ≤ cc by omega) (show cc - 2 < Nloop_34 by omega) _ _ _ hP hD hS (lv_sub hl [0, 2, 3] rfl)
        · skip
          have hP := hPq_152; have hD := hDq_152; have hS := hSq_152; have hl := hlq_152; clear hPq_152 hDq_152 hSq_152 hlq_152
          refine va_aldq (C := "HopCredits$Lane") hx hb hK hP 2 2 rfl rfl (by unfold vp_in; decide) dX3_adapt_15 ?_
          refine lv_eqv (v2 := .ref L0d) rfl ?_
          refine lv_astore_n (lv' := [(3, .ref L0d), (2, .int (nI 2)), (0, .ref Nn), (1, .ref L0)]) hx hb dX3_adapt_16 rfl hl (by decide) rfl (fun ls hl => ?_)
          refine lv_aload_n hx hb dX3_adapt_17 rfl (lv_at hl 0 rfl) ?_
          refine lv_aload_n hx hb dX3_adapt_18 rfl (lv_at hl 0 rfl) ?_
          refine va_get (D := D) (ci := 1) (v := .int z_20) (C := RX1) (T := TX1) (N := 7) hx hb hts iX1 hown hK hP 5 rfl rfl 3 (by decide) f195 (fun _ h9 => h9) rfl dX3_adapt_19 ?_
          refine lv_aload_n hx hb dX3_adapt_22 rfl (lv_at hl 2 rfl) ?_
          refine lv_aload_n hx hb dX3_adapt_23 rfl (lv_at hl 3 rfl) ?_
          refine lv_iload_n hx hb dX3_adapt_24 rfl (lv_at hl 1 rfl) ?_
          refine ky_Vi (As := [.ref L0, .int (nI 2)]) (rest := [.int z_20, .ref L0d]) ⟨hx, hb, hml, hown, hts⟩ ⟨hK, hN⟩ hZ hP hD hS hA [0, 1, 2, 3, 4, 5] [] (wc := [(Nn, .inr (3, [.int (nI hp), .int (nI cc), .int zrs, .int zad, .int zpr, .int (nI t), .int zlo, .int zps, .ref Nl, .ref Nf, .ref Nb])), (L0, .inr (2, [.int (nI d0), .int (fk0 1), .int (fk0 2), .int (fv0 3), .int (fv0 4), .int (fv0 5), .ref L0c, .ref L0u, .ref L0p, .ref L0l])), (L0l, .inl (g 2, 3, .inr (.inr (.inr (.inr (rf3 L0a L0b L0d)))))), (L0a, .inr (1, [.int (fa0 0), .int (fa0 1), .int (fa0 2), .int z_5, .int (fa0 4), .int (fa0 5), .int (fa0 6)])), (L0b, .inr (1, [.int (fb0 0), .int (fb0 1), .int (fb0 2), .int z_19, .int (fb0 4), .int (fb0 5), .int (fb0 6)])), (L0d, .inr (1, [.int (fd0 0), .int (fd0 1), .int (fd0 2), .int z_20, .int (fd0 4), .int (fd0 5), .int (fd0 6)]))]) (wr := []) rfl rfl rfl rfl (by decide) (k_X3_aimOf l D g H.size Nn L0 2 hp cc zrs zad zpr t zlo zps Nl Nf Nb d0 fk0 fv0 L0c L0u L0p L0l L0a L0b L0d (lf [fa0 0, fa0 1, fa0 2, z_5, fa0 4, fa0 5, fa0 6]) (lf [fb0 0, fb0 1, fb0 2, z_19, fb0 4, fb0 5, fb0 6]) (lf [fd0 0, fd0 1, fd0 2, z_20, fd0 4, fd0 5, fd0 6]) (show 2 < 3 by omega) (show 1 ≤ cc by omega) (show cc ≤ 3 by omega)) (cwV 2 hts gX3_adapt_X3_aimOf rfl rfl rfl (by decide +kernel) ⟨(Nat.le_of_ble_eq_true rfl), (Nat.le_of_ble_eq_true rfl)⟩) 0 3 rfl rfl rfl rfl hl.1 rfl (Nat.le_of_ble_eq_true rfl) dX3_adapt_25 ⟨(Nat.le_of_ble_eq_true rfl), (Nat.le_of_ble_eq_true rfl)⟩ (fun r_159 u H locs hw hP2 hD2 hS2 => ?_)
          clear hP hD hS
          obtain rfl := hw
          have hPD : PD D A [(Nn, .inr (3, [.int (nI hp), .int (nI cc), .int zrs, .int zad, .int zpr, .int (nI t), .int zlo, .int zps, .ref Nl, .ref Nf, .ref Nb])), (L0, .inr (2, [.int (nI d0), .int (fk0 1), .int (fk0 2), .int (fv0 3), .int (fv0 4), .int (fv0 5), .ref L0c, .ref L0u, .ref L0p, .ref L0l])), (L0l, .inl (g 2, 3, .inr (.inr (.inr (.inr (rf3 L0a L0b L0d)))))), (L0a, .inr (1, [.int (fa0 0), .int (fa0 1), .int (fa0 2), .int z_5, .int (fa0 4), .int (fa0 5), .int (fa0 6)])), (L0b, .inr (1, [.int (fb0 0), .int (fb0 1), .int (fb0 2), .int z_19, .int (fb0 4), .int (fb0 5), .int (fb0 6)])), (L0d, .inr (1, [.int (fd0 0), .int (fd0 1), .int (fd0 2), .int z_20, .int (fd0 4), .int (fd0 5), .int (fd0 6)]))] H := ⟨hP2, hD2⟩
          have hS := hS2; clear hP2 hD2 hS2; have hP := hPD.1; have hD := hPD.2; clear hPD
          refine W.widen (k := 0) (n := 0) (Nat.le_of_ble_eq_true rfl) (Nat.le_of_ble_eq_true rfl) ?_
          refine va_mmin hx hb (hml.trans hl.1.symm) hown mmmin mtmin mi mcmin (Nat.le_of_ble_eq_true rfl) (Nat.le_of_ble_eq_true rfl) (Nat.le_of_ble_eq_true rfl) (Nat.le_of_ble_eq_true rfl) dX3_adapt_28 ?_
          refine lv_topP (P := lz) (lz_min_l (hz_20)) (fun y_160 hy_161 => ?_)
          refine va_put (D := D) (ci := 1) (v := .int y_160) (ty := .int) (C := RX1) (T := TX1) (N := 7) hx hb hts iX1 tyX1 tyX1_ok nmX1 hown hK hP hD hS 5 rfl rfl 3 (by decide) f195 (fun _ h9 => h9) rfl (by decide +kernel) (rfl) (rfl) (Nat.le_of_ble_eq_true rfl) dX3_adapt_31 (fun H locs hP2 hD2 hS2 => ?_)
          clear hP hD hS
          have hPD : PD D A [(Nn, .inr (3, [.int (nI hp), .int (nI cc), .int zrs, .int zad, .int zpr, .int (nI t), .int zlo, .int zps, .ref Nl, .ref Nf, .ref Nb])), (L0, .inr (2, [.int (nI d0), .int (fk0 1), .int (fk0 2), .int (fv0 3), .int (fv0 4), .int (fv0 5), .ref L0c, .ref L0u, .ref L0p, .ref L0l])), (L0l, .inl (g 2, 3, .inr (.inr (.inr (.inr (rf3 L0a L0b L0d)))))), (L0a, .inr (1, [.int (fa0 0), .int (fa0 1), .int (fa0 2), .int z_5, .int (fa0 4), .int (fa0 5), .int (fa0 6)])), (L0b, .inr (1, [.int (fb0 0), .int (fb0 1), .int (fb0 2), .int z_19, .int (fb0 4), .int (fb0 5), .int (fb0 6)])), (L0d, .inr (1, [.int (fd0 0), .int (fd0 1), .int (fd0 2), .int y_160, .int (fd0 4), .int (fd0 5), .int (fd0 6)]))] H := ⟨hP2, hD2⟩
          have hS := hS2; clear hP2 hD2 hS2; have hP := hPD.1; have hD := hPD.2; clear hPD
          refine lv_iinc (v := 3) (lv' := [(2, .int 3), (3, .ref L0d), (0, .ref Nn), (1, .ref L0)]) hx hb dX3_adapt_34 hl (k := 1) rfl (by decide) (by decide) rfl (fun ls hl => ?_)
          refine lv_goto (tgt := 2) hx hb dX3_adapt_37 (by decide) ?_
          exact loop_34_ih 3 z_5 z_19 y_160 (hz_5) (hz_19) (hy_161) (show 3 ≤ cc by omega) (show cc - 3 < Nloop_34 by omega) _ _ _ hP hD hS (lv_sub hl [0, 2, 3] rfl)
  exact loop_34 _ 0 (fa0 3) (fb0 3) (fd0 3) (h3) (h4) (h5) (show 0 ≤ cc by omega) (Nat.lt_succ_self _) _ _ _ hP hD hS hl
