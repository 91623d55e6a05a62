set_option maxHeartbeats 4000000 in
set_option maxRecDepth 100000 in
theorem k_X3_arriveOver_1 (l : Launch) (D : va_G) (g : Nat → ClassId) (sz : Nat) (Nn : Nat) (hp : Nat) (cc : Nat) (zrs : Int32) (zad : Int32) (zpr : Int32) (t : Nat) (zlo : Int32) (zps : Int32) (Nl : Nat) (Nf : Nat) (Nb : Nat) (M0 : Nat) (L0 : Nat) (M2 : Nat) (fbuf : Nat → Int32) (d0 : Nat) (fk0 : Nat → Int32) (fv0 : Nat → Int32) (L0c : Nat) (L0u : Nat) (L0p : Nat) (L0l : Nat) (fc0 : Nat → Int32) (fu0 : Nat → Int32) (fp0 : Nat → Int32) (L0a : Nat) (L0b : Nat) (L0d : Nat) (fa0 : Nat → Int32) (fb0 : Nat → Int32) (fd0 : Nat → Int32) (h0 : 1 ≤ cc) (h1 : cc ≤ 3) (h2 : t < 2 ^ 30) (h3 : d0 < 5) (h4 : okc (fv0 4)) (h5 : okF fc0) : Met l yX3_arriveOver wsX3_arriveOver ({ frames := 2, cells := 0, slots := 0, locals := 42 }) (va_Pc [.ref Nn, .int 1] (pre D g sz [(Nn, .inr (3, [.int (nI hp), .int (nI cc), .int zrs, .int zad, .int zpr, .int (nI t), .int zlo, .int zps, .ref Nl, .ref Nf, .ref Nb])), (Nl, .inl (g 1, 3, .inr (.inr (.inr (.inr (rf3 M0 L0 M2)))))), (Nb, .inl (g 0, 12, .inl fbuf)), (L0, .inr (2, [.int (nI d0), .int (fk0 1), .int (fk0 2), .int (fv0 3), .int (fv0 4), .int (fv0 5), .ref L0c, .ref L0u, .ref L0p, .ref L0l])), (L0c, .inl (g 0, 5, .inl fc0)), (L0u, .inl (g 0, 15, .inl fu0)), (L0p, .inl (g 0, 15, .inl fp0)), (L0l, .inl (g 2, 3, .inr (.inr (.inr (.inr (rf3 L0a L0b L0d)))))), (L0a, .inr (1, [.int (fa0 0), .int (fa0 1), .int (fa0 2), .int (fa0 3), .int (fa0 4), .int (fa0 5), .int (fa0 6)])), (L0b, .inr (1, [.int (fb0 0), .int (fb0 1), .int (fb0 2), .int (fb0 3), .int (fb0 4), .int (fb0 5), .int (fb0 6)])), (L0d, .inr (1, [.int (fd0 0), .int (fd0 1), .int (fd0 2), .int (fd0 3), .int (fd0 4), .int (fd0 5), .int (fd0 6)]))])) (va_Qv (fun (u : va_W) => ∃ (zlox : Int32) (fbufx : Nat → Int32) (fv0x : Nat → Int32) (fc0x : Nat → Int32) (fu0x : Nat → Int32) (fp0x : Nat → Int32) (fa0x : Nat → Int32) (fb0x : Nat → Int32) (fd0x : Nat → Int32), u = [(Nn, .inr (3, [.int (nI hp), .int (nI cc), .int zrs, .int zad, .int zpr, .int (nI t), .int zlox, .int zps, .ref Nl, .ref Nf, .ref Nb])), (Nl, .inl (g 1, 3, .inr (.inr (.inr (.inr (rf3 M0 L0 M2)))))), (Nb, .inl (g 0, 12, .inl fbufx)), (L0, .inr (2, [.int (nI d0), .int (fk0 1), .int (fk0 2), .int (fv0x 3), .int (fv0x 4), .int (fv0x 5), .ref L0c, .ref L0u, .ref L0p, .ref L0l])), (L0c, .inl (g 0, 5, .inl fc0x)), (L0u, .inl (g 0, 15, .inl fu0x)), (L0p, .inl (g 0, 15, .inl fp0x)), (L0l, .inl (g 2, 3, .inr (.inr (.inr (.inr (rf3 L0a L0b L0d)))))), (L0a, .inr (1, [.int (fa0x 0), .int (fa0x 1), .int (fa0x 2), .int (fa0 3), .int (fa0x 4), .int (fa0x 5), .int (fa0x 6)])), (L0b, .inr (1, [.int (fb0x 0), .int (fb0x 1), .int (fb0x 2), .int (fb0 3), .int (fb0x 4), .int (fb0x 5), .int (fb0x 6)])), (L0d, .inr (1, [.int (fd0x 0), .int (fd0x 1), .int (fd0x 2), .int (fd0 3), .int (fd0x 4), .int (fd0x 5), .int (fd0x 6)]))] ∧ (okc (fv0x 4)) ∧ (okF fc0x)) (wd D (va_A [(Nn, .inr (3, [.int (nI hp), .int (nI cc), .int zrs, .int zad, .int zpr, .int (nI t), .int zlo, .int zps, .ref Nl, .ref Nf, .ref Nb])), (Nl, .inl (g 1, 3, .inr (.inr (.inr (.inr (rf3 M0 L0 M2)))))), (Nb, .inl (g 0, 12, .inl fbuf)), (L0, .inr (2, [.int (nI d0), .int (fk0 1), .int (fk0 2), .int (fv0 3), .int (fv0 4), .int (fv0 5), .ref L0c, .ref L0u, .ref L0p, .ref L0l])), (L0c, .inl (g 0, 5, .inl fc0)), (L0u, .inl (g 0, 15, .inl fu0)), (L0p, .inl (g 0, 15, .inl fp0)), (L0l, .inl (g 2, 3, .inr (.inr (.inr (.inr (rf3 L0a L0b L0d)))))), (L0a, .inr (1, [.int (fa0 0), .int (fa0 1), .int (fa0 2), .int (fa0 3), .int (fa0 4), .int (fa0 5), .int (fa0 6)])), (L0b, .inr (1, [.int (fb0 0), .int (fb0 1), .int (fb0 2), .int (fb0 3), .int (fb0 4), .int (fb0 5), .int (fb0 6)])), (L0d, .inr (1, [.int (fd0 0), .int (fd0 1), .int (fd0 2), .int (fd0 3), .int (fd0 4), .int (fd0 5), .int (fd0 6)]))] sz)) (va_A [(Nn, .inr (3, [.int (nI hp), .int (nI cc), .int zrs, .int zad, .int zpr, .int (nI t), .int zlo, .int zps, .ref Nl, .ref Nf, .ref Nb])), (Nl, .inl (g 1, 3, .inr (.inr (.inr (.inr (rf3 M0 L0 M2)))))), (Nb, .inl (g 0, 12, .inl fbuf)), (L0, .inr (2, [.int (nI d0), .int (fk0 1), .int (fk0 2), .int (fv0 3), .int (fv0 4), .int (fv0 5), .ref L0c, .ref L0u, .ref L0p, .ref L0l])), (L0c, .inl (g 0, 5, .inl fc0)), (L0u, .inl (g 0, 15, .inl fu0)), (L0p, .inl (g 0, 15, .inl fp0)), (L0l, .inl (g 2, 3, .inr (.inr (.inr (.inr (rf3 L0a L0b L0d)))))), (L0a, .inr (1, [.int (fa0 0), .int (fa0 1), .int (fa0 2), .int (fa0 3), .int (fa0 4), .int (fa0 5), .int (fa0 6)])), (L0b, .inr (1, [.int (fb0 0), .int (fb0 1), .int (fb0 2), .int (fb0 3), .int (fb0 4), .int (fb0 5), .int (fb0 6)])), (L0d, .inr (1, [.int (fd0 0), .int (fd0 1), .int (fd0 2), .int (fd0 3), .int (fd0 4), .int (fd0 5), .int (fd0 6)]))] sz)) 0 0 (va_A [(Nn, .inr (3, [.int (nI hp), .int (nI cc), .int zrs, .int zad, .int zpr, .int (nI t), .int zlo, .int zps, .ref Nl, .ref Nf, .ref Nb])), (Nl, .inl (g 1, 3, .inr (.inr (.inr (.inr (rf3 M0 L0 M2)))))), (Nb, .inl (g 0, 12, .inl fbuf)), (L0, .inr (2, [.int (nI d0), .int (fk0 1), .int (fk0 2), .int (fv0 3), .int (fv0 4), .int (fv0 5), .ref L0c, .ref L0u, .ref L0p, .ref L0l])), (L0c, .inl (g 0, 5, .inl fc0)), (L0u, .inl (g 0, 15, .inl fu0)), (L0p, .inl (g 0, 15, .inl fp0)), (L0l, .inl (g 2, 3, .inr (.inr (.inr (.inr (rf3 L0a L0b L0d)))))), (L0a, .inr (1, [.int (fa0 0), .int (fa0 1), .int (fa0 2), .int (fa0 3), .int (fa0 4), .int (fa0 5), .int (fa0 6)])), (L0b, .inr (1, [.int (fb0 0), .int (fb0 1), .int (fb0 2), .int (fb0 3), .int (fb0 4), .int (fb0 5), .int (fb0 6)])), (L0d, .inr (1, [.int (fd0 0), .int (fd0 1), .int (fd0 2), .int (fd0 3), .int (fd0 4), .int (fd0 5), .int (fd0 6)]))] sz) := by
  refine Met.ofW (cc := cX3_arriveOver) (maxL := 9) (ret := none) (by decide) rfl ?_
  intro p e s m args below meth c s₁ B hml hv
  obtain ⟨rfl, hsz, hP, ⟨hK, hN⟩, hD0, hZ⟩ := hv
  have hx := B.exec
  have hb := B.bytes
  have hr := B.returns
  have hts := atoms_spec (ws := wsX3_arriveOver) B.pre
  have hown : s.vm.findClass RX3 = some m.cls := findClass_of_methodNamed B.named
  have hlocks := B.notSynchronized
  clear B
  subst hsz
  have hD := hD0.self (sz := s.heap.size)
  clear hD0
  generalize hAe : va_A [(Nn, .inr (3, [.int (nI hp), .int (nI cc), .int zrs, .int zad, .int zpr, .int (nI t), .int zlo, .int zps, .ref Nl, .ref Nf, .ref Nb])), (Nl, .inl (g 1, 3, .inr (.inr (.inr (.inr (rf3 M0 L0 M2)))))), (Nb, .inl (g 0, 12, .inl fbuf)), (L0, .inr (2, [.int (nI d0), .int (fk0 1), .int (fk0 2), .int (fv0 3), .int (fv0 4), .int (fv0 5), .ref L0c, .ref L0u, .ref L0p, .ref L0l])), (L0c, .inl (g 0, 5, .inl fc0)), (L0u, .inl (g 0, 15, .inl fu0)), (L0p, .inl (g 0, 15, .inl fp0)), (L0l, .inl (g 2, 3, .inr (.inr (.inr (.inr (rf3 L0a L0b L0d)))))), (L0a, .inr (1, [.int (fa0 0), .int (fa0 1), .int (fa0 2), .int (fa0 3), .int (fa0 4), .int (fa0 5), .int (fa0 6)])), (L0b, .inr (1, [.int (fb0 0), .int (fb0 1), .int (fb0 2), .int (fb0 3), .int (fb0 4), .int (fb0 5), .int (fb0 6)])), (L0d, .inr (1, [.int (fd0 0), .int (fd0 1), .int (fd0 2), .int (fd0 3), .int (fd0 4), .int (fd0 5), .int (fd0 6)]))] s.heap.size = A at hD hZ ⊢
  have hA : ∀ q : Nat, s.heap.size ≤ q → A q := fun q h => by rw [← hAe]; exact Or.inr h
  have hS : va_S A s.heap s.heap [] := va_S.rf
  have f11 := hts (.fieldLink RX3 11 "HopCredits$Net" "links" "[LHopCredits$Link;") (by decide +kernel)
  have f122 := hts (.fieldLink RX3 122 "HopCredits$Link" "cellAt" "[I") (by decide +kernel)
  have f125 := hts (.fieldLink RX3 125 "HopCredits$Link" "updateAt" "[I") (by decide +kernel)
  have f128 := hts (.fieldLink RX3 128 "HopCredits$Link" "lanes" "[LHopCredits$Lane;") (by decide +kernel)
  have f137 := hts (.fieldLink RX3 137 "HopCredits$Link" "probesAt" "[I") (by decide +kernel)
  have f23 := hts (.fieldLink RX3 23 "HopCredits$Net" "buffers" "[I") (by decide +kernel)
  have f62 := hts (.fieldLink RX3 62 "HopCredits$Net" "circuits" "I") (by decide +kernel)
  have f78 := hts (.fieldLink RX3 78 "HopCredits$Net" "tick" "I") (by decide +kernel)
  have iX2 : ∀ w ∈ u_ws RX2 TX2 10, w ∈ wsX3_arriveOver := by decide +kernel
  have iX3 : ∀ w ∈ u_ws RX3 TX3 11, w ∈ wsX3_arriveOver := by decide +kernel
  have hl := lv_entry ([.ref Nn, .int 1]) (n := 9) (Nat.le_of_ble_eq_true rfl)
  rw [lg_entry_eq]
  generalize (lg_sl ([.ref Nn, .int 1]) ++ List.replicate (9 - (lg_sl ([.ref Nn, .int 1])).length) Slot.unset).toArray = ls at hl ⊢
  have hl : lv_has ls 9 [(0, .ref Nn), (1, .int 1)] := hl
  generalize hQ : MQ below _ _ s _ _ _ = Q
  generalize hH : s.heap = H at hP ⊢
  have hS : va_S A s.heap H [] := by rw [← hH]; exact hS
  clear hH
  refine lv_aload_n hx hb dX3_arriveOver_0 rfl (lv_at hl 0 rfl) ?_
  refine va_get (D := D) (ci := 3) (v := .ref Nl) (C := RX3) (T := TX3) (N := 11) hx hb hts iX3 hown hK hP 0 rfl rfl 8 (by decide) f11 (fun _ h9 => h9) rfl dX3_arriveOver_1 ?_
  refine lv_iload_n hx hb dX3_arriveOver_4 rfl (lv_at hl 1 rfl) ?_
  refine va_aldq (C := "HopCredits$Link") hx hb hK hP 1 1 rfl rfl (by unfold vp_in; decide) dX3_arriveOver_5 ?_
  refine lv_eqv (v2 := .ref L0) rfl ?_
  refine lv_astore_n (lv' := [(2, .ref L0), (0, .ref Nn), (1, .int 1)]) hx hb dX3_arriveOver_6 rfl hl (by decide) rfl (fun ls hl => ?_)
  refine lv_aload_n hx hb dX3_arriveOver_7 rfl (lv_at hl 1 rfl) ?_
  refine va_get (D := D) (ci := 3) (v := .int (nI t)) (C := RX3) (T := TX3) (N := 11) hx hb hts iX3 hown hK hP 0 rfl rfl 5 (by decide) f78 (fun _ h9 => h9) rfl dX3_arriveOver_8 ?_
  refine lv_iconst (v := 5) hx hb dX3_arriveOver_11 (by decide) ?_
  refine lv_irem hx hb dX3_arriveOver_12 (by decide) ?_
  refine lv_eqi (y := (nI ((t) % 5))) (pk_rem (show t < 2 ^ 31 by omega) (show 0 < 5 by omega) (show 5 < 2 ^ 31 by omega)) ?_
  refine lv_istore_n (lv' := [(3, .int (nI ((t) % 5))), (2, .ref L0), (0, .ref Nn), (1, .int 1)]) hx hb dX3_arriveOver_13 rfl hl (by decide) rfl (fun ls hl => ?_)
  refine lv_aload_n hx hb dX3_arriveOver_14 rfl (lv_at hl 1 rfl) ?_
  refine va_get (D := D) (ci := 2) (v := .ref L0c) (C := RX2) (T := TX2) (N := 10) hx hb hts iX2 hown hK hP 3 rfl rfl 6 (by decide) f122 (fun _ h9 => h9) rfl dX3_arriveOver_15 ?_
  refine lv_iload_n hx hb dX3_arriveOver_18 rfl (lv_at hl 0 rfl) ?_
  refine va_iald hx hb hK hP 4 0 rfl rfl (vp_in_nI (show (t) % 5 < 5 by omega) (by decide)) dX3_arriveOver_19 ?_
  refine lv_eqi (y := (fc0 ((t) % 5))) (congrArg fc0 (nI_clamp (show (t) % 5 < 2 ^ 31 by omega))) ?_
  refine lv_topc (h5 ((t) % 5)) (fun y_1 hc_2 => ?_)
  refine lv_istore (lv' := [(4, .int y_1), (3, .int (nI ((t) % 5))), (2, .ref L0), (0, .ref Nn), (1, .int 1)]) hx hb dX3_arriveOver_20 hl (by decide) rfl (fun ls hl => ?_)
  refine lv_iload hx hb dX3_arriveOver_22 (lv_at hl 0 rfl) ?_
  refine lv_iconst (v := (-1)) hx hb dX3_arriveOver_24 (by decide) ?_
  have join_20 : ∀ (F_11 : Nat → Int32) (H : Heap) (locs : List Loc) (ls : Array Slot), va_P D vwCl [(Nn, .inr (3, [.int (nI hp), .int (nI cc), .int zrs, .int zad, .int zpr, .int (nI t), .int zlo, .int zps, .ref Nl, .ref Nf, .ref Nb])), (Nl, .inl (g 1, 3, .inr (.inr (.inr (.inr (rf3 M0 L0 M2)))))), (Nb, .inl (g 0, 12, .inl F_11)), (L0, .inr (2, [.int (nI d0), .int (fk0 1), .int (fk0 2), .int (fv0 3), .int (fv0 4), .int (fv0 5), .ref L0c, .ref L0u, .ref L0p, .ref L0l])), (L0c, .inl (g 0, 5, .inl fc0)), (L0u, .inl (g 0, 15, .inl fu0)), (L0p, .inl (g 0, 15, .inl fp0)), (L0l, .inl (g 2, 3, .inr (.inr (.inr (.inr (rf3 L0a L0b L0d)))))), (L0a, .inr (1, [.int (fa0 0), .int (fa0 1), .int (fa0 2), .int (fa0 3), .int (fa0 4), .int (fa0 5), .int (fa0 6)])), (L0b, .inr (1, [.int (fb0 0), .int (fb0 1), .int (fb0 2), .int (fb0 3), .int (fb0 4), .int (fb0 5), .int (fb0 6)])), (L0d, .inr (1, [.int (fd0 0), .int (fd0 1), .int (fd0 2), .int (fd0 3), .int (fd0 4), .int (fd0 5), .int (fd0 6)]))] H → va_D A [(Nn, .inr (3, [.int (nI hp), .int (nI cc), .int zrs, .int zad, .int zpr, .int (nI t), .int zlo, .int zps, .ref Nl, .ref Nf, .ref Nb])), (Nl, .inl (g 1, 3, .inr (.inr (.inr (.inr (rf3 M0 L0 M2)))))), (Nb, .inl (g 0, 12, .inl F_11)), (L0, .inr (2, [.int (nI d0), .int (fk0 1), .int (fk0 2), .int (fv0 3), .int (fv0 4), .int (fv0 5), .ref L0c, .ref L0u, .ref L0p, .ref L0l])), (L0c, .inl (g 0, 5, .inl fc0)), (L0u, .inl (g 0, 15, .inl fu0)), (L0p, .inl (g 0, 15, .inl fp0)), (L0l, .inl (g 2, 3, .inr (.inr (.inr (.inr (rf3 L0a L0b L0d)))))), (L0a, .inr (1, [.int (fa0 0), .int (fa0 1), .int (fa0 2), .int (fa0 3), .int (fa0 4), .int (fa0 5), .int (fa0 6)])), (L0b, .inr (1, [.int (fb0 0), .int (fb0 1), .int (fb0 2), .int (fb0 3), .int (fb0 4), .int (fb0 5), .int (fb0 6)])), (L0d, .inr (1, [.int (fd0 0), .int (fd0 1), .int (fd0 2), .int (fd0 3), .int (fd0 4), .int (fd0 5), .int (fd0 6)]))] → va_S A s.heap H locs → lv_has ls 9 [(3, .int (nI ((t) % 5))), (2, .ref L0), (0, .ref Nn)] → W p l e (headSpec wsX3_arriveOver ({ frames := 2, cells := 0, slots := 0, locals := 42 })).room s m ([.ref Nn, .int 1] : List Value).toArray below meth c H locs 0 0 Q (F0 m 45 ls []) := by
    clear hP hD hS hl
    intro F_11  H locs ls hP hD hS hl
    refine lv_iconst (v := 0) hx hb dX3_arriveOver_45 (by decide) ?_
    refine lv_istore (lv' := [(5, .int 0), (3, .int (nI ((t) % 5))), (2, .ref L0), (0, .ref Nn)]) hx hb dX3_arriveOver_46 hl (by decide) rfl (fun ls hl => ?_)
    have loop_261 : ∀ (Nloop_261 : Nat) (i_73 : Nat) (z_74 : Int32) (z_75 : Int32) (z_76 : Int32) (z_77 : Int32) (z_78 : Int32) (z_79 : Int32) (z_80 : Int32) (z_81 : Int32) (z_82 : Int32) (z_83 : Int32) (F_84 : Nat → Int32) (z_167 : Int32) (z_168 : Int32) (z_169 : Int32) (z_170 : Int32) (z_171 : Int32) (z_172 : Int32) (z_173 : Int32) (z_174 : Int32) (z_175 : Int32) (z_176 : Int32) (z_177 : Int32) (z_178 : Int32) (hz_82 : okc z_82) (hbi_73 : i_73 ≤ cc) (hmloop_261 : cc - i_73 < Nloop_261) (H : Heap) (locs : List Loc) (ls : Array Slot), va_P D vwCl [(Nn, .inr (3, [.int (nI hp), .int (nI cc), .int zrs, .int zad, .int zpr, .int (nI t), .int z_80, .int zps, .ref Nl, .ref Nf, .ref Nb])), (Nl, .inl (g 1, 3, .inr (.inr (.inr (.inr (rf3 M0 L0 M2)))))), (Nb, .inl (g 0, 12, .inl F_11)), (L0, .inr (2, [.int (nI d0), .int (fk0 1), .int (fk0 2), .int z_81, .int z_82, .int z_83, .ref L0c, .ref L0u, .ref L0p, .ref L0l])), (L0c, .inl (g 0, 5, .inl fc0)), (L0u, .inl (g 0, 15, .inl F_84)), (L0p, .inl (g 0, 15, .inl fp0)), (L0l, .inl (g 2, 3, .inr (.inr (.inr (.inr (rf3 L0a L0b L0d)))))), (L0a, .inr (1, [.int z_74, .int z_75, .int z_76, .int (fa0 3), .int z_77, .int z_78, .int z_79])), (L0b, .inr (1, [.int z_167, .int z_168, .int z_169, .int (fb0 3), .int z_170, .int z_171, .int z_172])), (L0d, .inr (1, [.int z_173, .int z_174, .int z_175, .int (fd0 3), .int z_176, .int z_177, .int z_178]))] H → va_D A [(Nn, .inr (3, [.int (nI hp), .int (nI cc), .int zrs, .int zad, .int zpr, .int (nI t), .int z_80, .int zps, .ref Nl, .ref Nf, .ref Nb])), (Nl, .inl (g 1, 3, .inr (.inr (.inr (.inr (rf3 M0 L0 M2)))))), (Nb, .inl (g 0, 12, .inl F_11)), (L0, .inr (2, [.int (nI d0), .int (fk0 1), .int (fk0 2), .int z_81, .int z_82, .int z_83, .ref L0c, .ref L0u, .ref L0p, .ref L0l])), (L0c, .inl (g 0, 5, .inl fc0)), (L0u, .inl (g 0, 15, .inl F_84)), (L0p, .inl (g 0, 15, .inl fp0)), (L0l, .inl (g 2, 3, .inr (.inr (.inr (.inr (rf3 L0a L0b L0d)))))), (L0a, .inr (1, [.int z_74, .int z_75, .int z_76, .int (fa0 3), .int z_77, .int z_78, .int z_79])), (L0b, .inr (1, [.int z_167, .int z_168, .int z_169, .int (fb0 3), .int z_170, .int z_171, .int z_172])), (L0d, .inr (1, [.int z_173, .int z_174, .int z_175, .int (fd0 3), .int z_176, .int z_177, .int z_178]))] → va_S A s.heap H locs → lv_has ls 9 [(5, .int (nI i_73)), (3, .int (nI ((t) % 5))), (2, .ref L0), (0, .ref Nn)] → W p l e (headSpec wsX3_arriveOver ({ frames := 2, cells := 0, slots := 0, locals := 42 })).room s m ([.ref Nn, .int 1] : List Value).toArray below meth c H locs 0 0 Q (F0 m 48 ls []) := by
      clear hP hD hS hl
      intro Nloop_261
      induction Nloop_261 with
      | zero => intro i_73 z_74 z_75 z_76 z_77 z_78 z_79 z_80 z_81 z_82 z_83 F_84 z_167 z_168 z_169 z_170 z_171 z_172 z_173 z_174 z_175 z_176 z_177 z_178 hz_82 hbi_73 hm9; exact absurd hm9 (Nat.not_lt_zero _)
      | succ Nloop_261 loop_261_ih =>
        intro i_73 z_74 z_75 z_76 z_77 z_78 z_79 z_80 z_81 z_82 z_83 F_84 z_167 z_168 z_169 z_170 z_171 z_172 z_173 z_174 z_175 z_176 z_177 z_178 hz_82 hbi_73 hmloop_261 H locs ls hP hD hS hl
        refine lv_iload hx hb dX3_arriveOver_48 (lv_at hl 0 rfl) ?_
        refine lv_aload_n hx hb dX3_arriveOver_50 rfl (lv_at hl 3 rfl) ?_
        refine va_get (D := D) (ci := 3) (v := .int (nI cc)) (C := RX3) (T := TX3) (N := 11) hx hb hts iX3 hown hK hP 0 rfl rfl 1 (by decide) f62 (fun _ h9 => h9) rfl dX3_arriveOver_51 ?_
        refine lv_icmp_ge (tgt := 130) hx hb dX3_arriveOver_54 (by decide) (fun cb_262 => ?_) (fun cb_262 => ?_)
        · skip
          have cn_263 : cc ≤ i_73 := (nI_leI (show cc < 2 ^ 31 by omega) (show i_73 < 2 ^ 31 by omega)).mp cb_262
          refine lv_aload_n hx hb dX3_arriveOver_130 rfl (lv_at hl 2 rfl) ?_
          refine lv_iload_n hx hb dX3_arriveOver_131 rfl (lv_at hl 1 rfl) ?_
          refine ky_Vv (As := [.int (nI ((t) % 5))]) (rest := []) ⟨hx, hb, hml, hown, hts⟩ ⟨hK, hN⟩ hZ hP hD hS hA [3, 4, 5, 6] [0, 1, 2, 7, 8, 9, 10] (wc := [(L0, .inr (2, [.int (nI d0), .int (fk0 1), .int (fk0 2), .int z_81, .int z_82, .int z_83, .ref L0c, .ref L0u, .ref L0p, .ref L0l])), (L0c, .inl (g 0, 5, .inl fc0)), (L0u, .inl (g 0, 15, .inl F_84)), (L0p, .inl (g 0, 15, .inl fp0))]) (wr := [(Nn, .inr (3, [.int (nI hp), .int (nI cc), .int zrs, .int zad, .int zpr, .int (nI t), .int z_80, .int zps, .ref Nl, .ref Nf, .ref Nb])), (Nl, .inl (g 1, 3, .inr (.inr (.inr (.inr (rf3 M0 L0 M2)))))), (Nb, .inl (g 0, 12, .inl F_11)), (L0l, .inl (g 2, 3, .inr (.inr (.inr (.inr (rf3 L0a L0b L0d)))))), (L0a, .inr (1, [.int z_74, .int z_75, .int z_76, .int (fa0 3), .int z_77, .int z_78, .int z_79])), (L0b, .inr (1, [.int z_167, .int z_168, .int z_169, .int (fb0 3), .int z_170, .int z_171, .int z_172])), (L0d, .inr (1, [.int z_173, .int z_174, .int z_175, .int (fd0 3), .int z_176, .int z_177, .int z_178]))]) rfl rfl rfl rfl (by decide) (k_X2_clearSlot l D g H.size L0 ((t) % 5) (lf [nI d0, fk0 1, fk0 2, z_81, z_82, z_83]) L0c L0u L0p L0l fc0 F_84 fp0 (show ((t) % 5) < 5 by omega) (h5)) (cwV 1 hts gX3_arriveOver_X2_clearSlot rfl rfl rfl (by decide +kernel) ⟨(Nat.le_of_ble_eq_true rfl), (Nat.le_of_ble_eq_true rfl)⟩) 3 2 rfl rfl rfl rfl hl.1 rfl (Nat.le_of_ble_eq_true rfl) dX3_arriveOver_132 ⟨(Nat.le_of_ble_eq_true rfl), (Nat.le_of_ble_eq_true rfl)⟩ (fun u H locs hw hP2 hD2 hS2 => ?_)
          clear hP hD hS
          obtain ⟨fcx_265, fux_266, fpx_267, rfl, hf_268⟩ := hw
          have hPD : PD D A [(Nn, .inr (3, [.int (nI hp), .int (nI cc), .int zrs, .int zad, .int zpr, .int (nI t), .int z_80, .int zps, .ref Nl, .ref Nf, .ref Nb])), (Nl, .inl (g 1, 3, .inr (.inr (.inr (.inr (rf3 M0 L0 M2)))))), (Nb, .inl (g 0, 12, .inl F_11)), (L0l, .inl (g 2, 3, .inr (.inr (.inr (.inr (rf3 L0a L0b L0d)))))), (L0a, .inr (1, [.int z_74, .int z_75, .int z_76, .int (fa0 3), .int z_77, .int z_78, .int z_79])), (L0b, .inr (1, [.int z_167, .int z_168, .int z_169, .int (fb0 3), .int z_170, .int z_171, .int z_172])), (L0d, .inr (1, [.int z_173, .int z_174, .int z_175, .int (fd0 3), .int z_176, .int z_177, .int z_178])), (L0, .inr (2, [.int (nI d0), .int (fk0 1), .int (fk0 2), .int z_81, .int z_82, .int z_83, .ref L0c, .ref L0u, .ref L0p, .ref L0l])), (L0c, .inl (g 0, 5, .inl fcx_265)), (L0u, .inl (g 0, 15, .inl fux_266)), (L0p, .inl (g 0, 15, .inl fpx_267))] H := ⟨hP2, hD2⟩
          have hS := hS2; clear hP2 hD2 hS2; have hP := hPD.1; have hD := hPD.2; clear hPD
          refine W.widen (k := 0) (n := 0) (Nat.le_of_ble_eq_true rfl) (Nat.le_of_ble_eq_true rfl) ?_
          have hPD9 : PD D A [(Nn, .inr (3, [.int (nI hp), .int (nI cc), .int zrs, .int zad, .int zpr, .int (nI t), .int z_80, .int zps, .ref Nl, .ref Nf, .ref Nb])), (Nl, .inl (g 1, 3, .inr (.inr (.inr (.inr (rf3 M0 L0 M2)))))), (Nb, .inl (g 0, 12, .inl F_11)), (L0, .inr (2, [.int (nI d0), .int (fk0 1), .int (fk0 2), .int z_81, .int z_82, .int z_83, .ref L0c, .ref L0u, .ref L0p, .ref L0l])), (L0c, .inl (g 0, 5, .inl fcx_265)), (L0u, .inl (g 0, 15, .inl fux_266)), (L0p, .inl (g 0, 15, .inl fpx_267)), (L0l, .inl (g 2, 3, .inr (.inr (.inr (.inr (rf3 L0a L0b L0d)))))), (L0a, .inr (1, [.int z_74, .int z_75, .int z_76, .int (fa0 3), .int z_77, .int z_78, .int z_79])), (L0b, .inr (1, [.int z_167, .int z_168, .int z_169, .int (fb0 3), .int z_170, .int z_171, .int z_172])), (L0d, .inr (1, [.int z_173, .int z_174, .int z_175, .int (fd0 3), .int z_176, .int z_177, .int z_178]))] H := ⟨hP.sub [0, 1, 2, 7, 8, 9, 10, 3, 4, 5, 6] rfl, hD.sub [0, 1, 2, 7, 8, 9, 10, 3, 4, 5, 6] (by decide) rfl⟩
          have hP9 := hPD9.1; have hD9 := hPD9.2
          subst hQ
          refine W.widen (k := 0) (n := 0) (Nat.le_of_ble_eq_true rfl) (Nat.le_of_ble_eq_true rfl) ?_
          exact W.vret hx hb hr (fun tS htS _ => ⟨⟨_, rfl, ⟨z_80, F_11, (lf [0, 0, 0, z_81, z_82, z_83]), fcx_265, fux_266, fpx_267, (lf [z_74, z_75, z_76, 0, z_77, z_78, z_79]), (lf [z_167, z_168, z_169, 0, z_170, z_171, z_172]), (lf [z_173, z_174, z_175, 0, z_176, z_177, z_178]), rfl, (hz_82), (hf_268)⟩, by rw [htS]; exact hP9, hD9⟩, hS.F htS⟩) hS.2.2 dX3_arriveOver_135
        · skip
          have cn_269 : i_73 < cc := Nat.lt_of_not_le (fun q9 => cb_262 ((nI_leI (show cc < 2 ^ 31 by omega) (show i_73 < 2 ^ 31 by omega)).mpr q9))
          refine lv_aload_n hx hb dX3_arriveOver_57 rfl (lv_at hl 2 rfl) ?_
          refine va_get (D := D) (ci := 2) (v := .ref L0u) (C := RX2) (T := TX2) (N := 10) hx hb hts iX2 hown hK hP 3 rfl rfl 7 (by decide) f125 (fun _ h9 => h9) rfl dX3_arriveOver_58 ?_
          refine lv_iload_n hx hb dX3_arriveOver_61 rfl (lv_at hl 1 rfl) ?_
          refine lv_iconst (v := 3) hx hb dX3_arriveOver_62 (by decide) ?_
          refine lv_imul hx hb dX3_arriveOver_63 ?_
          refine lv_eqi (y := (nI (((t) % 5) * 3))) (pk_mul ((t) % 5) (3)) ?_
          refine lv_iload hx hb dX3_arriveOver_64 (lv_at hl 0 rfl) ?_
          refine lv_iadd hx hb dX3_arriveOver_66 ?_
          refine lv_eqi (y := (nI (((t) % 5) * 3 + i_73))) (nI_add (((t) % 5) * 3) (i_73)) ?_
          refine va_iald hx hb hK hP 5 0 rfl rfl (vp_in_nI (show ((t) % 5) * 3 + i_73 < 15 by omega) (by decide)) dX3_arriveOver_67 ?_
          refine lv_eqi (y := (F_84 (((t) % 5) * 3 + i_73))) (congrArg F_84 (nI_clamp (show ((t) % 5) * 3 + i_73 < 2 ^ 31 by omega))) ?_
          refine lv_topi (fun y_270 _ => ?_)
          refine lv_istore (lv' := [(6, .int y_270), (5, .int (nI i_73)), (3, .int (nI ((t) % 5))), (2, .ref L0), (0, .ref Nn)]) hx hb dX3_arriveOver_68 hl (by decide) rfl (fun ls hl => ?_)
          refine lv_iload hx hb dX3_arriveOver_70 (lv_at hl 0 rfl) ?_
          refine lv_iconst (v := (-1)) hx hb dX3_arriveOver_72 (by decide) ?_
          have join_307 : ∀ (z_280 : Int32) (z_281 : Int32) (z_282 : Int32) (z_283 : Int32) (z_284 : Int32) (z_285 : Int32) (z_286 : Int32) (z_287 : Int32) (z_288 : Int32) (z_289 : Int32) (z_290 : Int32) (z_291 : Int32) (z_292 : Int32) (z_293 : Int32) (z_294 : Int32) (z_295 : Int32) (z_296 : Int32) (z_297 : Int32) (H : Heap) (locs : List Loc) (ls : Array Slot), va_P D vwCl [(Nn, .inr (3, [.int (nI hp), .int (nI cc), .int zrs, .int zad, .int zpr, .int (nI t), .int z_80, .int zps, .ref Nl, .ref Nf, .ref Nb])), (Nl, .inl (g 1, 3, .inr (.inr (.inr (.inr (rf3 M0 L0 M2)))))), (Nb, .inl (g 0, 12, .inl F_11)), (L0, .inr (2, [.int (nI d0), .int (fk0 1), .int (fk0 2), .int z_81, .int z_82, .int z_83, .ref L0c, .ref L0u, .ref L0p, .ref L0l])), (L0c, .inl (g 0, 5, .inl fc0)), (L0u, .inl (g 0, 15, .inl F_84)), (L0p, .inl (g 0, 15, .inl fp0)), (L0l, .inl (g 2, 3, .inr (.inr (.inr (.inr (rf3 L0a L0b L0d)))))), (L0a, .inr (1, [.int z_280, .int z_281, .int z_282, .int (fa0 3), .int z_283, .int z_284, .int z_285])), (L0b, .inr (1, [.int z_286, .int z_287, .int z_288, .int (fb0 3), .int z_289, .int z_290, .int z_291])), (L0d, .inr (1, [.int z_292, .int z_293, .int z_294, .int (fd0 3), .int z_295, .int z_296, .int z_297]))] H → va_D A [(Nn, .inr (3, [.int (nI hp), .int (nI cc), .int zrs, .int zad, .int zpr, .int (nI t), .int z_80, .int zps, .ref Nl, .ref Nf, .ref Nb])), (Nl, .inl (g 1, 3, .inr (.inr (.inr (.inr (rf3 M0 L0 M2)))))), (Nb, .inl (g 0, 12, .inl F_11)), (L0, .inr (2, [.int (nI d0), .int (fk0 1), .int (fk0 2), .int z_81, .int z_82, .int z_83, .ref L0c, .ref L0u, .ref L0p, .ref L0l])), (L0c, .inl (g 0, 5, .inl fc0)), (L0u, .inl (g 0, 15, .inl F_84)), (L0p, .inl (g 0, 15, .inl fp0)), (L0l, .inl (g 2, 3, .inr (.inr (.inr (.inr (rf3 L0a L0b L0d)))))), (L0a, .inr (1, [.int z_280, .int z_281, .int z_282, .int (fa0 3), .int z_283, .int z_284, .int z_285])), (L0b, .inr (1, [.int z_286, .int z_287, .int z_288, .int (fb0 3), .int z_289, .int z_290, .int z_291])), (L0d, .inr (1, [.int z_292, .int z_293, .int z_294, .int (fd0 3), .int z_295, .int z_296, .int z_297]))] → va_S A s.heap H locs → lv_has ls 9 [(5, .int (nI i_73)), (3, .int (nI ((t) % 5))), (2, .ref L0), (0, .ref Nn)] → W p l e (headSpec wsX3_arriveOver ({ frames := 2, cells := 0, slots := 0, locals := 42 })).room s m ([.ref Nn, .int 1] : List Value).toArray below meth c H locs 0 0 Q (F0 m 88 ls []) := by
            clear hP hD hS hl
            intro z_280 z_281 z_282 z_283 z_284 z_285 z_286 z_287 z_288 z_289 z_290 z_291 z_292 z_293 z_294 z_295 z_296 z_297  H locs ls hP hD hS hl
            refine lv_aload_n hx hb dX3_arriveOver_88 rfl (lv_at hl 2 rfl) ?_
            refine va_get (D := D) (ci := 2) (v := .ref L0p) (C := RX2) (T := TX2) (N := 10) hx hb hts iX2 hown hK hP 3 rfl rfl 8 (by decide) f137 (fun _ h9 => h9) rfl dX3_arriveOver_89 ?_
            refine lv_iload_n hx hb dX3_arriveOver_92 rfl (lv_at hl 1 rfl) ?_
            refine lv_iconst (v := 3) hx hb dX3_arriveOver_93 (by decide) ?_
            refine lv_imul hx hb dX3_arriveOver_94 ?_
            refine lv_eqi (y := (nI (((t) % 5) * 3))) (pk_mul ((t) % 5) (3)) ?_
            refine lv_iload hx hb dX3_arriveOver_95 (lv_at hl 0 rfl) ?_
            refine lv_iadd hx hb dX3_arriveOver_97 ?_
            refine lv_eqi (y := (nI (((t) % 5) * 3 + i_73))) (nI_add (((t) % 5) * 3) (i_73)) ?_
            refine va_iald hx hb hK hP 6 0 rfl rfl (vp_in_nI (show ((t) % 5) * 3 + i_73 < 15 by omega) (by decide)) dX3_arriveOver_98 ?_
            refine lv_eqi (y := (fp0 (((t) % 5) * 3 + i_73))) (congrArg fp0 (nI_clamp (show ((t) % 5) * 3 + i_73 < 2 ^ 31 by omega))) ?_
            refine lv_topi (fun y_308 _ => ?_)
            refine lv_istore (lv' := [(7, .int y_308), (5, .int (nI i_73)), (3, .int (nI ((t) % 5))), (2, .ref L0), (0, .ref Nn)]) hx hb dX3_arriveOver_99 hl (by decide) rfl (fun ls hl => ?_)
            refine lv_iconst (v := 0) hx hb dX3_arriveOver_101 (by decide) ?_
            refine lv_istore (lv' := [(8, .int 0), (7, .int y_308), (5, .int (nI i_73)), (3, .int (nI ((t) % 5))), (2, .ref L0), (0, .ref Nn)]) hx hb dX3_arriveOver_102 hl (by decide) rfl (fun ls hl => ?_)
            have loop_333 : ∀ (Nloop_333 : Nat) (i_315 : Int32) (z_316 : Int32) (z_317 : Int32) (z_318 : Int32) (z_319 : Int32) (F_320 : Nat → Int32) (hz_318 : okc z_318) (hmloop_333 : (y_308.toInt - i_315.toInt).toNat < Nloop_333) (H : Heap) (locs : List Loc) (ls : Array Slot), va_P D vwCl [(Nn, .inr (3, [.int (nI hp), .int (nI cc), .int zrs, .int zad, .int zpr, .int (nI t), .int z_316, .int zps, .ref Nl, .ref Nf, .ref Nb])), (Nl, .inl (g 1, 3, .inr (.inr (.inr (.inr (rf3 M0 L0 M2)))))), (Nb, .inl (g 0, 12, .inl F_11)), (L0, .inr (2, [.int (nI d0), .int (fk0 1), .int (fk0 2), .int z_317, .int z_318, .int z_319, .ref L0c, .ref L0u, .ref L0p, .ref L0l])), (L0c, .inl (g 0, 5, .inl fc0)), (L0u, .inl (g 0, 15, .inl F_320)), (L0p, .inl (g 0, 15, .inl fp0)), (L0l, .inl (g 2, 3, .inr (.inr (.inr (.inr (rf3 L0a L0b L0d)))))), (L0a, .inr (1, [.int z_280, .int z_281, .int z_282, .int (fa0 3), .int z_283, .int z_284, .int z_285])), (L0b, .inr (1, [.int z_286, .int z_287, .int z_288, .int (fb0 3), .int z_289, .int z_290, .int z_291])), (L0d, .inr (1, [.int z_292, .int z_293, .int z_294, .int (fd0 3), .int z_295, .int z_296, .int z_297]))] H → va_D A [(Nn, .inr (3, [.int (nI hp), .int (nI cc), .int zrs, .int zad, .int zpr, .int (nI t), .int z_316, .int zps, .ref Nl, .ref Nf, .ref Nb])), (Nl, .inl (g 1, 3, .inr (.inr (.inr (.inr (rf3 M0 L0 M2)))))), (Nb, .inl (g 0, 12, .inl F_11)), (L0, .inr (2, [.int (nI d0), .int (fk0 1), .int (fk0 2), .int z_317, .int z_318, .int z_319, .ref L0c, .ref L0u, .ref L0p, .ref L0l])), (L0c, .inl (g 0, 5, .inl fc0)), (L0u, .inl (g 0, 15, .inl F_320)), (L0p, .inl (g 0, 15, .inl fp0)), (L0l, .inl (g 2, 3, .inr (.inr (.inr (.inr (rf3 L0a L0b L0d)))))), (L0a, .inr (1, [.int z_280, .int z_281, .int z_282, .int (fa0 3), .int z_283, .int z_284, .int z_285])), (L0b, .inr (1, [.int z_286, .int z_287, .int z_288, .int (fb0 3), .int z_289, .int z_290, .int z_291])), (L0d, .inr (1, [.int z_292, .int z_293, .int z_294, .int (fd0 3), .int z_295, .int z_296, .int z_297]))] → va_S A s.heap H locs → lv_has ls 9 [(8, .int i_315), (7, .int y_308), (5, .int (nI i_73)), (3, .int (nI ((t) % 5))), (2, .ref L0), (0, .ref Nn)] → W p l e (headSpec wsX3_arriveOver ({ frames := 2, cells := 0, slots := 0, locals := 42 })).room s m ([.ref Nn, .int 1] : List Value).toArray below meth c H locs 0 0 Q (F0 m 104 ls []) := by
              clear hP hD hS hl
              intro Nloop_333
              induction Nloop_333 with
              | zero => intro i_315 z_316 z_317 z_318 z_319 F_320 hz_318 hm9; exact absurd hm9 (Nat.not_lt_zero _)
              | succ Nloop_333 loop_333_ih =>
                intro i_315 z_316 z_317 z_318 z_319 F_320 hz_318 hmloop_333 H locs ls hP hD hS hl
                refine lv_iload hx hb dX3_arriveOver_104 (lv_at hl 0 rfl) ?_
                refine lv_iload hx hb dX3_arriveOver_106 (lv_at hl 1 rfl) ?_
                refine lv_icmp_ge (tgt := 124) hx hb dX3_arriveOver_108 (by decide) (fun cb_334 => ?_) (fun cb_334 => ?_)
                · skip
                  refine lv_iinc (v := (nI (i_73 + 1))) (lv' := [(5, .int (nI (i_73 + 1))), (8, .int i_315), (7, .int y_308), (3, .int (nI ((t) % 5))), (2, .ref L0), (0, .ref Nn)]) hx hb dX3_arriveOver_124 hl (k := 2) rfl (nI_1 (i_73)) (by decide) rfl (fun ls hl => ?_)
                  refine lv_goto (tgt := 48) hx hb dX3_arriveOver_127 (by decide) ?_
                  exact loop_261_ih (i_73 + 1) z_280 z_281 z_282 z_283 z_284 z_285 z_316 z_317 z_318 z_319 F_320 z_286 z_287 z_288 z_289 z_290 z_291 z_292 z_293 z_294 z_295 z_296 z_297 (hz_318) (show (i_73 + 1) ≤ cc by omega) (show cc - (i_73 + 1) < Nloop_261 by omega) _ _ _ hP hD hS (lv_sub hl [0, 3, 4, 5] rfl)
                · skip
                  refine lv_aload_n hx hb dX3_arriveOver_111 rfl (lv_at hl 5 rfl) ?_
                  refine lv_aload_n hx hb dX3_arriveOver_112 rfl (lv_at hl 4 rfl) ?_
                  refine lv_iload hx hb dX3_arriveOver_113 (lv_at hl 2 rfl) ?_
                  refine ky_Vv (As := [.ref L0, .int (nI i_73)]) (rest := []) ⟨hx, hb, hml, hown, hts⟩ ⟨hK, hN⟩ hZ hP hD hS hA [0, 3, 5, 7, 8, 9, 10] [1, 2, 4, 6] (wc := [(Nn, .inr (3, [.int (nI hp), .int (nI cc), .int zrs, .int zad, .int zpr, .int (nI t), .int z_316, .int zps, .ref Nl, .ref Nf, .ref Nb])), (L0, .inr (2, [.int (nI d0), .int (fk0 1), .int (fk0 2), .int z_317, .int z_318, .int z_319, .ref L0c, .ref L0u, .ref L0p, .ref L0l])), (L0u, .inl (g 0, 15, .inl F_320)), (L0l, .inl (g 2, 3, .inr (.inr (.inr (.inr (rf3 L0a L0b L0d)))))), (L0a, .inr (1, [.int z_280, .int z_281, .int z_282, .int (fa0 3), .int z_283, .int z_284, .int z_285])), (L0b, .inr (1, [.int z_286, .int z_287, .int z_288, .int (fb0 3), .int z_289, .int z_290, .int z_291])), (L0d, .inr (1, [.int z_292, .int z_293, .int z_294, .int (fd0 3), .int z_295, .int z_296, .int z_297]))]) (wr := [(Nl, .inl (g 1, 3, .inr (.inr (.inr (.inr (rf3 M0 L0 M2)))))), (Nb, .inl (g 0, 12, .inl F_11)), (L0c, .inl (g 0, 5, .inl fc0)), (L0p, .inl (g 0, 15, .inl fp0))]) rfl rfl rfl rfl (by decide) (k_X3_sendUpdate l D g H.size Nn L0 i_73 hp cc zrs zad zpr t z_316 zps Nl Nf Nb d0 fk0 (lf [0, 0, 0, z_317, z_318, z_319]) L0c L0u L0p L0l F_320 L0a L0b L0d (lf [z_280, z_281, z_282, fa0 3, z_283, z_284, z_285]) (lf [z_286, z_287, z_288, fb0 3, z_289, z_290, z_291]) (lf [z_292, z_293, z_294, fd0 3, z_295, z_296, z_297]) (show i_73 < 3 by omega) (show t < 2 ^ 30 by omega) (show d0 < 5 by omega) (hz_318)) (cwV 2 hts gX3_arriveOver_X3_sendUpdate rfl rfl rfl (by decide +kernel) ⟨(Nat.le_of_ble_eq_true rfl), (Nat.le_of_ble_eq_true rfl)⟩) 0 3 rfl rfl rfl rfl hl.1 rfl (Nat.le_of_ble_eq_true rfl) dX3_arriveOver_115 ⟨(Nat.le_of_ble_eq_true rfl), (Nat.le_of_ble_eq_true rfl)⟩ (fun u H locs hw hP2 hD2 hS2 => ?_)
                  clear hP hD hS
                  obtain ⟨zlox_336, fv0x_337, fu0x_338, rfl, hf_339⟩ := hw
                  have hPD : PD D A [(Nl, .inl (g 1, 3, .inr (.inr (.inr (.inr (rf3 M0 L0 M2)))))), (Nb, .inl (g 0, 12, .inl F_11)), (L0c, .inl (g 0, 5, .inl fc0)), (L0p, .inl (g 0, 15, .inl fp0)), (Nn, .inr (3, [.int (nI hp), .int (nI cc), .int zrs, .int zad, .int zpr, .int (nI t), .int zlox_336, .int zps, .ref Nl, .ref Nf, .ref Nb])), (L0, .inr (2, [.int (nI d0), .int (fk0 1), .int (fk0 2), .int (fv0x_337 3), .int (fv0x_337 4), .int (fv0x_337 5), .ref L0c, .ref L0u, .ref L0p, .ref L0l])), (L0u, .inl (g 0, 15, .inl fu0x_338)), (L0l, .inl (g 2, 3, .inr (.inr (.inr (.inr (rf3 L0a L0b L0d)))))), (L0a, .inr (1, [.int z_280, .int z_281, .int z_282, .int (fa0 3), .int z_283, .int z_284, .int z_285])), (L0b, .inr (1, [.int z_286, .int z_287, .int z_288, .int (fb0 3), .int z_289, .int z_290, .int z_291])), (L0d, .inr (1, [.int z_292, .int z_293, .int z_294, .int (fd0 3), .int z_295, .int z_296, .int z_297]))] H := ⟨hP2, hD2⟩
                  have hS := hS2; clear hP2 hD2 hS2; have hP := hPD.1; have hD := hPD.2; clear hPD
                  refine W.widen (k := 0) (n := 0) (Nat.le_of_ble_eq_true rfl) (Nat.le_of_ble_eq_true rfl) ?_
                  refine lv_iinc (v := (i_315 + 1)) (lv' := [(8, .int (i_315 + 1)), (7, .int y_308), (5, .int (nI i_73)), (3, .int (nI ((t) % 5))), (2, .ref L0), (0, .ref Nn)]) hx hb dX3_arriveOver_118 hl (k := 0) rfl (rfl) (by decide) rfl (fun ls hl => ?_)
                  refine lv_goto (tgt := 104) hx hb dX3_arriveOver_121 (by decide) ?_
                  exact loop_333_ih (i_315 + 1) zlox_336 (fv0x_337 3) (fv0x_337 4) (fv0x_337 5) fu0x_338 (hf_339) (Nat.lt_of_lt_of_le (ms_lt (Int32.not_le.mp cb_334)) (Nat.le_of_lt_succ hmloop_333)) _ _ _ (hP.sub [4, 0, 1, 5, 2, 6, 3, 7, 8, 9, 10] rfl) (hD.sub [4, 0, 1, 5, 2, 6, 3, 7, 8, 9, 10] (by decide) rfl) hS hl
            exact loop_333 _ 0 z_80 z_81 z_82 z_83 F_84 (hz_82) (Nat.lt_succ_self _) _ _ _ hP hD hS hl
          refine lv_icmp_eq (tgt := 88) hx hb dX3_arriveOver_73 (by decide) (fun cb_340 => ?_) (fun cb_340 => ?_)
          · skip
            have hPq_341 := hP; have hDq_341 := hD; have hSq_341 := hS; have hlq_341 := hl; clear hP hD hS hl
            subst cb_340
            have hP := hPq_341; have hD := hDq_341; have hS := hSq_341; have hl := hlq_341; clear hPq_341 hDq_341 hSq_341 hlq_341
            exact join_307 z_74 z_75 z_76 z_77 z_78 z_79 z_167 z_168 z_169 z_170 z_171 z_172 z_173 z_174 z_175 z_176 z_177 z_178 _ _ _ hP hD hS (lv_sub hl [1, 2, 3, 4] rfl)
          · skip
            refine lv_aload_n hx hb dX3_arriveOver_76 rfl (lv_at hl 3 rfl) ?_
            refine va_get (D := D) (ci := 2) (v := .ref L0l) (C := RX2) (T := TX2) (N := 10) hx hb hts iX2 hown hK hP 3 rfl rfl 9 (by decide) f128 (fun _ h9 => h9) rfl dX3_arriveOver_77 ?_
            refine lv_iload hx hb dX3_arriveOver_80 (lv_at hl 1 rfl) ?_
            have hPq_342 := hP; have hDq_342 := hD; have hSq_342 := hS; have hlq_342 := hl; clear hP hD hS hl
            rcases (show i_73 = 0 ∨ i_73 = 1 ∨ i_73 = 2 by omega) with rfl | rfl | rfl
            · skip
              have hP := hPq_342; have hD := hDq_342; have hS := hSq_342; have hl := hlq_342; clear hPq_342 hDq_342 hSq_342 hlq_342
              refine va_aldq (C := "HopCredits$Lane") hx hb hK hP 7 2 rfl rfl (by unfold vp_in; decide) dX3_arriveOver_82 ?_
              refine lv_eqv (v2 := .ref L0a) rfl ?_
              refine lv_iload hx hb dX3_arriveOver_83 (lv_at hl 0 rfl) ?_
              refine ky_Vv (As := [.int y_270]) (rest := []) ⟨hx, hb, hml, hown, hts⟩ ⟨hK, hN⟩ hZ hP hD hS hA [8] [0, 1, 2, 3, 4, 5, 6, 7, 9, 10] (wc := [(L0a, .inr (1, [.int z_74, .int z_75, .int z_76, .int (fa0 3), .int z_77, .int z_78, .int z_79]))]) (wr := [(Nn, .inr (3, [.int (nI hp), .int (nI cc), .int zrs, .int zad, .int zpr, .int (nI t), .int z_80, .int zps, .ref Nl, .ref Nf, .ref Nb])), (Nl, .inl (g 1, 3, .inr (.inr (.inr (.inr (rf3 M0 L0 M2)))))), (Nb, .inl (g 0, 12, .inl F_11)), (L0, .inr (2, [.int (nI d0), .int (fk0 1), .int (fk0 2), .int z_81, .int z_82, .int z_83, .ref L0c, .ref L0u, .ref L0p, .ref L0l])), (L0c, .inl (g 0, 5, .inl fc0)), (L0u, .inl (g 0, 15, .inl F_84)), (L0p, .inl (g 0, 15, .inl fp0)), (L0l, .inl (g 2, 3, .inr (.inr (.inr (.inr (rf3 L0a L0b L0d)))))), (L0b, .inr (1, [.int z_167, .int z_168, .int z_169, .int (fb0 3), .int z_170, .int z_171, .int z_172])), (L0d, .inr (1, [.int z_173, .int z_174, .int z_175, .int (fd0 3), .int z_176, .int z_177, .int z_178]))]) rfl rfl rfl rfl (by decide) (k_X1_hear l D g H.size L0a y_270 (lf [z_74, z_75, z_76, fa0 3, z_77, z_78, z_79])) (cwV 1 hts gX3_arriveOver_X1_hear rfl rfl rfl (by decide +kernel) ⟨(Nat.le_of_ble_eq_true rfl), (Nat.le_of_ble_eq_true rfl)⟩) 8 1 rfl rfl rfl rfl hl.1 rfl (Nat.le_of_ble_eq_true rfl) dX3_arriveOver_85 ⟨(Nat.le_of_ble_eq_true rfl), (Nat.le_of_ble_eq_true rfl)⟩ (fun u H locs hw hP2 hD2 hS2 => ?_)
              clear hP hD hS
              obtain ⟨fwx_344, rfl⟩ := hw
              have hPD : PD D A [(Nn, .inr (3, [.int (nI hp), .int (nI cc), .int zrs, .int zad, .int zpr, .int (nI t), .int z_80, .int zps, .ref Nl, .ref Nf, .ref Nb])), (Nl, .inl (g 1, 3, .inr (.inr (.inr (.inr (rf3 M0 L0 M2)))))), (Nb, .inl (g 0, 12, .inl F_11)), (L0, .inr (2, [.int (nI d0), .int (fk0 1), .int (fk0 2), .int z_81, .int z_82, .int z_83, .ref L0c, .ref L0u, .ref L0p, .ref L0l])), (L0c, .inl (g 0, 5, .inl fc0)), (L0u, .inl (g 0, 15, .inl F_84)), (L0p, .inl (g 0, 15, .inl fp0)), (L0l, .inl (g 2, 3, .inr (.inr (.inr (.inr (rf3 L0a L0b L0d)))))), (L0b, .inr (1, [.int z_167, .int z_168, .int z_169, .int (fb0 3), .int z_170, .int z_171, .int z_172])), (L0d, .inr (1, [.int z_173, .int z_174, .int z_175, .int (fd0 3), .int z_176, .int z_177, .int z_178])), (L0a, .inr (1, [.int (fwx_344 0), .int (fwx_344 1), .int (fwx_344 2), .int (fa0 3), .int (fwx_344 4), .int (fwx_344 5), .int (fwx_344 6)]))] H := ⟨hP2, hD2⟩
              have hS := hS2; clear hP2 hD2 hS2; have hP := hPD.1; have hD := hPD.2; clear hPD
              refine W.widen (k := 0) (n := 0) (Nat.le_of_ble_eq_true rfl) (Nat.le_of_ble_eq_true rfl) ?_
              exact join_307 (fwx_344 0) (fwx_344 1) (fwx_344 2) (fwx_344 4) (fwx_344 5) (fwx_344 6) z_167 z_168 z_169 z_170 z_171 z_172 z_173 z_174 z_175 z_176 z_177 z_178 _ _ _ (hP.sub [0, 1, 2, 3, 4, 5, 6, 7, 10, 8, 9] rfl) (hD.sub [0, 1, 2, 3, 4, 5, 6, 7, 10, 8, 9] (by decide) rfl) hS (lv_sub hl [1, 2, 3, 4] rfl)
            · skip
              have hP := hPq_342; have hD := hDq_342; have hS := hSq_342; have hl := hlq_342; clear hPq_342 hDq_342 hSq_342 hlq_342
              refine va_aldq (C := "HopCredits$Lane") hx hb hK hP 7 2 rfl rfl (by unfold vp_in; decide) dX3_arriveOver_82 ?_
              refine lv_eqv (v2 := .ref L0b) rfl ?_
              refine lv_iload hx hb dX3_arriveOver_83 (lv_at hl 0 rfl) ?_
              refine ky_Vv (As := [.int y_270]) (rest := []) ⟨hx, hb, hml, hown, hts⟩ ⟨hK, hN⟩ hZ hP hD hS hA [9] [0, 1, 2, 3, 4, 5, 6, 7, 8, 10] (wc := [(L0b, .inr (1, [.int z_167, .int z_168, .int z_169, .int (fb0 3), .int z_170, .int z_171, .int z_172]))]) (wr := [(Nn, .inr (3, [.int (nI hp), .int (nI cc), .int zrs, .int zad, .int zpr, .int (nI t), .int z_80, .int zps, .ref Nl, .ref Nf, .ref Nb])), (Nl, .inl (g 1, 3, .inr (.inr (.inr (.inr (rf3 M0 L0 M2)))))), (Nb, .inl (g 0, 12, .inl F_11)), (L0, .inr (2, [.int (nI d0), .int (fk0 1), .int (fk0 2), .int z_81, .int z_82, .int z_83, .ref L0c, .ref L0u, .ref L0p, .ref L0l])), (L0c, .inl (g 0, 5, .inl fc0)), (L0u, .inl (g 0, 15, .inl F_84)), (L0p, .inl (g 0, 15, .inl fp0)), (L0l, .inl (g 2, 3, .inr (.inr (.inr (.inr (rf3 L0a L0b L0d)))))), (L0a, .inr (1, [.int z_74, .int z_75, .int z_76, .int (fa0 3), .int z_77, .int z_78, .int z_79])), (L0d, .inr (1, [.int z_173, .int z_174, .int z_175, .int (fd0 3), .int z_176, .int z_177, .int z_178]))]) rfl rfl rfl rfl (by decide) (k_X1_hear l D g H.size L0b y_270 (lf [z_167, z_168, z_169, fb0 3, z_170, z_171, z_172])) (cwV 1 hts gX3_arriveOver_X1_hear rfl rfl rfl (by decide +kernel) ⟨(Nat.le_of_ble_eq_true rfl), (Nat.le_of_ble_eq_true rfl)⟩) 9 1 rfl rfl rfl rfl hl.1 rfl (Nat.le_of_ble_eq_true rfl) dX3_arriveOver_85 ⟨(Nat.le_of_ble_eq_true rfl), (Nat.le_of_ble_eq_true rfl)⟩ (fun u H locs hw hP2 hD2 hS2 => ?_)
              clear hP hD hS
              obtain ⟨fwx_346, rfl⟩ := hw
              have hPD : PD D A [(Nn, .inr (3, [.int (nI hp), .int (nI cc), .int zrs, .int zad, .int zpr, .int (nI t), .int z_80, .int zps, .ref Nl, .ref Nf, .ref Nb])), (Nl, .inl (g 1, 3, .inr (.inr (.inr (.inr (rf3 M0 L0 M2)))))), (Nb, .inl (g 0, 12, .inl F_11)), (L0, .inr (2, [.int (nI d0), .int (fk0 1), .int (fk0 2), .int z_81, .int z_82, .int z_83, .ref L0c, .ref L0u, .ref L0p, .ref L0l])), (L0c, .inl (g 0, 5, .inl fc0)), (L0u, .inl (g 0, 15, .inl F_84)), (L0p, .inl (g 0, 15, .inl fp0)), (L0l, .inl (g 2, 3, .inr (.inr (.inr (.inr (rf3 L0a L0b L0d)))))), (L0a, .inr (1, [.int z_74, .int z_75, .int z_76, .int (fa0 3), .int z_77, .int z_78, .int z_79])), (L0d, .inr (1, [.int z_173, .int z_174, .int z_175, .int (fd0 3), .int z_176, .int z_177, .int z_178])), (L0b, .inr (1, [.int (fwx_346 0), .int (fwx_346 1), .int (fwx_346 2), .int (fb0 3), .int (fwx_346 4), .int (fwx_346 5), .int (fwx_346 6)]))] H := ⟨hP2, hD2⟩
              have hS := hS2; clear hP2 hD2 hS2; have hP := hPD.1; have hD := hPD.2; clear hPD
              refine W.widen (k := 0) (n := 0) (Nat.le_of_ble_eq_true rfl) (Nat.le_of_ble_eq_true rfl) ?_
              exact join_307 z_74 z_75 z_76 z_77 z_78 z_79 (fwx_346 0) (fwx_346 1) (fwx_346 2) (fwx_346 4) (fwx_346 5) (fwx_346 6) z_173 z_174 z_175 z_176 z_177 z_178 _ _ _ (hP.sub [0, 1, 2, 3, 4, 5, 6, 7, 8, 10, 9] rfl) (hD.sub [0, 1, 2, 3, 4, 5, 6, 7, 8, 10, 9] (by decide) rfl) hS (lv_sub hl [1, 2, 3, 4] rfl)
            · skip
              have hP := hPq_342; have hD := hDq_342; have hS := hSq_342; have hl := hlq_342; clear hPq_342 hDq_342 hSq_342 hlq_342
              refine va_aldq (C := "HopCredits$Lane") hx hb hK hP 7 2 rfl rfl (by unfold vp_in; decide) dX3_arriveOver_82 ?_
              refine lv_eqv (v2 := .ref L0d) rfl ?_
              refine lv_iload hx hb dX3_arriveOver_83 (lv_at hl 0 rfl) ?_
              refine ky_Vv (As := [.int y_270]) (rest := []) ⟨hx, hb, hml, hown, hts⟩ ⟨hK, hN⟩ hZ hP hD hS hA [10] [0, 1, 2, 3, 4, 5, 6, 7, 8, 9] (wc := [(L0d, .inr (1, [.int z_173, .int z_174, .int z_175, .int (fd0 3), .int z_176, .int z_177, .int z_178]))]) (wr := [(Nn, .inr (3, [.int (nI hp), .int (nI cc), .int zrs, .int zad, .int zpr, .int (nI t), .int z_80, .int zps, .ref Nl, .ref Nf, .ref Nb])), (Nl, .inl (g 1, 3, .inr (.inr (.inr (.inr (rf3 M0 L0 M2)))))), (Nb, .inl (g 0, 12, .inl F_11)), (L0, .inr (2, [.int (nI d0), .int (fk0 1), .int (fk0 2), .int z_81, .int z_82, .int z_83, .ref L0c, .ref L0u, .ref L0p, .ref L0l])), (L0c, .inl (g 0, 5, .inl fc0)), (L0u, .inl (g 0, 15, .inl F_84)), (L0p, .inl (g 0, 15, .inl fp0)), (L0l, .inl (g 2, 3, .inr (.inr (.inr (.inr (rf3 L0a L0b L0d)))))), (L0a, .inr (1, [.int z_74, .int z_75, .int z_76, .int (fa0 3), .int z_77, .int z_78, .int z_79])), (L0b, .inr (1, [.int z_167, .int z_168, .int z_169, .int (fb0 3), .int z_170, .int z_171, .int z_172]))]) rfl rfl rfl rfl (by decide) (k_X1_hear l D g H.size L0d y_270 (lf [z_173, z_174, z_175, fd0 3, z_176, z_177, z_178])) (cwV 1 hts gX3_arriveOver_X1_hear rfl rfl rfl (by decide +kernel) ⟨(Nat.le_of_ble_eq_true rfl), (Nat.le_of_ble_eq_true rfl)⟩) 10 1 rfl rfl rfl rfl hl.1 rfl (Nat.le_of_ble_eq_true rfl) dX3_arriveOver_85 ⟨(Nat.le_of_ble_eq_true rfl), (Nat.le_of_ble_eq_true rfl)⟩ (fun u H locs hw hP2 hD2 hS2 => ?_)
              clear hP hD hS
              obtain ⟨fwx_348, rfl⟩ := hw
              have hPD : PD D A [(Nn, .inr (3, [.int (nI hp), .int (nI cc), .int zrs, .int zad, .int zpr, .int (nI t), .int z_80, .int zps, .ref Nl, .ref Nf, .ref Nb])), (Nl, .inl (g 1, 3, .inr (.inr (.inr (.inr (rf3 M0 L0 M2)))))), (Nb, .inl (g 0, 12, .inl F_11)), (L0, .inr (2, [.int (nI d0), .int (fk0 1), .int (fk0 2), .int z_81, .int z_82, .int z_83, .ref L0c, .ref L0u, .ref L0p, .ref L0l])), (L0c, .inl (g 0, 5, .inl fc0)), (L0u, .inl (g 0, 15, .inl F_84)), (L0p, .inl (g 0, 15, .inl fp0)), (L0l, .inl (g 2, 3, .inr (.inr (.inr (.inr (rf3 L0a L0b L0d)))))), (L0a, .inr (1, [.int z_74, .int z_75, .int z_76, .int (fa0 3), .int z_77, .int z_78, .int z_79])), (L0b, .inr (1, [.int z_167, .int z_168, .int z_169, .int (fb0 3), .int z_170, .int z_171, .int z_172])), (L0d, .inr (1, [.int (fwx_348 0), .int (fwx_348 1), .int (fwx_348 2), .int (fd0 3), .int (fwx_348 4), .int (fwx_348 5), .int (fwx_348 6)]))] H := ⟨hP2, hD2⟩
              have hS := hS2; clear hP2 hD2 hS2; have hP := hPD.1; have hD := hPD.2; clear hPD
              refine W.widen (k := 0) (n := 0) (Nat.le_of_ble_eq_true rfl) (Nat.le_of_ble_eq_true rfl) ?_
              exact join_307 z_74 z_75 z_76 z_77 z_78 z_79 z_167 z_168 z_169 z_170 z_171 z_172 (fwx_348 0) (fwx_348 1) (fwx_348 2) (fwx_348 4) (fwx_348 5) (fwx_348 6) _ _ _ hP hD hS (lv_sub hl [1, 2, 3, 4] rfl)
    exact loop_261 _ 0 (fa0 0) (fa0 1) (fa0 2) (fa0 4) (fa0 5) (fa0 6) zlo (fv0 3) (fv0 4) (fv0 5) fu0 (fb0 0) (fb0 1) (fb0 2) (fb0 4) (fb0 5) (fb0 6) (fd0 0) (fd0 1) (fd0 2) (fd0 4) (fd0 5) (fd0 6) (h4) (show 0 ≤ cc by omega) (Nat.lt_succ_self _) _ _ _ hP hD hS hl
  refine lv_icmp_eq (tgt := 45) hx hb dX3_arriveOver_25 (by decide) (fun cb_349 => ?_) (fun cb_349 => ?_)
  · skip
    have hPq_350 := hP; have hDq_350 := hD; have hSq_350 := hS; have hlq_350 := hl; clear hP hD hS hl
    subst cb_349
    have hP := hPq_350; have hD := hDq_350; have hS := hSq_350; have hl := hlq_350; clear hPq_350 hDq_350 hSq_350 hlq_350
    exact join_20 fbuf _ _ _ hP hD hS (lv_sub hl [1, 2, 3] rfl)
  · skip
    have hPq_353 := hP; have hDq_353 := hD; have hSq_353 := hS; have hlq_353 := hl; clear hP hD hS hl
    obtain ⟨j_351, hj_352, rfl⟩ := okc_j (hc_2) cb_349
    have hP := hPq_353; have hD := hDq_353; have hS := hSq_353; have hl := hlq_353; clear hPq_353 hDq_353 hSq_353 hlq_353
    refine lv_aload_n hx hb dX3_arriveOver_28 rfl (lv_at hl 3 rfl) ?_
    refine va_get (D := D) (ci := 3) (v := .ref Nb) (C := RX3) (T := TX3) (N := 11) hx hb hts iX3 hown hK hP 0 rfl rfl 10 (by decide) f23 (fun _ h9 => h9) rfl dX3_arriveOver_29 ?_
    refine lv_iload_n hx hb dX3_arriveOver_32 rfl (lv_at hl 4 rfl) ?_
    refine lv_iconst (v := 1) hx hb dX3_arriveOver_33 (by decide) ?_
    refine lv_iadd hx hb dX3_arriveOver_34 ?_
    refine lv_eqi (y := 2) (by decide) ?_
    refine lv_iconst (v := 3) hx hb dX3_arriveOver_35 (by decide) ?_
    refine lv_imul hx hb dX3_arriveOver_36 ?_
    refine lv_eqi (y := 6) (by decide) ?_
    refine lv_iload hx hb dX3_arriveOver_37 (lv_at hl 0 rfl) ?_
    refine lv_iadd hx hb dX3_arriveOver_39 ?_
    refine lv_eqi (y := (nI (6 + j_351))) (nI_add (6) (j_351)) ?_
    refine lv_dup2_11 hx hb dX3_arriveOver_40 rfl rfl ?_
    refine va_iald hx hb hK hP 2 0 rfl rfl (vp_in_nI (show 6 + j_351 < 12 by omega) (by decide)) dX3_arriveOver_41 ?_
    refine lv_eqi (y := (fbuf (6 + j_351))) (congrArg fbuf (nI_clamp (show 6 + j_351 < 2 ^ 31 by omega))) ?_
    refine lv_topi (fun y_354 _ => ?_)
    refine lv_iconst (v := 1) hx hb dX3_arriveOver_42 (by decide) ?_
    refine lv_iadd hx hb dX3_arriveOver_43 ?_
    refine lv_topi (fun y_355 _ => ?_)
    refine va_iast hx hb hK hP hD hS 2 0 rfl rfl (vp_in_nI (show 6 + j_351 < 12 by omega) (by decide)) dX3_arriveOver_44 (fun H locs hP2 hD2 hS2 => ?_)
    clear hP hD hS
    have hPD : PD D A [(Nn, .inr (3, [.int (nI hp), .int (nI cc), .int zrs, .int zad, .int zpr, .int (nI t), .int zlo, .int zps, .ref Nl, .ref Nf, .ref Nb])), (Nl, .inl (g 1, 3, .inr (.inr (.inr (.inr (rf3 M0 L0 M2)))))), (Nb, .inl (g 0, 12, .inl (upd fbuf (nI (6 + j_351)).toNatClampNeg y_355))), (L0, .inr (2, [.int (nI d0), .int (fk0 1), .int (fk0 2), .int (fv0 3), .int (fv0 4), .int (fv0 5), .ref L0c, .ref L0u, .ref L0p, .ref L0l])), (L0c, .inl (g 0, 5, .inl fc0)), (L0u, .inl (g 0, 15, .inl fu0)), (L0p, .inl (g 0, 15, .inl fp0)), (L0l, .inl (g 2, 3, .inr (.inr (.inr (.inr (rf3 L0a L0b L0d)))))), (L0a, .inr (1, [.int (fa0 0), .int (fa0 1), .int (fa0 2), .int (fa0 3), .int (fa0 4), .int (fa0 5), .int (fa0 6)])), (L0b, .inr (1, [.int (fb0 0), .int (fb0 1), .int (fb0 2), .int (fb0 3), .int (fb0 4), .int (fb0 5), .int (fb0 6)])), (L0d, .inr (1, [.int (fd0 0), .int (fd0 1), .int (fd0 2), .int (fd0 3), .int (fd0 4), .int (fd0 5), .int (fd0 6)]))] H := ⟨hP2, hD2⟩
    have hS := hS2; clear hP2 hD2 hS2; have hP := hPD.1; have hD := hPD.2; clear hPD
    rw [nI_clamp (show 6 + j_351 < 2 ^ 31 by omega)] at hP hD
    have hPD : PD D A [(Nn, .inr (3, [.int (nI hp), .int (nI cc), .int zrs, .int zad, .int zpr, .int (nI t), .int zlo, .int zps, .ref Nl, .ref Nf, .ref Nb])), (Nl, .inl (g 1, 3, .inr (.inr (.inr (.inr (rf3 M0 L0 M2)))))), (Nb, .inl (g 0, 12, .inl (upd fbuf (6 + j_351) y_355))), (L0, .inr (2, [.int (nI d0), .int (fk0 1), .int (fk0 2), .int (fv0 3), .int (fv0 4), .int (fv0 5), .ref L0c, .ref L0u, .ref L0p, .ref L0l])), (L0c, .inl (g 0, 5, .inl fc0)), (L0u, .inl (g 0, 15, .inl fu0)), (L0p, .inl (g 0, 15, .inl fp0)), (L0l, .inl (g 2, 3, .inr (.inr (.inr (.inr (rf3 L0a L0b L0d)))))), (L0a, .inr (1, [.int (fa0 0), .int (fa0 1), .int (fa0 2), .int (fa0 3), .int (fa0 4), .int (fa0 5), .int (fa0 6)])), (L0b, .inr (1, [.int (fb0 0), .int (fb0 1), .int (fb0 2), .int (fb0 3), .int (fb0 4), .int (fb0 5), .int (fb0 6)])), (L0d, .inr (1, [.int (fd0 0), .int (fd0 1), .int (fd0 2), .int (fd0 3), .int (fd0 4), .int (fd0 5), .int (fd0 6)]))] H := ⟨hP, hD⟩
    clear hP hD; have hP := hPD.1; have hD := hPD.2; clear hPD
    generalize upd fbuf (6 + j_351) y_355 = F_356 at hP hD
    exact join_20 F_356 _ _ _ hP hD hS (lv_sub hl [1, 2, 3] rfl)

set_option maxHeartbeats 4000000 in
set_option maxRecDepth 100000 in
theorem k_X3_arriveOver_2 (l : Launch) (D : va_G) (g : Nat → ClassId) (sz : Nat) (Nn : Nat) (hp : Nat) (cc : Nat) (zrs : Int32) (zad : Int32) (zpr : Int32) (t : Nat) (zlo : Int32) (zps : Int32) (Nl : Nat) (Nf : Nat) (Nb : Nat) (M0 : Nat) (M1 : Nat) (L0 : Nat) (fbuf : Nat → Int32) (d0 : Nat) (fk0 : Nat → Int32) (fv0 : Nat → Int32) (L0c : Nat) (L0u : Nat) (L0p : Nat) (L0l : Nat) (fc0 : Nat → Int32) (fu0 : Nat → Int32) (fp0 : Nat → Int32) (L0a : Nat) (L0b : Nat) (L0d : Nat) (fa0 : Nat → Int32) (fb0 : Nat → Int32) (fd0 : Nat → Int32) (h0 : 1 ≤ cc) (h1 : cc ≤ 3) (h2 : t < 2 ^ 30) (h3 : d0 < 5) (h4 : okc (fv0 4)) (h5 : okF fc0) : Met l yX3_arriveOver wsX3_arriveOver ({ frames := 2, cells := 0, slots := 0, locals := 42 }) (va_Pc [.ref Nn, .int 2] (pre D g sz [(Nn, .inr (3, [.int (nI hp), .int (nI cc), .int zrs, .int zad, .int zpr, .int (nI t), .int zlo, .int zps, .ref Nl, .ref Nf, .ref Nb])), (Nl, .inl (g 1, 3, .inr (.inr (.inr (.inr (rf3 M0 M1 L0)))))), (Nb, .inl (g 0, 12, .inl fbuf)), (L0, .inr (2, [.int (nI d0), .int (fk0 1), .int (fk0 2), .int (fv0 3), .int (fv0 4), .int (fv0 5), .ref L0c, .ref L0u, .ref L0p, .ref L0l])), (L0c, .inl (g 0, 5, .inl fc0)), (L0u, .inl (g 0, 15, .inl fu0)), (L0p, .inl (g 0, 15, .inl fp0)), (L0l, .inl (g 2, 3, .inr (.inr (.inr (.inr (rf3 L0a L0b L0d)))))), (L0a, .inr (1, [.int (fa0 0), .int (fa0 1), .int (fa0 2), .int (fa0 3), .int (fa0 4), .int (fa0 5), .int (fa0 6)])), (L0b, .inr (1, [.int (fb0 0), .int (fb0 1), .int (fb0 2), .int (fb0 3), .int (fb0 4), .int (fb0 5), .int (fb0 6)])), (L0d, .inr (1, [.int (fd0 0), .int (fd0 1), .int (fd0 2), .int (fd0 3), .int (fd0 4), .int (fd0 5), .int (fd0 6)]))])) (va_Qv (fun (u : va_W) => ∃ (zlox : Int32) (fbufx : Nat → Int32) (fv0x : Nat → Int32) (fc0x : Nat → Int32) (fu0x : Nat → Int32) (fp0x : Nat → Int32) (fa0x : Nat → Int32) (fb0x : Nat → Int32) (fd0x : Nat → Int32), u = [(Nn, .inr (3, [.int (nI hp), .int (nI cc), .int zrs, .int zad, .int zpr, .int (nI t), .int zlox, .int zps, .ref Nl, .ref Nf, .ref Nb])), (Nl, .inl (g 1, 3, .inr (.inr (.inr (.inr (rf3 M0 M1 L0)))))), (Nb, .inl (g 0, 12, .inl fbufx)), (L0, .inr (2, [.int (nI d0), .int (fk0 1), .int (fk0 2), .int (fv0x 3), .int (fv0x 4), .int (fv0x 5), .ref L0c, .ref L0u, .ref L0p, .ref L0l])), (L0c, .inl (g 0, 5, .inl fc0x)), (L0u, .inl (g 0, 15, .inl fu0x)), (L0p, .inl (g 0, 15, .inl fp0x)), (L0l, .inl (g 2, 3, .inr (.inr (.inr (.inr (rf3 L0a L0b L0d)))))), (L0a, .inr (1, [.int (fa0x 0), .int (fa0x 1), .int (fa0x 2), .int (fa0 3), .int (fa0x 4), .int (fa0x 5), .int (fa0x 6)])), (L0b, .inr (1, [.int (fb0x 0), .int (fb0x 1), .int (fb0x 2), .int (fb0 3), .int (fb0x 4), .int (fb0x 5), .int (fb0x 6)])), (L0d, .inr (1, [.int (fd0x 0), .int (fd0x 1), .int (fd0x 2), .int (fd0 3), .int (fd0x 4), .int (fd0x 5), .int (fd0x 6)]))] ∧ (okc (fv0x 4)) ∧ (okF fc0x)) (wd D (va_A [(Nn, .inr (3, [.int (nI hp), .int (nI cc), .int zrs, .int zad, .int zpr, .int (nI t), .int zlo, .int zps, .ref Nl, .ref Nf, .ref Nb])), (Nl, .inl (g 1, 3, .inr (.inr (.inr (.inr (rf3 M0 M1 L0)))))), (Nb, .inl (g 0, 12, .inl fbuf)), (L0, .inr (2, [.int (nI d0), .int (fk0 1), .int (fk0 2), .int (fv0 3), .int (fv0 4), .int (fv0 5), .ref L0c, .ref L0u, .ref L0p, .ref L0l])), (L0c, .inl (g 0, 5, .inl fc0)), (L0u, .inl (g 0, 15, .inl fu0)), (L0p, .inl (g 0, 15, .inl fp0)), (L0l, .inl (g 2, 3, .inr (.inr (.inr (.inr (rf3 L0a L0b L0d)))))), (L0a, .inr (1, [.int (fa0 0), .int (fa0 1), .int (fa0 2), .int (fa0 3), .int (fa0 4), .int (fa0 5), .int (fa0 6)])), (L0b, .inr (1, [.int (fb0 0), .int (fb0 1), .int (fb0 2), .int (fb0 3), .int (fb0 4), .int (fb0 5), .int (fb0 6)])), (L0d, .inr (1, [.int (fd0 0), .int (fd0 1), .int (fd0 2), .int (fd0 3), .int (fd0 4), .int (fd0 5), .int (fd0 6)]))] sz)) (va_A [(Nn, .inr (3, [.int (nI hp), .int (nI cc), .int zrs, .int zad, .int zpr, .int (nI t), .int zlo, .int zps, .ref Nl, .ref Nf, .ref Nb])), (Nl, .inl (g 1, 3, .inr (.inr (.inr (.inr (rf3 M0 M1 L0)))))), (Nb, .inl (g 0, 12, .inl fbuf)), (L0, .inr (2, [.int (nI d0), .int (fk0 1), .int (fk0 2), .int (fv0 3), .int (fv0 4), .int (fv0 5), .ref L0c, .ref L0u, .ref L0p, .ref L0l])), (L0c, .inl (g 0, 5, .inl fc0)), (L0u, .inl (g 0, 15, .inl fu0)), (L0p, .inl (g 0, 15, .inl fp0)), (L0l, .inl (g 2, 3, .inr (.inr (.inr (.inr (rf3 L0a L0b L0d)))))), (L0a, .inr (1, [.int (fa0 0), .int (fa0 1), .int (fa0 2), .int (fa0 3), .int (fa0 4), .int (fa0 5), .int (fa0 6)])), (L0b, .inr (1, [.int (fb0 0), .int (fb0 1), .int (fb0 2), .int (fb0 3), .int (fb0 4), .int (fb0 5), .int (fb0 6)])), (L0d, .inr (1, [.int (fd0 0), .int (fd0 1), .int (fd0 2), .int (fd0 3), .int (fd0 4), .int (fd0 5), .int (fd0 6)]))] sz)) 0 0 (va_A [(Nn, .inr (3, [.int (nI hp), .int (nI cc), .int zrs, .int zad, .int zpr, .int (nI t), .int zlo, .int zps, .ref Nl, .ref Nf, .ref Nb])), (Nl, .inl (g 1, 3, .inr (.inr (.inr (.inr (rf3 M0 M1 L0)))))), (Nb, .inl (g 0, 12, .inl fbuf)), (L0, .inr (2, [.int (nI d0), .int (fk0 1), .int (fk0 2), .int (fv0 3), .int (fv0 4), .int (fv0 5), .ref L0c, .ref L0u, .ref L0p, .ref L0l])), (L0c, .inl (g 0, 5, .inl fc0)), (L0u, .inl (g 0, 15, .inl fu0)), (L0p, .inl (g 0, 15, .inl fp0)), (L0l, .inl (g 2, 3, .inr (.inr (.inr (.inr (rf3 L0a L0b L0d)))))), (L0a, .inr (1, [.int (fa0 0), .int (fa0 1), .int (fa0 2), .int (fa0 3), .int (fa0 4), .int (fa0 5), .int (fa0 6)])), (L0b, .inr (1, [.int (fb0 0), .int (fb0 1), .int (fb0 2), .int (fb0 3), .int (fb0 4), .int (fb0 5), .int (fb0 6)])), (L0d, .inr (1, [.int (fd0 0), .int (fd0 1), .int (fd0 2), .int (fd0 3), .int (fd0 4), .int (fd0 5), .int (fd0 6)]))] sz) := by
  refine Met.ofW (cc := cX3_arriveOver) (maxL := 9) (ret := none) (by decide) rfl ?_
  intro p e s m args below meth c s₁ B hml hv
  obtain ⟨rfl, hsz, hP, ⟨hK, hN⟩, hD0, hZ⟩ := hv
  have hx := B.exec
  have hb := B.bytes
  have hr := B.returns
  have hts := atoms_spec (ws := wsX3_arriveOver) B.pre
  have hown : s.vm.findClass RX3 = some m.cls := findClass_of_methodNamed B.named
  have hlocks := B.notSynchronized
  clear B
  subst hsz
  have hD := hD0.self (sz := s.heap.size)
  clear hD0
  generalize hAe : va_A [(Nn, .inr (3, [.int (nI hp), .int (nI cc), .int zrs, .int zad, .int zpr, .int (nI t), .int zlo, .int zps, .ref Nl, .ref Nf, .ref Nb])), (Nl, .inl (g 1, 3, .inr (.inr (.inr (.inr (rf3 M0 M1 L0)))))), (Nb, .inl (g 0, 12, .inl fbuf)), (L0, .inr (2, [.int (nI d0), .int (fk0 1), .int (fk0 2), .int (fv0 3), .int (fv0 4), .int (fv0 5), .ref L0c, .ref L0u, .ref L0p, .ref L0l])), (L0c, .inl (g 0, 5, .inl fc0)), (L0u, .inl (g 0, 15, .inl fu0)), (L0p, .inl (g 0, 15, .inl fp0)), (L0l, .inl (g 2, 3, .inr (.inr (.inr (.inr (rf3 L0a L0b L0d)))))), (L0a, .inr (1, [.int (fa0 0), .int (fa0 1), .int (fa0 2), .int (fa0 3), .int (fa0 4), .int (fa0 5), .int (fa0 6)])), (L0b, .inr (1, [.int (fb0 0), .int (fb0 1), .int (fb0 2), .int (fb0 3), .int (fb0 4), .int (fb0 5), .int (fb0 6)])), (L0d, .inr (1, [.int (fd0 0), .int (fd0 1), .int (fd0 2), .int (fd0 3), .int (fd0 4), .int (fd0 5), .int (fd0 6)]))] s.heap.size = A at hD hZ ⊢
  have hA : ∀ q : Nat, s.heap.size ≤ q → A q := fun q h => by rw [← hAe]; exact Or.inr h
  have hS : va_S A s.heap s.heap [] := va_S.rf
  have f11 := hts (.fieldLink RX3 11 "HopCredits$Net" "links" "[LHopCredits$Link;") (by decide +kernel)
  have f122 := hts (.fieldLink RX3 122 "HopCredits$Link" "cellAt" "[I") (by decide +kernel)
  have f125 := hts (.fieldLink RX3 125 "HopCredits$Link" "updateAt" "[I") (by decide +kernel)
  have f128 := hts (.fieldLink RX3 128 "HopCredits$Link" "lanes" "[LHopCredits$Lane;") (by decide +kernel)
  have f137 := hts (.fieldLink RX3 137 "HopCredits$Link" "probesAt" "[I") (by decide +kernel)
  have f23 := hts (.fieldLink RX3 23 "HopCredits$Net" "buffers" "[I") (by decide +kernel)
  have f62 := hts (.fieldLink RX3 62 "HopCredits$Net" "circuits" "I") (by decide +kernel)
  have f78 := hts (.fieldLink RX3 78 "HopCredits$Net" "tick" "I") (by decide +kernel)
  have iX2 : ∀ w ∈ u_ws RX2 TX2 10, w ∈ wsX3_arriveOver := by decide +kernel
  have iX3 : ∀ w ∈ u_ws RX3 TX3 11, w ∈ wsX3_arriveOver := by decide +kernel
  have hl := lv_entry ([.ref Nn, .int 2]) (n := 9) (Nat.le_of_ble_eq_true rfl)
  rw [lg_entry_eq]
  generalize (lg_sl ([.ref Nn, .int 2]) ++ List.replicate (9 - (lg_sl ([.ref Nn, .int 2])).length) Slot.unset).toArray = ls at hl ⊢
  have hl : lv_has ls 9 [(0, .ref Nn), (1, .int 2)] := hl
  generalize hQ : MQ below _ _ s _ _ _ = Q
  generalize hH : s.heap = H at hP ⊢
  have hS : va_S A s.heap H [] := by rw [← hH]; exact hS
  clear hH
  refine lv_aload_n hx hb dX3_arriveOver_0 rfl (lv_at hl 0 rfl) ?_
  refine va_get (D := D) (ci := 3) (v := .ref Nl) (C := RX3) (T := TX3) (N := 11) hx hb hts iX3 hown hK hP 0 rfl rfl 8 (by decide) f11 (fun _ h9 => h9) rfl dX3_arriveOver_1 ?_
  refine lv_iload_n hx hb dX3_arriveOver_4 rfl (lv_at hl 1 rfl) ?_
  refine va_aldq (C := "HopCredits$Link") hx hb hK hP 1 1 rfl rfl (by unfold vp_in; decide) dX3_arriveOver_5 ?_
  refine lv_eqv (v2 := .ref L0) rfl ?_
  refine lv_astore_n (lv' := [(2, .ref L0), (0, .ref Nn), (1, .int 2)]) hx hb dX3_arriveOver_6 rfl hl (by decide) rfl (fun ls hl => ?_)
  refine lv_aload_n hx hb dX3_arriveOver_7 rfl (lv_at hl 1 rfl) ?_
  refine va_get (D := D) (ci := 3) (v := .int (nI t)) (C := RX3) (T := TX3) (N := 11) hx hb hts iX3 hown hK hP 0 rfl rfl 5 (by decide) f78 (fun _ h9 => h9) rfl dX3_arriveOver_8 ?_
  refine lv_iconst (v := 5) hx hb dX3_arriveOver_11 (by decide) ?_
  refine lv_irem hx hb dX3_arriveOver_12 (by decide) ?_
  refine lv_eqi (y := (nI ((t) % 5))) (pk_rem (show t < 2 ^ 31 by omega) (show 0 < 5 by omega) (show 5 < 2 ^ 31 by omega)) ?_
  refine lv_istore_n (lv' := [(3, .int (nI ((t) % 5))), (2, .ref L0), (0, .ref Nn), (1, .int 2)]) hx hb dX3_arriveOver_13 rfl hl (by decide) rfl (fun ls hl => ?_)
  refine lv_aload_n hx hb dX3_arriveOver_14 rfl (lv_at hl 1 rfl) ?_
  refine va_get (D := D) (ci := 2) (v := .ref L0c) (C := RX2) (T := TX2) (N := 10) hx hb hts iX2 hown hK hP 3 rfl rfl 6 (by decide) f122 (fun _ h9 => h9) rfl dX3_arriveOver_15 ?_
  refine lv_iload_n hx hb dX3_arriveOver_18 rfl (lv_at hl 0 rfl) ?_
  refine va_iald hx hb hK hP 4 0 rfl rfl (vp_in_nI (show (t) % 5 < 5 by omega) (by decide)) dX3_arriveOver_19 ?_
  refine lv_eqi (y := (fc0 ((t) % 5))) (congrArg fc0 (nI_clamp (show (t) % 5 < 2 ^ 31 by omega))) ?_
  refine lv_topc (h5 ((t) % 5)) (fun y_1 hc_2 => ?_)
  refine lv_istore (lv' := [(4, .int y_1), (3, .int (nI ((t) % 5))), (2, .ref L0), (0, .ref Nn), (1, .int 2)]) hx hb dX3_arriveOver_20 hl (by decide) rfl (fun ls hl => ?_)
  refine lv_iload hx hb dX3_arriveOver_22 (lv_at hl 0 rfl) ?_
  refine lv_iconst (v := (-1)) hx hb dX3_arriveOver_24 (by decide) ?_
  have join_20 : ∀ (F_11 : Nat → Int32) (H : Heap) (locs : List Loc) (ls : Array Slot), va_P D vwCl [(Nn, .inr (3, [.int (nI hp), .int (nI cc), .int zrs, .int zad, .int zpr, .int (nI t), .int zlo, .int zps, .ref Nl, .ref Nf, .ref Nb])), (Nl, .inl (g 1, 3, .inr (.inr (.inr (.inr (rf3 M0 M1 L0)))))), (Nb, .inl (g 0, 12, .inl F_11)), (L0, .inr (2, [.int (nI d0), .int (fk0 1), .int (fk0 2), .int (fv0 3), .int (fv0 4), .int (fv0 5), .ref L0c, .ref L0u, .ref L0p, .ref L0l])), (L0c, .inl (g 0, 5, .inl fc0)), (L0u, .inl (g 0, 15, .inl fu0)), (L0p, .inl (g 0, 15, .inl fp0)), (L0l, .inl (g 2, 3, .inr (.inr (.inr (.inr (rf3 L0a L0b L0d)))))), (L0a, .inr (1, [.int (fa0 0), .int (fa0 1), .int (fa0 2), .int (fa0 3), .int (fa0 4), .int (fa0 5), .int (fa0 6)])), (L0b, .inr (1, [.int (fb0 0), .int (fb0 1), .int (fb0 2), .int (fb0 3), .int (fb0 4), .int (fb0 5), .int (fb0 6)])), (L0d, .inr (1, [.int (fd0 0), .int (fd0 1), .int (fd0 2), .int (fd0 3), .int (fd0 4), .int (fd0 5), .int (fd0 6)]))] H → va_D A [(Nn, .inr (3, [.int (nI hp), .int (nI cc), .int zrs, .int zad, .int zpr, .int (nI t), .int zlo, .int zps, .ref Nl, .ref Nf, .ref Nb])), (Nl, .inl (g 1, 3, .inr (.inr (.inr (.inr (rf3 M0 M1 L0)))))), (Nb, .inl (g 0, 12, .inl F_11)), (L0, .inr (2, [.int (nI d0), .int (fk0 1), .int (fk0 2), .int (fv0 3), .int (fv0 4), .int (fv0 5), .ref L0c, .ref L0u, .ref L0p, .ref L0l])), (L0c, .inl (g 0, 5, .inl fc0)), (L0u, .inl (g 0, 15, .inl fu0)), (L0p, .inl (g 0, 15, .inl fp0)), (L0l, .inl (g 2, 3, .inr (.inr (.inr (.inr (rf3 L0a L0b L0d)))))), (L0a, .inr (1, [.int (fa0 0), .int (fa0 1), .int (fa0 2), .int (fa0 3), .int (fa0 4), .int (fa0 5), .int (fa0 6)])), (L0b, .inr (1, [.int (fb0 0), .int (fb0 1), .int (fb0 2), .int (fb0 3), .int (fb0 4), .int (fb0 5), .int (fb0 6)])), (L0d, .inr (1, [.int (fd0 0), .int (fd0 1), .int (fd0 2), .int (fd0 3), .int (fd0 4), .int (fd0 5), .int (fd0 6)]))] → va_S A s.heap H locs → lv_has ls 9 [(3, .int (nI ((t) % 5))), (2, .ref L0), (0, .ref Nn)] → W p l e (headSpec wsX3_arriveOver ({ frames := 2, cells := 0, slots := 0, locals := 42 })).room s m ([.ref Nn, .int 2] : List Value).toArray below meth c H locs 0 0 Q (F0 m 45 ls []) := by
    clear hP hD hS hl
    intro F_11  H locs ls hP hD hS hl
    refine lv_iconst (v := 0) hx hb dX3_arriveOver_45 (by decide) ?_
    refine lv_istore (lv' := [(5, .int 0), (3, .int (nI ((t) % 5))), (2, .ref L0), (0, .ref Nn)]) hx hb dX3_arriveOver_46 hl (by decide) rfl (fun ls hl => ?_)
    have loop_261 : ∀ (Nloop_261 : Nat) (i_73 : Nat) (z_74 : Int32) (z_75 : Int32) (z_76 : Int32) (z_77 : Int32) (z_78 : Int32) (z_79 : Int32) (z_80 : Int32) (z_81 : Int32) (z_82 : Int32) (z_83 : Int32) (F_84 : Nat → Int32) (z_167 : Int32) (z_168 : Int32) (z_169 : Int32) (z_170 : Int32) (z_171 : Int32) (z_172 : Int32) (z_173 : Int32) (z_174 : Int32) (z_175 : Int32) (z_176 : Int32) (z_177 : Int32) (z_178 : Int32) (hz_82 : okc z_82) (hbi_73 : i_73 ≤ cc) (hmloop_261 : cc - i_73 < Nloop_261) (H : Heap) (locs : List Loc) (ls : Array Slot), va_P D vwCl [(Nn, .inr (3, [.int (nI hp), .int (nI cc), .int zrs, .int zad, .int zpr, .int (nI t), .int z_80, .int zps, .ref Nl, .ref Nf, .ref Nb])), (Nl, .inl (g 1, 3, .inr (.inr (.inr (.inr (rf3 M0 M1 L0)))))), (Nb, .inl (g 0, 12, .inl F_11)), (L0, .inr (2, [.int (nI d0), .int (fk0 1), .int (fk0 2), .int z_81, .int z_82, .int z_83, .ref L0c, .ref L0u, .ref L0p, .ref L0l])), (L0c, .inl (g 0, 5, .inl fc0)), (L0u, .inl (g 0, 15, .inl F_84)), (L0p, .inl (g 0, 15, .inl fp0)), (L0l, .inl (g 2, 3, .inr (.inr (.inr (.inr (rf3 L0a L0b L0d)))))), (L0a, .inr (1, [.int z_74, .int z_75, .int z_76, .int (fa0 3), .int z_77, .int z_78, .int z_79])), (L0b, .inr (1, [.int z_167, .int z_168, .int z_169, .int (fb0 3), .int z_170, .int z_171, .int z_172])), (L0d, .inr (1, [.int z_173, .int z_174, .int z_175, .int (fd0 3), .int z_176, .int z_177, .int z_178]))] H → va_D A [(Nn, .inr (3, [.int (nI hp), .int (nI cc), .int zrs, .int zad, .int zpr, .int (nI t), .int z_80, .int zps, .ref Nl, .ref Nf, .ref Nb])), (Nl, .inl (g 1, 3, .inr (.inr (.inr (.inr (rf3 M0 M1 L0)))))), (Nb, .inl (g 0, 12, .inl F_11)), (L0, .inr (2, [.int (nI d0), .int (fk0 1), .int (fk0 2), .int z_81, .int z_82, .int z_83, .ref L0c, .ref L0u, .ref L0p, .ref L0l])), (L0c, .inl (g 0, 5, .inl fc0)), (L0u, .inl (g 0, 15, .inl F_84)), (L0p, .inl (g 0, 15, .inl fp0)), (L0l, .inl (g 2, 3, .inr (.inr (.inr (.inr (rf3 L0a L0b L0d)))))), (L0a, .inr (1, [.int z_74, .int z_75, .int z_76, .int (fa0 3), .int z_77, .int z_78, .int z_79])), (L0b, .inr (1, [.int z_167, .int z_168, .int z_169, .int (fb0 3), .int z_170, .int z_171, .int z_172])), (L0d, .inr (1, [.int z_173, .int z_174, .int z_175, .int (fd0 3), .int z_176, .int z_177, .int z_178]))] → va_S A s.heap H locs → lv_has ls 9 [(5, .int (nI i_73)), (3, .int (nI ((t) % 5))), (2, .ref L0), (0, .ref Nn)] → W p l e (headSpec wsX3_arriveOver ({ frames := 2, cells := 0, slots := 0, locals := 42 })).room s m ([.ref Nn, .int 2] : List Value).toArray below meth c H locs 0 0 Q (F0 m 48 ls []) := by
      clear hP hD hS hl
      intro Nloop_261
      induction Nloop_261 with
      | zero => intro i_73 z_74 z_75 z_76 z_77 z_78 z_79 z_80 z_81 z_82 z_83 F_84 z_167 z_168 z_169 z_170 z_171 z_172 z_173 z_174 z_175 z_176 z_177 z_178 hz_82 hbi_73 hm9; exact absurd hm9 (Nat.not_lt_zero _)
      | succ Nloop_261 loop_261_ih =>
        intro i_73 z_74 z_75 z_76 z_77 z_78 z_79 z_80 z_81 z_82 z_83 F_84 z_167 z_168 z_169 z_170 z_171 z_172 z_173 z_174 z_175 z_176 z_177 z_178 hz_82 hbi_73 hmloop_261 H locs ls hP hD hS hl
        refine lv_iload hx hb dX3_arriveOver_48 (lv_at hl 0 rfl) ?_
        refine lv_aload_n hx hb dX3_arriveOver_50 rfl (lv_at hl 3 rfl) ?_
        refine va_get (D := D) (ci := 3) (v := .int (nI cc)) (C := RX3) (T := TX3) (N := 11) hx hb hts iX3 hown hK hP 0 rfl rfl 1 (by decide) f62 (fun _ h9 => h9) rfl dX3_arriveOver_51 ?_
        refine lv_icmp_ge (tgt := 130) hx hb dX3_arriveOver_54 (by decide) (fun cb_262 => ?_) (fun cb_262 => ?_)
        · skip
          have cn_263 : cc ≤ i_73 := (nI_leI (show cc < 2 ^ 31 by omega) (show i_73 < 2 ^ 31 by omega)).mp cb_262
          refine lv_aload_n hx hb dX3_arriveOver_130 rfl (lv_at hl 2 rfl) ?_
          refine lv_iload_n hx hb dX3_arriveOver_131 rfl (lv_at hl 1 rfl) ?_
          refine ky_Vv (As := [.int (nI ((t) % 5))]) (rest := []) ⟨hx, hb, hml, hown, hts⟩ ⟨hK, hN⟩ hZ hP hD hS hA [3, 4, 5, 6] [0, 1, 2, 7, 8, 9, 10] (wc := [(L0, .inr (2, [.int (nI d0), .int (fk0 1), .int (fk0 2), .int z_81, .int z_82, .int z_83, .ref L0c, .ref L0u, .ref L0p, .ref L0l])), (L0c, .inl (g 0, 5, .inl fc0)), (L0u, .inl (g 0, 15, .inl F_84)), (L0p, .inl (g 0, 15, .inl fp0))]) (wr := [(Nn, .inr (3, [.int (nI hp), .int (nI cc), .int zrs, .int zad, .int zpr, .int (nI t), .int z_80, .int zps, .ref Nl, .ref Nf, .ref Nb])), (Nl, .inl (g 1, 3, .inr (.inr (.inr (.inr (rf3 M0 M1 L0)))))), (Nb, .inl (g 0, 12, .inl F_11)), (L0l, .inl (g 2, 3, .inr (.inr (.inr (.inr (rf3 L0a L0b L0d)))))), (L0a, .inr (1, [.int z_74, .int z_75, .int z_76, .int (fa0 3), .int z_77, .int z_78, .int z_79])), (L0b, .inr (1, [.int z_167, .int z_168, .int z_169, .int (fb0 3), .int z_170, .int z_171, .int z_172])), (L0d, .inr (1, [.int z_173, .int z_174, .int z_175, .int (fd0 3), .int z_176, .int z_177, .int z_178]))]) rfl rfl rfl rfl (by decide) (k_X2_clearSlot l D g H.size L0 ((t) % 5) (lf [nI d0, fk0 1, fk0 2, z_81, z_82, z_83]) L0c L0u L0p L0l fc0 F_84 fp0 (show ((t) % 5) < 5 by omega) (h5)) (cwV 1 hts gX3_arriveOver_X2_clearSlot rfl rfl rfl (by decide +kernel) ⟨(Nat.le_of_ble_eq_true rfl), (Nat.le_of_ble_eq_true rfl)⟩) 3 2 rfl rfl rfl rfl hl.1 rfl (Nat.le_of_ble_eq_true rfl) dX3_arriveOver_132 ⟨(Nat.le_of_ble_eq_true rfl), (Nat.le_of_ble_eq_true rfl)⟩ (fun u H locs hw hP2 hD2 hS2 => ?_)
          clear hP hD hS
          obtain ⟨fcx_265, fux_266, fpx_267, rfl, hf_268⟩ := hw
          have hPD : PD D A [(Nn, .inr (3, [.int (nI hp), .int (nI cc), .int zrs, .int zad, .int zpr, .int (nI t), .int z_80, .int zps, .ref Nl, .ref Nf, .ref Nb])), (Nl, .inl (g 1, 3, .inr (.inr (.inr (.inr (rf3 M0 M1 L0)))))), (Nb, .inl (g 0, 12, .inl F_11)), (L0l, .inl (g 2, 3, .inr (.inr (.inr (.inr (rf3 L0a L0b L0d)))))), (L0a, .inr (1, [.int z_74, .int z_75, .int z_76, .int (fa0 3), .int z_77, .int z_78, .int z_79])), (L0b, .inr (1, [.int z_167, .int z_168, .int z_169, .int (fb0 3), .int z_170, .int z_171, .int z_172])), (L0d, .inr (1, [.int z_173, .int z_174, .int z_175, .int (fd0 3), .int z_176, .int z_177, .int z_178])), (L0, .inr (2, [.int (nI d0), .int (fk0 1), .int (fk0 2), .int z_81, .int z_82, .int z_83, .ref L0c, .ref L0u, .ref L0p, .ref L0l])), (L0c, .inl (g 0, 5, .inl fcx_265)), (L0u, .inl (g 0, 15, .inl fux_266)), (L0p, .inl (g 0, 15, .inl fpx_267))] H := ⟨hP2, hD2⟩
          have hS := hS2; clear hP2 hD2 hS2; have hP := hPD.1; have hD := hPD.2; clear hPD
          refine W.widen (k := 0) (n := 0) (Nat.le_of_ble_eq_true rfl) (Nat.le_of_ble_eq_true rfl) ?_
          have hPD9 : PD D A [(Nn, .inr (3, [.int (nI hp), .int (nI cc), .int zrs, .int zad, .int zpr, .int (nI t), .int z_80, .int zps, .ref Nl, .ref Nf, .ref Nb])), (Nl, .inl (g 1, 3, .inr (.inr (.inr (.inr (rf3 M0 M1 L0)))))), (Nb, .inl (g 0, 12, .inl F_11)), (L0, .inr (2, [.int (nI d0), .int (fk0 1), .int (fk0 2), .int z_81, .int z_82, .int z_83, .ref L0c, .ref L0u, .ref L0p, .ref L0l])), (L0c, .inl (g 0, 5, .inl fcx_265)), (L0u, .inl (g 0, 15, .inl fux_266)), (L0p, .inl (g 0, 15, .inl fpx_267)), (L0l, .inl (g 2, 3, .inr (.inr (.inr (.inr (rf3 L0a L0b L0d)))))), (L0a, .inr (1, [.int z_74, .int z_75, .int z_76, .int (fa0 3), .int z_77, .int z_78, .int z_79])), (L0b, .inr (1, [.int z_167, .int z_168, .int z_169, .int (fb0 3), .int z_170, .int z_171, .int z_172])), (L0d, .inr (1, [.int z_173, .int z_174, .int z_175, .int (fd0 3), .int z_176, .int z_177, .int z_178]))] H := ⟨hP.sub [0, 1, 2, 7, 8, 9, 10, 3, 4, 5, 6] rfl, hD.sub [0, 1, 2, 7, 8, 9, 10, 3, 4, 5, 6] (by decide) rfl⟩
          have hP9 := hPD9.1; have hD9 := hPD9.2
          subst hQ
          refine W.widen (k := 0) (n := 0) (Nat.le_of_ble_eq_true rfl) (Nat.le_of_ble_eq_true rfl) ?_
          exact W.vret hx hb hr (fun tS htS _ => ⟨⟨_, rfl, ⟨z_80, F_11, (lf [0, 0, 0, z_81, z_82, z_83]), fcx_265, fux_266, fpx_267, (lf [z_74, z_75, z_76, 0, z_77, z_78, z_79]), (lf [z_167, z_168, z_169, 0, z_170, z_171, z_172]), (lf [z_173, z_174, z_175, 0, z_176, z_177, z_178]), rfl, (hz_82), (hf_268)⟩, by rw [htS]; exact hP9, hD9⟩, hS.F htS⟩) hS.2.2 dX3_arriveOver_135
        · skip
          have cn_269 : i_73 < cc := Nat.lt_of_not_le (fun q9 => cb_262 ((nI_leI (show cc < 2 ^ 31 by omega) (show i_73 < 2 ^ 31 by omega)).mpr q9))
          refine lv_aload_n hx hb dX3_arriveOver_57 rfl (lv_at hl 2 rfl) ?_
          refine va_get (D := D) (ci := 2) (v := .ref L0u) (C := RX2) (T := TX2) (N := 10) hx hb hts iX2 hown hK hP 3 rfl rfl 7 (by decide) f125 (fun _ h9 => h9) rfl dX3_arriveOver_58 ?_
          refine lv_iload_n hx hb dX3_arriveOver_61 rfl (lv_at hl 1 rfl) ?_
          refine lv_iconst (v := 3) hx hb dX3_arriveOver_62 (by decide) ?_
          refine lv_imul hx hb dX3_arriveOver_63 ?_
          refine lv_eqi (y := (nI (((t) % 5) * 3))) (pk_mul ((t) % 5) (3)) ?_
          refine lv_iload hx hb dX3_arriveOver_64 (lv_at hl 0 rfl) ?_
          refine lv_iadd hx hb dX3_arriveOver_66 ?_
          refine lv_eqi (y := (nI (((t) % 5) * 3 + i_73))) (nI_add (((t) % 5) * 3) (i_73)) ?_
          refine va_iald hx hb hK hP 5 0 rfl rfl (vp_in_nI (show ((t) % 5) * 3 + i_73 < 15 by omega) (by decide)) dX3_arriveOver_67 ?_
          refine lv_eqi (y := (F_84 (((t) % 5) * 3 + i_73))) (congrArg F_84 (nI_clamp (show ((t) % 5) * 3 + i_73 < 2 ^ 31 by omega))) ?_
          refine lv_topi (fun y_270 _ => ?_)
          refine lv_istore (lv' := [(6, .int y_270), (5, .int (nI i_73)), (3, .int (nI ((t) % 5))), (2, .ref L0), (0, .ref Nn)]) hx hb dX3_arriveOver_68 hl (by decide) rfl (fun ls hl => ?_)
          refine lv_iload hx hb dX3_arriveOver_70 (lv_at hl 0 rfl) ?_
          refine lv_iconst (v := (-1)) hx hb dX3_arriveOver_72 (by decide) ?_
          have join_307 : ∀ (z_280 : Int32) (z_281 : Int32) (z_282 : Int32) (z_283 : Int32) (z_284 : Int32) (z_285 : Int32) (z_286 : Int32) (z_287 : Int32) (z_288 : Int32) (z_289 : Int32) (z_290 : Int32) (z_291 : Int32) (z_292 : Int32) (z_293 : Int32) (z_294 : Int32) (z_295 : Int32) (z_296 : Int32) (z_297 : Int32) (H : Heap) (locs : List Loc) (ls : Array Slot), va_P D vwCl [(Nn, .inr (3, [.int (nI hp), .int (nI cc), .int zrs, .int zad, .int zpr, .int (nI t), .int z_80, .int zps, .ref Nl, .ref Nf, .ref Nb])), (Nl, .inl (g 1, 3, .inr (.inr (.inr (.inr (rf3 M0 M1 L0)))))), (Nb, .inl (g 0, 12, .inl F_11)), (L0, .inr (2, [.int (nI d0), .int (fk0 1), .int (fk0 2), .int z_81, .int z_82, .int z_83, .ref L0c, .ref L0u, .ref L0p, .ref L0l])), (L0c, .inl (g 0, 5, .inl fc0)), (L0u, .inl (g 0, 15, .inl F_84)), (L0p, .inl (g 0, 15, .inl fp0)), (L0l, .inl (g 2, 3, .inr (.inr (.inr (.inr (rf3 L0a L0b L0d)))))), (L0a, .inr (1, [.int z_280, .int z_281, .int z_282, .int (fa0 3), .int z_283, .int z_284, .int z_285])), (L0b, .inr (1, [.int z_286, .int z_287, .int z_288, .int (fb0 3), .int z_289, .int z_290, .int z_291])), (L0d, .inr (1, [.int z_292, .int z_293, .int z_294, .int (fd0 3), .int z_295, .int z_296, .int z_297]))] H → va_D A [(Nn, .inr (3, [.int (nI hp), .int (nI cc), .int zrs, .int zad, .int zpr, .int (nI t), .int z_80, .int zps, .ref Nl, .ref Nf, .ref Nb])), (Nl, .inl (g 1, 3, .inr (.inr (.inr (.inr (rf3 M0 M1 L0)))))), (Nb, .inl (g 0, 12, .inl F_11)), (L0, .inr (2, [.int (nI d0), .int (fk0 1), .int (fk0 2), .int z_81, .int z_82, .int z_83, .ref L0c, .ref L0u, .ref L0p, .ref L0l])), (L0c, .inl (g 0, 5, .inl fc0)), (L0u, .inl (g 0, 15, .inl F_84)), (L0p, .inl (g 0, 15, .inl fp0)), (L0l, .inl (g 2, 3, .inr (.inr (.inr (.inr (rf3 L0a L0b L0d)))))), (L0a, .inr (1, [.int z_280, .int z_281, .int z_282, .int (fa0 3), .int z_283, .int z_284, .int z_285])), (L0b, .inr (1, [.int z_286, .int z_287, .int z_288, .int (fb0 3), .int z_289, .int z_290, .int z_291])), (L0d, .inr (1, [.int z_292, .int z_293, .int z_294, .int (fd0 3), .int z_295, .int z_296, .int z_297]))] → va_S A s.heap H locs → lv_has ls 9 [(5, .int (nI i_73)), (3, .int (nI ((t) % 5))), (2, .ref L0), (0, .ref Nn)] → W p l e (headSpec wsX3_arriveOver ({ frames := 2, cells := 0, slots := 0, locals := 42 })).room s m ([.ref Nn, .int 2] : List Value).toArray below meth c H locs 0 0 Q (F0 m 88 ls []) := by
            clear hP hD hS hl
            intro z_280 z_281 z_282 z_283 z_284 z_285 z_286 z_287 z_288 z_289 z_290 z_291 z_292 z_293 z_294 z_295 z_296 z_297  H locs ls hP hD hS hl
            refine lv_aload_n hx hb dX3_arriveOver_88 rfl (lv_at hl 2 rfl) ?_
            refine va_get (D := D) (ci := 2) (v := .ref L0p) (C := RX2) (T := TX2) (N := 10) hx hb hts iX2 hown hK hP 3 rfl rfl 8 (by decide) f137 (fun _ h9 => h9) rfl dX3_arriveOver_89 ?_
            refine lv_iload_n hx hb dX3_arriveOver_92 rfl (lv_at hl 1 rfl) ?_
            refine lv_iconst (v := 3) hx hb dX3_arriveOver_93 (by decide) ?_
            refine lv_imul hx hb dX3_arriveOver_94 ?_
            refine lv_eqi (y := (nI (((t) % 5) * 3))) (pk_mul ((t) % 5) (3)) ?_
            refine lv_iload hx hb dX3_arriveOver_95 (lv_at hl 0 rfl) ?_
            refine lv_iadd hx hb dX3_arriveOver_97 ?_
            refine lv_eqi (y := (nI (((t) % 5) * 3 + i_73))) (nI_add (((t) % 5) * 3) (i_73)) ?_
            refine va_iald hx hb hK hP 6 0 rfl rfl (vp_in_nI (show ((t) % 5) * 3 + i_73 < 15 by omega) (by decide)) dX3_arriveOver_98 ?_
            refine lv_eqi (y := (fp0 (((t) % 5) * 3 + i_73))) (congrArg fp0 (nI_clamp (show ((t) % 5) * 3 + i_73 < 2 ^ 31 by omega))) ?_
            refine lv_topi (fun y_308 _ => ?_)
            refine lv_istore (lv' := [(7, .int y_308), (5, .int (nI i_73)), (3, .int (nI ((t) % 5))), (2, .ref L0), (0, .ref Nn)]) hx hb dX3_arriveOver_99 hl (by decide) rfl (fun ls hl => ?_)
            refine lv_iconst (v := 0) hx hb dX3_arriveOver_101 (by decide) ?_
            refine lv_istore (lv' := [(8, .int 0), (7, .int y_308), (5, .int (nI i_73)), (3, .int (nI ((t) % 5))), (2, .ref L0), (0, .ref Nn)]) hx hb dX3_arriveOver_102 hl (by decide) rfl (fun ls hl => ?_)
            have loop_333 : ∀ (Nloop_333 : Nat) (i_315 : Int32) (z_316 : Int32) (z_317 : Int32) (z_318 : Int32) (z_319 : Int32) (F_320 : Nat → Int32) (hz_318 : okc z_318) (hmloop_333 : (y_308.toInt - i_315.toInt).toNat < Nloop_333) (H : Heap) (locs : List Loc) (ls : Array Slot), va_P D vwCl [(Nn, .inr (3, [.int (nI hp), .int (nI cc), .int zrs, .int zad, .int zpr, .int (nI t), .int z_316, .int zps, .ref Nl, .ref Nf, .ref Nb])), (Nl, .inl (g 1, 3, .inr (.inr (.inr (.inr (rf3 M0 M1 L0)))))), (Nb, .inl (g 0, 12, .inl F_11)), (L0, .inr (2, [.int (nI d0), .int (fk0 1), .int (fk0 2), .int z_317, .int z_318, .int z_319, .ref L0c, .ref L0u, .ref L0p, .ref L0l])), (L0c, .inl (g 0, 5, .inl fc0)), (L0u, .inl (g 0, 15, .inl F_320)), (L0p, .inl (g 0, 15, .inl fp0)), (L0l, .inl (g 2, 3, .inr (.inr (.inr (.inr (rf3 L0a L0b L0d)))))), (L0a, .inr (1, [.int z_280, .int z_281, .int z_282, .int (fa0 3), .int z_283, .int z_284, .int z_285])), (L0b, .inr (1, [.int z_286, .int z_287, .int z_288, .int (fb0 3), .int z_289, .int z_290, .int z_291])), (L0d, .inr (1, [.int z_292, .int z_293, .int z_294, .int (fd0 3), .int z_295, .int z_296, .int z_297]))] H → va_D A [(Nn, .inr (3, [.int (nI hp), .int (nI cc), .int zrs, .int zad, .int zpr, .int (nI t), .int z_316, .int zps, .ref Nl, .ref Nf, .ref Nb])), (Nl, .inl (g 1, 3, .inr (.inr (.inr (.inr (rf3 M0 M1 L0)))))), (Nb, .inl (g 0, 12, .inl F_11)), (L0, .inr (2, [.int (nI d0), .int (fk0 1), .int (fk0 2), .int z_317, .int z_318, .int z_319, .ref L0c, .ref L0u, .ref L0p, .ref L0l])), (L0c, .inl (g 0, 5, .inl fc0)), (L0u, .inl (g 0, 15, .inl F_320)), (L0p, .inl (g 0, 15, .inl fp0)), (L0l, .inl (g 2, 3, .inr (.inr (.inr (.inr (rf3 L0a L0b L0d)))))), (L0a, .inr (1, [.int z_280, .int z_281, .int z_282, .int (fa0 3), .int z_283, .int z_284, .int z_285])), (L0b, .inr (1, [.int z_286, .int z_287, .int z_288, .int (fb0 3), .int z_289, .int z_290, .int z_291])), (L0d, .inr (1, [.int z_292, .int z_293, .int z_294, .int (fd0 3), .int z_295, .int z_296, .int z_297]))] → va_S A s.heap H locs → lv_has ls 9 [(8, .int i_315), (7, .int y_308), (5, .int (nI i_73)), (3, .int (nI ((t) % 5))), (2, .ref L0), (0, .ref Nn)] → W p l e (headSpec wsX3_arriveOver ({ frames := 2, cells := 0, slots := 0, locals := 42 })).room s m ([.ref Nn, .int 2] : List Value).toArray below meth c H locs 0 0 Q (F0 m 104 ls []) := by
              clear hP hD hS hl
              intro Nloop_333
              induction Nloop_333 with
              | zero => intro i_315 z_316 z_317 z_318 z_319 F_320 hz_318 hm9; exact absurd hm9 (Nat.not_lt_zero _)
              | succ Nloop_333 loop_333_ih =>
                intro i_315 z_316 z_317 z_318 z_319 F_320 hz_318 hmloop_333 H locs ls hP hD hS hl
                refine lv_iload hx hb dX3_arriveOver_104 (lv_at hl 0 rfl) ?_
                refine lv_iload hx hb dX3_arriveOver_106 (lv_at hl 1 rfl) ?_
                refine lv_icmp_ge (tgt := 124) hx hb dX3_arriveOver_108 (by decide) (fun cb_334 => ?_) (fun cb_334 => ?_)
                · skip
                  refine lv_iinc (v := (nI (i_73 + 1))) (lv' := [(5, .int (nI (i_73 + 1))), (8, .int i_315), (7, .int y_308), (3, .int (nI ((t) % 5))), (2, .ref L0), (0, .ref Nn)]) hx hb dX3_arriveOver_124 hl (k := 2) rfl (nI_1 (i_73)) (by decide) rfl (fun ls hl => ?_)
                  refine lv_goto (tgt := 48) hx hb dX3_arriveOver_127 (by decide) ?_
                  exact loop_261_ih (i_73 + 1) z_280 z_281 z_282 z_283 z_284 z_285 z_316 z_317 z_318 z_319 F_320 z_286 z_287 z_288 z_289 z_290 z_291 z_292 z_293 z_294 z_295 z_296 z_297 (hz_318) (show (i_73 + 1) ≤ cc by omega) (show cc - (i_73 + 1) < Nloop_261 by omega) _ _ _ hP hD hS (lv_sub hl [0, 3, 4, 5] rfl)
                · skip
                  refine lv_aload_n hx hb dX3_arriveOver_111 rfl (lv_at hl 5 rfl) ?_
                  refine lv_aload_n hx hb dX3_arriveOver_112 rfl (lv_at hl 4 rfl) ?_
                  refine lv_iload hx hb dX3_arriveOver_113 (lv_at hl 2 rfl) ?_
                  refine ky_Vv (As := [.ref L0, .int (nI i_73)]) (rest := []) ⟨hx, hb, hml, hown, hts⟩ ⟨hK, hN⟩ hZ hP hD hS hA [0, 3, 5, 7, 8, 9, 10] [1, 2, 4, 6] (wc := [(Nn, .inr (3, [.int (nI hp), .int (nI cc), .int zrs, .int zad, .int zpr, .int (nI t), .int z_316, .int zps, .ref Nl, .ref Nf, .ref Nb])), (L0, .inr (2, [.int (nI d0), .int (fk0 1), .int (fk0 2), .int z_317, .int z_318, .int z_319, .ref L0c, .ref L0u, .ref L0p, .ref L0l])), (L0u, .inl (g 0, 15, .inl F_320)), (L0l, .inl (g 2, 3, .inr (.inr (.inr (.inr (rf3 L0a L0b L0d)))))), (L0a, .inr (1, [.int z_280, .int z_281, .int z_282, .int (fa0 3), .int z_283, .int z_284, .int z_285])), (L0b, .inr (1, [.int z_286, .int z_287, .int z_288, .int (fb0 3), .int z_289, .int z_290, .int z_291])), (L0d, .inr (1, [.int z_292, .int z_293, .int z_294, .int (fd0 3), .int z_295, .int z_296, .int z_297]))]) (wr := [(Nl, .inl (g 1, 3, .inr (.inr (.inr (.inr (rf3 M0 M1 L0)))))), (Nb, .inl (g 0, 12, .inl F_11)), (L0c, .inl (g 0, 5, .inl fc0)), (L0p, .inl (g 0, 15, .inl fp0))]) rfl rfl rfl rfl (by decide) (k_X3_sendUpdate l D g H.size Nn L0 i_73 hp cc zrs zad zpr t z_316 zps Nl Nf Nb d0 fk0 (lf [0, 0, 0, z_317, z_318, z_319]) L0c L0u L0p L0l F_320 L0a L0b L0d (lf [z_280, z_281, z_282, fa0 3, z_283, z_284, z_285]) (lf [z_286, z_287, z_288, fb0 3, z_289, z_290, z_291]) (lf [z_292, z_293, z_294, fd0 3, z_295, z_296, z_297]) (show i_73 < 3 by omega) (show t < 2 ^ 30 by omega) (show d0 < 5 by omega) (hz_318)) (cwV 2 hts gX3_arriveOver_X3_sendUpdate rfl rfl rfl (by decide +kernel) ⟨(Nat.le_of_ble_eq_true rfl), (Nat.le_of_ble_eq_true rfl)⟩) 0 3 rfl rfl rfl rfl hl.1 rfl (Nat.le_of_ble_eq_true rfl) dX3_arriveOver_115 ⟨(Nat.le_of_ble_eq_true rfl), (Nat.le_of_ble_eq_true rfl)⟩ (fun u H locs hw hP2 hD2 hS2 => ?_)
                  clear hP hD hS
                  obtain ⟨zlox_336, fv0x_337, fu0x_338, rfl, hf_339⟩ := hw
                  have hPD : PD D A [(Nl, .inl (g 1, 3, .inr (.inr (.inr (.inr (rf3 M0 M1 L0)))))), (Nb, .inl (g 0, 12, .inl F_11)), (L0c, .inl (g 0, 5, .inl fc0)), (L0p, .inl (g 0, 15, .inl fp0)), (Nn, .inr (3, [.int (nI hp), .int (nI cc), .int zrs, .int zad, .int zpr, .int (nI t), .int zlox_336, .int zps, .ref Nl, .ref Nf, .ref Nb])), (L0, .inr (2, [.int (nI d0), .int (fk0 1), .int (fk0 2), .int (fv0x_337 3), .int (fv0x_337 4), .int (fv0x_337 5), .ref L0c, .ref L0u, .ref L0p, .ref L0l])), (L0u, .inl (g 0, 15, .inl fu0x_338)), (L0l, .inl (g 2, 3, .inr (.inr (.inr (.inr (rf3 L0a L0b L0d)))))), (L0a, .inr (1, [.int z_280, .int z_281, .int z_282, .int (fa0 3), .int z_283, .int z_284, .int z_285])), (L0b, .inr (1, [.int z_286, .int z_287, .int z_288, .int (fb0 3), .int z_289, .int z_290, .int z_291])), (L0d, .inr (1, [.int z_292, .int z_293, .int z_294, .int (fd0 3), .int z_295, .int z_296, .int z_297]))] H := ⟨hP2, hD2⟩
                  have hS := hS2; clear hP2 hD2 hS2; have hP := hPD.1; have hD := hPD.2; clear hPD
                  refine W.widen (k := 0) (n := 0) (Nat.le_of_ble_eq_true rfl) (Nat.le_of_ble_eq_true rfl) ?_
                  refine lv_iinc (v := (i_315 + 1)) (lv' := [(8, .int (i_315 + 1)), (7, .int y_308), (5, .int (nI i_73)), (3, .int (nI ((t) % 5))), (2, .ref L0), (0, .ref Nn)]) hx hb dX3_arriveOver_118 hl (k := 0) rfl (rfl) (by decide) rfl (fun ls hl => ?_)
                  refine lv_goto (tgt := 104) hx hb dX3_arriveOver_121 (by decide) ?_
                  exact loop_333_ih (i_315 + 1) zlox_336 (fv0x_337 3) (fv0x_337 4) (fv0x_337 5) fu0x_338 (hf_339) (Nat.lt_of_lt_of_le (ms_lt (Int32.not_le.mp cb_334)) (Nat.le_of_lt_succ hmloop_333)) _ _ _ (hP.sub [4, 0, 1, 5, 2, 6, 3, 7, 8, 9, 10] rfl) (hD.sub [4, 0, 1, 5, 2, 6, 3, 7, 8, 9, 10] (by decide) rfl) hS hl
            exact loop_333 _ 0 z_80 z_81 z_82 z_83 F_84 (hz_82) (Nat.lt_succ_self _) _ _ _ hP hD hS hl
          refine lv_icmp_eq (tgt := 88) hx hb dX3_arriveOver_73 (by decide) (fun cb_340 => ?_) (fun cb_340 => ?_)
          · skip
            have hPq_341 := hP; have hDq_341 := hD; have hSq_341 := hS; have hlq_341 := hl; clear hP hD hS hl
            subst cb_340
            have hP := hPq_341; have hD := hDq_341; have hS := hSq_341; have hl := hlq_341; clear hPq_341 hDq_341 hSq_341 hlq_341
            exact join_307 z_74 z_75 z_76 z_77 z_78 z_79 z_167 z_168 z_169 z_170 z_171 z_172 z_173 z_174 z_175 z_176 z_177 z_178 _ _ _ hP hD hS (lv_sub hl [1, 2, 3, 4] rfl)
          · skip
            refine lv_aload_n hx hb dX3_arriveOver_76 rfl (lv_at hl 3 rfl) ?_
            refine va_get (D := D) (ci := 2) (v := .ref L0l) (C := RX2) (T := TX2) (N := 10) hx hb hts iX2 hown hK hP 3 rfl rfl 9 (by decide) f128 (fun _ h9 => h9) rfl dX3_arriveOver_77 ?_
            refine lv_iload hx hb dX3_arriveOver_80 (lv_at hl 1 rfl) ?_
            have hPq_342 := hP; have hDq_342 := hD; have hSq_342 := hS; have hlq_342 := hl; clear hP hD hS hl
            rcases (show i_73 = 0 ∨ i_73 = 1 ∨ i_73 = 2 by omega) with rfl | rfl | rfl
            · skip
              have hP := hPq_342; have hD := hDq_342; have hS := hSq_342; have hl := hlq_342; clear hPq_342 hDq_342 hSq_342 hlq_342
              refine va_aldq (C := "HopCredits$Lane") hx hb hK hP 7 2 rfl rfl (by unfold vp_in; decide) dX3_arriveOver_82 ?_
              refine lv_eqv (v2 := .ref L0a) rfl ?_
              refine lv_iload hx hb dX3_arriveOver_83 (lv_at hl 0 rfl) ?_
              refine ky_Vv (As := [.int y_270]) (rest := []) ⟨hx, hb, hml, hown, hts⟩ ⟨hK, hN⟩ hZ hP hD hS hA [8] [0, 1, 2, 3, 4, 5, 6, 7, 9, 10] (wc := [(L0a, .inr (1, [.int z_74, .int z_75, .int z_76, .int (fa0 3), .int z_77, .int z_78, .int z_79]))]) (wr := [(Nn, .inr (3, [.int (nI hp), .int (nI cc), .int zrs, .int zad, .int zpr, .int (nI t), .int z_80, .int zps, .ref Nl, .ref Nf, .ref Nb])), (Nl, .inl (g 1, 3, .inr (.inr (.inr (.inr (rf3 M0 M1 L0)))))), (Nb, .inl (g 0, 12, .inl F_11)), (L0, .inr (2, [.int (nI d0), .int (fk0 1), .int (fk0 2), .int z_81, .int z_82, .int z_83, .ref L0c, .ref L0u, .ref L0p, .ref L0l])), (L0c, .inl (g 0, 5, .inl fc0)), (L0u, .inl (g 0, 15, .inl F_84)), (L0p, .inl (g 0, 15, .inl fp0)), (L0l, .inl (g 2, 3, .inr (.inr (.inr (.inr (rf3 L0a L0b L0d)))))), (L0b, .inr (1, [.int z_167, .int z_168, .int z_169, .int (fb0 3), .int z_170, .int z_171, .int z_172])), (L0d, .inr (1, [.int z_173, .int z_174, .int z_175, .int (fd0 3), .int z_176, .int z_177, .int z_178]))]) rfl rfl rfl rfl (by decide) (k_X1_hear l D g H.size L0a y_270 (lf [z_74, z_75, z_76, fa0 3, z_77, z_78, z_79])) (cwV 1 hts gX3_arriveOver_X1_hear rfl rfl rfl (by decide +kernel) ⟨(Nat.le_of_ble_eq_true rfl), (Nat.le_of_ble_eq_true rfl)⟩) 8 1 rfl rfl rfl rfl hl.1 rfl (Nat.le_of_ble_eq_true rfl) dX3_arriveOver_85 ⟨(Nat.le_of_ble_eq_true rfl), (Nat.le_of_ble_eq_true rfl)⟩ (fun u H locs hw hP2 hD2 hS2 => ?_)
              clear hP hD hS
              obtain ⟨fwx_344, rfl⟩ := hw
              have hPD : PD D A [(Nn, .inr (3, [.int (nI hp), .int (nI cc), .int zrs, .int zad, .int zpr, .int (nI t), .int z_80, .int zps, .ref Nl, .ref Nf, .ref Nb])), (Nl, .inl (g 1, 3, .inr (.inr (.inr (.inr (rf3 M0 M1 L0)))))), (Nb, .inl (g 0, 12, .inl F_11)), (L0, .inr (2, [.int (nI d0), .int (fk0 1), .int (fk0 2), .int z_81, .int z_82, .int z_83, .ref L0c, .ref L0u, .ref L0p, .ref L0l])), (L0c, .inl (g 0, 5, .inl fc0)), (L0u, .inl (g 0, 15, .inl F_84)), (L0p, .inl (g 0, 15, .inl fp0)), (L0l, .inl (g 2, 3, .inr (.inr (.inr (.inr (rf3 L0a L0b L0d)))))), (L0b, .inr (1, [.int z_167, .int z_168, .int z_169, .int (fb0 3), .int z_170, .int z_171, .int z_172])), (L0d, .inr (1, [.int z_173, .int z_174, .int z_175, .int (fd0 3), .int z_176, .int z_177, .int z_178])), (L0a, .inr (1, [.int (fwx_344 0), .int (fwx_344 1), .int (fwx_344 2), .int (fa0 3), .int (fwx_344 4), .int (fwx_344 5), .int (fwx_344 6)]))] H := ⟨hP2, hD2⟩
              have hS := hS2; clear hP2 hD2 hS2; have hP := hPD.1; have hD := hPD.2; clear hPD
              refine W.widen (k := 0) (n := 0) (Nat.le_of_ble_eq_true rfl) (Nat.le_of_ble_eq_true rfl) ?_
              exact join_307 (fwx_344 0) (fwx_344 1) (fwx_344 2) (fwx_344 4) (fwx_344 5) (fwx_344 6) z_167 z_168 z_169 z_170 z_171 z_172 z_173 z_174 z_175 z_176 z_177 z_178 _ _ _ (hP.sub [0, 1, 2, 3, 4, 5, 6, 7, 10, 8, 9] rfl) (hD.sub [0, 1, 2, 3, 4, 5, 6, 7, 10, 8, 9] (by decide) rfl) hS (lv_sub hl [1, 2, 3, 4] rfl)
            · skip
              have hP := hPq_342; have hD := hDq_342; have hS := hSq_342; have hl := hlq_342; clear hPq_342 hDq_342 hSq_342 hlq_342
              refine va_aldq (C := "HopCredits$Lane") hx hb hK hP 7 2 rfl rfl (by unfold vp_in; decide) dX3_arriveOver_82 ?_
              refine lv_eqv (v2 := .ref L0b) rfl ?_
              refine lv_iload hx hb dX3_arriveOver_83 (lv_at hl 0 rfl) ?_
              refine ky_Vv (As := [.int y_270]) (rest := []) ⟨hx, hb, hml, hown, hts⟩ ⟨hK, hN⟩ hZ hP hD hS hA [9] [0, 1, 2, 3, 4, 5, 6, 7, 8, 10] (wc := [(L0b, .inr (1, [.int z_167, .int z_168, .int z_169, .int (fb0 3), .int z_170, .int z_171, .int z_172]))]) (wr := [(Nn, .inr (3, [.int (nI hp), .int (nI cc), .int zrs, .int zad, .int zpr, .int (nI t), .int z_80, .int zps, .ref Nl, .ref Nf, .ref Nb])), (Nl, .inl (g 1, 3, .inr (.inr (.inr (.inr (rf3 M0 M1 L0)))))), (Nb, .inl (g 0, 12, .inl F_11)), (L0, .inr (2, [.int (nI d0), .int (fk0 1), .int (fk0 2), .int z_81, .int z_82, .int z_83, .ref L0c, .ref L0u, .ref L0p, .ref L0l])), (L0c, .inl (g 0, 5, .inl fc0)), (L0u, .inl (g 0, 15, .inl F_84)), (L0p, .inl (g 0, 15, .inl fp0)), (L0l, .inl (g 2, 3, .inr (.inr (.inr (.inr (rf3 L0a L0b L0d)))))), (L0a, .inr (1, [.int z_74, .int z_75, .int z_76, .int (fa0 3), .int z_77, .int z_78, .int z_79])), (L0d, .inr (1, [.int z_173, .int z_174, .int z_175, .int (fd0 3), .int z_176, .int z_177, .int z_178]))]) rfl rfl rfl rfl (by decide) (k_X1_hear l D g H.size L0b y_270 (lf [z_167, z_168, z_169, fb0 3, z_170, z_171, z_172])) (cwV 1 hts gX3_arriveOver_X1_hear rfl rfl rfl (by decide +kernel) ⟨(Nat.le_of_ble_eq_true rfl), (Nat.le_of_ble_eq_true rfl)⟩) 9 1 rfl rfl rfl rfl hl.1 rfl (Nat.le_of_ble_eq_true rfl) dX3_arriveOver_85 ⟨(Nat.le_of_ble_eq_true rfl), (Nat.le_of_ble_eq_true rfl)⟩ (fun u H locs hw hP2 hD2 hS2 => ?_)
              clear hP hD hS
              obtain ⟨fwx_346, rfl⟩ := hw
              have hPD : PD D A [(Nn, .inr (3, [.int (nI hp), .int (nI cc), .int zrs, .int zad, .int zpr, .int (nI t), .int z_80, .int zps, .ref Nl, .ref Nf, .ref Nb])), (Nl, .inl (g 1, 3, .inr (.inr (.inr (.inr (rf3 M0 M1 L0)))))), (Nb, .inl (g 0, 12, .inl F_11)), (L0, .inr (2, [.int (nI d0), .int (fk0 1), .int (fk0 2), .int z_81, .int z_82, .int z_83, .ref L0c, .ref L0u, .ref L0p, .ref L0l])), (L0c, .inl (g 0, 5, .inl fc0)), (L0u, .inl (g 0, 15, .inl F_84)), (L0p, .inl (g 0, 15, .inl fp0)), (L0l, .inl (g 2, 3, .inr (.inr (.inr (.inr (rf3 L0a L0b L0d)))))), (L0a, .inr (1, [.int z_74, .int z_75, .int z_76, .int (fa0 3), .int z_77, .int z_78, .int z_79])), (L0d, .inr (1, [.int z_173, .int z_174, .int z_175, .int (fd0 3), .int z_176, .int z_177, .int z_178])), (L0b, .inr (1, [.int (fwx_346 0), .int (fwx_346 1), .int (fwx_346 2), .int (fb0 3), .int (fwx_346 4), .int (fwx_346 5), .int (fwx_346 6)]))] H := ⟨hP2, hD2⟩
              have hS := hS2; clear hP2 hD2 hS2; have hP := hPD.1; have hD := hPD.2; clear hPD
              refine W.widen (k := 0) (n := 0) (Nat.le_of_ble_eq_true rfl) (Nat.le_of_ble_eq_true rfl) ?_
              exact join_307 z_74 z_75 z_76 z_77 z_78 z_79 (fwx_346 0) (fwx_346 1) (fwx_346 2) (fwx_346 4) (fwx_346 5) (fwx_346 6) z_173 z_174 z_175 z_176 z_177 z_178 _ _ _ (hP.sub [0, 1, 2, 3, 4, 5, 6, 7, 8, 10, 9] rfl) (hD.sub [0, 1, 2, 3, 4, 5, 6, 7, 8, 10, 9] (by decide) rfl) hS (lv_sub hl [1, 2, 3, 4] rfl)
            · skip
              have hP := hPq_342; have hD := hDq_342; have hS := hSq_342; have hl := hlq_342; clear hPq_342 hDq_342 hSq_342 hlq_342
              refine va_aldq (C := "HopCredits$Lane") hx hb hK hP 7 2 rfl rfl (by unfold vp_in; decide) dX3_arriveOver_82 ?_
              refine lv_eqv (v2 := .ref L0d) rfl ?_
              refine lv_iload hx hb dX3_arriveOver_83 (lv_at hl 0 rfl) ?_
              refine ky_Vv (As := [.int y_270]) (rest := []) ⟨hx, hb, hml, hown, hts⟩ ⟨hK, hN⟩ hZ hP hD hS hA [10] [0, 1, 2, 3, 4, 5, 6, 7, 8, 9] (wc := [(L0d, .inr (1, [.int z_173, .int z_174, .int z_175, .int (fd0 3), .int z_176, .int z_177, .int z_178]))]) (wr := [(Nn, .inr (3, [.int (nI hp), .int (nI cc), .int zrs, .int zad, .int zpr, .int (nI t), .int z_80, .int zps, .ref Nl, .ref Nf, .ref Nb])), (Nl, .inl (g 1, 3, .inr (.inr (.inr (.inr (rf3 M0 M1 L0)))))), (Nb, .inl (g 0, 12, .inl F_11)), (L0, .inr (2, [.int (nI d0), .int (fk0 1), .int (fk0 2), .int z_81, .int z_82, .int z_83, .ref L0c, .ref L0u, .ref L0p, .ref L0l])), (L0c, .inl (g 0, 5, .inl fc0)), (L0u, .inl (g 0, 15, .inl F_84)), (L0p, .inl (g 0, 15, .inl fp0)), (L0l, .inl (g 2, 3, .inr (.inr (.inr (.inr (rf3 L0a L0b L0d)))))), (L0a, .inr (1, [.int z_74, .int z_75, .int z_76, .int (fa0 3), .int z_77, .int z_78, .int z_79])), (L0b, .inr (1, [.int z_167, .int z_168, .int z_169, .int (fb0 3), .int z_170, .int z_171, .int z_172]))]) rfl rfl rfl rfl (by decide) (k_X1_hear l D g H.size L0d y_270 (lf [z_173, z_174, z_175, fd0 3, z_176, z_177, z_178])) (cwV 1 hts gX3_arriveOver_X1_hear rfl rfl rfl (by decide +kernel) ⟨(Nat.le_of_ble_eq_true rfl), (Nat.le_of_ble_eq_true rfl)⟩) 10 1 rfl rfl rfl rfl hl.1 rfl (Nat.le_of_ble_eq_true rfl) dX3_arriveOver_85 ⟨(Nat.le_of_ble_eq_true rfl), (Nat.le_of_ble_eq_true rfl)⟩ (fun u H locs hw hP2 hD2 hS2 => ?_)
              clear hP hD hS
              obtain ⟨fwx_348, rfl⟩ := hw
              have hPD : PD D A [(Nn, .inr (3, [.int (nI hp), .int (nI cc), .int zrs, .int zad, .int zpr, .int (nI t), .int z_80, .int zps, .ref Nl, .ref Nf, .ref Nb])), (Nl, .inl (g 1, 3, .inr (.inr (.inr (.inr (rf3 M0 M1 L0)))))), (Nb, .inl (g 0, 12, .inl F_11)), (L0, .inr (2, [.int (nI d0), .int (fk0 1), .int (fk0 2), .int z_81, .int z_82, .int z_83, .ref L0c, .ref L0u, .ref L0p, .ref L0l])), (L0c, .inl (g 0, 5, .inl fc0)), (L0u, .inl (g 0, 15, .inl F_84)), (L0p, .inl (g 0, 15, .inl fp0)), (L0l, .inl (g 2, 3, .inr (.inr (.inr (.inr (rf3 L0a L0b L0d)))))), (L0a, .inr (1, [.int z_74, .int z_75, .int z_76, .int (fa0 3), .int z_77, .int z_78, .int z_79])), (L0b, .inr (1, [.int z_167, .int z_168, .int z_169, .int (fb0 3), .int z_170, .int z_171, .int z_172])), (L0d, .inr (1, [.int (fwx_348 0), .int (fwx_348 1), .int (fwx_348 2), .int (fd0 3), .int (fwx_348 4), .int (fwx_348 5), .int (fwx_348 6)]))] H := ⟨hP2, hD2⟩
              have hS := hS2; clear hP2 hD2 hS2; have hP := hPD.1; have hD := hPD.2; clear hPD
              refine W.widen (k := 0) (n := 0) (Nat.le_of_ble_eq_true rfl) (Nat.le_of_ble_eq_true rfl) ?_
              exact join_307 z_74 z_75 z_76 z_77 z_78 z_79 z_167 z_168 z_169 z_170 z_171 z_172 (fwx_348 0) (fwx_348 1) (fwx_348 2) (fwx_348 4) (fwx_348 5) (fwx_348 6) _ _ _ hP hD hS (lv_sub hl [1, 2, 3, 4] rfl)
    exact loop_261 _ 0 (fa0 0) (fa0 1) (fa0 2) (fa0 4) (fa0 5) (fa0 6) zlo (fv0 3) (fv0 4) (fv0 5) fu0 (fb0 0) (fb0 1) (fb0 2) (fb0 4) (fb0 5) (fb0 6) (fd0 0) (fd0 1) (fd0 2) (fd0 4) (fd0 5) (fd0 6) (h4) (show 0 ≤ cc by omega) (Nat.lt_succ_self _) _ _ _ hP hD hS hl
  refine lv_icmp_eq (tgt := 45) hx hb dX3_arriveOver_25 (by decide) (fun cb_349 => ?_) (fun cb_349 => ?_)
  · skip
    have hPq_350 := hP; have hDq_350 := hD; have hSq_350 := hS; have hlq_350 := hl; clear hP hD hS hl
    subst cb_349
    have hP := hPq_350; have hD := hDq_350; have hS := hSq_350; have hl := hlq_350; clear hPq_350 hDq_350 hSq_350 hlq_350
    exact join_20 fbuf _ _ _ hP hD hS (lv_sub hl [1, 2, 3] rfl)
  · skip
    have hPq_353 := hP; have hDq_353 := hD; have hSq_353 := hS; have hlq_353 := hl; clear hP hD hS hl
    obtain ⟨j_351, hj_352, rfl⟩ := okc_j (hc_2) cb_349
    have hP := hPq_353; have hD := hDq_353; have hS := hSq_353; have hl := hlq_353; clear hPq_353 hDq_353 hSq_353 hlq_353
    refine lv_aload_n hx hb dX3_arriveOver_28 rfl (lv_at hl 3 rfl) ?_
    refine va_get (D := D) (ci := 3) (v := .ref Nb) (C := RX3) (T := TX3) (N := 11) hx hb hts iX3 hown hK hP 0 rfl rfl 10 (by decide) f23 (fun _ h9 => h9) rfl dX3_arriveOver_29 ?_
    refine lv_iload_n hx hb dX3_arriveOver_32 rfl (lv_at hl 4 rfl) ?_
    refine lv_iconst (v := 1) hx hb dX3_arriveOver_33 (by decide) ?_
    refine lv_iadd hx hb dX3_arriveOver_34 ?_
    refine lv_eqi (y := 3) (by decide) ?_
    refine lv_iconst (v := 3) hx hb dX3_arriveOver_35 (by decide) ?_
    refine lv_imul hx hb dX3_arriveOver_36 ?_
    refine lv_eqi (y := 9) (by decide) ?_
    refine lv_iload hx hb dX3_arriveOver_37 (lv_at hl 0 rfl) ?_
    refine lv_iadd hx hb dX3_arriveOver_39 ?_
    refine lv_eqi (y := (nI (9 + j_351))) (nI_add (9) (j_351)) ?_
    refine lv_dup2_11 hx hb dX3_arriveOver_40 rfl rfl ?_
    refine va_iald hx hb hK hP 2 0 rfl rfl (vp_in_nI (show 9 + j_351 < 12 by omega) (by decide)) dX3_arriveOver_41 ?_
    refine lv_eqi (y := (fbuf (9 + j_351))) (congrArg fbuf (nI_clamp (show 9 + j_351 < 2 ^ 31 by omega))) ?_
    refine lv_topi (fun y_354 _ => ?_)
    refine lv_iconst (v := 1) hx hb dX3_arriveOver_42 (by decide) ?_
    refine lv_iadd hx hb dX3_arriveOver_43 ?_
    refine lv_topi (fun y_355 _ => ?_)
    refine va_iast hx hb hK hP hD hS 2 0 rfl rfl (vp_in_nI (show 9 + j_351 < 12 by omega) (by decide)) dX3_arriveOver_44 (fun H locs hP2 hD2 hS2 => ?_)
    clear hP hD hS
    have hPD : PD D A [(Nn, .inr (3, [.int (nI hp), .int (nI cc), .int zrs, .int zad, .int zpr, .int (nI t), .int zlo, .int zps, .ref Nl, .ref Nf, .ref Nb])), (Nl, .inl (g 1, 3, .inr (.inr (.inr (.inr (rf3 M0 M1 L0)))))), (Nb, .inl (g 0, 12, .inl (upd fbuf (nI (9 + j_351)).toNatClampNeg y_355))), (L0, .inr (2, [.int (nI d0), .int (fk0 1), .int (fk0 2), .int (fv0 3), .int (fv0 4), .int (fv0 5), .ref L0c, .ref L0u, .ref L0p, .ref L0l])), (L0c, .inl (g 0, 5, .inl fc0)), (L0u, .inl (g 0, 15, .inl fu0)), (L0p, .inl (g 0, 15, .inl fp0)), (L0l, .inl (g 2, 3, .inr (.inr (.inr (.inr (rf3 L0a L0b L0d)))))), (L0a, .inr (1, [.int (fa0 0), .int (fa0 1), .int (fa0 2), .int (fa0 3), .int (fa0 4), .int (fa0 5), .int (fa0 6)])), (L0b, .inr (1, [.int (fb0 0), .int (fb0 1), .int (fb0 2), .int (fb0 3), .int (fb0 4), .int (fb0 5), .int (fb0 6)])), (L0d, .inr (1, [.int (fd0 0), .int (fd0 1), .int (fd0 2), .int (fd0 3), .int (fd0 4), .int (fd0 5), .int (fd0 6)]))] H := ⟨hP2, hD2⟩
    have hS := hS2; clear hP2 hD2 hS2; have hP := hPD.1; have hD := hPD.2; clear hPD
    rw [nI_clamp (show 9 + j_351 < 2 ^ 31 by omega)] at hP hD
    have hPD : PD D A [(Nn, .inr (3, [.int (nI hp), .int (nI cc), .int zrs, .int zad, .int zpr, .int (nI t), .int zlo, .int zps, .ref Nl, .ref Nf, .ref Nb])), (Nl, .inl (g 1, 3, .inr (.inr (.inr (.inr (rf3 M0 M1 L0)))))), (Nb, .inl (g 0, 12, .inl (upd fbuf (9 + j_351) y_355))), (L0, .inr (2, [.int (nI d0), .int (fk0 1), .int (fk0 2), .int (fv0 3), .int (fv0 4), .int (fv0 5), .ref L0c, .ref L0u, .ref L0p, .ref L0l])), (L0c, .inl (g 0, 5, .inl fc0)), (L0u, .inl (g 0, 15, .inl fu0)), (L0p, .inl (g 0, 15, .inl fp0)), (L0l, .inl (g 2, 3, .inr (.inr (.inr (.inr (rf3 L0a L0b L0d)))))), (L0a, .inr (1, [.int (fa0 0), .int (fa0 1), .int (fa0 2), .int (fa0 3), .int (fa0 4), .int (fa0 5), .int (fa0 6)])), (L0b, .inr (1, [.int (fb0 0), .int (fb0 1), .int (fb0 2), .int (fb0 3), .int (fb0 4), .int (fb0 5), .int (fb0 6)])), (L0d, .inr (1, [.int (fd0 0), .int (fd0 1), .int (fd0 2), .int (fd0 3), .int (fd0 4), .int (fd0 5), .int (fd0 6)]))] H := ⟨hP, hD⟩
    clear hP hD; have hP := hPD.1; have hD := hPD.2; clear hPD
    generalize upd fbuf (9 + j_351) y_355 = F_356 at hP hD
    exact join_20 F_356 _ _ _ hP hD hS (lv_sub hl [1, 2, 3] rfl)

set_option maxHeartbeats 4000000 in
set_option maxRecDepth 100000 in
theorem k_X3_lacksCredit_0 (l : Launch) (D : va_G) (g : Nat → ClassId) (sz : Nat) (Nn : Nat) (cx : Nat) (fn : Nat → Int32) (Nl : Nat) (Nf : Nat) (Nb : Nat) (L0 : Nat) (M1 : Nat) (M2 : Nat) (fbuf : Nat → Int32) (d0 : Nat) (fk0 : Nat → Int32) (fv0 : Nat → Int32) (L0c : Nat) (L0u : Nat) (L0p : Nat) (L0l : Nat) (L0a : Nat) (L0b : Nat) (L0d : Nat) (fa0 : Nat → Int32) (fb0 : Nat → Int32) (fd0 : Nat → Int32) (h0 : cx < 3) : Met l yX3_lacksCredit wsX3_lacksCredit ({ frames := 1, cells := 0, slots := 0, locals := 20 }) (va_Pc [.ref Nn, .int 0, .int (nI cx)] (pre D g sz [(Nn, .inr (3, [.int (fn 0), .int (fn 1), .int (fn 2), .int (fn 3), .int (fn 4), .int (fn 5), .int (fn 6), .int (fn 7), .ref Nl, .ref Nf, .ref Nb])), (Nl, .inl (g 1, 3, .inr (.inr (.inr (.inr (rf3 L0 M1 M2)))))), (Nb, .inl (g 0, 12, .inl fbuf)), (L0, .inr (2, [.int (nI d0), .int (fk0 1), .int (fk0 2), .int (fv0 3), .int (fv0 4), .int (fv0 5), .ref L0c, .ref L0u, .ref L0p, .ref L0l])), (L0l, .inl (g 2, 3, .inr (.inr (.inr (.inr (rf3 L0a L0b L0d)))))), (L0a, .inr (1, [.int (fa0 0), .int (fa0 1), .int (fa0 2), .int (fa0 3), .int (fa0 4), .int (fa0 5), .int (fa0 6)])), (L0b, .inr (1, [.int (fb0 0), .int (fb0 1), .int (fb0 2), .int (fb0 3), .int (fb0 4), .int (fb0 5), .int (fb0 6)])), (L0d, .inr (1, [.int (fd0 0), .int (fd0 1), .int (fd0 2), .int (fd0 3), .int (fd0 4), .int (fd0 5), .int (fd0 6)]))])) (va_Qi (fun (r : Int32) (u : va_W) => u = [(Nn, .inr (3, [.int (fn 0), .int (fn 1), .int (fn 2), .int (fn 3), .int (fn 4), .int (fn 5), .int (fn 6), .int (fn 7), .ref Nl, .ref Nf, .ref Nb])), (Nl, .inl (g 1, 3, .inr (.inr (.inr (.inr (rf3 L0 M1 M2)))))), (Nb, .inl (g 0, 12, .inl fbuf)), (L0, .inr (2, [.int (nI d0), .int (fk0 1), .int (fk0 2), .int (fv0 3), .int (fv0 4), .int (fv0 5), .ref L0c, .ref L0u, .ref L0p, .ref L0l])), (L0l, .inl (g 2, 3, .inr (.inr (.inr (.inr (rf3 L0a L0b L0d)))))), (L0a, .inr (1, [.int (fa0 0), .int (fa0 1), .int (fa0 2), .int (fa0 3), .int (fa0 4), .int (fa0 5), .int (fa0 6)])), (L0b, .inr (1, [.int (fb0 0), .int (fb0 1), .int (fb0 2), .int (fb0 3), .int (fb0 4), .int (fb0 5), .int (fb0 6)])), (L0d, .inr (1, [.int (fd0 0), .int (fd0 1), .int (fd0 2), .int (fd0 3), .int (fd0 4), .int (fd0 5), .int (fd0 6)]))]) (wd D (va_A [(Nn, .inr (3, [.int (fn 0), .int (fn 1), .int (fn 2), .int (fn 3), .int (fn 4), .int (fn 5), .int (fn 6), .int (fn 7), .ref Nl, .ref Nf, .ref Nb])), (Nl, .inl (g 1, 3, .inr (.inr (.inr (.inr (rf3 L0 M1 M2)))))), (Nb, .inl (g 0, 12, .inl fbuf)), (L0, .inr (2, [.int (nI d0), .int (fk0 1), .int (fk0 2), .int (fv0 3), .int (fv0 4), .int (fv0 5), .ref L0c, .ref L0u, .ref L0p, .ref L0l])), (L0l, .inl (g 2, 3, .inr (.inr (.inr (.inr (rf3 L0a L0b L0d)))))), (L0a, .inr (1, [.int (fa0 0), .int (fa0 1), .int (fa0 2), .int (fa0 3), .int (fa0 4), .int (fa0 5), .int (fa0 6)])), (L0b, .inr (1, [.int (fb0 0), .int (fb0 1), .int (fb0 2), .int (fb0 3), .int (fb0 4), .int (fb0 5), .int (fb0 6)])), (L0d, .inr (1, [.int (fd0 0), .int (fd0 1), .int (fd0 2), .int (fd0 3), .int (fd0 4), .int (fd0 5), .int (fd0 6)]))] sz)) (va_A [(Nn, .inr (3, [.int (fn 0), .int (fn 1), .int (fn 2), .int (fn 3), .int (fn 4), .int (fn 5), .int (fn 6), .int (fn 7), .ref Nl, .ref Nf, .ref Nb])), (Nl, .inl (g 1, 3, .inr (.inr (.inr (.inr (rf3 L0 M1 M2)))))), (Nb, .inl (g 0, 12, .inl fbuf)), (L0, .inr (2, [.int (nI d0), .int (fk0 1), .int (fk0 2), .int (fv0 3), .int (fv0 4), .int (fv0 5), .ref L0c, .ref L0u, .ref L0p, .ref L0l])), (L0l, .inl (g 2, 3, .inr (.inr (.inr (.inr (rf3 L0a L0b L0d)))))), (L0a, .inr (1, [.int (fa0 0), .int (fa0 1), .int (fa0 2), .int (fa0 3), .int (fa0 4), .int (fa0 5), .int (fa0 6)])), (L0b, .inr (1, [.int (fb0 0), .int (fb0 1), .int (fb0 2), .int (fb0 3), .int (fb0 4), .int (fb0 5), .int (fb0 6)])), (L0d, .inr (1, [.int (fd0 0), .int (fd0 1), .int (fd0 2), .int (fd0 3), .int (fd0 4), .int (fd0 5), .int (fd0 6)]))] sz)) 0 0 (va_A [(Nn, .inr (3, [.int (fn 0), .int (fn 1), .int (fn 2), .int (fn 3), .int (fn 4), .int (fn 5), .int (fn 6), .int (fn 7), .ref Nl, .ref Nf, .ref Nb])), (Nl, .inl (g 1, 3, .inr (.inr (.inr (.inr (rf3 L0 M1 M2)))))), (Nb, .inl (g 0, 12, .inl fbuf)), (L0, .inr (2, [.int (nI d0), .int (fk0 1), .int (fk0 2), .int (fv0 3), .int (fv0 4), .int (fv0 5), .ref L0c, .ref L0u, .ref L0p, .ref L0l])), (L0l, .inl (g 2, 3, .inr (.inr (.inr (.inr (rf3 L0a L0b L0d)))))), (L0a, .inr (1, [.int (fa0 0), .int (fa0 1), .int (fa0 2), .int (fa0 3), .int (fa0 4), .int (fa0 5), .int (fa0 6)])), (L0b, .inr (1, [.int (fb0 0), .int (fb0 1), .int (fb0 2), .int (fb0 3), .int (fb0 4), .int (fb0 5), .int (fb0 6)])), (L0d, .inr (1, [.int (fd0 0), .int (fd0 1), .int (fd0 2), .int (fd0 3), .int (fd0 4), .int (fd0 5), .int (fd0 6)]))] sz) := by
  refine Met.ofW (cc := cX3_lacksCredit) (maxL := 3) (ret := (some .boolean)) (by decide) rfl ?_
  intro p e s m args below meth c s₁ B hml hv
  obtain ⟨rfl, hsz, hP, ⟨hK, hN⟩, hD0, hZ⟩ := hv
  have hx := B.exec
  have hb := B.bytes
  have hr := B.returns
  have hts := atoms_spec (ws := wsX3_lacksCredit) B.pre
  have hown : s.vm.findClass RX3 = some m.cls := findClass_of_methodNamed B.named
  have hlocks := B.notSynchronized
  clear B
  subst hsz
  have hD := hD0.self (sz := s.heap.size)
  clear hD0
  generalize hAe : va_A [(Nn, .inr (3, [.int (fn 0), .int (fn 1), .int (fn 2), .int (fn 3), .int (fn 4), .int (fn 5), .int (fn 6), .int (fn 7), .ref Nl, .ref Nf, .ref Nb])), (Nl, .inl (g 1, 3, .inr (.inr (.inr (.inr (rf3 L0 M1 M2)))))), (Nb, .inl (g 0, 12, .inl fbuf)), (L0, .inr (2, [.int (nI d0), .int (fk0 1), .int (fk0 2), .int (fv0 3), .int (fv0 4), .int (fv0 5), .ref L0c, .ref L0u, .ref L0p, .ref L0l])), (L0l, .inl (g 2, 3, .inr (.inr (.inr (.inr (rf3 L0a L0b L0d)))))), (L0a, .inr (1, [.int (fa0 0), .int (fa0 1), .int (fa0 2), .int (fa0 3), .int (fa0 4), .int (fa0 5), .int (fa0 6)])), (L0b, .inr (1, [.int (fb0 0), .int (fb0 1), .int (fb0 2), .int (fb0 3), .int (fb0 4), .int (fb0 5), .int (fb0 6)])), (L0d, .inr (1, [.int (fd0 0), .int (fd0 1), .int (fd0 2), .int (fd0 3), .int (fd0 4), .int (fd0 5), .int (fd0 6)]))] s.heap.size = A at hD hZ ⊢
  have hA : ∀ q : Nat, s.heap.size ≤ q → A q := fun q h => by rw [← hAe]; exact Or.inr h
  have hS : va_S A s.heap s.heap [] := va_S.rf
  have f11 := hts (.fieldLink RX3 11 "HopCredits$Net" "links" "[LHopCredits$Link;") (by decide +kernel)
  have f128 := hts (.fieldLink RX3 128 "HopCredits$Link" "lanes" "[LHopCredits$Lane;") (by decide +kernel)
  have f195 := hts (.fieldLink RX3 195 "HopCredits$Lane" "zone" "I") (by decide +kernel)
  have f23 := hts (.fieldLink RX3 23 "HopCredits$Net" "buffers" "[I") (by decide +kernel)
  have iX1 : ∀ w ∈ u_ws RX1 TX1 7, w ∈ wsX3_lacksCredit := by decide +kernel
  have iX2 : ∀ w ∈ u_ws RX2 TX2 10, w ∈ wsX3_lacksCredit := by decide +kernel
  have iX3 : ∀ w ∈ u_ws RX3 TX3 11, w ∈ wsX3_lacksCredit := by decide +kernel
  have hl := lv_entry ([.ref Nn, .int 0, .int (nI cx)]) (n := 3) (Nat.le_of_ble_eq_true rfl)
  rw [lg_entry_eq]
  generalize (lg_sl ([.ref Nn, .int 0, .int (nI cx)]) ++ List.replicate (3 - (lg_sl ([.ref Nn, .int 0, .int (nI cx)])).length) Slot.unset).toArray = ls at hl ⊢
  have hl : lv_has ls 3 [(0, .ref Nn), (1, .int 0), (2, .int (nI cx))] := hl
  generalize hQ : MQ below _ _ s _ _ _ = Q
  generalize hH : s.heap = H at hP ⊢
  have hS : va_S A s.heap H [] := by rw [← hH]; exact hS
  clear hH
  refine lv_aload_n hx hb dX3_lacksCredit_0 rfl (lv_at hl 0 rfl) ?_
  refine va_get (D := D) (ci := 3) (v := .ref Nb) (C := RX3) (T := TX3) (N := 11) hx hb hts iX3 hown hK hP 0 rfl rfl 10 (by decide) f23 (fun _ h9 => h9) rfl dX3_lacksCredit_1 ?_
  refine lv_iload_n hx hb dX3_lacksCredit_4 rfl (lv_at hl 1 rfl) ?_
  refine lv_iconst (v := 3) hx hb dX3_lacksCredit_5 (by decide) ?_
  refine lv_imul hx hb dX3_lacksCredit_6 ?_
  refine lv_eqi (y := 0) (by decide) ?_
  refine lv_iload_n hx hb dX3_lacksCredit_7 rfl (lv_at hl 2 rfl) ?_
  refine lv_iadd hx hb dX3_lacksCredit_8 ?_
  refine lv_eqi (y := (nI (0 + cx))) (nI_add (0) (cx)) ?_
  refine va_iald hx hb hK hP 2 0 rfl rfl (vp_in_nI (show 0 + cx < 12 by omega) (by decide)) dX3_lacksCredit_9 ?_
  refine lv_eqi (y := (fbuf (0 + cx))) (congrArg fbuf (nI_clamp (show 0 + cx < 2 ^ 31 by omega))) ?_
  refine lv_topi (fun y_1 _ => ?_)
  refine lv_if_le (tgt := 48) hx hb dX3_lacksCredit_10 (by decide) (fun cb_2 => ?_) (fun cb_2 => ?_)
  · skip
    refine lv_iconst (v := 0) hx hb dX3_lacksCredit_48 (by decide) ?_
    have hP9 := hP; have hD9 := hD
    subst hQ
    refine W.widen (k := 0) (n := 0) (Nat.le_of_ble_eq_true rfl) (Nat.le_of_ble_eq_true rfl) ?_
    exact W.zret (v := 0) (ty := .boolean) hx hb hr (rfl) (fun tS htS _ => ⟨⟨_, _, rfl, rfl, by rw [htS]; exact hP9, hD9⟩, hS.F htS⟩) hS.2.2 dX3_lacksCredit_49
  · skip
    refine lv_aload_n hx hb dX3_lacksCredit_13 rfl (lv_at hl 0 rfl) ?_
    refine va_get (D := D) (ci := 3) (v := .ref Nl) (C := RX3) (T := TX3) (N := 11) hx hb hts iX3 hown hK hP 0 rfl rfl 8 (by decide) f11 (fun _ h9 => h9) rfl dX3_lacksCredit_14 ?_
    refine lv_iload_n hx hb dX3_lacksCredit_17 rfl (lv_at hl 1 rfl) ?_
    refine va_aldq (C := "HopCredits$Link") hx hb hK hP 1 1 rfl rfl (by unfold vp_in; decide) dX3_lacksCredit_18 ?_
    refine lv_eqv (v2 := .ref L0) rfl ?_
    refine va_get (D := D) (ci := 2) (v := .ref L0l) (C := RX2) (T := TX2) (N := 10) hx hb hts iX2 hown hK hP 3 rfl rfl 9 (by decide) f128 (fun _ h9 => h9) rfl dX3_lacksCredit_19 ?_
    refine lv_iload_n hx hb dX3_lacksCredit_22 rfl (lv_at hl 2 rfl) ?_
    have hPq_3 := hP; have hDq_3 := hD; have hSq_3 := hS; have hlq_3 := hl; clear hP hD hS hl
    rcases (show cx = 0 ∨ cx = 1 ∨ cx = 2 by omega) with rfl | rfl | rfl
    · skip
      have hP := hPq_3; have hD := hDq_3; have hS := hSq_3; have hl := hlq_3; clear hPq_3 hDq_3 hSq_3 hlq_3
      refine va_aldq (C := "HopCredits$Lane") hx hb hK hP 4 2 rfl rfl (by unfold vp_in; decide) dX3_lacksCredit_23 ?_
      refine lv_eqv (v2 := .ref L0a) rfl ?_
      refine ky_Vi (As := []) (rest := []) ⟨hx, hb, hml, hown, hts⟩ ⟨hK, hN⟩ hZ hP hD hS hA [5] [0, 1, 2, 3, 4, 6, 7] (wc := [(L0a, .inr (1, [.int (fa0 0), .int (fa0 1), .int (fa0 2), .int (fa0 3), .int (fa0 4), .int (fa0 5), .int (fa0 6)]))]) (wr := [(Nn, .inr (3, [.int (fn 0), .int (fn 1), .int (fn 2), .int (fn 3), .int (fn 4), .int (fn 5), .int (fn 6), .int (fn 7), .ref Nl, .ref Nf, .ref Nb])), (Nl, .inl (g 1, 3, .inr (.inr (.inr (.inr (rf3 L0 M1 M2)))))), (Nb, .inl (g 0, 12, .inl fbuf)), (L0, .inr (2, [.int (nI d0), .int (fk0 1), .int (fk0 2), .int (fv0 3), .int (fv0 4), .int (fv0 5), .ref L0c, .ref L0u, .ref L0p, .ref L0l])), (L0l, .inl (g 2, 3, .inr (.inr (.inr (.inr (rf3 L0a L0b L0d)))))), (L0b, .inr (1, [.int (fb0 0), .int (fb0 1), .int (fb0 2), .int (fb0 3), .int (fb0 4), .int (fb0 5), .int (fb0 6)])), (L0d, .inr (1, [.int (fd0 0), .int (fd0 1), .int (fd0 2), .int (fd0 3), .int (fd0 4), .int (fd0 5), .int (fd0 6)]))]) rfl rfl rfl rfl (by decide) (k_X1_out l D g H.size L0a fa0) (cwV 0 hts gX3_lacksCredit_X1_out rfl rfl rfl (by decide +kernel) ⟨(Nat.le_of_ble_eq_true rfl), (Nat.le_of_ble_eq_true rfl)⟩) 5 1 rfl rfl rfl rfl hl.1 rfl (Nat.le_of_ble_eq_true rfl) dX3_lacksCredit_24 ⟨(Nat.le_of_ble_eq_true rfl), (Nat.le_of_ble_eq_true rfl)⟩ (fun r_4 u H locs hw hP2 hD2 hS2 => ?_)
      clear hP hD hS
      obtain ⟨zr_5, rfl, rfl, hf_6⟩ := hw
      have hPD : PD D A [(Nn, .inr (3, [.int (fn 0), .int (fn 1), .int (fn 2), .int (fn 3), .int (fn 4), .int (fn 5), .int (fn 6), .int (fn 7), .ref Nl, .ref Nf, .ref Nb])), (Nl, .inl (g 1, 3, .inr (.inr (.inr (.inr (rf3 L0 M1 M2)))))), (Nb, .inl (g 0, 12, .inl fbuf)), (L0, .inr (2, [.int (nI d0), .int (fk0 1), .int (fk0 2), .int (fv0 3), .int (fv0 4), .int (fv0 5), .ref L0c, .ref L0u, .ref L0p, .ref L0l])), (L0l, .inl (g 2, 3, .inr (.inr (.inr (.inr (rf3 L0a L0b L0d)))))), (L0b, .inr (1, [.int (fb0 0), .int (fb0 1), .int (fb0 2), .int (fb0 3), .int (fb0 4), .int (fb0 5), .int (fb0 6)])), (L0d, .inr (1, [.int (fd0 0), .int (fd0 1), .int (fd0 2), .int (fd0 3), .int (fd0 4), .int (fd0 5), .int (fd0 6)])), (L0a, .inr (1, [.int (fa0 0), .int (fa0 1), .int (fa0 2), .int (fa0 3), .int (fa0 4), .int (fa0 5), .int (fa0 6)]))] H := ⟨hP2, hD2⟩
      have hS := hS2; clear hP2 hD2 hS2; have hP := hPD.1; have hD := hPD.2; clear hPD
      refine W.widen (k := 0) (n := 0) (Nat.le_of_ble_eq_true rfl) (Nat.le_of_ble_eq_true rfl) ?_
      refine lv_aload_n hx hb dX3_lacksCredit_27 rfl (lv_at hl 0 rfl) ?_
      refine va_get (D := D) (ci := 3) (v := .ref Nl) (C := RX3) (T := TX3) (N := 11) hx hb hts iX3 hown hK hP 0 rfl rfl 8 (by decide) f11 (fun _ h9 => h9) rfl dX3_lacksCredit_28 ?_
      refine lv_iload_n hx hb dX3_lacksCredit_31 rfl (lv_at hl 1 rfl) ?_
      refine va_aldq (C := "HopCredits$Link") hx hb hK hP 1 1 rfl rfl (by unfold vp_in; decide) dX3_lacksCredit_32 ?_
      refine lv_eqv (v2 := .ref L0) rfl ?_
      refine va_get (D := D) (ci := 2) (v := .ref L0l) (C := RX2) (T := TX2) (N := 10) hx hb hts iX2 hown hK hP 3 rfl rfl 9 (by decide) f128 (fun _ h9 => h9) rfl dX3_lacksCredit_33 ?_
      refine lv_iload_n hx hb dX3_lacksCredit_36 rfl (lv_at hl 2 rfl) ?_
      refine va_aldq (C := "HopCredits$Lane") hx hb hK hP 4 2 rfl rfl (by unfold vp_in; decide) dX3_lacksCredit_37 ?_
      refine lv_eqv (v2 := .ref L0a) rfl ?_
      refine va_get (D := D) (ci := 1) (v := .int (fa0 3)) (C := RX1) (T := TX1) (N := 7) hx hb hts iX1 hown hK hP 7 rfl rfl 3 (by decide) f195 (fun _ h9 => h9) rfl dX3_lacksCredit_38 ?_
      refine lv_icmp_lt (tgt := 48) hx hb dX3_lacksCredit_41 (by decide) (fun cb_7 => ?_) (fun cb_7 => ?_)
      · skip
        refine lv_iconst (v := 0) hx hb dX3_lacksCredit_48 (by decide) ?_
        have hPD9 : PD D A [(Nn, .inr (3, [.int (fn 0), .int (fn 1), .int (fn 2), .int (fn 3), .int (fn 4), .int (fn 5), .int (fn 6), .int (fn 7), .ref Nl, .ref Nf, .ref Nb])), (Nl, .inl (g 1, 3, .inr (.inr (.inr (.inr (rf3 L0 M1 M2)))))), (Nb, .inl (g 0, 12, .inl fbuf)), (L0, .inr (2, [.int (nI d0), .int (fk0 1), .int (fk0 2), .int (fv0 3), .int (fv0 4), .int (fv0 5), .ref L0c, .ref L0u, .ref L0p, .ref L0l])), (L0l, .inl (g 2, 3, .inr (.inr (.inr (.inr (rf3 L0a L0b L0d)))))), (L0a, .inr (1, [.int (fa0 0), .int (fa0 1), .int (fa0 2), .int (fa0 3), .int (fa0 4), .int (fa0 5), .int (fa0 6)])), (L0b, .inr (1, [.int (fb0 0), .int (fb0 1), .int (fb0 2), .int (fb0 3), .int (fb0 4), .int (fb0 5), .int (fb0 6)])), (L0d, .inr (1, [.int (fd0 0), .int (fd0 1), .int (fd0 2), .int (fd0 3), .int (fd0 4), .int (fd0 5), .int (fd0 6)]))] H := ⟨hP.sub [0, 1, 2, 3, 4, 7, 5, 6] rfl, hD.sub [0, 1, 2, 3, 4, 7, 5, 6] (by decide) rfl⟩
        have hP9 := hPD9.1; have hD9 := hPD9.2
        subst hQ
        refine W.widen (k := 0) (n := 0) (Nat.le_of_ble_eq_true rfl) (Nat.le_of_ble_eq_true rfl) ?_
        exact W.zret (v := 0) (ty := .boolean) hx hb hr (rfl) (fun tS htS _ => ⟨⟨_, _, rfl, rfl, by rw [htS]; exact hP9, hD9⟩, hS.F htS⟩) hS.2.2 dX3_lacksCredit_49
      · skip
        refine lv_iconst (v := 1) hx hb dX3_lacksCredit_44 (by decide) ?_
        refine lv_goto (tgt := 49) hx hb dX3_lacksCredit_45 (by decide) ?_
        have hPD9 : PD D A [(Nn, .inr (3, [.int (fn 0), .int (fn 1), .int (fn 2), .int (fn 3), .int (fn 4), .int (fn 5), .int (fn 6), .int (fn 7), .ref Nl, .ref Nf, .ref Nb])), (Nl, .inl (g 1, 3, .inr (.inr (.inr (.inr (rf3 L0 M1 M2)))))), (Nb, .inl (g 0, 12, .inl fbuf)), (L0, .inr (2, [.int (nI d0), .int (fk0 1), .int (fk0 2), .int (fv0 3), .int (fv0 4), .int (fv0 5), .ref L0c, .ref L0u, .ref L0p, .ref L0l])), (L0l, .inl (g 2, 3, .inr (.inr (.inr (.inr (rf3 L0a L0b L0d)))))), (L0a, .inr (1, [.int (fa0 0), .int (fa0 1), .int (fa0 2), .int (fa0 3), .int (fa0 4), .int (fa0 5), .int (fa0 6)])), (L0b, .inr (1, [.int (fb0 0), .int (fb0 1), .int (fb0 2), .int (fb0 3), .int (fb0 4), .int (fb0 5), .int (fb0 6)])), (L0d, .inr (1, [.int (fd0 0), .int (fd0 1), .int (fd0 2), .int (fd0 3), .int (fd0 4), .int (fd0 5), .int (fd0 6)]))] H := ⟨hP.sub [0, 1, 2, 3, 4, 7, 5, 6] rfl, hD.sub [0, 1, 2, 3, 4, 7, 5, 6] (by decide) rfl⟩
        have hP9 := hPD9.1; have hD9 := hPD9.2
        subst hQ
        refine W.widen (k := 0) (n := 0) (Nat.le_of_ble_eq_true rfl) (Nat.le_of_ble_eq_true rfl) ?_
        exact W.zret (v := 1) (ty := .boolean) hx hb hr (rfl) (fun tS htS _ => ⟨⟨_, _, rfl, rfl, by rw [htS]; exact hP9, hD9⟩, hS.F htS⟩) hS.2.2 dX3_lacksCredit_49
    · skip
      have hP := hPq_3; have hD := hDq_3; have hS := hSq_3; have hl := hlq_3; clear hPq_3 hDq_3 hSq_3 hlq_3
      refine va_aldq (C := "HopCredits$Lane") hx hb hK hP 4 2 rfl rfl (by unfold vp_in; decide) dX3_lacksCredit_23 ?_
      refine lv_eqv (v2 := .ref L0b) rfl ?_
      refine ky_Vi (As := []) (rest := []) ⟨hx, hb, hml, hown, hts⟩ ⟨hK, hN⟩ hZ hP hD hS hA [6] [0, 1, 2, 3, 4, 5, 7] (wc := [(L0b, .inr (1, [.int (fb0 0), .int (fb0 1), .int (fb0 2), .int (fb0 3), .int (fb0 4), .int (fb0 5), .int (fb0 6)]))]) (wr := [(Nn, .inr (3, [.int (fn 0), .int (fn 1), .int (fn 2), .int (fn 3), .int (fn 4), .int (fn 5), .int (fn 6), .int (fn 7), .ref Nl, .ref Nf, .ref Nb])), (Nl, .inl (g 1, 3, .inr (.inr (.inr (.inr (rf3 L0 M1 M2)))))), (Nb, .inl (g 0, 12, .inl fbuf)), (L0, .inr (2, [.int (nI d0), .int (fk0 1), .int (fk0 2), .int (fv0 3), .int (fv0 4), .int (fv0 5), .ref L0c, .ref L0u, .ref L0p, .ref L0l])), (L0l, .inl (g 2, 3, .inr (.inr (.inr (.inr (rf3 L0a L0b L0d)))))), (L0a, .inr (1, [.int (fa0 0), .int (fa0 1), .int (fa0 2), .int (fa0 3), .int (fa0 4), .int (fa0 5), .int (fa0 6)])), (L0d, .inr (1, [.int (fd0 0), .int (fd0 1), .int (fd0 2), .int (fd0 3), .int (fd0 4), .int (fd0 5), .int (fd0 6)]))]) rfl rfl rfl rfl (by decide) (k_X1_out l D g H.size L0b fb0) (cwV 0 hts gX3_lacksCredit_X1_out rfl rfl rfl (by decide +kernel) ⟨(Nat.le_of_ble_eq_true rfl), (Nat.le_of_ble_eq_true rfl)⟩) 6 1 rfl rfl rfl rfl hl.1 rfl (Nat.le_of_ble_eq_true rfl) dX3_lacksCredit_24 ⟨(Nat.le_of_ble_eq_true rfl), (Nat.le_of_ble_eq_true rfl)⟩ (fun r_8 u H locs hw hP2 hD2 hS2 => ?_)
      clear hP hD hS
      obtain ⟨zr_9, rfl, rfl, hf_10⟩ := hw
      have hPD : PD D A [(Nn, .inr (3, [.int (fn 0), .int (fn 1), .int (fn 2), .int (fn 3), .int (fn 4), .int (fn 5), .int (fn 6), .int (fn 7), .ref Nl, .ref Nf, .ref Nb])), (Nl, .inl (g 1, 3, .inr (.inr (.inr (.inr (rf3 L0 M1 M2)))))), (Nb, .inl (g 0, 12, .inl fbuf)), (L0, .inr (2, [.int (nI d0), .int (fk0 1), .int (fk0 2), .int (fv0 3), .int (fv0 4), .int (fv0 5), .ref L0c, .ref L0u, .ref L0p, .ref L0l])), (L0l, .inl (g 2, 3, .inr (.inr (.inr (.inr (rf3 L0a L0b L0d)))))), (L0a, .inr (1, [.int (fa0 0), .int (fa0 1), .int (fa0 2), .int (fa0 3), .int (fa0 4), .int (fa0 5), .int (fa0 6)])), (L0d, .inr (1, [.int (fd0 0), .int (fd0 1), .int (fd0 2), .int (fd0 3), .int (fd0 4), .int (fd0 5), .int (fd0 6)])), (L0b, .inr (1, [.int (fb0 0), .int (fb0 1), .int (fb0 2), .int (fb0 3), .int (fb0 4), .int (fb0 5), .int (fb0 6)]))] H := ⟨hP2, hD2⟩
      have hS := hS2; clear hP2 hD2 hS2; have hP := hPD.1; have hD := hPD.2; clear hPD
      refine W.widen (k := 0) (n := 0) (Nat.le_of_ble_eq_true rfl) (Nat.le_of_ble_eq_true rfl) ?_
      refine lv_aload_n hx hb dX3_lacksCredit_27 rfl (lv_at hl 0 rfl) ?_
      refine va_get (D := D) (ci := 3) (v := .ref Nl) (C := RX3) (T := TX3) (N := 11) hx hb hts iX3 hown hK hP 0 rfl rfl 8 (by decide) f11 (fun _ h9 => h9) rfl dX3_lacksCredit_28 ?_
      refine lv_iload_n hx hb dX3_lacksCredit_31 rfl (lv_at hl 1 rfl) ?_
      refine va_aldq (C := "HopCredits$Link") hx hb hK hP 1 1 rfl rfl (by unfold vp_in; decide) dX3_lacksCredit_32 ?_
      refine lv_eqv (v2 := .ref L0) rfl ?_
      refine va_get (D := D) (ci := 2) (v := .ref L0l) (C := RX2) (T := TX2) (N := 10) hx hb hts iX2 hown hK hP 3 rfl rfl 9 (by decide) f128 (fun _ h9 => h9) rfl dX3_lacksCredit_33 ?_
      refine lv_iload_n hx hb dX3_lacksCredit_36 rfl (lv_at hl 2 rfl) ?_
      refine va_aldq (C := "HopCredits$Lane") hx hb hK hP 4 2 rfl rfl (by unfold vp_in; decide) dX3_lacksCredit_37 ?_
      refine lv_eqv (v2 := .ref L0b) rfl ?_
      refine va_get (D := D) (ci := 1) (v := .int (fb0 3)) (C := RX1) (T := TX1) (N := 7) hx hb hts iX1 hown hK hP 7 rfl rfl 3 (by decide) f195 (fun _ h9 => h9) rfl dX3_lacksCredit_38 ?_
      refine lv_icmp_lt (tgt := 48) hx hb dX3_lacksCredit_41 (by decide) (fun cb_11 => ?_) (fun cb_11 => ?_)
      · skip
        refine lv_iconst (v := 0) hx hb dX3_lacksCredit_48 (by decide) ?_
        have hPD9 : PD D A [(Nn, .inr (3, [.int (fn 0), .int (fn 1), .int (fn 2), .int (fn 3), .int (fn 4), .int (fn 5), .int (fn 6), .int (fn 7), .ref Nl, .ref Nf, .ref Nb])), (Nl, .inl (g 1, 3, .inr (.inr (.inr (.inr (rf3 L0 M1 M2)))))), (Nb, .inl (g 0, 12, .inl fbuf)), (L0, .inr (2, [.int (nI d0), .int (fk0 1), .int (fk0 2), .int (fv0 3), .int (fv0 4), .int (fv0 5), .ref L0c, .ref L0u, .ref L0p, .ref L0l])), (L0l, .inl (g 2, 3, .inr (.inr (.inr (.inr (rf3 L0a L0b L0d)))))), (L0a, .inr (1, [.int (fa0 0), .int (fa0 1), .int (fa0 2), .int (fa0 3), .int (fa0 4), .int (fa0 5), .int (fa0 6)])), (L0b, .inr (1, [.int (fb0 0), .int (fb0 1), .int (fb0 2), .int (fb0 3), .int (fb0 4), .int (fb0 5), .int (fb0 6)])), (L0d, .inr (1, [.int (fd0 0), .int (fd0 1), .int (fd0 2), .int (fd0 3), .int (fd0 4), .int (fd0 5), .int (fd0 6)]))] H := ⟨hP.sub [0, 1, 2, 3, 4, 5, 7, 6] rfl, hD.sub [0, 1, 2, 3, 4, 5, 7, 6] (by decide) rfl⟩
        have hP9 := hPD9.1; have hD9 := hPD9.2
        subst hQ
        refine W.widen (k := 0) (n := 0) (Nat.le_of_ble_eq_true rfl) (Nat.le_of_ble_eq_true rfl) ?_
        exact W.zret (v := 0) (ty := .boolean) hx hb hr (rfl) (fun tS htS _ => ⟨⟨_, _, rfl, rfl, by rw [htS]; exact hP9, hD9⟩, hS.F htS⟩) hS.2.2 dX3_lacksCredit_49
      · skip
        refine lv_iconst (v := 1) hx hb dX3_lacksCredit_44 (by decide) ?_
        refine lv_goto (tgt := 49) hx hb dX3_lacksCredit_45 (by decide) ?_
        have hPD9 : PD D A [(Nn, .inr (3, [.int (fn 0), .int (fn 1), .int (fn 2), .int (fn 3), .int (fn 4), .int (fn 5), .int (fn 6), .int (fn 7), .ref Nl, .ref Nf, .ref Nb])), (Nl, .inl (g 1, 3, .inr (.inr (.inr (.inr (rf3 L0 M1 M2)))))), (Nb, .inl (g 0, 12, .inl fbuf)), (L0, .inr (2, [.int (nI d0), .int (fk0 1), .int (fk0 2), .int (fv0 3), .int (fv0 4), .int (fv0 5), .ref L0c, .ref L0u, .ref L0p, .ref L0l])), (L0l, .inl (g 2, 3, .inr (.inr (.inr (.inr (rf3 L0a L0b L0d)))))), (L0a, .inr (1, [.int (fa0 0), .int (fa0 1), .int (fa0 2), .int (fa0 3), .int (fa0 4), .int (fa0 5), .int (fa0 6)])), (L0b, .inr (1, [.int (fb0 0), .int (fb0 1), .int (fb0 2), .int (fb0 3), .int (fb0 4), .int (fb0 5), .int (fb0 6)])), (L0d, .inr (1, [.int (fd0 0), .int (fd0 1), .int (fd0 2), .int (fd0 3), .int (fd0 4), .int (fd0 5), .int (fd0 6)]))] H := ⟨hP.sub [0, 1, 2, 3, 4, 5, 7, 6] rfl, hD.sub [0, 1, 2, 3, 4, 5, 7, 6] (by decide) rfl⟩
        have hP9 := hPD9.1; have hD9 := hPD9.2
        subst hQ
        refine W.widen (k := 0) (n := 0) (Nat.le_of_ble_eq_true rfl) (Nat.le_of_ble_eq_true rfl) ?_
        exact W.zret (v := 1) (ty := .boolean) hx hb hr (rfl) (fun tS htS _ => ⟨⟨_, _, rfl, rfl, by rw [htS]; exact hP9, hD9⟩, hS.F htS⟩) hS.2.2 dX3_lacksCredit_49
    · skip
      have hP := hPq_3; have hD := hDq_3; have hS := hSq_3; have hl := hlq_3; clear hPq_3 hDq_3 hSq_3 hlq_3
      refine va_aldq (C := "HopCredits$Lane") hx hb hK hP 4 2 rfl rfl (by unfold vp_in; decide) dX3_lacksCredit_23 ?_
      refine lv_eqv (v2 := .ref L0d) rfl ?_
      refine ky_Vi (As := []) (rest := []) ⟨hx, hb, hml, hown, hts⟩ ⟨hK, hN⟩ hZ hP hD hS hA [7] [0, 1, 2, 3, 4, 5, 6] (wc := [(L0d, .inr (1, [.int (fd0 0), .int (fd0 1), .int (fd0 2), .int (fd0 3), .int (fd0 4), .int (fd0 5), .int (fd0 6)]))]) (wr := [(Nn, .inr (3, [.int (fn 0), .int (fn 1), .int (fn 2), .int (fn 3), .int (fn 4), .int (fn 5), .int (fn 6), .int (fn 7), .ref Nl, .ref Nf, .ref Nb])), (Nl, .inl (g 1, 3, .inr (.inr (.inr (.inr (rf3 L0 M1 M2)))))), (Nb, .inl (g 0, 12, .inl fbuf)), (L0, .inr (2, [.int (nI d0), .int (fk0 1), .int (fk0 2), .int (fv0 3), .int (fv0 4), .int (fv0 5), .ref L0c, .ref L0u, .ref L0p, .ref L0l])), (L0l, .inl (g 2, 3, .inr (.inr (.inr (.inr (rf3 L0a L0b L0d)))))), (L0a, .inr (1, [.int (fa0 0), .int (fa0 1), .int (fa0 2), .int (fa0 3), .int (fa0 4), .int (fa0 5), .int (fa0 6)])), (L0b, .inr (1, [.int (fb0 0), .int (fb0 1), .int (fb0 2), .int (fb0 3), .int (fb0 4), .int (fb0 5), .int (fb0 6)]))]) rfl rfl rfl rfl (by decide) (k_X1_out l D g H.size L0d fd0) (cwV 0 hts gX3_lacksCredit_X1_out rfl rfl rfl (by decide +kernel) ⟨(Nat.le_of_ble_eq_true rfl), (Nat.le_of_ble_eq_true rfl)⟩) 7 1 rfl rfl rfl rfl hl.1 rfl (Nat.le_of_ble_eq_true rfl) dX3_lacksCredit_24 ⟨(Nat.le_of_ble_eq_true rfl), (Nat.le_of_ble_eq_true rfl)⟩ (fun r_12 u H locs hw hP2 hD2 hS2 => ?_)
      clear hP hD hS
      obtain ⟨zr_13, rfl, rfl, hf_14⟩ := hw
      have hPD : PD D A [(Nn, .inr (3, [.int (fn 0), .int (fn 1), .int (fn 2), .int (fn 3), .int (fn 4), .int (fn 5), .int (fn 6), .int (fn 7), .ref Nl, .ref Nf, .ref Nb])), (Nl, .inl (g 1, 3, .inr (.inr (.inr (.inr (rf3 L0 M1 M2)))))), (Nb, .inl (g 0, 12, .inl fbuf)), (L0, .inr (2, [.int (nI d0), .int (fk0 1), .int (fk0 2), .int (fv0 3), .int (fv0 4), .int (fv0 5), .ref L0c, .ref L0u, .ref L0p, .ref L0l])), (L0l, .inl (g 2, 3, .inr (.inr (.inr (.inr (rf3 L0a L0b L0d)))))), (L0a, .inr (1, [.int (fa0 0), .int (fa0 1), .int (fa0 2), .int (fa0 3), .int (fa0 4), .int (fa0 5), .int (fa0 6)])), (L0b, .inr (1, [.int (fb0 0), .int (fb0 1), .int (fb0 2), .int (fb0 3), .int (fb0 4), .int (fb0 5), .int (fb0 6)])), (L0d, .inr (1, [.int (fd0 0), .int (fd0 1), .int (fd0 2), .int (fd0 3), .int (fd0 4), .int (fd0 5), .int (fd0 6)]))] H := ⟨hP2, hD2⟩
      have hS := hS2; clear hP2 hD2 hS2; have hP := hPD.1; have hD := hPD.2; clear hPD
      refine W.widen (k := 0) (n := 0) (Nat.le_of_ble_eq_true rfl) (Nat.le_of_ble_eq_true rfl) ?_
      refine lv_aload_n hx hb dX3_lacksCredit_27 rfl (lv_at hl 0 rfl) ?_
      refine va_get (D := D) (ci := 3) (v := .ref Nl) (C := RX3) (T := TX3) (N := 11) hx hb hts iX3 hown hK hP 0 rfl rfl 8 (by decide) f11 (fun _ h9 => h9) rfl dX3_lacksCredit_28 ?_
      refine lv_iload_n hx hb dX3_lacksCredit_31 rfl (lv_at hl 1 rfl) ?_
      refine va_aldq (C := "HopCredits$Link") hx hb hK hP 1 1 rfl rfl (by unfold vp_in; decide) dX3_lacksCredit_32 ?_
      refine lv_eqv (v2 := .ref L0) rfl ?_
      refine va_get (D := D) (ci := 2) (v := .ref L0l) (C := RX2) (T := TX2) (N := 10) hx hb hts iX2 hown hK hP 3 rfl rfl 9 (by decide) f128 (fun _ h9 => h9) rfl dX3_lacksCredit_33 ?_
      refine lv_iload_n hx hb dX3_lacksCredit_36 rfl (lv_at hl 2 rfl) ?_
      refine va_aldq (C := "HopCredits$Lane") hx hb hK hP 4 2 rfl rfl (by unfold vp_in; decide) dX3_lacksCredit_37 ?_
      refine lv_eqv (v2 := .ref L0d) rfl ?_
      refine va_get (D := D) (ci := 1) (v := .int (fd0 3)) (C := RX1) (T := TX1) (N := 7) hx hb hts iX1 hown hK hP 7 rfl rfl 3 (by decide) f195 (fun _ h9 => h9) rfl dX3_lacksCredit_38 ?_
      refine lv_icmp_lt (tgt := 48) hx hb dX3_lacksCredit_41 (by decide) (fun cb_15 => ?_) (fun cb_15 => ?_)
      · skip
        refine lv_iconst (v := 0) hx hb dX3_lacksCredit_48 (by decide) ?_
        have hP9 := hP; have hD9 := hD
        subst hQ
        refine W.widen (k := 0) (n := 0) (Nat.le_of_ble_eq_true rfl) (Nat.le_of_ble_eq_true rfl) ?_
        exact W.zret (v := 0) (ty := .boolean) hx hb hr (rfl) (fun tS htS _ => ⟨⟨_, _, rfl, rfl, by rw [htS]; exact hP9, hD9⟩, hS.F htS⟩) hS.2.2 dX3_lacksCredit_49
      · skip
        refine lv_iconst (v := 1) hx hb dX3_lacksCredit_44 (by decide) ?_
        refine lv_goto (tgt := 49) hx hb dX3_lacksCredit_45 (by decide) ?_
        have hP9 := hP; have hD9 := hD
        subst hQ
        refine W.widen (k := 0) (n := 0) (Nat.le_of_ble_eq_true rfl) (Nat.le_of_ble_eq_true rfl) ?_
        exact W.zret (v := 1) (ty := .boolean) hx hb hr (rfl) (fun tS htS _ => ⟨⟨_, _, rfl, rfl, by rw [htS]; exact hP9, hD9⟩, hS.F htS⟩) hS.2.2 dX3_lacksCredit_49

set_option maxHeartbeats 4000000 in
set_option maxRecDepth 100000 in
theorem k_X3_lacksCredit_1 (l : Launch) (D : va_G) (g : Nat → ClassId) (sz : Nat) (Nn : Nat) (cx : Nat) (fn : Nat → Int32) (Nl : Nat) (Nf : Nat) (Nb : Nat) (M0 : Nat) (L0 : Nat) (M2 : Nat) (fbuf : Nat → Int32) (d0 : Nat) (fk0 : Nat → Int32) (fv0 : Nat → Int32) (L0c : Nat) (L0u : Nat) (L0p : Nat) (L0l : Nat) (L0a : Nat) (L0b : Nat) (L0d : Nat) (fa0 : Nat → Int32) (fb0 : Nat → Int32) (fd0 : Nat → Int32) (h0 : cx < 3) : Met l yX3_lacksCredit wsX3_lacksCredit ({ frames := 1, cells := 0, slots := 0, locals := 20 }) (va_Pc [.ref Nn, .int 1, .int (nI cx)] (pre D g sz [(Nn, .inr (3, [.int (fn 0), .int (fn 1), .int (fn 2), .int (fn 3), .int (fn 4), .int (fn 5), .int (fn 6), .int (fn 7), .ref Nl, .ref Nf, .ref Nb])), (Nl, .inl (g 1, 3, .inr (.inr (.inr (.inr (rf3 M0 L0 M2)))))), (Nb, .inl (g 0, 12, .inl fbuf)), (L0, .inr (2, [.int (nI d0), .int (fk0 1), .int (fk0 2), .int (fv0 3), .int (fv0 4), .int (fv0 5), .ref L0c, .ref L0u, .ref L0p, .ref L0l])), (L0l, .inl (g 2, 3, .inr (.inr (.inr (.inr (rf3 L0a L0b L0d)))))), (L0a, .inr (1, [.int (fa0 0), .int (fa0 1), .int (fa0 2), .int (fa0 3), .int (fa0 4), .int (fa0 5), .int (fa0 6)])), (L0b, .inr (1, [.int (fb0 0), .int (fb0 1), .int (fb0 2), .int (fb0 3), .int (fb0 4), .int (fb0 5), .int (fb0 6)])), (L0d, .inr (1, [.int (fd0 0), .int (fd0 1), .int (fd0 2), .int (fd0 3), .int (fd0 4), .int (fd0 5), .int (fd0 6)]))])) (va_Qi (fun (r : Int32) (u : va_W) => u = [(Nn, .inr (3, [.int (fn 0), .int (fn 1), .int (fn 2), .int (fn 3), .int (fn 4), .int (fn 5), .int (fn 6), .int (fn 7), .ref Nl, .ref Nf, .ref Nb])), (Nl, .inl (g 1, 3, .inr (.inr (.inr (.inr (rf3 M0 L0 M2)))))), (Nb, .inl (g 0, 12, .inl fbuf)), (L0, .inr (2, [.int (nI d0), .int (fk0 1), .int (fk0 2), .int (fv0 3), .int (fv0 4), .int (fv0 5), .ref L0c, .ref L0u, .ref L0p, .ref L0l])), (L0l, .inl (g 2, 3, .inr (.inr (.inr (.inr (rf3 L0a L0b L0d)))))), (L0a, .inr (1, [.int (fa0 0), .int (fa0 1), .int (fa0 2), .int (fa0 3), .int (fa0 4), .int (fa0 5), .int (fa0 6)])), (L0b, .inr (1, [.int (fb0 0), .int (fb0 1), .int (fb0 2), .int (fb0 3), .int (fb0 4), .int (fb0 5), .int (fb0 6)])), (L0d, .inr (1, [.int (fd0 0), .int (fd0 1), .int (fd0 2), .int (fd0 3), .int (fd0 4), .int (fd0 5), .int (fd0 6)]))]) (wd D (va_A [(Nn, .inr (3, [.int (fn 0), .int (fn 1), .int (fn 2), .int (fn 3), .int (fn 4), .int (fn 5), .int (fn 6), .int (fn 7), .ref Nl, .ref Nf, .ref Nb])), (Nl, .inl (g 1, 3, .inr (.inr (.inr (.inr (rf3 M0 L0 M2)))))), (Nb, .inl (g 0, 12, .inl fbuf)), (L0, .inr (2, [.int (nI d0), .int (fk0 1), .int (fk0 2), .int (fv0 3), .int (fv0 4), .int (fv0 5), .ref L0c, .ref L0u, .ref L0p, .ref L0l])), (L0l, .inl (g 2, 3, .inr (.inr (.inr (.inr (rf3 L0a L0b L0d)))))), (L0a, .inr (1, [.int (fa0 0), .int (fa0 1), .int (fa0 2), .int (fa0 3), .int (fa0 4), .int (fa0 5), .int (fa0 6)])), (L0b, .inr (1, [.int (fb0 0), .int (fb0 1), .int (fb0 2), .int (fb0 3), .int (fb0 4), .int (fb0 5), .int (fb0 6)])), (L0d, .inr (1, [.int (fd0 0), .int (fd0 1), .int (fd0 2), .int (fd0 3), .int (fd0 4), .int (fd0 5), .int (fd0 6)]))] sz)) (va_A [(Nn, .inr (3, [.int (fn 0), .int (fn 1), .int (fn 2), .int (fn 3), .int (fn 4), .int (fn 5), .int (fn 6), .int (fn 7), .ref Nl, .ref Nf, .ref Nb])), (Nl, .inl (g 1, 3, .inr (.inr (.inr (.inr (rf3 M0 L0 M2)))))), (Nb, .inl (g 0, 12, .inl fbuf)), (L0, .inr (2, [.int (nI d0), .int (fk0 1), .int (fk0 2), .int (fv0 3), .int (fv0 4), .int (fv0 5), .ref L0c, .ref L0u, .ref L0p, .ref L0l])), (L0l, .inl (g 2, 3, .inr (.inr (.inr (.inr (rf3 L0a L0b L0d)))))), (L0a, .inr (1, [.int (fa0 0), .int (fa0 1), .int (fa0 2), .int (fa0 3), .int (fa0 4), .int (fa0 5), .int (fa0 6)])), (L0b, .inr (1, [.int (fb0 0), .int (fb0 1), .int (fb0 2), .int (fb0 3), .int (fb0 4), .int (fb0 5), .int (fb0 6)])), (L0d, .inr (1, [.int (fd0 0), .int (fd0 1), .int (fd0 2), .int (fd0 3), .int (fd0 4), .int (fd0 5), .int (fd0 6)]))] sz)) 0 0 (va_A [(Nn, .inr (3, [.int (fn 0), .int (fn 1), .int (fn 2), .int (fn 3), .int (fn 4), .int (fn 5), .int (fn 6), .int (fn 7), .ref Nl, .ref Nf, .ref Nb])), (Nl, .inl (g 1, 3, .inr (.inr (.inr (.inr (rf3 M0 L0 M2)))))), (Nb, .inl (g 0, 12, .inl fbuf)), (L0, .inr (2, [.int (nI d0), .int (fk0 1), .int (fk0 2), .int (fv0 3), .int (fv0 4), .int (fv0 5), .ref L0c, .ref L0u, .ref L0p, .ref L0l])), (L0l, .inl (g 2, 3, .inr (.inr (.inr (.inr (rf3 L0a L0b L0d)))))), (L0a, .inr (1, [.int (fa0 0), .int (fa0 1), .int (fa0 2), .int (fa0 3), .int (fa0 4), .int (fa0 5), .int (fa0 6)])), (L0b, .inr (1, [.int (fb0 0), .int (fb0 1), .int (fb0 2), .int (fb0 3), .int (fb0 4), .int (fb0 5), .int (fb0 6)])), (L0d, .inr (1, [.int (fd0 0), .int (fd0 1), .int (fd0 2), .int (fd0 3), .int (fd0 4), .int (fd0 5), .int (fd0 6)]))] sz) := by
  refine Met.ofW (cc := cX3_lacksCredit) (maxL := 3) (ret := (some .boolean)) (by decide) rfl ?_
  intro p e s m args below meth c s₁ B hml hv
  obtain ⟨rfl, hsz, hP, ⟨hK, hN⟩, hD0, hZ⟩ := hv
  have hx := B.exec
  have hb := B.bytes
  have hr := B.returns
  have hts := atoms_spec (ws := wsX3_lacksCredit) B.pre
  have hown : s.vm.findClass RX3 = some m.cls := findClass_of_methodNamed B.named
  have hlocks := B.notSynchronized
  clear B
  subst hsz
  have hD := hD0.self (sz := s.heap.size)
  clear hD0
  generalize hAe : va_A [(Nn, .inr (3, [.int (fn 0), .int (fn 1), .int (fn 2), .int (fn 3), .int (fn 4), .int (fn 5), .int (fn 6), .int (fn 7), .ref Nl, .ref Nf, .ref Nb])), (Nl, .inl (g 1, 3, .inr (.inr (.inr (.inr (rf3 M0 L0 M2)))))), (Nb, .inl (g 0, 12, .inl fbuf)), (L0, .inr (2, [.int (nI d0), .int (fk0 1), .int (fk0 2), .int (fv0 3), .int (fv0 4), .int (fv0 5), .ref L0c, .ref L0u, .ref L0p, .ref L0l])), (L0l, .inl (g 2, 3, .inr (.inr (.inr (.inr (rf3 L0a L0b L0d)))))), (L0a, .inr (1, [.int (fa0 0), .int (fa0 1), .int (fa0 2), .int (fa0 3), .int (fa0 4), .int (fa0 5), .int (fa0 6)])), (L0b, .inr (1, [.int (fb0 0), .int (fb0 1), .int (fb0 2), .int (fb0 3), .int (fb0 4), .int (fb0 5), .int (fb0 6)])), (L0d, .inr (1, [.int (fd0 0), .int (fd0 1), .int (fd0 2), .int (fd0 3), .int (fd0 4), .int (fd0 5), .int (fd0 6)]))] s.heap.size = A at hD hZ ⊢
  have hA : ∀ q : Nat, s.heap.size ≤ q → A q := fun q h => by rw [← hAe]; exact Or.inr h
  have hS : va_S A s.heap s.heap [] := va_S.rf
  have f11 := hts (.fieldLink RX3 11 "HopCredits$Net" "links" "[LHopCredits$Link;") (by decide +kernel)
  have f128 := hts (.fieldLink RX3 128 "HopCredits$Link" "lanes" "[LHopCredits$Lane;") (by decide +kernel)
  have f195 := hts (.fieldLink RX3 195 "HopCredits$Lane" "zone" "I") (by decide +kernel)
  have f23 := hts (.fieldLink RX3 23 "HopCredits$Net" "buffers" "[I") (by decide +kernel)
  have iX1 : ∀ w ∈ u_ws RX1 TX1 7, w ∈ wsX3_lacksCredit := by decide +kernel
  have iX2 : ∀ w ∈ u_ws RX2 TX2 10, w ∈ wsX3_lacksCredit := by decide +kernel
  have iX3 : ∀ w ∈ u_ws RX3 TX3 11, w ∈ wsX3_lacksCredit := by decide +kernel
  have hl := lv_entry ([.ref Nn, .int 1, .int (nI cx)]) (n := 3) (Nat.le_of_ble_eq_true rfl)
  rw [lg_entry_eq]
  generalize (lg_sl ([.ref Nn, .int 1, .int (nI cx)]) ++ List.replicate (3 - (lg_sl ([.ref Nn, .int 1, .int (nI cx)])).length) Slot.unset).toArray = ls at hl ⊢
  have hl : lv_has ls 3 [(0, .ref Nn), (1, .int 1), (2, .int (nI cx))] := hl
  generalize hQ : MQ below _ _ s _ _ _ = Q
  generalize hH : s.heap = H at hP ⊢
  have hS : va_S A s.heap H [] := by rw [← hH]; exact hS
  clear hH
  refine lv_aload_n hx hb dX3_lacksCredit_0 rfl (lv_at hl 0 rfl) ?_
  refine va_get (D := D) (ci := 3) (v := .ref Nb) (C := RX3) (T := TX3) (N := 11) hx hb hts iX3 hown hK hP 0 rfl rfl 10 (by decide) f23 (fun _ h9 => h9) rfl dX3_lacksCredit_1 ?_
  refine lv_iload_n hx hb dX3_lacksCredit_4 rfl (lv_at hl 1 rfl) ?_
  refine lv_iconst (v := 3) hx hb dX3_lacksCredit_5 (by decide) ?_
  refine lv_imul hx hb dX3_lacksCredit_6 ?_
  refine lv_eqi (y := 3) (by decide) ?_
  refine lv_iload_n hx hb dX3_lacksCredit_7 rfl (lv_at hl 2 rfl) ?_
  refine lv_iadd hx hb dX3_lacksCredit_8 ?_
  refine lv_eqi (y := (nI (3 + cx))) (nI_add (3) (cx)) ?_
  refine va_iald hx hb hK hP 2 0 rfl rfl (vp_in_nI (show 3 + cx < 12 by omega) (by decide)) dX3_lacksCredit_9 ?_
  refine lv_eqi (y := (fbuf (3 + cx))) (congrArg fbuf (nI_clamp (show 3 + cx < 2 ^ 31 by omega))) ?_
  refine lv_topi (fun y_1 _ => ?_)
  refine lv_if_le (tgt := 48) hx hb dX3_lacksCredit_10 (by decide) (fun cb_2 => ?_) (fun cb_2 => ?_)
  · skip
    refine lv_iconst (v := 0) hx hb dX3_lacksCredit_48 (by decide) ?_
    have hP9 := hP; have hD9 := hD
    subst hQ
    refine W.widen (k := 0) (n := 0) (Nat.le_of_ble_eq_true rfl) (Nat.le_of_ble_eq_true rfl) ?_
    exact W.zret (v := 0) (ty := .boolean) hx hb hr (rfl) (fun tS htS _ => ⟨⟨_, _, rfl, rfl, by rw [htS]; exact hP9, hD9⟩, hS.F htS⟩) hS.2.2 dX3_lacksCredit_49
  · skip
    refine lv_aload_n hx hb dX3_lacksCredit_13 rfl (lv_at hl 0 rfl) ?_
    refine va_get (D := D) (ci := 3) (v := .ref Nl) (C := RX3) (T := TX3) (N := 11) hx hb hts iX3 hown hK hP 0 rfl rfl 8 (by decide) f11 (fun _ h9 => h9) rfl dX3_lacksCredit_14 ?_
    refine lv_iload_n hx hb dX3_lacksCredit_17 rfl (lv_at hl 1 rfl) ?_
    refine va_aldq (C := "HopCredits$Link") hx hb hK hP 1 1 rfl rfl (by unfold vp_in; decide) dX3_lacksCredit_18 ?_
    refine lv_eqv (v2 := .ref L0) rfl ?_
    refine va_get (D := D) (ci := 2) (v := .ref L0l) (C := RX2) (T := TX2) (N := 10) hx hb hts iX2 hown hK hP 3 rfl rfl 9 (by decide) f128 (fun _ h9 => h9) rfl dX3_lacksCredit_19 ?_
    refine lv_iload_n hx hb dX3_lacksCredit_22 rfl (lv_at hl 2 rfl) ?_
    have hPq_3 := hP; have hDq_3 := hD; have hSq_3 := hS; have hlq_3 := hl; clear hP hD hS hl
    rcases (show cx = 0 ∨ cx = 1 ∨ cx = 2 by omega) with rfl | rfl | rfl
    · skip
      have hP := hPq_3; have hD := hDq_3; have hS := hSq_3; have hl := hlq_3; clear hPq_3 hDq_3 hSq_3 hlq_3
      refine va_aldq (C := "HopCredits$Lane") hx hb hK hP 4 2 rfl rfl (by unfold vp_in; decide) dX3_lacksCredit_23 ?_
      refine lv_eqv (v2 := .ref L0a) rfl ?_
      refine ky_Vi (As := []) (rest := []) ⟨hx, hb, hml, hown, hts⟩ ⟨hK, hN⟩ hZ hP hD hS hA [5] [0, 1, 2, 3, 4, 6, 7] (wc := [(L0a, .inr (1, [.int (fa0 0), .int (fa0 1), .int (fa0 2), .int (fa0 3), .int (fa0 4), .int (fa0 5), .int (fa0 6)]))]) (wr := [(Nn, .inr (3, [.int (fn 0), .int (fn 1), .int (fn 2), .int (fn 3), .int (fn 4), .int (fn 5), .int (fn 6), .int (fn 7), .ref Nl, .ref Nf, .ref Nb])), (Nl, .inl (g 1, 3, .inr (.inr (.inr (.inr (rf3 M0 L0 M2)))))), (Nb, .inl (g 0, 12, .inl fbuf)), (L0, .inr (2, [.int (nI d0), .int (fk0 1), .int (fk0 2), .int (fv0 3), .int (fv0 4), .int (fv0 5), .ref L0c, .ref L0u, .ref L0p, .ref L0l])), (L0l, .inl (g 2, 3, .inr (.inr (.inr (.inr (rf3 L0a L0b L0d)))))), (L0b, .inr (1, [.int (fb0 0), .int (fb0 1), .int (fb0 2), .int (fb0 3), .int (fb0 4), .int (fb0 5), .int (fb0 6)])), (L0d, .inr (1, [.int (fd0 0), .int (fd0 1), .int (fd0 2), .int (fd0 3), .int (fd0 4), .int (fd0 5), .int (fd0 6)]))]) rfl rfl rfl rfl (by decide) (k_X1_out l D g H.size L0a fa0) (cwV 0 hts gX3_lacksCredit_X1_out rfl rfl rfl (by decide +kernel) ⟨(Nat.le_of_ble_eq_true rfl), (Nat.le_of_ble_eq_true rfl)⟩) 5 1 rfl rfl rfl rfl hl.1 rfl (Nat.le_of_ble_eq_true rfl) dX3_lacksCredit_24 ⟨(Nat.le_of_ble_eq_true rfl), (Nat.le_of_ble_eq_true rfl)⟩ (fun r_4 u H locs hw hP2 hD2 hS2 => ?_)
      clear hP hD hS
      obtain ⟨zr_5, rfl, rfl, hf_6⟩ := hw
      have hPD : PD D A [(Nn, .inr (3, [.int (fn 0), .int (fn 1), .int (fn 2), .int (fn 3), .int (fn 4), .int (fn 5), .int (fn 6), .int (fn 7), .ref Nl, .ref Nf, .ref Nb])), (Nl, .inl (g 1, 3, .inr (.inr (.inr (.inr (rf3 M0 L0 M2)))))), (Nb, .inl (g 0, 12, .inl fbuf)), (L0, .inr (2, [.int (nI d0), .int (fk0 1), .int (fk0 2), .int (fv0 3), .int (fv0 4), .int (fv0 5), .ref L0c, .ref L0u, .ref L0p, .ref L0l])), (L0l, .inl (g 2, 3, .inr (.inr (.inr (.inr (rf3 L0a L0b L0d)))))), (L0b, .inr (1, [.int (fb0 0), .int (fb0 1), .int (fb0 2), .int (fb0 3), .int (fb0 4), .int (fb0 5), .int (fb0 6)])), (L0d, .inr (1, [.int (fd0 0), .int (fd0 1), .int (fd0 2), .int (fd0 3), .int (fd0 4), .int (fd0 5), .int (fd0 6)])), (L0a, .inr (1, [.int (fa0 0), .int (fa0 1), .int (fa0 2), .int (fa0 3), .int (fa0 4), .int (fa0 5), .int (fa0 6)]))] H := ⟨hP2, hD2⟩
      have hS := hS2; clear hP2 hD2 hS2; have hP := hPD.1; have hD := hPD.2; clear hPD
      refine W.widen (k := 0) (n := 0) (Nat.le_of_ble_eq_true rfl) (Nat.le_of_ble_eq_true rfl) ?_
      refine lv_aload_n hx hb dX3_lacksCredit_27 rfl (lv_at hl 0 rfl) ?_
      refine va_get (D := D) (ci := 3) (v := .ref Nl) (C := RX3) (T := TX3) (N := 11) hx hb hts iX3 hown hK hP 0 rfl rfl 8 (by decide) f11 (fun _ h9 => h9) rfl dX3_lacksCredit_28 ?_
      refine lv_iload_n hx hb dX3_lacksCredit_31 rfl (lv_at hl 1 rfl) ?_
      refine va_aldq (C := "HopCredits$Link") hx hb hK hP 1 1 rfl rfl (by unfold vp_in; decide) dX3_lacksCredit_32 ?_
      refine lv_eqv (v2 := .ref L0) rfl ?_
      refine va_get (D := D) (ci := 2) (v := .ref L0l) (C := RX2) (T := TX2) (N := 10) hx hb hts iX2 hown hK hP 3 rfl rfl 9 (by decide) f128 (fun _ h9 => h9) rfl dX3_lacksCredit_33 ?_
      refine lv_iload_n hx hb dX3_lacksCredit_36 rfl (lv_at hl 2 rfl) ?_
      refine va_aldq (C := "HopCredits$Lane") hx hb hK hP 4 2 rfl rfl (by unfold vp_in; decide) dX3_lacksCredit_37 ?_
      refine lv_eqv (v2 := .ref L0a) rfl ?_
      refine va_get (D := D) (ci := 1) (v := .int (fa0 3)) (C := RX1) (T := TX1) (N := 7) hx hb hts iX1 hown hK hP 7 rfl rfl 3 (by decide) f195 (fun _ h9 => h9) rfl dX3_lacksCredit_38 ?_
      refine lv_icmp_lt (tgt := 48) hx hb dX3_lacksCredit_41 (by decide) (fun cb_7 => ?_) (fun cb_7 => ?_)
      · skip
        refine lv_iconst (v := 0) hx hb dX3_lacksCredit_48 (by decide) ?_
        have hPD9 : PD D A [(Nn, .inr (3, [.int (fn 0), .int (fn 1), .int (fn 2), .int (fn 3), .int (fn 4), .int (fn 5), .int (fn 6), .int (fn 7), .ref Nl, .ref Nf, .ref Nb])), (Nl, .inl (g 1, 3, .inr (.inr (.inr (.inr (rf3 M0 L0 M2)))))), (Nb, .inl (g 0, 12, .inl fbuf)), (L0, .inr (2, [.int (nI d0), .int (fk0 1), .int (fk0 2), .int (fv0 3), .int (fv0 4), .int (fv0 5), .ref L0c, .ref L0u, .ref L0p, .ref L0l])), (L0l, .inl (g 2, 3, .inr (.inr (.inr (.inr (rf3 L0a L0b L0d)))))), (L0a, .inr (1, [.int (fa0 0), .int (fa0 1), .int (fa0 2), .int (fa0 3), .int (fa0 4), .int (fa0 5), .int (fa0 6)])), (L0b, .inr (1, [.int (fb0 0), .int (fb0 1), .int (fb0 2), .int (fb0 3), .int (fb0 4), .int (fb0 5), .int (fb0 6)])), (L0d, .inr (1, [.int (fd0 0), .int (fd0 1), .int (fd0 2), .int (fd0 3), .int (fd0 4), .int (fd0 5), .int (fd0 6)]))] H := ⟨hP.sub [0, 1, 2, 3, 4, 7, 5, 6] rfl, hD.sub [0, 1, 2, 3, 4, 7, 5, 6] (by decide) rfl⟩
        have hP9 := hPD9.1; have hD9 := hPD9.2
        subst hQ
        refine W.widen (k := 0) (n := 0) (Nat.le_of_ble_eq_true rfl) (Nat.le_of_ble_eq_true rfl) ?_
        exact W.zret (v := 0) (ty := .boolean) hx hb hr (rfl) (fun tS htS _ => ⟨⟨_, _, rfl, rfl, by rw [htS]; exact hP9, hD9⟩, hS.F htS⟩) hS.2.2 dX3_lacksCredit_49
      · skip
        refine lv_iconst (v := 1) hx hb dX3_lacksCredit_44 (by decide) ?_
        refine lv_goto (tgt := 49) hx hb dX3_lacksCredit_45 (by decide) ?_
        have hPD9 : PD D A [(Nn, .inr (3, [.int (fn 0), .int (fn 1), .int (fn 2), .int (fn 3), .int (fn 4), .int (fn 5), .int (fn 6), .int (fn 7), .ref Nl, .ref Nf, .ref Nb])), (Nl, .inl (g 1, 3, .inr (.inr (.inr (.inr (rf3 M0 L0 M2)))))), (Nb, .inl (g 0, 12, .inl fbuf)), (L0, .inr (2, [.int (nI d0), .int (fk0 1), .int (fk0 2), .int (fv0 3), .int (fv0 4), .int (fv0 5), .ref L0c, .ref L0u, .ref L0p, .ref L0l])), (L0l, .inl (g 2, 3, .inr (.inr (.inr (.inr (rf3 L0a L0b L0d)))))), (L0a, .inr (1, [.int (fa0 0), .int (fa0 1), .int (fa0 2), .int (fa0 3), .int (fa0 4), .int (fa0 5), .int (fa0 6)])), (L0b, .inr (1, [.int (fb0 0), .int (fb0 1), .int (fb0 2), .int (fb0 3), .int (fb0 4), .int (fb0 5), .int (fb0 6)])), (L0d, .inr (1, [.int (fd0 0), .int (fd0 1), .int (fd0 2), .int (fd0 3), .int (fd0 4), .int (fd0 5), .int (fd0 6)]))] H := ⟨hP.sub [0, 1, 2, 3, 4, 7, 5, 6] rfl, hD.sub [0, 1, 2, 3, 4, 7, 5, 6] (by decide) rfl⟩
        have hP9 := hPD9.1; have hD9 := hPD9.2
        subst hQ
        refine W.widen (k := 0) (n := 0) (Nat.le_of_ble_eq_true rfl) (Nat.le_of_ble_eq_true rfl) ?_
        exact W.zret (v := 1) (ty := .boolean) hx hb hr (rfl) (fun tS htS _ => ⟨⟨_, _, rfl, rfl, by rw [htS]; exact hP9, hD9⟩, hS.F htS⟩) hS.2.2 dX3_lacksCredit_49
    · skip
      have hP := hPq_3; have hD := hDq_3; have hS := hSq_3; have hl := hlq_3; clear hPq_3 hDq_3 hSq_3 hlq_3
      refine va_aldq (C := "HopCredits$Lane") hx hb hK hP 4 2 rfl rfl (by unfold vp_in; decide) dX3_lacksCredit_23 ?_
      refine lv_eqv (v2 := .ref L0b) rfl ?_
      refine ky_Vi (As := []) (rest := []) ⟨hx, hb, hml, hown, hts⟩ ⟨hK, hN⟩ hZ hP hD hS hA [6] [0, 1, 2, 3, 4, 5, 7] (wc := [(L0b, .inr (1, [.int (fb0 0), .int (fb0 1), .int (fb0 2), .int (fb0 3), .int (fb0 4), .int (fb0 5), .int (fb0 6)]))]) (wr := [(Nn, .inr (3, [.int (fn 0), .int (fn 1), .int (fn 2), .int (fn 3), .int (fn 4), .int (fn 5), .int (fn 6), .int (fn 7), .ref Nl, .ref Nf, .ref Nb])), (Nl, .inl (g 1, 3, .inr (.inr (.inr (.inr (rf3 M0 L0 M2)))))), (Nb, .inl (g 0, 12, .inl fbuf)), (L0, .inr (2, [.int (nI d0), .int (fk0 1), .int (fk0 2), .int (fv0 3), .int (fv0 4), .int (fv0 5), .ref L0c, .ref L0u, .ref L0p, .ref L0l])), (L0l, .inl (g 2, 3, .inr (.inr (.inr (.inr (rf3 L0a L0b L0d)))))), (L0a, .inr (1, [.int (fa0 0), .int (fa0 1), .int (fa0 2), .int (fa0 3), .int (fa0 4), .int (fa0 5), .int (fa0 6)])), (L0d, .inr (1, [.int (fd0 0), .int (fd0 1), .int (fd0 2), .int (fd0 3), .int (fd0 4), .int (fd0 5), .int (fd0 6)]))]) rfl rfl rfl rfl (by decide) (k_X1_out l D g H.size L0b fb0) (cwV 0 hts gX3_lacksCredit_X1_out rfl rfl rfl (by decide +kernel) ⟨(Nat.le_of_ble_eq_true rfl), (Nat.le_of_ble_eq_true rfl)⟩) 6 1 rfl rfl rfl rfl hl.1 rfl (Nat.le_of_ble_eq_true rfl) dX3_lacksCredit_24 ⟨(Nat.le_of_ble_eq_true rfl), (Nat.le_of_ble_eq_true rfl)⟩ (fun r_8 u H locs hw hP2 hD2 hS2 => ?_)
      clear hP hD hS
      obtain ⟨zr_9, rfl, rfl, hf_10⟩ := hw
      have hPD : PD D A [(Nn, .inr (3, [.int (fn 0), .int (fn 1), .int (fn 2), .int (fn 3), .int (fn 4), .int (fn 5), .int (fn 6), .int (fn 7), .ref Nl, .ref Nf, .ref Nb])), (Nl, .inl (g 1, 3, .inr (.inr (.inr (.inr (rf3 M0 L0 M2)))))), (Nb, .inl (g 0, 12, .inl fbuf)), (L0, .inr (2, [.int (nI d0), .int (fk0 1), .int (fk0 2), .int (fv0 3), .int (fv0 4), .int (fv0 5), .ref L0c, .ref L0u, .ref L0p, .ref L0l])), (L0l, .inl (g 2, 3, .inr (.inr (.inr (.inr (rf3 L0a L0b L0d)))))), (L0a, .inr (1, [.int (fa0 0), .int (fa0 1), .int (fa0 2), .int (fa0 3), .int (fa0 4), .int (fa0 5), .int (fa0 6)])), (L0d, .inr (1, [.int (fd0 0), .int (fd0 1), .int (fd0 2), .int (fd0 3), .int (fd0 4), .int (fd0 5), .int (fd0 6)])), (L0b, .inr (1, [.int (fb0 0), .int (fb0 1), .int (fb0 2), .int (fb0 3), .int (fb0 4), .int (fb0 5), .int (fb0 6)]))] H := ⟨hP2, hD2⟩
      have hS := hS2; clear hP2 hD2 hS2; have hP := hPD.1; have hD := hPD.2; clear hPD
      refine W.widen (k := 0) (n := 0) (Nat.le_of_ble_eq_true rfl) (Nat.le_of_ble_eq_true rfl) ?_
      refine lv_aload_n hx hb dX3_lacksCredit_27 rfl (lv_at hl 0 rfl) ?_
      refine va_get (D := D) (ci := 3) (v := .ref Nl) (C := RX3) (T := TX3) (N := 11) hx hb hts iX3 hown hK hP 0 rfl rfl 8 (by decide) f11 (fun _ h9 => h9) rfl dX3_lacksCredit_28 ?_
      refine lv_iload_n hx hb dX3_lacksCredit_31 rfl (lv_at hl 1 rfl) ?_
      refine va_aldq (C := "HopCredits$Link") hx hb hK hP 1 1 rfl rfl (by unfold vp_in; decide) dX3_lacksCredit_32 ?_
      refine lv_eqv (v2 := .ref L0) rfl ?_
      refine va_get (D := D) (ci := 2) (v := .ref L0l) (C := RX2) (T := TX2) (N := 10) hx hb hts iX2 hown hK hP 3 rfl rfl 9 (by decide) f128 (fun _ h9 => h9) rfl dX3_lacksCredit_33 ?_
      refine lv_iload_n hx hb dX3_lacksCredit_36 rfl (lv_at hl 2 rfl) ?_
      refine va_aldq (C := "HopCredits$Lane") hx hb hK hP 4 2 rfl rfl (by unfold vp_in; decide) dX3_lacksCredit_37 ?_
      refine lv_eqv (v2 := .ref L0b) rfl ?_
      refine va_get (D := D) (ci := 1) (v := .int (fb0 3)) (C := RX1) (T := TX1) (N := 7) hx hb hts iX1 hown hK hP 7 rfl rfl 3 (by decide) f195 (fun _ h9 => h9) rfl dX3_lacksCredit_38 ?_
      refine lv_icmp_lt (tgt := 48) hx hb dX3_lacksCredit_41 (by decide) (fun cb_11 => ?_) (fun cb_11 => ?_)
      · skip
        refine lv_iconst (v := 0) hx hb dX3_lacksCredit_48 (by decide) ?_
        have hPD9 : PD D A [(Nn, .inr (3, [.int (fn 0), .int (fn 1), .int (fn 2), .int (fn 3), .int (fn 4), .int (fn 5), .int (fn 6), .int (fn 7), .ref Nl, .ref Nf, .ref Nb])), (Nl, .inl (g 1, 3, .inr (.inr (.inr (.inr (rf3 M0 L0 M2)))))), (Nb, .inl (g 0, 12, .inl fbuf)), (L0, .inr (2, [.int (nI d0), .int (fk0 1), .int (fk0 2), .int (fv0 3), .int (fv0 4), .int (fv0 5), .ref L0c, .ref L0u, .ref L0p, .ref L0l])), (L0l, .inl (g 2, 3, .inr (.inr (.inr (.inr (rf3 L0a L0b L0d)))))), (L0a, .inr (1, [.int (fa0 0), .int (fa0 1), .int (fa0 2), .int (fa0 3), .int (fa0 4), .int (fa0 5), .int (fa0 6)])), (L0b, .inr (1, [.int (fb0 0), .int (fb0 1), .int (fb0 2), .int (fb0 3), .int (fb0 4), .int (fb0 5), .int (fb0 6)])), (L0d, .inr (1, [.int (fd0 0), .int (fd0 1), .int (fd0 2), .int (fd0 3), .int (fd0 4), .int (fd0 5), .int (fd0 6)]))] H := ⟨hP.sub [0, 1, 2, 3, 4, 5, 7, 6] rfl, hD.sub [0, 1, 2, 3, 4, 5, 7, 6] (by decide) rfl⟩
        have hP9 := hPD9.1; have hD9 := hPD9.2
        subst hQ
        refine W.widen (k := 0) (n := 0) (Nat.le_of_ble_eq_true rfl) (Nat.le_of_ble_eq_true rfl) ?_
        exact W.zret (v := 0) (ty := .boolean) hx hb hr (rfl) (fun tS htS _ => ⟨⟨_, _, rfl, rfl, by rw [htS]; exact hP9, hD9⟩, hS.F htS⟩) hS.2.2 dX3_lacksCredit_49
      · skip
        refine lv_iconst (v := 1) hx hb dX3_lacksCredit_44 (by decide) ?_
        refine lv_goto (tgt := 49) hx hb dX3_lacksCredit_45 (by decide) ?_
        have hPD9 : PD D A [(Nn, .inr (3, [.int (fn 0), .int (fn 1), .int (fn 2), .int (fn 3), .int (fn 4), .int (fn 5), .int (fn 6), .int (fn 7), .ref Nl, .ref Nf, .ref Nb])), (Nl, .inl (g 1, 3, .inr (.inr (.inr (.inr (rf3 M0 L0 M2)))))), (Nb, .inl (g 0, 12, .inl fbuf)), (L0, .inr (2, [.int (nI d0), .int (fk0 1), .int (fk0 2), .int (fv0 3), .int (fv0 4), .int (fv0 5), .ref L0c, .ref L0u, .ref L0p, .ref L0l])), (L0l, .inl (g 2, 3, .inr (.inr (.inr (.inr (rf3 L0a L0b L0d)))))), (L0a, .inr (1, [.int (fa0 0), .int (fa0 1), .int (fa0 2), .int (fa0 3), .int (fa0 4), .int (fa0 5), .int (fa0 6)])), (L0b, .inr (1, [.int (fb0 0), .int (fb0 1), .int (fb0 2), .int (fb0 3), .int (fb0 4), .int (fb0 5), .int (fb0 6)])), (L0d, .inr (1, [.int (fd0 0), .int (fd0 1), .int (fd0 2), .int (fd0 3), .int (fd0 4), .int (fd0 5), .int (fd0 6)]))] H := ⟨hP.sub [0, 1, 2, 3, 4, 5, 7, 6] rfl, hD.sub [0, 1, 2, 3, 4, 5, 7, 6] (by decide) rfl⟩
        have hP9 := hPD9.1; have hD9 := hPD9.2
        subst hQ
        refine W.widen (k := 0) (n := 0) (Nat.le_of_ble_eq_true rfl) (Nat.le_of_ble_eq_true rfl) ?_
        exact W.zret (v := 1) (ty := .boolean) hx hb hr (rfl) (fun tS htS _ => ⟨⟨_, _, rfl, rfl, by rw [htS]; exact hP9, hD9⟩, hS.F htS⟩) hS.2.2 dX3_lacksCredit_49
    · skip
      have hP := hPq_3; have hD := hDq_3; have hS := hSq_3; have hl := hlq_3; clear hPq_3 hDq_3 hSq_3 hlq_3
      refine va_aldq (C := "HopCredits$Lane") hx hb hK hP 4 2 rfl rfl (by unfold vp_in; decide) dX3_lacksCredit_23 ?_
      refine lv_eqv (v2 := .ref L0d) rfl ?_
      refine ky_Vi (As := []) (rest := []) ⟨hx, hb, hml, hown, hts⟩ ⟨hK, hN⟩ hZ hP hD hS hA [7] [0, 1, 2, 3, 4, 5, 6] (wc := [(L0d, .inr (1, [.int (fd0 0), .int (fd0 1), .int (fd0 2), .int (fd0 3), .int (fd0 4), .int (fd0 5), .int (fd0 6)]))]) (wr := [(Nn, .inr (3, [.int (fn 0), .int (fn 1), .int (fn 2), .int (fn 3), .int (fn 4), .int (fn 5), .int (fn 6), .int (fn 7), .ref Nl, .ref Nf, .ref Nb])), (Nl, .inl (g 1, 3, .inr (.inr (.inr (.inr (rf3 M0 L0 M2)))))), (Nb, .inl (g 0, 12, .inl fbuf)), (L0, .inr (2, [.int (nI d0), .int (fk0 1), .int (fk0 2), .int (fv0 3), .int (fv0 4), .int (fv0 5), .ref L0c, .ref L0u, .ref L0p, .ref L0l])), (L0l, .inl (g 2, 3, .inr (.inr (.inr (.inr (rf3 L0a L0b L0d)))))), (L0a, .inr (1, [.int (fa0 0), .int (fa0 1), .int (fa0 2), .int (fa0 3), .int (fa0 4), .int (fa0 5), .int (fa0 6)])), (L0b, .inr (1, [.int (fb0 0), .int (fb0 1), .int (fb0 2), .int (fb0 3), .int (fb0 4), .int (fb0 5), .int (fb0 6)]))]) rfl rfl rfl rfl (by decide) (k_X1_out l D g H.size L0d fd0) (cwV 0 hts gX3_lacksCredit_X1_out rfl rfl rfl (by decide +kernel) ⟨(Nat.le_of_ble_eq_true rfl), (Nat.le_of_ble_eq_true rfl)⟩) 7 1 rfl rfl rfl rfl hl.1 rfl (Nat.le_of_ble_eq_true rfl) dX3_lacksCredit_24 ⟨(Nat.le_of_ble_eq_true rfl), (Nat.le_of_ble_eq_true rfl)⟩ (fun r_12 u H locs hw hP2 hD2 hS2 => ?_)
      clear hP hD hS
      obtain ⟨zr_13, rfl, rfl, hf_14⟩ := hw
      have hPD : PD D A [(Nn, .inr (3, [.int (fn 0), .int (fn 1), .int (fn 2), .int (fn 3), .int (fn 4), .int (fn 5), .int (fn 6), .int (fn 7), .ref Nl, .ref Nf, .ref Nb])), (Nl, .inl (g 1, 3, .inr (.inr (.inr (.inr (rf3 M0 L0 M2)))))), (Nb, .inl (g 0, 12, .inl fbuf)), (L0, .inr (2, [.int (nI d0), .int (fk0 1), .int (fk0 2), .int (fv0 3), .int (fv0 4), .int (fv0 5), .ref L0c, .ref L0u, .ref L0p, .ref L0l])), (L0l, .inl (g 2, 3, .inr (.inr (.inr (.inr (rf3 L0a L0b L0d)))))), (L0a, .inr (1, [.int (fa0 0), .int (fa0 1), .int (fa0 2), .int (fa0 3), .int (fa0 4), .int (fa0 5), .int (fa0 6)])), (L0b, .inr (1, [.int (fb0 0), .int (fb0 1), .int (fb0 2), .int (fb0 3), .int (fb0 4), .int (fb0 5), .int (fb0 6)])), (L0d, .inr (1, [.int (fd0 0), .int (fd0 1), .int (fd0 2), .int (fd0 3), .int (fd0 4), .int (fd0 5), .int (fd0 6)]))] H := ⟨hP2, hD2⟩
      have hS := hS2; clear hP2 hD2 hS2; have hP := hPD.1; have hD := hPD.2; clear hPD
      refine W.widen (k := 0) (n := 0) (Nat.le_of_ble_eq_true rfl) (Nat.le_of_ble_eq_true rfl) ?_
      refine lv_aload_n hx hb dX3_lacksCredit_27 rfl (lv_at hl 0 rfl) ?_
      refine va_get (D := D) (ci := 3) (v := .ref Nl) (C := RX3) (T := TX3) (N := 11) hx hb hts iX3 hown hK hP 0 rfl rfl 8 (by decide) f11 (fun _ h9 => h9) rfl dX3_lacksCredit_28 ?_
      refine lv_iload_n hx hb dX3_lacksCredit_31 rfl (lv_at hl 1 rfl) ?_
      refine va_aldq (C := "HopCredits$Link") hx hb hK hP 1 1 rfl rfl (by unfold vp_in; decide) dX3_lacksCredit_32 ?_
      refine lv_eqv (v2 := .ref L0) rfl ?_
      refine va_get (D := D) (ci := 2) (v := .ref L0l) (C := RX2) (T := TX2) (N := 10) hx hb hts iX2 hown hK hP 3 rfl rfl 9 (by decide) f128 (fun _ h9 => h9) rfl dX3_lacksCredit_33 ?_
      refine lv_iload_n hx hb dX3_lacksCredit_36 rfl (lv_at hl 2 rfl) ?_
      refine va_aldq (C := "HopCredits$Lane") hx hb hK hP 4 2 rfl rfl (by unfold vp_in; decide) dX3_lacksCredit_37 ?_
      refine lv_eqv (v2 := .ref L0d) rfl ?_
      refine va_get (D := D) (ci := 1) (v := .int (fd0 3)) (C := RX1) (T := TX1) (N := 7) hx hb hts iX1 hown hK hP 7 rfl rfl 3 (by decide) f195 (fun _ h9 => h9) rfl dX3_lacksCredit_38 ?_
      refine lv_icmp_lt (tgt := 48) hx hb dX3_lacksCredit_41 (by decide) (fun cb_15 => ?_) (fun cb_15 => ?_)
      · skip
        refine lv_iconst (v := 0) hx hb dX3_lacksCredit_48 (by decide) ?_
        have hP9 := hP; have hD9 := hD
        subst hQ
        refine W.widen (k := 0) (n := 0) (Nat.le_of_ble_eq_true rfl) (Nat.le_of_ble_eq_true rfl) ?_
        exact W.zret (v := 0) (ty := .boolean) hx hb hr (rfl) (fun tS htS _ => ⟨⟨_, _, rfl, rfl, by rw [htS]; exact hP9, hD9⟩, hS.F htS⟩) hS.2.2 dX3_lacksCredit_49
      · skip
        refine lv_iconst (v := 1) hx hb dX3_lacksCredit_44 (by decide) ?_
        refine lv_goto (tgt := 49) hx hb dX3_lacksCredit_45 (by decide) ?_
        have hP9 := hP; have hD9 := hD
        subst hQ
        refine W.widen (k := 0) (n := 0) (Nat.le_of_ble_eq_true rfl) (Nat.le_of_ble_eq_true rfl) ?_
        exact W.zret (v := 1) (ty := .boolean) hx hb hr (rfl) (fun tS htS _ => ⟨⟨_, _, rfl, rfl, by rw [htS]; exact hP9, hD9⟩, hS.F htS⟩) hS.2.2 dX3_lacksCredit_49

set_option maxHeartbeats 4000000 in
set_option maxRecDepth 100000 in
theorem k_X3_lacksCredit_2 (l : Launch) (D : va_G) (g : Nat → ClassId) (sz : Nat) (Nn : Nat) (cx : Nat) (fn : Nat → Int32) (Nl : Nat) (Nf : Nat) (Nb : Nat) (M0 : Nat) (M1 : Nat) (L0 : Nat) (fbuf : Nat → Int32) (d0 : Nat) (fk0 : Nat → Int32) (fv0 : Nat → Int32) (L0c : Nat) (L0u : Nat) (L0p : Nat) (L0l : Nat) (L0a : Nat) (L0b : Nat) (L0d : Nat) (fa0 : Nat → Int32) (fb0 : Nat → Int32) (fd0 : Nat → Int32) (h0 : cx < 3) : Met l yX3_lacksCredit wsX3_lacksCredit ({ frames := 1, cells := 0, slots := 0, locals := 20 }) (va_Pc [.ref Nn, .int 2, .int (nI cx)] (pre D g sz [(Nn, .inr (3, [.int (fn 0), .int (fn 1), .int (fn 2), .int (fn 3), .int (fn 4), .int (fn 5), .int (fn 6), .int (fn 7), .ref Nl, .ref Nf, .ref Nb])), (Nl, .inl (g 1, 3, .inr (.inr (.inr (.inr (rf3 M0 M1 L0)))))), (Nb, .inl (g 0, 12, .inl fbuf)), (L0, .inr (2, [.int (nI d0), .int (fk0 1), .int (fk0 2), .int (fv0 3), .int (fv0 4), .int (fv0 5), .ref L0c, .ref L0u, .ref L0p, .ref L0l])), (L0l, .inl (g 2, 3, .inr (.inr (.inr (.inr (rf3 L0a L0b L0d)))))), (L0a, .inr (1, [.int (fa0 0), .int (fa0 1), .int (fa0 2), .int (fa0 3), .int (fa0 4), .int (fa0 5), .int (fa0 6)])), (L0b, .inr (1, [.int (fb0 0), .int (fb0 1), .int (fb0 2), .int (fb0 3), .int (fb0 4), .int (fb0 5), .int (fb0 6)])), (L0d, .inr (1, [.int (fd0 0), .int (fd0 1), .int (fd0 2), .int (fd0 3), .int (fd0 4), .int (fd0 5), .int (fd0 6)]))])) (va_Qi (fun (r : Int32) (u : va_W) => u = [(Nn, .inr (3, [.int (fn 0), .int (fn 1), .int (fn 2), .int (fn 3), .int (fn 4), .int (fn 5), .int (fn 6), .int (fn 7), .ref Nl, .ref Nf, .ref Nb])), (Nl, .inl (g 1, 3, .inr (.inr (.inr (.inr (rf3 M0 M1 L0)))))), (Nb, .inl (g 0, 12, .inl fbuf)), (L0, .inr (2, [.int (nI d0), .int (fk0 1), .int (fk0 2), .int (fv0 3), .int (fv0 4), .int (fv0 5), .ref L0c, .ref L0u, .ref L0p, .ref L0l])), (L0l, .inl (g 2, 3, .inr (.inr (.inr (.inr (rf3 L0a L0b L0d)))))), (L0a, .inr (1, [.int (fa0 0), .int (fa0 1), .int (fa0 2), .int (fa0 3), .int (fa0 4), .int (fa0 5), .int (fa0 6)])), (L0b, .inr (1, [.int (fb0 0), .int (fb0 1), .int (fb0 2), .int (fb0 3), .int (fb0 4), .int (fb0 5), .int (fb0 6)])), (L0d, .inr (1, [.int (fd0 0), .int (fd0 1), .int (fd0 2), .int (fd0 3), .int (fd0 4), .int (fd0 5), .int (fd0 6)]))]) (wd D (va_A [(Nn, .inr (3, [.int (fn 0), .int (fn 1), .int (fn 2), .int (fn 3), .int (fn 4), .int (fn 5), .int (fn 6), .int (fn 7), .ref Nl, .ref Nf, .ref Nb])), (Nl, .inl (g 1, 3, .inr (.inr (.inr (.inr (rf3 M0 M1 L0)))))), (Nb, .inl (g 0, 12, .inl fbuf)), (L0, .inr (2, [.int (nI d0), .int (fk0 1), .int (fk0 2), .int (fv0 3), .int (fv0 4), .int (fv0 5), .ref L0c, .ref L0u, .ref L0p, .ref L0l])), (L0l, .inl (g 2, 3, .inr (.inr (.inr (.inr (rf3 L0a L0b L0d)))))), (L0a, .inr (1, [.int (fa0 0), .int (fa0 1), .int (fa0 2), .int (fa0 3), .int (fa0 4), .int (fa0 5), .int (fa0 6)])), (L0b, .inr (1, [.int (fb0 0), .int (fb0 1), .int (fb0 2), .int (fb0 3), .int (fb0 4), .int (fb0 5), .int (fb0 6)])), (L0d, .inr (1, [.int (fd0 0), .int (fd0 1), .int (fd0 2), .int (fd0 3), .int (fd0 4), .int (fd0 5), .int (fd0 6)]))] sz)) (va_A [(Nn, .inr (3, [.int (fn 0), .int (fn 1), .int (fn 2), .int (fn 3), .int (fn 4), .int (fn 5), .int (fn 6), .int (fn 7), .ref Nl, .ref Nf, .ref Nb])), (Nl, .inl (g 1, 3, .inr (.inr (.inr (.inr (rf3 M0 M1 L0)))))), (Nb, .inl (g 0, 12, .inl fbuf)), (L0, .inr (2, [.int (nI d0), .int (fk0 1), .int (fk0 2), .int (fv0 3), .int (fv0 4), .int (fv0 5), .ref L0c, .ref L0u, .ref L0p, .ref L0l])), (L0l, .inl (g 2, 3, .inr (.inr (.inr (.inr (rf3 L0a L0b L0d)))))), (L0a, .inr (1, [.int (fa0 0), .int (fa0 1), .int (fa0 2), .int (fa0 3), .int (fa0 4), .int (fa0 5), .int (fa0 6)])), (L0b, .inr (1, [.int (fb0 0), .int (fb0 1), .int (fb0 2), .int (fb0 3), .int (fb0 4), .int (fb0 5), .int (fb0 6)])), (L0d, .inr (1, [.int (fd0 0), .int (fd0 1), .int (fd0 2), .int (fd0 3), .int (fd0 4), .int (fd0 5), .int (fd0 6)]))] sz)) 0 0 (va_A [(Nn, .inr (3, [.int (fn 0), .int (fn 1), .int (fn 2), .int (fn 3), .int (fn 4), .int (fn 5), .int (fn 6), .int (fn 7), .ref Nl, .ref Nf, .ref Nb])), (Nl, .inl (g 1, 3, .inr (.inr (.inr (.inr (rf3 M0 M1 L0)))))), (Nb, .inl (g 0, 12, .inl fbuf)), (L0, .inr (2, [.int (nI d0), .int (fk0 1), .int (fk0 2), .int (fv0 3), .int (fv0 4), .int (fv0 5), .ref L0c, .ref L0u, .ref L0p, .ref L0l])), (L0l, .inl (g 2, 3, .inr (.inr (.inr (.inr (rf3 L0a L0b L0d)))))), (L0a, .inr (1, [.int (fa0 0), .int (fa0 1), .int (fa0 2), .int (fa0 3), .int (fa0 4), .int (fa0 5), .int (fa0 6)])), (L0b, .inr (1, [.int (fb0 0), .int (fb0 1), .int (fb0 2), .int (fb0 3), .int (fb0 4), .int (fb0 5), .int (fb0 6)])), (L0d, .inr (1, [.int (fd0 0), .int (fd0 1), .int (fd0 2), .int (fd0 3), .int (fd0 4), .int (fd0 5), .int (fd0 6)]))] sz) := by
  refine Met.ofW (cc := cX3_lacksCredit) (maxL := 3) (ret := (some .boolean)) (by decide) rfl ?_
  intro p e s m args below meth c s₁ B hml hv
  obtain ⟨rfl, hsz, hP, ⟨hK, hN⟩, hD0, hZ⟩ := hv
  have hx := B.exec
  have hb := B.bytes
  have hr := B.returns
  have hts := atoms_spec (ws := wsX3_lacksCredit) B.pre
  have hown : s.vm.findClass RX3 = some m.cls := findClass_of_methodNamed B.named
  have hlocks := B.notSynchronized
  clear B
  subst hsz
  have hD := hD0.self (sz := s.heap.size)
  clear hD0
  generalize hAe : va_A [(Nn, .inr (3, [.int (fn 0), .int (fn 1), .int (fn 2), .int (fn 3), .int (fn 4), .int (fn 5), .int (fn 6), .int (fn 7), .ref Nl, .ref Nf, .ref Nb])), (Nl, .inl (g 1, 3, .inr (.inr (.inr (.inr (rf3 M0 M1 L0)))))), (Nb, .inl (g 0, 12, .inl fbuf)), (L0, .inr (2, [.int (nI d0), .int (fk0 1), .int (fk0 2), .int (fv0 3), .int (fv0 4), .int (fv0 5), .ref L0c, .ref L0u, .ref L0p, .ref L0l])), (L0l, .inl (g 2, 3, .inr (.inr (.inr (.inr (rf3 L0a L0b L0d)))))), (L0a, .inr (1, [.int (fa0 0), .int (fa0 1), .int (fa0 2), .int (fa0 3), .int (fa0 4), .int (fa0 5), .int (fa0 6)])), (L0b, .inr (1, [.int (fb0 0), .int (fb0 1), .int (fb0 2), .int (fb0 3), .int (fb0 4), .int (fb0 5), .int (fb0 6)])), (L0d, .inr (1, [.int (fd0 0), .int (fd0 1), .int (fd0 2), .int (fd0 3), .int (fd0 4), .int (fd0 5), .int (fd0 6)]))] s.heap.size = A at hD hZ ⊢
  have hA : ∀ q : Nat, s.heap.size ≤ q → A q := fun q h => by rw [← hAe]; exact Or.inr h
  have hS : va_S A s.heap s.heap [] := va_S.rf
  have f11 := hts (.fieldLink RX3 11 "HopCredits$Net" "links" "[LHopCredits$Link;") (by decide +kernel)
  have f128 := hts (.fieldLink RX3 128 "HopCredits$Link" "lanes" "[LHopCredits$Lane;") (by decide +kernel)
  have f195 := hts (.fieldLink RX3 195 "HopCredits$Lane" "zone" "I") (by decide +kernel)
  have f23 := hts (.fieldLink RX3 23 "HopCredits$Net" "buffers" "[I") (by decide +kernel)
  have iX1 : ∀ w ∈ u_ws RX1 TX1 7, w ∈ wsX3_lacksCredit := by decide +kernel
  have iX2 : ∀ w ∈ u_ws RX2 TX2 10, w ∈ wsX3_lacksCredit := by decide +kernel
  have iX3 : ∀ w ∈ u_ws RX3 TX3 11, w ∈ wsX3_lacksCredit := by decide +kernel
  have hl := lv_entry ([.ref Nn, .int 2, .int (nI cx)]) (n := 3) (Nat.le_of_ble_eq_true rfl)
  rw [lg_entry_eq]
  generalize (lg_sl ([.ref Nn, .int 2, .int (nI cx)]) ++ List.replicate (3 - (lg_sl ([.ref Nn, .int 2, .int (nI cx)])).length) Slot.unset).toArray = ls at hl ⊢
  have hl : lv_has ls 3 [(0, .ref Nn), (1, .int 2), (2, .int (nI cx))] := hl
  generalize hQ : MQ below _ _ s _ _ _ = Q
  generalize hH : s.heap = H at hP ⊢
  have hS : va_S A s.heap H [] := by rw [← hH]; exact hS
  clear hH
  refine lv_aload_n hx hb dX3_lacksCredit_0 rfl (lv_at hl 0 rfl) ?_
  refine va_get (D := D) (ci := 3) (v := .ref Nb) (C := RX3) (T := TX3) (N := 11) hx hb hts iX3 hown hK hP 0 rfl rfl 10 (by decide) f23 (fun _ h9 => h9) rfl dX3_lacksCredit_1 ?_
  refine lv_iload_n hx hb dX3_lacksCredit_4 rfl (lv_at hl 1 rfl) ?_
  refine lv_iconst (v := 3) hx hb dX3_lacksCredit_5 (by decide) ?_
  refine lv_imul hx hb dX3_lacksCredit_6 ?_
  refine lv_eqi (y := 6) (by decide) ?_
  refine lv_iload_n hx hb dX3_lacksCredit_7 rfl (lv_at hl 2 rfl) ?_
  refine lv_iadd hx hb dX3_lacksCredit_8 ?_
  refine lv_eqi (y := (nI (6 + cx))) (nI_add (6) (cx)) ?_
  refine va_iald hx hb hK hP 2 0 rfl rfl (vp_in_nI (show 6 + cx < 12 by omega) (by decide)) dX3_lacksCredit_9 ?_
  refine lv_eqi (y := (fbuf (6 + cx))) (congrArg fbuf (nI_clamp (show 6 + cx < 2 ^ 31 by omega))) ?_
  refine lv_topi (fun y_1 _ => ?_)
  refine lv_if_le (tgt := 48) hx hb dX3_lacksCredit_10 (by decide) (fun cb_2 => ?_) (fun cb_2 => ?_)
  · skip
    refine lv_iconst (v := 0) hx hb dX3_lacksCredit_48 (by decide) ?_
    have hP9 := hP; have hD9 := hD
    subst hQ
    refine W.widen (k := 0) (n := 0) (Nat.le_of_ble_eq_true rfl) (Nat.le_of_ble_eq_true rfl) ?_
    exact W.zret (v := 0) (ty := .boolean) hx hb hr (rfl) (fun tS htS _ => ⟨⟨_, _, rfl, rfl, by rw [htS]; exact hP9, hD9⟩, hS.F htS⟩) hS.2.2 dX3_lacksCredit_49
  · skip
    refine lv_aload_n hx hb dX3_lacksCredit_13 rfl (lv_at hl 0 rfl) ?_
    refine va_get (D := D) (ci := 3) (v := .ref Nl) (C := RX3) (T := TX3) (N := 11) hx hb hts iX3 hown hK hP 0 rfl rfl 8 (by decide) f11 (fun _ h9 => h9) rfl dX3_lacksCredit_14 ?_
    refine lv_iload_n hx hb dX3_lacksCredit_17 rfl (lv_at hl 1 rfl) ?_
    refine va_aldq (C := "HopCredits$Link") hx hb hK hP 1 1 rfl rfl (by unfold vp_in; decide) dX3_lacksCredit_18 ?_
    refine lv_eqv (v2 := .ref L0) rfl ?_
    refine va_get (D := D) (ci := 2) (v := .ref L0l) (C := RX2) (T := TX2) (N := 10) hx hb hts iX2 hown hK hP 3 rfl rfl 9 (by decide) f128 (fun _ h9 => h9) rfl dX3_lacksCredit_19 ?_
    refine lv_iload_n hx hb dX3_lacksCredit_22 rfl (lv_at hl 2 rfl) ?_
    have hPq_3 := hP; have hDq_3 := hD; have hSq_3 := hS; have hlq_3 := hl; clear hP hD hS hl
    rcases (show cx = 0 ∨ cx = 1 ∨ cx = 2 by omega) with rfl | rfl | rfl
    · skip
      have hP := hPq_3; have hD := hDq_3; have hS := hSq_3; have hl := hlq_3; clear hPq_3 hDq_3 hSq_3 hlq_3
      refine va_aldq (C := "HopCredits$Lane") hx hb hK hP 4 2 rfl rfl (by unfold vp_in; decide) dX3_lacksCredit_23 ?_
      refine lv_eqv (v2 := .ref L0a) rfl ?_
      refine ky_Vi (As := []) (rest := []) ⟨hx, hb, hml, hown, hts⟩ ⟨hK, hN⟩ hZ hP hD hS hA [5] [0, 1, 2, 3, 4, 6, 7] (wc := [(L0a, .inr (1, [.int (fa0 0), .int (fa0 1), .int (fa0 2), .int (fa0 3), .int (fa0 4), .int (fa0 5), .int (fa0 6)]))]) (wr := [(Nn, .inr (3, [.int (fn 0), .int (fn 1), .int (fn 2), .int (fn 3), .int (fn 4), .int (fn 5), .int (fn 6), .int (fn 7), .ref Nl, .ref Nf, .ref Nb])), (Nl, .inl (g 1, 3, .inr (.inr (.inr (.inr (rf3 M0 M1 L0)))))), (Nb, .inl (g 0, 12, .inl fbuf)), (L0, .inr (2, [.int (nI d0), .int (fk0 1), .int (fk0 2), .int (fv0 3), .int (fv0 4), .int (fv0 5), .ref L0c, .ref L0u, .ref L0p, .ref L0l])), (L0l, .inl (g 2, 3, .inr (.inr (.inr (.inr (rf3 L0a L0b L0d)))))), (L0b, .inr (1, [.int (fb0 0), .int (fb0 1), .int (fb0 2), .int (fb0 3), .int (fb0 4), .int (fb0 5), .int (fb0 6)])), (L0d, .inr (1, [.int (fd0 0), .int (fd0 1), .int (fd0 2), .int (fd0 3), .int (fd0 4), .int (fd0 5), .int (fd0 6)]))]) rfl rfl rfl rfl (by decide) (k_X1_out l D g H.size L0a fa0) (cwV 0 hts gX3_lacksCredit_X1_out rfl rfl rfl (by decide +kernel) ⟨(Nat.le_of_ble_eq_true rfl), (Nat.le_of_ble_eq_true rfl)⟩) 5 1 rfl rfl rfl rfl hl.1 rfl (Nat.le_of_ble_eq_true rfl) dX3_lacksCredit_24 ⟨(Nat.le_of_ble_eq_true rfl), (Nat.le_of_ble_eq_true rfl)⟩ (fun r_4 u H locs hw hP2 hD2 hS2 => ?_)
      clear hP hD hS
      obtain ⟨zr_5, rfl, rfl, hf_6⟩ := hw
      have hPD : PD D A [(Nn, .inr (3, [.int (fn 0), .int (fn 1), .int (fn 2), .int (fn 3), .int (fn 4), .int (fn 5), .int (fn 6), .int (fn 7), .ref Nl, .ref Nf, .ref Nb])), (Nl, .inl (g 1, 3, .inr (.inr (.inr (.inr (rf3 M0 M1 L0)))))), (Nb, .inl (g 0, 12, .inl fbuf)), (L0, .inr (2, [.int (nI d0), .int (fk0 1), .int (fk0 2), .int (fv0 3), .int (fv0 4), .int (fv0 5), .ref L0c, .ref L0u, .ref L0p, .ref L0l])), (L0l, .inl (g 2, 3, .inr (.inr (.inr (.inr (rf3 L0a L0b L0d)))))), (L0b, .inr (1, [.int (fb0 0), .int (fb0 1), .int (fb0 2), .int (fb0 3), .int (fb0 4), .int (fb0 5), .int (fb0 6)])), (L0d, .inr (1, [.int (fd0 0), .int (fd0 1), .int (fd0 2), .int (fd0 3), .int (fd0 4), .int (fd0 5), .int (fd0 6)])), (L0a, .inr (1, [.int (fa0 0), .int (fa0 1), .int (fa0 2), .int (fa0 3), .int (fa0 4), .int (fa0 5), .int (fa0 6)]))] H := ⟨hP2, hD2⟩
      have hS := hS2; clear hP2 hD2 hS2; have hP := hPD.1; have hD := hPD.2; clear hPD
      refine W.widen (k := 0) (n := 0) (Nat.le_of_ble_eq_true rfl) (Nat.le_of_ble_eq_true rfl) ?_
      refine lv_aload_n hx hb dX3_lacksCredit_27 rfl (lv_at hl 0 rfl) ?_
      refine va_get (D := D) (ci := 3) (v := .ref Nl) (C := RX3) (T := TX3) (N := 11) hx hb hts iX3 hown hK hP 0 rfl rfl 8 (by decide) f11 (fun _ h9 => h9) rfl dX3_lacksCredit_28 ?_
      refine lv_iload_n hx hb dX3_lacksCredit_31 rfl (lv_at hl 1 rfl) ?_
      refine va_aldq (C := "HopCredits$Link") hx hb hK hP 1 1 rfl rfl (by unfold vp_in; decide) dX3_lacksCredit_32 ?_
      refine lv_eqv (v2 := .ref L0) rfl ?_
      refine va_get (D := D) (ci := 2) (v := .ref L0l) (C := RX2) (T := TX2) (N := 10) hx hb hts iX2 hown hK hP 3 rfl rfl 9 (by decide) f128 (fun _ h9 => h9) rfl dX3_lacksCredit_33 ?_
      refine lv_iload_n hx hb dX3_lacksCredit_36 rfl (lv_at hl 2 rfl) ?_
      refine va_aldq (C := "HopCredits$Lane") hx hb hK hP 4 2 rfl rfl (by unfold vp_in; decide) dX3_lacksCredit_37 ?_
      refine lv_eqv (v2 := .ref L0a) rfl ?_
      refine va_get (D := D) (ci := 1) (v := .int (fa0 3)) (C := RX1) (T := TX1) (N := 7) hx hb hts iX1 hown hK hP 7 rfl rfl 3 (by decide) f195 (fun _ h9 => h9) rfl dX3_lacksCredit_38 ?_
      refine lv_icmp_lt (tgt := 48) hx hb dX3_lacksCredit_41 (by decide) (fun cb_7 => ?_) (fun cb_7 => ?_)
      · skip
        refine lv_iconst (v := 0) hx hb dX3_lacksCredit_48 (by decide) ?_
        have hPD9 : PD D A [(Nn, .inr (3, [.int (fn 0), .int (fn 1), .int (fn 2), .int (fn 3), .int (fn 4), .int (fn 5), .int (fn 6), .int (fn 7), .ref Nl, .ref Nf, .ref Nb])), (Nl, .inl (g 1, 3, .inr (.inr (.inr (.inr (rf3 M0 M1 L0)))))), (Nb, .inl (g 0, 12, .inl fbuf)), (L0, .inr (2, [.int (nI d0), .int (fk0 1), .int (fk0 2), .int (fv0 3), .int (fv0 4), .int (fv0 5), .ref L0c, .ref L0u, .ref L0p, .ref L0l])), (L0l, .inl (g 2, 3, .inr (.inr (.inr (.inr (rf3 L0a L0b L0d)))))), (L0a, .inr (1, [.int (fa0 0), .int (fa0 1), .int (fa0 2), .int (fa0 3), .int (fa0 4), .int (fa0 5), .int (fa0 6)])), (L0b, .inr (1, [.int (fb0 0), .int (fb0 1), .int (fb0 2), .int (fb0 3), .int (fb0 4), .int (fb0 5), .int (fb0 6)])), (L0d, .inr (1, [.int (fd0 0), .int (fd0 1), .int (fd0 2), .int (fd0 3), .int (fd0 4), .int (fd0 5), .int (fd0 6)]))] H := ⟨hP.sub [0, 1, 2, 3, 4, 7, 5, 6] rfl, hD.sub [0, 1, 2, 3, 4, 7, 5, 6] (by decide) rfl⟩
        have hP9 := hPD9.1; have hD9 := hPD9.2
        subst hQ
        refine W.widen (k := 0) (n := 0) (Nat.le_of_ble_eq_true rfl) (Nat.le_of_ble_eq_true rfl) ?_
        exact W.zret (v := 0) (ty := .boolean) hx hb hr (rfl) (fun tS htS _ => ⟨⟨_, _, rfl, rfl, by rw [htS]; exact hP9, hD9⟩, hS.F htS⟩) hS.2.2 dX3_lacksCredit_49
      · skip
        refine lv_iconst (v := 1) hx hb dX3_lacksCredit_44 (by decide) ?_
        refine lv_goto (tgt := 49) hx hb dX3_lacksCredit_45 (by decide) ?_
        have hPD9 : PD D A [(Nn, .inr (3, [.int (fn 0), .int (fn 1), .int (fn 2), .int (fn 3), .int (fn 4), .int (fn 5), .int (fn 6), .int (fn 7), .ref Nl, .ref Nf, .ref Nb])), (Nl, .inl (g 1, 3, .inr (.inr (.inr (.inr (rf3 M0 M1 L0)))))), (Nb, .inl (g 0, 12, .inl fbuf)), (L0, .inr (2, [.int (nI d0), .int (fk0 1), .int (fk0 2), .int (fv0 3), .int (fv0 4), .int (fv0 5), .ref L0c, .ref L0u, .ref L0p, .ref L0l])), (L0l, .inl (g 2, 3, .inr (.inr (.inr (.inr (rf3 L0a L0b L0d)))))), (L0a, .inr (1, [.int (fa0 0), .int (fa0 1), .int (fa0 2), .int (fa0 3), .int (fa0 4), .int (fa0 5), .int (fa0 6)])), (L0b, .inr (1, [.int (fb0 0), .int (fb0 1), .int (fb0 2), .int (fb0 3), .int (fb0 4), .int (fb0 5), .int (fb0 6)])), (L0d, .inr (1, [.int (fd0 0), .int (fd0 1), .int (fd0 2), .int (fd0 3), .int (fd0 4), .int (fd0 5), .int (fd0 6)]))] H := ⟨hP.sub [0, 1, 2, 3, 4, 7, 5, 6] rfl, hD.sub [0, 1, 2, 3, 4, 7, 5, 6] (by decide) rfl⟩
        have hP9 := hPD9.1; have hD9 := hPD9.2
        subst hQ
        refine W.widen (k := 0) (n := 0) (Nat.le_of_ble_eq_true rfl) (Nat.le_of_ble_eq_true rfl) ?_
        exact W.zret (v := 1) (ty := .boolean) hx hb hr (rfl) (fun tS htS _ => ⟨⟨_, _, rfl, rfl, by rw [htS]; exact hP9, hD9⟩, hS.F htS⟩) hS.2.2 dX3_lacksCredit_49
    · skip
      have hP := hPq_3; have hD := hDq_3; have hS := hSq_3; have hl := hlq_3; clear hPq_3 hDq_3 hSq_3 hlq_3
      refine va_aldq (C := "HopCredits$Lane") hx hb hK hP 4 2 rfl rfl (by unfold vp_in; decide) dX3_lacksCredit_23 ?_
      refine lv_eqv (v2 := .ref L0b) rfl ?_
      refine ky_Vi (As := []) (rest := []) ⟨hx, hb, hml, hown, hts⟩ ⟨hK, hN⟩ hZ hP hD hS hA [6] [0, 1, 2, 3, 4, 5, 7] (wc := [(L0b, .inr (1, [.int (fb0 0), .int (fb0 1), .int (fb0 2), .int (fb0 3), .int (fb0 4), .int (fb0 5), .int (fb0 6)]))]) (wr := [(Nn, .inr (3, [.int (fn 0), .int (fn 1), .int (fn 2), .int (fn 3), .int (fn 4), .int (fn 5), .int (fn 6), .int (fn 7), .ref Nl, .ref Nf, .ref Nb])), (Nl, .inl (g 1, 3, .inr (.inr (.inr (.inr (rf3 M0 M1 L0)))))), (Nb, .inl (g 0, 12, .inl fbuf)), (L0, .inr (2, [.int (nI d0), .int (fk0 1), .int (fk0 2), .int (fv0 3), .int (fv0 4), .int (fv0 5), .ref L0c, .ref L0u, .ref L0p, .ref L0l])), (L0l, .inl (g 2, 3, .inr (.inr (.inr (.inr (rf3 L0a L0b L0d)))))), (L0a, .inr (1, [.int (fa0 0), .int (fa0 1), .int (fa0 2), .int (fa0 3), .int (fa0 4), .int (fa0 5), .int (fa0 6)])), (L0d, .inr (1, [.int (fd0 0), .int (fd0 1), .int (fd0 2), .int (fd0 3), .int (fd0 4), .int (fd0 5), .int (fd0 6)]))]) rfl rfl rfl rfl (by decide) (k_X1_out l D g H.size L0b fb0) (cwV 0 hts gX3_lacksCredit_X1_out rfl rfl rfl (by decide +kernel) ⟨(Nat.le_of_ble_eq_true rfl), (Nat.le_of_ble_eq_true rfl)⟩) 6 1 rfl rfl rfl rfl hl.1 rfl (Nat.le_of_ble_eq_true rfl) dX3_lacksCredit_24 ⟨(Nat.le_of_ble_eq_true rfl), (Nat.le_of_ble_eq_true rfl)⟩ (fun r_8 u H locs hw hP2 hD2 hS2 => ?_)
      clear hP hD hS
      obtain ⟨zr_9, rfl, rfl, hf_10⟩ := hw
      have hPD : PD D A [(Nn, .inr (3, [.int (fn 0), .int (fn 1), .int (fn 2), .int (fn 3), .int (fn 4), .int (fn 5), .int (fn 6), .int (fn 7), .ref Nl, .ref Nf, .ref Nb])), (Nl, .inl (g 1, 3, .inr (.inr (.inr (.inr (rf3 M0 M1 L0)))))), (Nb, .inl (g 0, 12, .inl fbuf)), (L0, .inr (2, [.int (nI d0), .int (fk0 1), .int (fk0 2), .int (fv0 3), .int (fv0 4), .int (fv0 5), .ref L0c, .ref L0u, .ref L0p, .ref L0l])), (L0l, .inl (g 2, 3, .inr (.inr (.inr (.inr (rf3 L0a L0b L0d)))))), (L0a, .inr (1, [.int (fa0 0), .int (fa0 1), .int (fa0 2), .int (fa0 3), .int (fa0 4), .int (fa0 5), .int (fa0 6)])), (L0d, .inr (1, [.int (fd0 0), .int (fd0 1), .int (fd0 2), .int (fd0 3), .int (fd0 4), .int (fd0 5), .int (fd0 6)])), (L0b, .inr (1, [.int (fb0 0), .int (fb0 1), .int (fb0 2), .int (fb0 3), .int (fb0 4), .int (fb0 5), .int (fb0 6)]))] H := ⟨hP2, hD2⟩
      have hS := hS2; clear hP2 hD2 hS2; have hP := hPD.1; have hD := hPD.2; clear hPD
      refine W.widen (k := 0) (n := 0) (Nat.le_of_ble_eq_true rfl) (Nat.le_of_ble_eq_true rfl) ?_
      refine lv_aload_n hx hb dX3_lacksCredit_27 rfl (lv_at hl 0 rfl) ?_
      refine va_get (D := D) (ci := 3) (v := .ref Nl) (C := RX3) (T := TX3) (N := 11) hx hb hts iX3 hown hK hP 0 rfl rfl 8 (by decide) f11 (fun _ h9 => h9) rfl dX3_lacksCredit_28 ?_
      refine lv_iload_n hx hb dX3_lacksCredit_31 rfl (lv_at hl 1 rfl) ?_
      refine va_aldq (C := "HopCredits$Link") hx hb hK hP 1 1 rfl rfl (by unfold vp_in; decide) dX3_lacksCredit_32 ?_
      refine lv_eqv (v2 := .ref L0) rfl ?_
      refine va_get (D := D) (ci := 2) (v := .ref L0l) (C := RX2) (T := TX2) (N := 10) hx hb hts iX2 hown hK hP 3 rfl rfl 9 (by decide) f128 (fun _ h9 => h9) rfl dX3_lacksCredit_33 ?_
      refine lv_iload_n hx hb dX3_lacksCredit_36 rfl (lv_at hl 2 rfl) ?_
      refine va_aldq (C := "HopCredits$Lane") hx hb hK hP 4 2 rfl rfl (by unfold vp_in; decide) dX3_lacksCredit_37 ?_
      refine lv_eqv (v2 := .ref L0b) rfl ?_
      refine va_get (D := D) (ci := 1) (v := .int (fb0 3)) (C := RX1) (T := TX1) (N := 7) hx hb hts iX1 hown hK hP 7 rfl rfl 3 (by decide) f195 (fun _ h9 => h9) rfl dX3_lacksCredit_38 ?_
      refine lv_icmp_lt (tgt := 48) hx hb dX3_lacksCredit_41 (by decide) (fun cb_11 => ?_) (fun cb_11 => ?_)
      · skip
        refine lv_iconst (v := 0) hx hb dX3_lacksCredit_48 (by decide) ?_
        have hPD9 : PD D A [(Nn, .inr (3, [.int (fn 0), .int (fn 1), .int (fn 2), .int (fn 3), .int (fn 4), .int (fn 5), .int (fn 6), .int (fn 7), .ref Nl, .ref Nf, .ref Nb])), (Nl, .inl (g 1, 3, .inr (.inr (.inr (.inr (rf3 M0 M1 L0)))))), (Nb, .inl (g 0, 12, .inl fbuf)), (L0, .inr (2, [.int (nI d0), .int (fk0 1), .int (fk0 2), .int (fv0 3), .int (fv0 4), .int (fv0 5), .ref L0c, .ref L0u, .ref L0p, .ref L0l])), (L0l, .inl (g 2, 3, .inr (.inr (.inr (.inr (rf3 L0a L0b L0d)))))), (L0a, .inr (1, [.int (fa0 0), .int (fa0 1), .int (fa0 2), .int (fa0 3), .int (fa0 4), .int (fa0 5), .int (fa0 6)])), (L0b, .inr (1, [.int (fb0 0), .int (fb0 1), .int (fb0 2), .int (fb0 3), .int (fb0 4), .int (fb0 5), .int (fb0 6)])), (L0d, .inr (1, [.int (fd0 0), .int (fd0 1), .int (fd0 2), .int (fd0 3), .int (fd0 4), .int (fd0 5), .int (fd0 6)]))] H := ⟨hP.sub [0, 1, 2, 3, 4, 5, 7, 6] rfl, hD.sub [0, 1, 2, 3, 4, 5, 7, 6] (by decide) rfl⟩
        have hP9 := hPD9.1; have hD9 := hPD9.2
        subst hQ
        refine W.widen (k := 0) (n := 0) (Nat.le_of_ble_eq_true rfl) (Nat.le_of_ble_eq_true rfl) ?_
        exact W.zret (v := 0) (ty := .boolean) hx hb hr (rfl) (fun tS htS _ => ⟨⟨_, _, rfl, rfl, by rw [htS]; exact hP9, hD9⟩, hS.F htS⟩) hS.2.2 dX3_lacksCredit_49
      · skip
        refine lv_iconst (v := 1) hx hb dX3_lacksCredit_44 (by decide) ?_
        refine lv_goto (tgt := 49) hx hb dX3_lacksCredit_45 (by decide) ?_
        have hPD9 : PD D A [(Nn, .inr (3, [.int (fn 0), .int (fn 1), .int (fn 2), .int (fn 3), .int (fn 4), .int (fn 5), .int (fn 6), .int (fn 7), .ref Nl, .ref Nf, .ref Nb])), (Nl, .inl (g 1, 3, .inr (.inr (.inr (.inr (rf3 M0 M1 L0)))))), (Nb, .inl (g 0, 12, .inl fbuf)), (L0, .inr (2, [.int (nI d0), .int (fk0 1), .int (fk0 2), .int (fv0 3), .int (fv0 4), .int (fv0 5), .ref L0c, .ref L0u, .ref L0p, .ref L0l])), (L0l, .inl (g 2, 3, .inr (.inr (.inr (.inr (rf3 L0a L0b L0d)))))), (L0a, .inr (1, [.int (fa0 0), .int (fa0 1), .int (fa0 2), .int (fa0 3), .int (fa0 4), .int (fa0 5), .int (fa0 6)])), (L0b, .inr (1, [.int (fb0 0), .int (fb0 1), .int (fb0 2), .int (fb0 3), .int (fb0 4), .int (fb0 5), .int (fb0 6)])), (L0d, .inr (1, [.int (fd0 0), .int (fd0 1), .int (fd0 2), .int (fd0 3), .int (fd0 4), .int (fd0 5), .int (fd0 6)]))] H := ⟨hP.sub [0, 1, 2, 3, 4, 5, 7, 6] rfl, hD.sub [0, 1, 2, 3, 4, 5, 7, 6] (by decide) rfl⟩
        have hP9 := hPD9.1; have hD9 := hPD9.2
        subst hQ
        refine W.widen (k := 0) (n := 0) (Nat.le_of_ble_eq_true rfl) (Nat.le_of_ble_eq_true rfl) ?_
        exact W.zret (v := 1) (ty := .boolean) hx hb hr (rfl) (fun tS htS _ => ⟨⟨_, _, rfl, rfl, by rw [htS]; exact hP9, hD9⟩, hS.F htS⟩) hS.2.2 dX3_lacksCredit_49
    · skip
      have hP := hPq_3; have hD := hDq_3; have hS := hSq_3; have hl := hlq_3; clear hPq_3 hDq_3 hSq_3 hlq_3
      refine va_aldq (C := "HopCredits$Lane") hx hb hK hP 4 2 rfl rfl (by unfold vp_in; decide) dX3_lacksCredit_23 ?_
      refine lv_eqv (v2 := .ref L0d) rfl ?_
      refine ky_Vi (As := []) (rest := []) ⟨hx, hb, hml, hown, hts⟩ ⟨hK, hN⟩ hZ hP hD hS hA [7] [0, 1, 2, 3, 4, 5, 6] (wc := [(L0d, .inr (1, [.int (fd0 0), .int (fd0 1), .int (fd0 2), .int (fd0 3), .int (fd0 4), .int (fd0 5), .int (fd0 6)]))]) (wr := [(Nn, .inr (3, [.int (fn 0), .int (fn 1), .int (fn 2), .int (fn 3), .int (fn 4), .int (fn 5), .int (fn 6), .int (fn 7), .ref Nl, .ref Nf, .ref Nb])), (Nl, .inl (g 1, 3, .inr (.inr (.inr (.inr (rf3 M0 M1 L0)))))), (Nb, .inl (g 0, 12, .inl fbuf)), (L0, .inr (2, [.int (nI d0), .int (fk0 1), .int (fk0 2), .int (fv0 3), .int (fv0 4), .int (fv0 5), .ref L0c, .ref L0u, .ref L0p, .ref L0l])), (L0l, .inl (g 2, 3, .inr (.inr (.inr (.inr (rf3 L0a L0b L0d)))))), (L0a, .inr (1, [.int (fa0 0), .int (fa0 1), .int (fa0 2), .int (fa0 3), .int (fa0 4), .int (fa0 5), .int (fa0 6)])), (L0b, .inr (1, [.int (fb0 0), .int (fb0 1), .int (fb0 2), .int (fb0 3), .int (fb0 4), .int (fb0 5), .int (fb0 6)]))]) rfl rfl rfl rfl (by decide) (k_X1_out l D g H.size L0d fd0) (cwV 0 hts gX3_lacksCredit_X1_out rfl rfl rfl (by decide +kernel) ⟨(Nat.le_of_ble_eq_true rfl), (Nat.le_of_ble_eq_true rfl)⟩) 7 1 rfl rfl rfl rfl hl.1 rfl (Nat.le_of_ble_eq_true rfl) dX3_lacksCredit_24 ⟨(Nat.le_of_ble_eq_true rfl), (Nat.le_of_ble_eq_true rfl)⟩ (fun r_12 u H locs hw hP2 hD2 hS2 => ?_)
      clear hP hD hS
      obtain ⟨zr_13, rfl, rfl, hf_14⟩ := hw
      have hPD : PD D A [(Nn, .inr (3, [.int (fn 0), .int (fn 1), .int (fn 2), .int (fn 3), .int (fn 4), .int (fn 5), .int (fn 6), .int (fn 7), .ref Nl, .ref Nf, .ref Nb])), (Nl, .inl (g 1, 3, .inr (.inr (.inr (.inr (rf3 M0 M1 L0)))))), (Nb, .inl (g 0, 12, .inl fbuf)), (L0, .inr (2, [.int (nI d0), .int (fk0 1), .int (fk0 2), .int (fv0 3), .int (fv0 4), .int (fv0 5), .ref L0c, .ref L0u, .ref L0p, .ref L0l])), (L0l, .inl (g 2, 3, .inr (.inr (.inr (.inr (rf3 L0a L0b L0d)))))), (L0a, .inr (1, [.int (fa0 0), .int (fa0 1), .int (fa0 2), .int (fa0 3), .int (fa0 4), .int (fa0 5), .int (fa0 6)])), (L0b, .inr (1, [.int (fb0 0), .int (fb0 1), .int (fb0 2), .int (fb0 3), .int (fb0 4), .int (fb0 5), .int (fb0 6)])), (L0d, .inr (1, [.int (fd0 0), .int (fd0 1), .int (fd0 2), .int (fd0 3), .int (fd0 4), .int (fd0 5), .int (fd0 6)]))] H := ⟨hP2, hD2⟩
      have hS := hS2; clear hP2 hD2 hS2; have hP := hPD.1; have hD := hPD.2; clear hPD
      refine W.widen (k := 0) (n := 0) (Nat.le_of_ble_eq_true rfl) (Nat.le_of_ble_eq_true rfl) ?_
      refine lv_aload_n hx hb dX3_lacksCredit_27 rfl (lv_at hl 0 rfl) ?_
      refine va_get (D := D) (ci := 3) (v := .ref Nl) (C := RX3) (T := TX3) (N := 11) hx hb hts iX3 hown hK hP 0 rfl rfl 8 (by decide) f11 (fun _ h9 => h9) rfl dX3_lacksCredit_28 ?_
      refine lv_iload_n hx hb dX3_lacksCredit_31 rfl (lv_at hl 1 rfl) ?_
      refine va_aldq (C := "HopCredits$Link") hx hb hK hP 1 1 rfl rfl (by unfold vp_in; decide) dX3_lacksCredit_32 ?_
      refine lv_eqv (v2 := .ref L0) rfl ?_
      refine va_get (D := D) (ci := 2) (v := .ref L0l) (C := RX2) (T := TX2) (N := 10) hx hb hts iX2 hown hK hP 3 rfl rfl 9 (by decide) f128 (fun _ h9 => h9) rfl dX3_lacksCredit_33 ?_
      refine lv_iload_n hx hb dX3_lacksCredit_36 rfl (lv_at hl 2 rfl) ?_
      refine va_aldq (C := "HopCredits$Lane") hx hb hK hP 4 2 rfl rfl (by unfold vp_in; decide) dX3_lacksCredit_37 ?_
      refine lv_eqv (v2 := .ref L0d) rfl ?_
      refine va_get (D := D) (ci := 1) (v := .int (fd0 3)) (C := RX1) (T := TX1) (N := 7) hx hb hts iX1 hown hK hP 7 rfl rfl 3 (by decide) f195 (fun _ h9 => h9) rfl dX3_lacksCredit_38 ?_
      refine lv_icmp_lt (tgt := 48) hx hb dX3_lacksCredit_41 (by decide) (fun cb_15 => ?_) (fun cb_15 => ?_)
      · skip
        refine lv_iconst (v := 0) hx hb dX3_lacksCredit_48 (by decide) ?_
        have hP9 := hP; have hD9 := hD
        subst hQ
        refine W.widen (k := 0) (n := 0) (Nat.le_of_ble_eq_true rfl) (Nat.le_of_ble_eq_true rfl) ?_
        exact W.zret (v := 0) (ty := .boolean) hx hb hr (rfl) (fun tS htS _ => ⟨⟨_, _, rfl, rfl, by rw [htS]; exact hP9, hD9⟩, hS.F htS⟩) hS.2.2 dX3_lacksCredit_49
      · skip
        refine lv_iconst (v := 1) hx hb dX3_lacksCredit_44 (by decide) ?_
        refine lv_goto (tgt := 49) hx hb dX3_lacksCredit_45 (by decide) ?_
        have hP9 := hP; have hD9 := hD
        subst hQ
        refine W.widen (k := 0) (n := 0) (Nat.le_of_ble_eq_true rfl) (Nat.le_of_ble_eq_true rfl) ?_
        exact W.zret (v := 1) (ty := .boolean) hx hb hr (rfl) (fun tS htS _ => ⟨⟨_, _, rfl, rfl, by rw [htS]; exact hP9, hD9⟩, hS.F htS⟩) hS.2.2 dX3_lacksCredit_49

set_option maxHeartbeats 4000000 in
set_option maxRecDepth 100000 in
theorem k_X3_nextSender_0 (l : Launch) (D : va_G) (g : Nat → ClassId) (sz : Nat) (Nn : Nat) (hp : Nat) (cc : Nat) (zrs : Int32) (zad : Int32) (zpr : Int32) (t : Nat) (zlo : Int32) (zps : Int32) (Nl : Nat) (Nf : Nat) (Nb : Nat) (L0 : Nat) (M1 : Nat) (M2 : Nat) (fbuf : Nat → Int32) (d0 : Nat) (fk0 : Nat → Int32) (fv0 : Nat → Int32) (L0c : Nat) (L0u : Nat) (L0p : Nat) (L0l : Nat) (L0a : Nat) (L0b : Nat) (L0d : Nat) (fa0 : Nat → Int32) (fb0 : Nat → Int32) (fd0 : Nat → Int32) (h0 : 1 ≤ cc) (h1 : cc ≤ 3) (h2 : okc (fv0 4)) : Met l yX3_nextSender wsX3_nextSender ({ frames := 1, cells := 0, slots := 0, locals := 20 }) (va_Pc [.ref Nn, .int 0] (pre D g sz [(Nn, .inr (3, [.int (nI hp), .int (nI cc), .int zrs, .int zad, .int zpr, .int (nI t), .int zlo, .int zps, .ref Nl, .ref Nf, .ref Nb])), (Nl, .inl (g 1, 3, .inr (.inr (.inr (.inr (rf3 L0 M1 M2)))))), (Nb, .inl (g 0, 12, .inl fbuf)), (L0, .inr (2, [.int (nI d0), .int (fk0 1), .int (fk0 2), .int (fv0 3), .int (fv0 4), .int (fv0 5), .ref L0c, .ref L0u, .ref L0p, .ref L0l])), (L0l, .inl (g 2, 3, .inr (.inr (.inr (.inr (rf3 L0a L0b L0d)))))), (L0a, .inr (1, [.int (fa0 0), .int (fa0 1), .int (fa0 2), .int (fa0 3), .int (fa0 4), .int (fa0 5), .int (fa0 6)])), (L0b, .inr (1, [.int (fb0 0), .int (fb0 1), .int (fb0 2), .int (fb0 3), .int (fb0 4), .int (fb0 5), .int (fb0 6)])), (L0d, .inr (1, [.int (fd0 0), .int (fd0 1), .int (fd0 2), .int (fd0 3), .int (fd0 4), .int (fd0 5), .int (fd0 6)]))])) (va_Qi (fun (r : Int32) (u : va_W) => ∃ (zr : Int32), u = [(Nn, .inr (3, [.int (nI hp), .int (nI cc), .int zrs, .int zad, .int zpr, .int (nI t), .int zlo, .int zps, .ref Nl, .ref Nf, .ref Nb])), (Nl, .inl (g 1, 3, .inr (.inr (.inr (.inr (rf3 L0 M1 M2)))))), (Nb, .inl (g 0, 12, .inl fbuf)), (L0, .inr (2, [.int (nI d0), .int (fk0 1), .int (fk0 2), .int (fv0 3), .int (fv0 4), .int (fv0 5), .ref L0c, .ref L0u, .ref L0p, .ref L0l])), (L0l, .inl (g 2, 3, .inr (.inr (.inr (.inr (rf3 L0a L0b L0d)))))), (L0a, .inr (1, [.int (fa0 0), .int (fa0 1), .int (fa0 2), .int (fa0 3), .int (fa0 4), .int (fa0 5), .int (fa0 6)])), (L0b, .inr (1, [.int (fb0 0), .int (fb0 1), .int (fb0 2), .int (fb0 3), .int (fb0 4), .int (fb0 5), .int (fb0 6)])), (L0d, .inr (1, [.int (fd0 0), .int (fd0 1), .int (fd0 2), .int (fd0 3), .int (fd0 4), .int (fd0 5), .int (fd0 6)]))] ∧ r = zr ∧ (okc zr)) (wd D (va_A [(Nn, .inr (3, [.int (nI hp), .int (nI cc), .int zrs, .int zad, .int zpr, .int (nI t), .int zlo, .int zps, .ref Nl, .ref Nf, .ref Nb])), (Nl, .inl (g 1, 3, .inr (.inr (.inr (.inr (rf3 L0 M1 M2)))))), (Nb, .inl (g 0, 12, .inl fbuf)), (L0, .inr (2, [.int (nI d0), .int (fk0 1), .int (fk0 2), .int (fv0 3), .int (fv0 4), .int (fv0 5), .ref L0c, .ref L0u, .ref L0p, .ref L0l])), (L0l, .inl (g 2, 3, .inr (.inr (.inr (.inr (rf3 L0a L0b L0d)))))), (L0a, .inr (1, [.int (fa0 0), .int (fa0 1), .int (fa0 2), .int (fa0 3), .int (fa0 4), .int (fa0 5), .int (fa0 6)])), (L0b, .inr (1, [.int (fb0 0), .int (fb0 1), .int (fb0 2), .int (fb0 3), .int (fb0 4), .int (fb0 5), .int (fb0 6)])), (L0d, .inr (1, [.int (fd0 0), .int (fd0 1), .int (fd0 2), .int (fd0 3), .int (fd0 4), .int (fd0 5), .int (fd0 6)]))] sz)) (va_A [(Nn, .inr (3, [.int (nI hp), .int (nI cc), .int zrs, .int zad, .int zpr, .int (nI t), .int zlo, .int zps, .ref Nl, .ref Nf, .ref Nb])), (Nl, .inl (g 1, 3, .inr (.inr (.inr (.inr (rf3 L0 M1 M2)))))), (Nb, .inl (g 0, 12, .inl fbuf)), (L0, .inr (2, [.int (nI d0), .int (fk0 1), .int (fk0 2), .int (fv0 3), .int (fv0 4), .int (fv0 5), .ref L0c, .ref L0u, .ref L0p, .ref L0l])), (L0l, .inl (g 2, 3, .inr (.inr (.inr (.inr (rf3 L0a L0b L0d)))))), (L0a, .inr (1, [.int (fa0 0), .int (fa0 1), .int (fa0 2), .int (fa0 3), .int (fa0 4), .int (fa0 5), .int (fa0 6)])), (L0b, .inr (1, [.int (fb0 0), .int (fb0 1), .int (fb0 2), .int (fb0 3), .int (fb0 4), .int (fb0 5), .int (fb0 6)])), (L0d, .inr (1, [.int (fd0 0), .int (fd0 1), .int (fd0 2), .int (fd0 3), .int (fd0 4), .int (fd0 5), .int (fd0 6)]))] sz)) 0 0 (va_A [(Nn, .inr (3, [.int (nI hp), .int (nI cc), .int zrs, .int zad, .int zpr, .int (nI t), .int zlo, .int zps, .ref Nl, .ref Nf, .ref Nb])), (Nl, .inl (g 1, 3, .inr (.inr (.inr (.inr (rf3 L0 M1 M2)))))), (Nb, .inl (g 0, 12, .inl fbuf)), (L0, .inr (2, [.int (nI d0), .int (fk0 1), .int (fk0 2), .int (fv0 3), .int (fv0 4), .int (fv0 5), .ref L0c, .ref L0u, .ref L0p, .ref L0l])), (L0l, .inl (g 2, 3, .inr (.inr (.inr (.inr (rf3 L0a L0b L0d)))))), (L0a, .inr (1, [.int (fa0 0), .int (fa0 1), .int (fa0 2), .int (fa0 3), .int (fa0 4), .int (fa0 5), .int (fa0 6)])), (L0b, .inr (1, [.int (fb0 0), .int (fb0 1), .int (fb0 2), .int (fb0 3), .int (fb0 4), .int (fb0 5), .int (fb0 6)])), (L0d, .inr (1, [.int (fd0 0), .int (fd0 1), .int (fd0 2), .int (fd0 3), .int (fd0 4), .int (fd0 5), .int (fd0 6)]))] sz) := by
  refine Met.ofW (cc := cX3_nextSender) (maxL := 6) (ret := (some .int)) (by decide) rfl ?_
  intro p e s m args below meth c s₁ B hml hv
  obtain ⟨rfl, hsz, hP, ⟨hK, hN⟩, hD0, hZ⟩ := hv
  have hx := B.exec
  have hb := B.bytes
  have hr := B.returns
  have hts := atoms_spec (ws := wsX3_nextSender) B.pre
  have hown : s.vm.findClass RX3 = some m.cls := findClass_of_methodNamed B.named
  have hlocks := B.notSynchronized
  clear B
  subst hsz
  have hD := hD0.self (sz := s.heap.size)
  clear hD0
  generalize hAe : va_A [(Nn, .inr (3, [.int (nI hp), .int (nI cc), .int zrs, .int zad, .int zpr, .int (nI t), .int zlo, .int zps, .ref Nl, .ref Nf, .ref Nb])), (Nl, .inl (g 1, 3, .inr (.inr (.inr (.inr (rf3 L0 M1 M2)))))), (Nb, .inl (g 0, 12, .inl fbuf)), (L0, .inr (2, [.int (nI d0), .int (fk0 1), .int (fk0 2), .int (fv0 3), .int (fv0 4), .int (fv0 5), .ref L0c, .ref L0u, .ref L0p, .ref L0l])), (L0l, .inl (g 2, 3, .inr (.inr (.inr (.inr (rf3 L0a L0b L0d)))))), (L0a, .inr (1, [.int (fa0 0), .int (fa0 1), .int (fa0 2), .int (fa0 3), .int (fa0 4), .int (fa0 5), .int (fa0 6)])), (L0b, .inr (1, [.int (fb0 0), .int (fb0 1), .int (fb0 2), .int (fb0 3), .int (fb0 4), .int (fb0 5), .int (fb0 6)])), (L0d, .inr (1, [.int (fd0 0), .int (fd0 1), .int (fd0 2), .int (fd0 3), .int (fd0 4), .int (fd0 5), .int (fd0 6)]))] s.heap.size = A at hD hZ ⊢
  have hA : ∀ q : Nat, s.heap.size ≤ q → A q := fun q h => by rw [← hAe]; exact Or.inr h
  have hS : va_S A s.heap s.heap [] := va_S.rf
  have f11 := hts (.fieldLink RX3 11 "HopCredits$Net" "links" "[LHopCredits$Link;") (by decide +kernel)
  have f128 := hts (.fieldLink RX3 128 "HopCredits$Link" "lanes" "[LHopCredits$Lane;") (by decide +kernel)
  have f180 := hts (.fieldLink RX3 180 "HopCredits$Link" "latest" "I") (by decide +kernel)
  have f195 := hts (.fieldLink RX3 195 "HopCredits$Lane" "zone" "I") (by decide +kernel)
  have f23 := hts (.fieldLink RX3 23 "HopCredits$Net" "buffers" "[I") (by decide +kernel)
  have f62 := hts (.fieldLink RX3 62 "HopCredits$Net" "circuits" "I") (by decide +kernel)
  have iX1 : ∀ w ∈ u_ws RX1 TX1 7, w ∈ wsX3_nextSender := by decide +kernel
  have iX2 : ∀ w ∈ u_ws RX2 TX2 10, w ∈ wsX3_nextSender := by decide +kernel
  have iX3 : ∀ w ∈ u_ws RX3 TX3 11, w ∈ wsX3_nextSender := by decide +kernel
  have hl := lv_entry ([.ref Nn, .int 0]) (n := 6) (Nat.le_of_ble_eq_true rfl)
  rw [lg_entry_eq]
  generalize (lg_sl ([.ref Nn, .int 0]) ++ List.replicate (6 - (lg_sl ([.ref Nn, .int 0])).length) Slot.unset).toArray = ls at hl ⊢
  have hl : lv_has ls 6 [(0, .ref Nn), (1, .int 0)] := hl
  generalize hQ : MQ below _ _ s _ _ _ = Q
  generalize hH : s.heap = H at hP ⊢
  have hS : va_S A s.heap H [] := by rw [← hH]; exact hS
  clear hH
  refine lv_aload_n hx hb dX3_nextSender_0 rfl (lv_at hl 0 rfl) ?_
  refine va_get (D := D) (ci := 3) (v := .ref Nl) (C := RX3) (T := TX3) (N := 11) hx hb hts iX3 hown hK hP 0 rfl rfl 8 (by decide) f11 (fun _ h9 => h9) rfl dX3_nextSender_1 ?_
  refine lv_iload_n hx hb dX3_nextSender_4 rfl (lv_at hl 1 rfl) ?_
  refine va_aldq (C := "HopCredits$Link") hx hb hK hP 1 1 rfl rfl (by unfold vp_in; decide) dX3_nextSender_5 ?_
  refine lv_eqv (v2 := .ref L0) rfl ?_
  refine lv_astore_n (lv' := [(2, .ref L0), (0, .ref Nn), (1, .int 0)]) hx hb dX3_nextSender_6 rfl hl (by decide) rfl (fun ls hl => ?_)
  refine lv_iconst (v := 1) hx hb dX3_nextSender_7 (by decide) ?_
  refine lv_istore_n (lv' := [(3, .int 1), (2, .ref L0), (0, .ref Nn), (1, .int 0)]) hx hb dX3_nextSender_8 rfl hl (by decide) rfl (fun ls hl => ?_)
  have loop_50 : ∀ (Nloop_50 : Nat) (i_23 : Nat) (hbi_23 : i_23 ≤ cc + 1) (hv_49 : 1 ≤ i_23) (hmloop_50 : (cc + 1) - i_23 < Nloop_50) (H : Heap) (locs : List Loc) (ls : Array Slot), va_P D vwCl [(Nn, .inr (3, [.int (nI hp), .int (nI cc), .int zrs, .int zad, .int zpr, .int (nI t), .int zlo, .int zps, .ref Nl, .ref Nf, .ref Nb])), (Nl, .inl (g 1, 3, .inr (.inr (.inr (.inr (rf3 L0 M1 M2)))))), (Nb, .inl (g 0, 12, .inl fbuf)), (L0, .inr (2, [.int (nI d0), .int (fk0 1), .int (fk0 2), .int (fv0 3), .int (fv0 4), .int (fv0 5), .ref L0c, .ref L0u, .ref L0p, .ref L0l])), (L0l, .inl (g 2, 3, .inr (.inr (.inr (.inr (rf3 L0a L0b L0d)))))), (L0a, .inr (1, [.int (fa0 0), .int (fa0 1), .int (fa0 2), .int (fa0 3), .int (fa0 4), .int (fa0 5), .int (fa0 6)])), (L0b, .inr (1, [.int (fb0 0), .int (fb0 1), .int (fb0 2), .int (fb0 3), .int (fb0 4), .int (fb0 5), .int (fb0 6)])), (L0d, .inr (1, [.int (fd0 0), .int (fd0 1), .int (fd0 2), .int (fd0 3), .int (fd0 4), .int (fd0 5), .int (fd0 6)]))] H → va_D A [(Nn, .inr (3, [.int (nI hp), .int (nI cc), .int zrs, .int zad, .int zpr, .int (nI t), .int zlo, .int zps, .ref Nl, .ref Nf, .ref Nb])), (Nl, .inl (g 1, 3, .inr (.inr (.inr (.inr (rf3 L0 M1 M2)))))), (Nb, .inl (g 0, 12, .inl fbuf)), (L0, .inr (2, [.int (nI d0), .int (fk0 1), .int (fk0 2), .int (fv0 3), .int (fv0 4), .int (fv0 5), .ref L0c, .ref L0u, .ref L0p, .ref L0l])), (L0l, .inl (g 2, 3, .inr (.inr (.inr (.inr (rf3 L0a L0b L0d)))))), (L0a, .inr (1, [.int (fa0 0), .int (fa0 1), .int (fa0 2), .int (fa0 3), .int (fa0 4), .int (fa0 5), .int (fa0 6)])), (L0b, .inr (1, [.int (fb0 0), .int (fb0 1), .int (fb0 2), .int (fb0 3), .int (fb0 4), .int (fb0 5), .int (fb0 6)])), (L0d, .inr (1, [.int (fd0 0), .int (fd0 1), .int (fd0 2), .int (fd0 3), .int (fd0 4), .int (fd0 5), .int (fd0 6)]))] → va_S A s.heap H locs → lv_has ls 6 [(3, .int (nI i_23)), (2, .ref L0), (0, .ref Nn), (1, .int 0)] → W p l e (headSpec wsX3_nextSender ({ frames := 1, cells := 0, slots := 0, locals := 20 })).room s m ([.ref Nn, .int 0] : List Value).toArray below meth c H locs 0 0 Q (F0 m 9 ls []) := by
    clear hP hD hS hl
    intro Nloop_50
    induction Nloop_50 with
    | zero => intro i_23 hbi_23 hv_49 hm9; exact absurd hm9 (Nat.not_lt_zero _)
    | succ Nloop_50 loop_50_ih =>
      intro i_23 hbi_23 hv_49 hmloop_50 H locs ls hP hD hS hl
      refine lv_iload_n hx hb dX3_nextSender_9 rfl (lv_at hl 0 rfl) ?_
      refine lv_aload_n hx hb dX3_nextSender_10 rfl (lv_at hl 2 rfl) ?_
      refine va_get (D := D) (ci := 3) (v := .int (nI cc)) (C := RX3) (T := TX3) (N := 11) hx hb hts iX3 hown hK hP 0 rfl rfl 1 (by decide) f62 (fun _ h9 => h9) rfl dX3_nextSender_11 ?_
      refine lv_icmp_gt (tgt := 75) hx hb dX3_nextSender_14 (by decide) (fun cb_51 => ?_) (fun cb_51 => ?_)
      · skip
        have cn_52 : cc < i_23 := (nI_ltI (show cc < 2 ^ 31 by omega) (show i_23 < 2 ^ 31 by omega)).mp cb_51
        refine lv_iconst (v := (-1)) hx hb dX3_nextSender_75 (by decide) ?_
        have hP9 := hP; have hD9 := hD
        subst hQ
        refine W.widen (k := 0) (n := 0) (Nat.le_of_ble_eq_true rfl) (Nat.le_of_ble_eq_true rfl) ?_
        exact W.iret (v := (-1)) hx hb hr (fun tS htS _ => ⟨⟨_, _, rfl, ⟨(-1), rfl, rfl, (okc_m)⟩, by rw [htS]; exact hP9, hD9⟩, hS.F htS⟩) hS.2.2 dX3_nextSender_76
      · skip
        have cn_53 : i_23 ≤ cc := Nat.le_of_not_lt (fun q9 => cb_51 ((nI_ltI (show cc < 2 ^ 31 by omega) (show i_23 < 2 ^ 31 by omega)).mpr q9))
        refine lv_aload_n hx hb dX3_nextSender_17 rfl (lv_at hl 1 rfl) ?_
        refine va_get (D := D) (ci := 2) (v := .int (fv0 4)) (C := RX2) (T := TX2) (N := 10) hx hb hts iX2 hown hK hP 3 rfl rfl 4 (by decide) f180 (fun _ h9 => h9) rfl dX3_nextSender_18 ?_
        refine lv_iload_n hx hb dX3_nextSender_21 rfl (lv_at hl 0 rfl) ?_
        refine lv_iadd hx hb dX3_nextSender_22 ?_
        obtain ⟨m_54, hm_55, q9⟩ := okc_add (h2) (show 1 ≤ i_23 by omega)
        refine lv_eqi (y := nI m_54) q9 ?_
        refine lv_aload_n hx hb dX3_nextSender_23 rfl (lv_at hl 2 rfl) ?_
        refine va_get (D := D) (ci := 3) (v := .int (nI cc)) (C := RX3) (T := TX3) (N := 11) hx hb hts iX3 hown hK hP 0 rfl rfl 1 (by decide) f62 (fun _ h9 => h9) rfl dX3_nextSender_24 ?_
        refine lv_irem hx hb dX3_nextSender_27 (nI_ne0 (show 0 < cc by omega) (show cc < 2 ^ 31 by omega)) ?_
        refine lv_eqi (y := (nI ((m_54) % cc))) (pk_rem (show m_54 < 2 ^ 31 by omega) (show 0 < cc by omega) (show cc < 2 ^ 31 by omega)) ?_
        have hm_56 := Nat.mod_lt (m_54) (show 0 < cc by omega)
        revert hm_56; generalize m_54 % cc = m_56; intro hm_56
        refine lv_istore (lv' := [(4, .int (nI m_56)), (3, .int (nI i_23)), (2, .ref L0), (0, .ref Nn), (1, .int 0)]) hx hb dX3_nextSender_28 hl (by decide) rfl (fun ls hl => ?_)
        refine lv_aload_n hx hb dX3_nextSender_30 rfl (lv_at hl 2 rfl) ?_
        refine va_get (D := D) (ci := 2) (v := .ref L0l) (C := RX2) (T := TX2) (N := 10) hx hb hts iX2 hown hK hP 3 rfl rfl 9 (by decide) f128 (fun _ h9 => h9) rfl dX3_nextSender_31 ?_
        refine lv_iload hx hb dX3_nextSender_34 (lv_at hl 0 rfl) ?_
        have hPq_57 := hP; have hDq_57 := hD; have hSq_57 := hS; have hlq_57 := hl; clear hP hD hS hl
        rcases (show m_56 = 0 ∨ m_56 = 1 ∨ m_56 = 2 by omega) with rfl | rfl | rfl
        · skip
          have hP := hPq_57; have hD := hDq_57; have hS := hSq_57; have hl := hlq_57; clear hPq_57 hDq_57 hSq_57 hlq_57
          refine va_aldq (C := "HopCredits$Lane") hx hb hK hP 4 2 rfl rfl (by unfold vp_in; decide) dX3_nextSender_36 ?_
          refine lv_eqv (v2 := .ref L0a) rfl ?_
          refine lv_astore (lv' := [(5, .ref L0a), (4, .int (nI 0)), (3, .int (nI i_23)), (2, .ref L0), (0, .ref Nn), (1, .int 0)]) hx hb dX3_nextSender_37 hl (by decide) rfl (fun ls hl => ?_)
          refine lv_aload_n hx hb dX3_nextSender_39 rfl (lv_at hl 4 rfl) ?_
          refine va_get (D := D) (ci := 3) (v := .ref Nb) (C := RX3) (T := TX3) (N := 11) hx hb hts iX3 hown hK hP 0 rfl rfl 10 (by decide) f23 (fun _ h9 => h9) rfl dX3_nextSender_40 ?_
          refine lv_iload_n hx hb dX3_nextSender_43 rfl (lv_at hl 5 rfl) ?_
          refine lv_iconst (v := 3) hx hb dX3_nextSender_44 (by decide) ?_
          refine lv_imul hx hb dX3_nextSender_45 ?_
          refine lv_eqi (y := 0) (by decide) ?_
          refine lv_iload hx hb dX3_nextSender_46 (lv_at hl 1 rfl) ?_
          refine lv_iadd hx hb dX3_nextSender_48 ?_
          refine lv_eqi (y := 0) (by decide) ?_
          refine va_iald hx hb hK hP 2 0 rfl rfl (by unfold vp_in; decide) dX3_nextSender_49 ?_
          refine lv_eqi (y := (fbuf 0)) (rfl) ?_
          refine lv_topi (fun y_58 _ => ?_)
          refine lv_if_le (tgt := 69) hx hb dX3_nextSender_50 (by decide) (fun cb_59 => ?_) (fun cb_59 => ?_)
          · skip
            refine lv_iinc (v := (nI (i_23 + 1))) (lv' := [(3, .int (nI (i_23 + 1))), (5, .ref L0a), (4, .int (nI 0)), (2, .ref L0), (0, .ref Nn), (1, .int 0)]) hx hb dX3_nextSender_69 hl (k := 2) rfl (nI_1 (i_23)) (by decide) rfl (fun ls hl => ?_)
            refine lv_goto (tgt := 9) hx hb dX3_nextSender_72 (by decide) ?_
            exact loop_50_ih (i_23 + 1) (show (i_23 + 1) ≤ cc + 1 by omega) (show 1 ≤ (i_23 + 1) by omega) (show (cc + 1) - (i_23 + 1) < Nloop_50 by omega) _ _ _ hP hD hS (lv_sub hl [0, 3, 4, 5] rfl)
          · skip
            refine lv_aload hx hb dX3_nextSender_53 (lv_at hl 0 rfl) ?_
            refine ky_Vi (As := []) (rest := []) ⟨hx, hb, hml, hown, hts⟩ ⟨hK, hN⟩ hZ hP hD hS hA [5] [0, 1, 2, 3, 4, 6, 7] (wc := [(L0a, .inr (1, [.int (fa0 0), .int (fa0 1), .int (fa0 2), .int (fa0 3), .int (fa0 4), .int (fa0 5), .int (fa0 6)]))]) (wr := [(Nn, .inr (3, [.int (nI hp), .int (nI cc), .int zrs, .int zad, .int zpr, .int (nI t), .int zlo, .int zps, .ref Nl, .ref Nf, .ref Nb])), (Nl, .inl (g 1, 3, .inr (.inr (.inr (.inr (rf3 L0 M1 M2)))))), (Nb, .inl (g 0, 12, .inl fbuf)), (L0, .inr (2, [.int (nI d0), .int (fk0 1), .int (fk0 2), .int (fv0 3), .int (fv0 4), .int (fv0 5), .ref L0c, .ref L0u, .ref L0p, .ref L0l])), (L0l, .inl (g 2, 3, .inr (.inr (.inr (.inr (rf3 L0a L0b L0d)))))), (L0b, .inr (1, [.int (fb0 0), .int (fb0 1), .int (fb0 2), .int (fb0 3), .int (fb0 4), .int (fb0 5), .int (fb0 6)])), (L0d, .inr (1, [.int (fd0 0), .int (fd0 1), .int (fd0 2), .int (fd0 3), .int (fd0 4), .int (fd0 5), .int (fd0 6)]))]) rfl rfl rfl rfl (by decide) (k_X1_out l D g H.size L0a fa0) (cwV 0 hts gX3_nextSender_X1_out rfl rfl rfl (by decide +kernel) ⟨(Nat.le_of_ble_eq_true rfl), (Nat.le_of_ble_eq_true rfl)⟩) 5 1 rfl rfl rfl rfl hl.1 rfl (Nat.le_of_ble_eq_true rfl) dX3_nextSender_55 ⟨(Nat.le_of_ble_eq_true rfl), (Nat.le_of_ble_eq_true rfl)⟩ (fun r_60 u H locs hw hP2 hD2 hS2 => ?_)
            clear hP hD hS
            obtain ⟨zr_61, rfl, rfl, hf_62⟩ := hw
            have hPD : PD D A [(Nn, .inr (3, [.int (nI hp), .int (nI cc), .int zrs, .int zad, .int zpr, .int (nI t), .int zlo, .int zps, .ref Nl, .ref Nf, .ref Nb])), (Nl, .inl (g 1, 3, .inr (.inr (.inr (.inr (rf3 L0 M1 M2)))))), (Nb, .inl (g 0, 12, .inl fbuf)), (L0, .inr (2, [.int (nI d0), .int (fk0 1), .int (fk0 2), .int (fv0 3), .int (fv0 4), .int (fv0 5), .ref L0c, .ref L0u, .ref L0p, .ref L0l])), (L0l, .inl (g 2, 3, .inr (.inr (.inr (.inr (rf3 L0a L0b L0d)))))), (L0b, .inr (1, [.int (fb0 0), .int (fb0 1), .int (fb0 2), .int (fb0 3), .int (fb0 4), .int (fb0 5), .int (fb0 6)])), (L0d, .inr (1, [.int (fd0 0), .int (fd0 1), .int (fd0 2), .int (fd0 3), .int (fd0 4), .int (fd0 5), .int (fd0 6)])), (L0a, .inr (1, [.int (fa0 0), .int (fa0 1), .int (fa0 2), .int (fa0 3), .int (fa0 4), .int (fa0 5), .int (fa0 6)]))] H := ⟨hP2, hD2⟩
            have hS := hS2; clear hP2 hD2 hS2; have hP := hPD.1; have hD := hPD.2; clear hPD
            refine W.widen (k := 0) (n := 0) (Nat.le_of_ble_eq_true rfl) (Nat.le_of_ble_eq_true rfl) ?_
            refine lv_aload hx hb dX3_nextSender_58 (lv_at hl 0 rfl) ?_
            refine va_get (D := D) (ci := 1) (v := .int (fa0 3)) (C := RX1) (T := TX1) (N := 7) hx hb hts iX1 hown hK hP 7 rfl rfl 3 (by decide) f195 (fun _ h9 => h9) rfl dX3_nextSender_60 ?_
            refine lv_icmp_ge (tgt := 69) hx hb dX3_nextSender_63 (by decide) (fun cb_63 => ?_) (fun cb_63 => ?_)
            · skip
              refine lv_iinc (v := (nI (i_23 + 1))) (lv' := [(3, .int (nI (i_23 + 1))), (5, .ref L0a), (4, .int (nI 0)), (2, .ref L0), (0, .ref Nn), (1, .int 0)]) hx hb dX3_nextSender_69 hl (k := 2) rfl (nI_1 (i_23)) (by decide) rfl (fun ls hl => ?_)
              refine lv_goto (tgt := 9) hx hb dX3_nextSender_72 (by decide) ?_
              exact loop_50_ih (i_23 + 1) (show (i_23 + 1) ≤ cc + 1 by omega) (show 1 ≤ (i_23 + 1) by omega) (show (cc + 1) - (i_23 + 1) < Nloop_50 by omega) _ _ _ (hP.sub [0, 1, 2, 3, 4, 7, 5, 6] rfl) (hD.sub [0, 1, 2, 3, 4, 7, 5, 6] (by decide) rfl) hS (lv_sub hl [0, 3, 4, 5] rfl)
            · skip
              refine lv_iload hx hb dX3_nextSender_66 (lv_at hl 1 rfl) ?_
              have hPD9 : PD D A [(Nn, .inr (3, [.int (nI hp), .int (nI cc), .int zrs, .int zad, .int zpr, .int (nI t), .int zlo, .int zps, .ref Nl, .ref Nf, .ref Nb])), (Nl, .inl (g 1, 3, .inr (.inr (.inr (.inr (rf3 L0 M1 M2)))))), (Nb, .inl (g 0, 12, .inl fbuf)), (L0, .inr (2, [.int (nI d0), .int (fk0 1), .int (fk0 2), .int (fv0 3), .int (fv0 4), .int (fv0 5), .ref L0c, .ref L0u, .ref L0p, .ref L0l])), (L0l, .inl (g 2, 3, .inr (.inr (.inr (.inr (rf3 L0a L0b L0d)))))), (L0a, .inr (1, [.int (fa0 0), .int (fa0 1), .int (fa0 2), .int (fa0 3), .int (fa0 4), .int (fa0 5), .int (fa0 6)])), (L0b, .inr (1, [.int (fb0 0), .int (fb0 1), .int (fb0 2), .int (fb0 3), .int (fb0 4), .int (fb0 5), .int (fb0 6)])), (L0d, .inr (1, [.int (fd0 0), .int (fd0 1), .int (fd0 2), .int (fd0 3), .int (fd0 4), .int (fd0 5), .int (fd0 6)]))] H := ⟨hP.sub [0, 1, 2, 3, 4, 7, 5, 6] rfl, hD.sub [0, 1, 2, 3, 4, 7, 5, 6] (by decide) rfl⟩
              have hP9 := hPD9.1; have hD9 := hPD9.2
              subst hQ
              refine W.widen (k := 0) (n := 0) (Nat.le_of_ble_eq_true rfl) (Nat.le_of_ble_eq_true rfl) ?_
              exact W.iret (v := (nI 0)) hx hb hr (fun tS htS _ => ⟨⟨_, _, rfl, ⟨(nI 0), rfl, rfl, (okc_n (show 0 < 3 by omega))⟩, by rw [htS]; exact hP9, hD9⟩, hS.F htS⟩) hS.2.2 dX3_nextSender_68
        · skip
          have hP := hPq_57; have hD := hDq_57; have hS := hSq_57; have hl := hlq_57; clear hPq_57 hDq_57 hSq_57 hlq_57
          refine va_aldq (C := "HopCredits$Lane") hx hb hK hP 4 2 rfl rfl (by unfold vp_in; decide) dX3_nextSender_36 ?_
          refine lv_eqv (v2 := .ref L0b) rfl ?_
          refine lv_astore (lv' := [(5, .ref L0b), (4, .int (nI 1)), (3, .int (nI i_23)), (2, .ref L0), (0, .ref Nn), (1, .int 0)]) hx hb dX3_nextSender_37 hl (by decide) rfl (fun ls hl => ?_)
          refine lv_aload_n hx hb dX3_nextSender_39 rfl (lv_at hl 4 rfl) ?_
          refine va_get (D := D) (ci := 3) (v := .ref Nb) (C := RX3) (T := TX3) (N := 11) hx hb hts iX3 hown hK hP 0 rfl rfl 10 (by decide) f23 (fun _ h9 => h9) rfl dX3_nextSender_40 ?_
          refine lv_iload_n hx hb dX3_nextSender_43 rfl (lv_at hl 5 rfl) ?_
          refine lv_iconst (v := 3) hx hb dX3_nextSender_44 (by decide) ?_
          refine lv_imul hx hb dX3_nextSender_45 ?_
          refine lv_eqi (y := 0) (by decide) ?_
          refine lv_iload hx hb dX3_nextSender_46 (lv_at hl 1 rfl) ?_
          refine lv_iadd hx hb dX3_nextSender_48 ?_
          refine lv_eqi (y := 1) (by decide) ?_
          refine va_iald hx hb hK hP 2 0 rfl rfl (by unfold vp_in; decide) dX3_nextSender_49 ?_
          refine lv_eqi (y := (fbuf 1)) (rfl) ?_
          refine lv_topi (fun y_64 _ => ?_)
          refine lv_if_le (tgt := 69) hx hb dX3_nextSender_50 (by decide) (fun cb_65 => ?_) (fun cb_65 => ?_)
          · skip
            refine lv_iinc (v := (nI (i_23 + 1))) (lv' := [(3, .int (nI (i_23 + 1))), (5, .ref L0b), (4, .int (nI 1)), (2, .ref L0), (0, .ref Nn), (1, .int 0)]) hx hb dX3_nextSender_69 hl (k := 2) rfl (nI_1 (i_23)) (by decide) rfl (fun ls hl => ?_)
            refine lv_goto (tgt := 9) hx hb dX3_nextSender_72 (by decide) ?_
            exact loop_50_ih (i_23 + 1) (show (i_23 + 1) ≤ cc + 1 by omega) (show 1 ≤ (i_23 + 1) by omega) (show (cc + 1) - (i_23 + 1) < Nloop_50 by omega) _ _ _ hP hD hS (lv_sub hl [0, 3, 4, 5] rfl)
          · skip
            refine lv_aload hx hb dX3_nextSender_53 (lv_at hl 0 rfl) ?_
            refine ky_Vi (As := []) (rest := []) ⟨hx, hb, hml, hown, hts⟩ ⟨hK, hN⟩ hZ hP hD hS hA [6] [0, 1, 2, 3, 4, 5, 7] (wc := [(L0b, .inr (1, [.int (fb0 0), .int (fb0 1), .int (fb0 2), .int (fb0 3), .int (fb0 4), .int (fb0 5), .int (fb0 6)]))]) (wr := [(Nn, .inr (3, [.int (nI hp), .int (nI cc), .int zrs, .int zad, .int zpr, .int (nI t), .int zlo, .int zps, .ref Nl, .ref Nf, .ref Nb])), (Nl, .inl (g 1, 3, .inr (.inr (.inr (.inr (rf3 L0 M1 M2)))))), (Nb, .inl (g 0, 12, .inl fbuf)), (L0, .inr (2, [.int (nI d0), .int (fk0 1), .int (fk0 2), .int (fv0 3), .int (fv0 4), .int (fv0 5), .ref L0c, .ref L0u, .ref L0p, .ref L0l])), (L0l, .inl (g 2, 3, .inr (.inr (.inr (.inr (rf3 L0a L0b L0d)))))), (L0a, .inr (1, [.int (fa0 0), .int (fa0 1), .int (fa0 2), .int (fa0 3), .int (fa0 4), .int (fa0 5), .int (fa0 6)])), (L0d, .inr (1, [.int (fd0 0), .int (fd0 1), .int (fd0 2), .int (fd0 3), .int (fd0 4), .int (fd0 5), .int (fd0 6)]))]) rfl rfl rfl rfl (by decide) (k_X1_out l D g H.size L0b fb0) (cwV 0 hts gX3_nextSender_X1_out rfl rfl rfl (by decide +kernel) ⟨(Nat.le_of_ble_eq_true rfl), (Nat.le_of_ble_eq_true rfl)⟩) 6 1 rfl rfl rfl rfl hl.1 rfl (Nat.le_of_ble_eq_true rfl) dX3_nextSender_55 ⟨(Nat.le_of_ble_eq_true rfl), (Nat.le_of_ble_eq_true rfl)⟩ (fun r_66 u H locs hw hP2 hD2 hS2 => ?_)
            clear hP hD hS
            obtain ⟨zr_67, rfl, rfl, hf_68⟩ := hw
            have hPD : PD D A [(Nn, .inr (3, [.int (nI hp), .int (nI cc), .int zrs, .int zad, .int zpr, .int (nI t), .int zlo, .int zps, .ref Nl, .ref Nf, .ref Nb])), (Nl, .inl (g 1, 3, .inr (.inr (.inr (.inr (rf3 L0 M1 M2)))))), (Nb, .inl (g 0, 12, .inl fbuf)), (L0, .inr (2, [.int (nI d0), .int (fk0 1), .int (fk0 2), .int (fv0 3), .int (fv0 4), .int (fv0 5), .ref L0c, .ref L0u, .ref L0p, .ref L0l])), (L0l, .inl (g 2, 3, .inr (.inr (.inr (.inr (rf3 L0a L0b L0d)))))), (L0a, .inr (1, [.int (fa0 0), .int (fa0 1), .int (fa0 2), .int (fa0 3), .int (fa0 4), .int (fa0 5), .int (fa0 6)])), (L0d, .inr (1, [.int (fd0 0), .int (fd0 1), .int (fd0 2), .int (fd0 3), .int (fd0 4), .int (fd0 5), .int (fd0 6)])), (L0b, .inr (1, [.int (fb0 0), .int (fb0 1), .int (fb0 2), .int (fb0 3), .int (fb0 4), .int (fb0 5), .int (fb0 6)]))] H := ⟨hP2, hD2⟩
            have hS := hS2; clear hP2 hD2 hS2; have hP := hPD.1; have hD := hPD.2; clear hPD
            refine W.widen (k := 0) (n := 0) (Nat.le_of_ble_eq_true rfl) (Nat.le_of_ble_eq_true rfl) ?_
            refine lv_aload hx hb dX3_nextSender_58 (lv_at hl 0 rfl) ?_
            refine va_get (D := D) (ci := 1) (v := .int (fb0 3)) (C := RX1) (T := TX1) (N := 7) hx hb hts iX1 hown hK hP 7 rfl rfl 3 (by decide) f195 (fun _ h9 => h9) rfl dX3_nextSender_60 ?_
            refine lv_icmp_ge (tgt := 69) hx hb dX3_nextSender_63 (by decide) (fun cb_69 => ?_) (fun cb_69 => ?_)
            · skip
              refine lv_iinc (v := (nI (i_23 + 1))) (lv' := [(3, .int (nI (i_23 + 1))), (5, .ref L0b), (4, .int (nI 1)), (2, .ref L0), (0, .ref Nn), (1, .int 0)]) hx hb dX3_nextSender_69 hl (k := 2) rfl (nI_1 (i_23)) (by decide) rfl (fun ls hl => ?_)
              refine lv_goto (tgt := 9) hx hb dX3_nextSender_72 (by decide) ?_
              exact loop_50_ih (i_23 + 1) (show (i_23 + 1) ≤ cc + 1 by omega) (show 1 ≤ (i_23 + 1) by omega) (show (cc + 1) - (i_23 + 1) < Nloop_50 by omega) _ _ _ (hP.sub [0, 1, 2, 3, 4, 5, 7, 6] rfl) (hD.sub [0, 1, 2, 3, 4, 5, 7, 6] (by decide) rfl) hS (lv_sub hl [0, 3, 4, 5] rfl)
            · skip
              refine lv_iload hx hb dX3_nextSender_66 (lv_at hl 1 rfl) ?_
              have hPD9 : PD D A [(Nn, .inr (3, [.int (nI hp), .int (nI cc), .int zrs, .int zad, .int zpr, .int (nI t), .int zlo, .int zps, .ref Nl, .ref Nf, .ref Nb])), (Nl, .inl (g 1, 3, .inr (.inr (.inr (.inr (rf3 L0 M1 M2)))))), (Nb, .inl (g 0, 12, .inl fbuf)), (L0, .inr (2, [.int (nI d0), .int (fk0 1), .int (fk0 2), .int (fv0 3), .int (fv0 4), .int (fv0 5), .ref L0c, .ref L0u, .ref L0p, .ref L0l])), (L0l, .inl (g 2, 3, .inr (.inr (.inr (.inr (rf3 L0a L0b L0d)))))), (L0a, .inr (1, [.int (fa0 0), .int (fa0 1), .int (fa0 2), .int (fa0 3), .int (fa0 4), .int (fa0 5), .int (fa0 6)])), (L0b, .inr (1, [.int (fb0 0), .int (fb0 1), .int (fb0 2), .int (fb0 3), .int (fb0 4), .int (fb0 5), .int (fb0 6)])), (L0d, .inr (1, [.int (fd0 0), .int (fd0 1), .int (fd0 2), .int (fd0 3), .int (fd0 4), .int (fd0 5), .int (fd0 6)]))] H := ⟨hP.sub [0, 1, 2, 3, 4, 5, 7, 6] rfl, hD.sub [0, 1, 2, 3, 4, 5, 7, 6] (by decide) rfl⟩
              have hP9 := hPD9.1; have hD9 := hPD9.2
              subst hQ
              refine W.widen (k := 0) (n := 0) (Nat.le_of_ble_eq_true rfl) (Nat.le_of_ble_eq_true rfl) ?_
              exact W.iret (v := (nI 1)) hx hb hr (fun tS htS _ => ⟨⟨_, _, rfl, ⟨(nI 1), rfl, rfl, (okc_n (show 1 < 3 by omega))⟩, by rw [htS]; exact hP9, hD9⟩, hS.F htS⟩) hS.2.2 dX3_nextSender_68
        · skip
          have hP := hPq_57; have hD := hDq_57; have hS := hSq_57; have hl := hlq_57; clear hPq_57 hDq_57 hSq_57 hlq_57
          refine va_aldq (C := "HopCredits$Lane") hx hb hK hP 4 2 rfl rfl (by unfold vp_in; decide) dX3_nextSender_36 ?_
          refine lv_eqv (v2 := .ref L0d) rfl ?_
          refine lv_astore (lv' := [(5, .ref L0d), (4, .int (nI 2)), (3, .int (nI i_23)), (2, .ref L0), (0, .ref Nn), (1, .int 0)]) hx hb dX3_nextSender_37 hl (by decide) rfl (fun ls hl => ?_)
          refine lv_aload_n hx hb dX3_nextSender_39 rfl (lv_at hl 4 rfl) ?_
          refine va_get (D := D) (ci := 3) (v := .ref Nb) (C := RX3) (T := TX3) (N := 11) hx hb hts iX3 hown hK hP 0 rfl rfl 10 (by decide) f23 (fun _ h9 => h9) rfl dX3_nextSender_40 ?_
          refine lv_iload_n hx hb dX3_nextSender_43 rfl (lv_at hl 5 rfl) ?_
          refine lv_iconst (v := 3) hx hb dX3_nextSender_44 (by decide) ?_
          refine lv_imul hx hb dX3_nextSender_45 ?_
          refine lv_eqi (y := 0) (by decide) ?_
          refine lv_iload hx hb dX3_nextSender_46 (lv_at hl 1 rfl) ?_
          refine lv_iadd hx hb dX3_nextSender_48 ?_
          refine lv_eqi (y := 2) (by decide) ?_
          refine va_iald hx hb hK hP 2 0 rfl rfl (by unfold vp_in; decide) dX3_nextSender_49 ?_
          refine lv_eqi (y := (fbuf 2)) (rfl) ?_
          refine lv_topi (fun y_70 _ => ?_)
          refine lv_if_le (tgt := 69) hx hb dX3_nextSender_50 (by decide) (fun cb_71 => ?_) (fun cb_71 => ?_)
          · skip
            refine lv_iinc (v := (nI (i_23 + 1))) (lv' := [(3, .int (nI (i_23 + 1))), (5, .ref L0d), (4, .int (nI 2)), (2, .ref L0), (0, .ref Nn), (1, .int 0)]) hx hb dX3_nextSender_69 hl (k := 2) rfl (nI_1 (i_23)) (by decide) rfl (fun ls hl => ?_)
            refine lv_goto (tgt := 9) hx hb dX3_nextSender_72 (by decide) ?_
            exact loop_50_ih (i_23 + 1) (show (i_23 + 1) ≤ cc + 1 by omega) (show 1 ≤ (i_23 + 1) by omega) (show (cc + 1) - (i_23 + 1) < Nloop_50 by omega) _ _ _ hP hD hS (lv_sub hl [0, 3, 4, 5] rfl)
          · skip
            refine lv_aload hx hb dX3_nextSender_53 (lv_at hl 0 rfl) ?_
            refine ky_Vi (As := []) (rest := []) ⟨hx, hb, hml, hown, hts⟩ ⟨hK, hN⟩ hZ hP hD hS hA [7] [0, 1, 2, 3, 4, 5, 6] (wc := [(L0d, .inr (1, [.int (fd0 0), .int (fd0 1), .int (fd0 2), .int (fd0 3), .int (fd0 4), .int (fd0 5), .int (fd0 6)]))]) (wr := [(Nn, .inr (3, [.int (nI hp), .int (nI cc), .int zrs, .int zad, .int zpr, .int (nI t), .int zlo, .int zps, .ref Nl, .ref Nf, .ref Nb])), (Nl, .inl (g 1, 3, .inr (.inr (.inr (.inr (rf3 L0 M1 M2)))))), (Nb, .inl (g 0, 12, .inl fbuf)), (L0, .inr (2, [.int (nI d0), .int (fk0 1), .int (fk0 2), .int (fv0 3), .int (fv0 4), .int (fv0 5), .ref L0c, .ref L0u, .ref L0p, .ref L0l])), (L0l, .inl (g 2, 3, .inr (.inr (.inr (.inr (rf3 L0a L0b L0d)))))), (L0a, .inr (1, [.int (fa0 0), .int (fa0 1), .int (fa0 2), .int (fa0 3), .int (fa0 4), .int (fa0 5), .int (fa0 6)])), (L0b, .inr (1, [.int (fb0 0), .int (fb0 1), .int (fb0 2), .int (fb0 3), .int (fb0 4), .int (fb0 5), .int (fb0 6)]))]) rfl rfl rfl rfl (by decide) (k_X1_out l D g H.size L0d fd0) (cwV 0 hts gX3_nextSender_X1_out rfl rfl rfl (by decide +kernel) ⟨(Nat.le_of_ble_eq_true rfl), (Nat.le_of_ble_eq_true rfl)⟩) 7 1 rfl rfl rfl rfl hl.1 rfl (Nat.le_of_ble_eq_true rfl) dX3_nextSender_55 ⟨(Nat.le_of_ble_eq_true rfl), (Nat.le_of_ble_eq_true rfl)⟩ (fun r_72 u H locs hw hP2 hD2 hS2 => ?_)
            clear hP hD hS
            obtain ⟨zr_73, rfl, rfl, hf_74⟩ := hw
            have hPD : PD D A [(Nn, .inr (3, [.int (nI hp), .int (nI cc), .int zrs, .int zad, .int zpr, .int (nI t), .int zlo, .int zps, .ref Nl, .ref Nf, .ref Nb])), (Nl, .inl (g 1, 3, .inr (.inr (.inr (.inr (rf3 L0 M1 M2)))))), (Nb, .inl (g 0, 12, .inl fbuf)), (L0, .inr (2, [.int (nI d0), .int (fk0 1), .int (fk0 2), .int (fv0 3), .int (fv0 4), .int (fv0 5), .ref L0c, .ref L0u, .ref L0p, .ref L0l])), (L0l, .inl (g 2, 3, .inr (.inr (.inr (.inr (rf3 L0a L0b L0d)))))), (L0a, .inr (1, [.int (fa0 0), .int (fa0 1), .int (fa0 2), .int (fa0 3), .int (fa0 4), .int (fa0 5), .int (fa0 6)])), (L0b, .inr (1, [.int (fb0 0), .int (fb0 1), .int (fb0 2), .int (fb0 3), .int (fb0 4), .int (fb0 5), .int (fb0 6)])), (L0d, .inr (1, [.int (fd0 0), .int (fd0 1), .int (fd0 2), .int (fd0 3), .int (fd0 4), .int (fd0 5), .int (fd0 6)]))] H := ⟨hP2, hD2⟩
            have hS := hS2; clear hP2 hD2 hS2; have hP := hPD.1; have hD := hPD.2; clear hPD
            refine W.widen (k := 0) (n := 0) (Nat.le_of_ble_eq_true rfl) (Nat.le_of_ble_eq_true rfl) ?_
            refine lv_aload hx hb dX3_nextSender_58 (lv_at hl 0 rfl) ?_
            refine va_get (D := D) (ci := 1) (v := .int (fd0 3)) (C := RX1) (T := TX1) (N := 7) hx hb hts iX1 hown hK hP 7 rfl rfl 3 (by decide) f195 (fun _ h9 => h9) rfl dX3_nextSender_60 ?_
            refine lv_icmp_ge (tgt := 69) hx hb dX3_nextSender_63 (by decide) (fun cb_75 => ?_) (fun cb_75 => ?_)
            · skip
              refine lv_iinc (v := (nI (i_23 + 1))) (lv' := [(3, .int (nI (i_23 + 1))), (5, .ref L0d), (4, .int (nI 2)), (2, .ref L0), (0, .ref Nn), (1, .int 0)]) hx hb dX3_nextSender_69 hl (k := 2) rfl (nI_1 (i_23)) (by decide) rfl (fun ls hl => ?_)
              refine lv_goto (tgt := 9) hx hb dX3_nextSender_72 (by decide) ?_
              exact loop_50_ih (i_23 + 1) (show (i_23 + 1) ≤ cc + 1 by omega) (show 1 ≤ (i_23 + 1) by omega) (show (cc + 1) - (i_23 + 1) < Nloop_50 by omega) _ _ _ hP hD hS (lv_sub hl [0, 3, 4, 5] rfl)
            · skip
              refine lv_iload hx hb dX3_nextSender_66 (lv_at hl 1 rfl) ?_
              have hP9 := hP; have hD9 := hD
              subst hQ
              refine W.widen (k := 0) (n := 0) (Nat.le_of_ble_eq_true rfl) (Nat.le_of_ble_eq_true rfl) ?_
              exact W.iret (v := (nI 2)) hx hb hr (fun tS htS _ => ⟨⟨_, _, rfl, ⟨(nI 2), rfl, rfl, (okc_n (show 2 < 3 by omega))⟩, by rw [htS]; exact hP9, hD9⟩, hS.F htS⟩) hS.2.2 dX3_nextSender_68
  exact loop_50 _ 1 (show 1 ≤ cc + 1 by omega) (show 1 ≤ 1 by omega) (Nat.lt_succ_self _) _ _ _ hP hD hS hl
