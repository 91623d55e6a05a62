set_option maxHeartbeats 4000000 in
set_option maxRecDepth 100000 in
theorem k_X3_arriveOver_1 (l : Launch) (D : va_G) (g : Nat → ClassId) (sz : Nat) (Nn : Nat) (hp : Nat) (cc : Nat) (zrs : Int32) (zad : Int32) (zpr : Int32) (t : Nat) (zlo : Int32) (zps : Int32) (Nl : Nat) (Nf : Nat) (Nb : Nat) (M0 : Nat) (L0 : Nat) (M2 : Nat) (fbuf : Nat → Int32) (d0 : Nat) (fk0 : Nat → Int32) (fv0 : Nat → Int32) (L0c : Nat) (L0u : Nat) (L0p : Nat) (L0l : Nat) (fc0 : Nat → Int32) (fu0 : Nat → Int32) (fp0 : Nat → Int32) (L0a : Nat) (L0b : Nat) (L0d : Nat) (fa0 : Nat → Int32) (fb0 : Nat → Int32) (fd0 : Nat → Int32) (h0 : 1 ≤ cc) (h1 : cc ≤ 3) (h2 : t < 2 ^ 30) (h3 : d0 < 5) (h4 : okc (fv0 4)) (h5 : okF fc0) : Met l yX3_arriveOver wsX3_arriveOver ({ frames := 2, cells := 0, slots := 0, locals := 42 }) (va_Pc [.ref Nn, .int 1] (pre D g sz [(Nn, .inr (3, [.int (nI hp), .int (nI cc), .int zrs, .int zad, .int zpr, .int (nI t), .int zlo, .int zps, .ref Nl, .ref Nf, .ref Nb])), (Nl, .inl (g 1, 3, .inr (.inr (.inr (.inr (rf3 M0 L0 M2)))))), (Nb, .inl (g 0, 12, .inl fbuf)), (L0, .inr (2, [.int (nI d0), .int (fk0 1), .int (fk0 2), .int (fv0 3), .int (fv0 4), .int (fv0 5), .ref L0c, .ref L0u, .ref L0p, .ref L0l])), (L0c, .inl (g 0, 5, .inl fc0)), (L0u, .inl (g 0, 15, .inl fu0)), (L0p, .inl (g 0, 15, .inl fp0)), (L0l, .inl (g 2, 3, .inr (.inr (.inr (.inr (rf3 L0a L0b L0d)))))), (L0a, .inr (1, [.int (fa0 0), .int (fa0 1), .int (fa0 2), .int (fa0 3), .int (fa0 4), .int (fa0 5), .int (fa0 6)])), (L0b, .inr (1, [.int (fb0 0), .int (fb0 1), .int (fb0 2), .int (fb0 3), .int (fb0 4), .int (fb0 5), .int (fb0 6)])), (L0d, .inr (1, [.int (fd0 0), .int (fd0 1), .int (fd0 2), .int (fd0 3), .int (fd0 4), .int (fd0 5), .int (fd0 6)]))])) (va_Qv (fun (u : va_W) => ∃ (PF : Nat → Nat → Int32) (zlox : Int32), u = [(Nn, .inr (3, [.int (nI hp), .int (nI cc), .int zrs, .int zad, .int zpr, .int (nI t), .int zlox, .int zps, .ref Nl, .ref Nf, .ref Nb])), (Nl, .inl (g 1, 3, .inr (.inr (.inr (.inr (rf3 M0 L0 M2)))))), (Nb, .inl (g 0, 12, .inl (PF 0))), (L0, .inr (2, [.int (nI d0), .int (fk0 1), .int (fk0 2), .int ((PF 1) 3), .int ((PF 1) 4), .int ((PF 1) 5), .ref L0c, .ref L0u, .ref L0p, .ref L0l])), (L0c, .inl (g 0, 5, .inl (PF 2))), (L0u, .inl (g 0, 15, .inl (PF 3))), (L0p, .inl (g 0, 15, .inl (PF 4))), (L0l, .inl (g 2, 3, .inr (.inr (.inr (.inr (rf3 L0a L0b L0d)))))), (L0a, .inr (1, [.int ((PF 5) 0), .int ((PF 5) 1), .int ((PF 5) 2), .int (fa0 3), .int ((PF 5) 4), .int ((PF 5) 5), .int ((PF 5) 6)])), (L0b, .inr (1, [.int ((PF 6) 0), .int ((PF 6) 1), .int ((PF 6) 2), .int (fb0 3), .int ((PF 6) 4), .int ((PF 6) 5), .int ((PF 6) 6)])), (L0d, .inr (1, [.int ((PF 7) 0), .int ((PF 7) 1), .int ((PF 7) 2), .int (fd0 3), .int ((PF 7) 4), .int ((PF 7) 5), .int ((PF 7) 6)]))] ∧ (okc ((PF 1) 4)) ∧ (okF (PF 2))) (wd D (va_A [(Nn, .inr (3, [.int (nI hp), .int (nI cc), .int zrs, .int zad, .int zpr, .int (nI t), .int zlo, .int zps, .ref Nl, .ref Nf, .ref Nb])), (Nl, .inl (g 1, 3, .inr (.inr (.inr (.inr (rf3 M0 L0 M2)))))), (Nb, .inl (g 0, 12, .inl fbuf)), (L0, .inr (2, [.int (nI d0), .int (fk0 1), .int (fk0 2), .int (fv0 3), .int (fv0 4), .int (fv0 5), .ref L0c, .ref L0u, .ref L0p, .ref L0l])), (L0c, .inl (g 0, 5, .inl fc0)), (L0u, .inl (g 0, 15, .inl fu0)), (L0p, .inl (g 0, 15, .inl fp0)), (L0l, .inl (g 2, 3, .inr (.inr (.inr (.inr (rf3 L0a L0b L0d)))))), (L0a, .inr (1, [.int (fa0 0), .int (fa0 1), .int (fa0 2), .int (fa0 3), .int (fa0 4), .int (fa0 5), .int (fa0 6)])), (L0b, .inr (1, [.int (fb0 0), .int (fb0 1), .int (fb0 2), .int (fb0 3), .int (fb0 4), .int (fb0 5), .int (fb0 6)])), (L0d, .inr (1, [.int (fd0 0), .int (fd0 1), .int (fd0 2), .int (fd0 3), .int (fd0 4), .int (fd0 5), .int (fd0 6)]))] sz)) (va_A [(Nn, .inr (3, [.int (nI hp), .int (nI cc), .int zrs, .int zad, .int zpr, .int (nI t), .int zlo, .int zps, .ref Nl, .ref Nf, .ref Nb])), (Nl, .inl (g 1, 3, .inr (.inr (.inr (.inr (rf3 M0 L0 M2)))))), (Nb, .inl (g 0, 12, .inl fbuf)), (L0, .inr (2, [.int (nI d0), .int (fk0 1), .int (fk0 2), .int (fv0 3), .int (fv0 4), .int (fv0 5), .ref L0c, .ref L0u, .ref L0p, .ref L0l])), (L0c, .inl (g 0, 5, .inl fc0)), (L0u, .inl (g 0, 15, .inl fu0)), (L0p, .inl (g 0, 15, .inl fp0)), (L0l, .inl (g 2, 3, .inr (.inr (.inr (.inr (rf3 L0a L0b L0d)))))), (L0a, .inr (1, [.int (fa0 0), .int (fa0 1), .int (fa0 2), .int (fa0 3), .int (fa0 4), .int (fa0 5), .int (fa0 6)])), (L0b, .inr (1, [.int (fb0 0), .int (fb0 1), .int (fb0 2), .int (fb0 3), .int (fb0 4), .int (fb0 5), .int (fb0 6)])), (L0d, .inr (1, [.int (fd0 0), .int (fd0 1), .int (fd0 2), .int (fd0 3), .int (fd0 4), .int (fd0 5), .int (fd0 6)]))] sz)) 0 0 (va_A [(Nn, .inr (3, [.int (nI hp), .int (nI cc), .int zrs, .int zad, .int zpr, .int (nI t), .int zlo, .int zps, .ref Nl, .ref Nf, .ref Nb])), (Nl, .inl (g 1, 3, .inr (.inr (.inr (.inr (rf3 M0 L0 M2)))))), (Nb, .inl (g 0, 12, .inl fbuf)), (L0, .inr (2, [.int (nI d0), .int (fk0 1), .int (fk0 2), .int (fv0 3), .int (fv0 4), .int (fv0 5), .ref L0c, .ref L0u, .ref L0p, .ref L0l])), (L0c, .inl (g 0, 5, .inl fc0)), (L0u, .inl (g 0, 15, .inl fu0)), (L0p, .inl (g 0, 15, .inl fp0)), (L0l, .inl (g 2, 3, .inr (.inr (.inr (.inr (rf3 L0a L0b L0d)))))), (L0a, .inr (1, [.int (fa0 0), .int (fa0 1), .int (fa0 2), .int (fa0 3), .int (fa0 4), .int (fa0 5), .int (fa0 6)])), (L0b, .inr (1, [.int (fb0 0), .int (fb0 1), .int (fb0 2), .int (fb0 3), .int (fb0 4), .int (fb0 5), .int (fb0 6)])), (L0d, .inr (1, [.int (fd0 0), .int (fd0 1), .int (fd0 2), .int (fd0 3), .int (fd0 4), .int (fd0 5), .int (fd0 6)]))] sz) := by
  refine Met.ofW (cc := cX3_arriveOver) (maxL := 9) (ret := none) (by decide) rfl ?_
  intro p e s m args below meth c s₁ B hml hv
  obtain ⟨rfl, hsz, hP, ⟨hK, hN⟩, hD0, hZ⟩ := hv
  have hx := B.exec
  have hb := B.bytes
  have hr := B.returns
  have hts := atoms_spec (ws := wsX3_arriveOver) B.pre
  have hown : s.vm.findClass RX3 = some m.cls := findClass_of_methodNamed B.named
  have hlocks := B.notSynchronized
  clear B
  subst hsz
  have hD := hD0.self (sz := s.heap.size)
  clear hD0
  generalize hAe : va_A [(Nn, .inr (3, [.int (nI hp), .int (nI cc), .int zrs, .int zad, .int zpr, .int (nI t), .int zlo, .int zps, .ref Nl, .ref Nf, .ref Nb])), (Nl, .inl (g 1, 3, .inr (.inr (.inr (.inr (rf3 M0 L0 M2)))))), (Nb, .inl (g 0, 12, .inl fbuf)), (L0, .inr (2, [.int (nI d0), .int (fk0 1), .int (fk0 2), .int (fv0 3), .int (fv0 4), .int (fv0 5), .ref L0c, .ref L0u, .ref L0p, .ref L0l])), (L0c, .inl (g 0, 5, .inl fc0)), (L0u, .inl (g 0, 15, .inl fu0)), (L0p, .inl (g 0, 15, .inl fp0)), (L0l, .inl (g 2, 3, .inr (.inr (.inr (.inr (rf3 L0a L0b L0d)))))), (L0a, .inr (1, [.int (fa0 0), .int (fa0 1), .int (fa0 2), .int (fa0 3), .int (fa0 4), .int (fa0 5), .int (fa0 6)])), (L0b, .inr (1, [.int (fb0 0), .int (fb0 1), .int (fb0 2), .int (fb0 3), .int (fb0 4), .int (fb0 5), .int (fb0 6)])), (L0d, .inr (1, [.int (fd0 0), .int (fd0 1), .int (fd0 2), .int (fd0 3), .int (fd0 4), .int (fd0 5), .int (fd0 6)]))] s.heap.size = A at hD hZ ⊢
  have hA : ∀ q : Nat, s.heap.size ≤ q → A q := fun q h => by rw [← hAe]; exact Or.inr h
  have hS : va_S A s.heap s.heap [] := va_S.rf
  have f11 := hts (.fieldLink RX3 11 "HopCredits$Net" "links" "[LHopCredits$Link;") (List.mem_of_getElem? (i := 1) rfl)
  have f122 := hts (.fieldLink RX3 122 "HopCredits$Link" "cellAt" "[I") (List.mem_of_getElem? (i := 3) rfl)
  have f125 := hts (.fieldLink RX3 125 "HopCredits$Link" "updateAt" "[I") (List.mem_of_getElem? (i := 6) rfl)
  have f128 := hts (.fieldLink RX3 128 "HopCredits$Link" "lanes" "[LHopCredits$Lane;") (List.mem_of_getElem? (i := 7) rfl)
  have f137 := hts (.fieldLink RX3 137 "HopCredits$Link" "probesAt" "[I") (List.mem_of_getElem? (i := 8) rfl)
  have f23 := hts (.fieldLink RX3 23 "HopCredits$Net" "buffers" "[I") (List.mem_of_getElem? (i := 4) rfl)
  have f62 := hts (.fieldLink RX3 62 "HopCredits$Net" "circuits" "I") (List.mem_of_getElem? (i := 5) rfl)
  have f78 := hts (.fieldLink RX3 78 "HopCredits$Net" "tick" "I") (List.mem_of_getElem? (i := 2) rfl)
  have iX2 : ∀ w ∈ u_ws RX2 TX2 10, w ∈ wsX3_arriveOver := fun w h => List.mem_cons_of_mem _ (List.mem_append_left _ (List.mem_append_right _ (h)))
  have iX3 : ∀ w ∈ u_ws RX3 TX3 11, w ∈ wsX3_arriveOver := fun w h => List.mem_cons_of_mem _ (List.mem_append_left _ (List.mem_append_left _ (List.mem_append_right _ (h))))
  have hl := lv_entry ([.ref Nn, .int 1]) (n := 9) (Nat.le_of_ble_eq_true rfl)
  rw [lg_entry_eq]
  generalize (lg_sl ([.ref Nn, .int 1]) ++ List.replicate (9 - (lg_sl ([.ref Nn, .int 1])).length) Slot.unset).toArray = ls at hl ⊢
  have hl : lv_has ls 9 [(0, .ref Nn), (1, .int 1)] := hl
  generalize hQ : MQ below _ _ s _ _ _ = Q
  generalize hH : s.heap = H at hP ⊢
  have hS : va_S A s.heap H [] := by rw [← hH]; exact hS
  clear hH
  refine lv_aload_n hx hb dX3_arriveOver_0 rfl (lv_at hl 0 rfl) ?_
  refine va_get (D := D) (ci := 3) (v := .ref Nl) (C := RX3) (T := TX3) (N := 11) hx hb hts iX3 hown hK hP 0 rfl rfl 8 (by decide) f11 (fun _ h9 => h9) rfl dX3_arriveOver_1 ?_
  refine lv_iload_n hx hb dX3_arriveOver_4 rfl (lv_at hl 1 rfl) ?_
  refine va_aldq (C := "HopCredits$Link") hx hb hK hP 1 1 rfl rfl (by unfold vp_in; decide) dX3_arriveOver_5 ?_
  refine lv_eqv (v2 := .ref L0) rfl ?_
  refine lv_astore_n (lv' := [(2, .ref L0), (0, .ref Nn), (1, .int 1)]) hx hb dX3_arriveOver_6 rfl hl (by decide) rfl (fun ls hl => ?_)
  refine lv_aload_n hx hb dX3_arriveOver_7 rfl (lv_at hl 1 rfl) ?_
  refine va_get (D := D) (ci := 3) (v := .int (nI t)) (C := RX3) (T := TX3) (N := 11) hx hb hts iX3 hown hK hP 0 rfl rfl 5 (by decide) f78 (fun _ h9 => h9) rfl dX3_arriveOver_8 ?_
  refine lv_iconst (v := 5) hx hb dX3_arriveOver_11 (by decide) ?_
  refine lv_irem hx hb dX3_arriveOver_12 (by decide) ?_
  refine lv_eqi (y := (nI ((t) % 5))) (pk_rem (show t < 2 ^ 31 by omega) (show 0 < 5 by omega) (show 5 < 2 ^ 31 by omega)) ?_
  refine lv_istore_n (lv' := [(3, .int (nI ((t) % 5))), (2, .ref L0), (0, .ref Nn), (1, .int 1)]) hx hb dX3_arriveOver_13 rfl hl (by decide) rfl (fun ls hl => ?_)
  refine lv_aload_n hx hb dX3_arriveOver_14 rfl (lv_at hl 1 rfl) ?_
  refine va_get (D := D) (ci := 2) (v := .ref L0c) (C := RX2) (T := TX2) (N := 10) hx hb hts iX2 hown hK hP 3 rfl rfl 6 (by decide) f122 (fun _ h9 => h9) rfl dX3_arriveOver_15 ?_
  refine lv_iload_n hx hb dX3_arriveOver_18 rfl (lv_at hl 0 rfl) ?_
  refine va_iald hx hb hK hP 4 0 rfl rfl (vp_in_nI (show (t) % 5 < 5 by omega) (by decide)) dX3_arriveOver_19 ?_
  refine lv_eqi (y := (fc0 ((t) % 5))) (congrArg fc0 (nI_clamp (show (t) % 5 < 2 ^ 31 by omega))) ?_
  refine lv_topc (h5 ((t) % 5)) (fun y_1 hc_2 => ?_)
  refine lv_istore (lv' := [(4, .int y_1), (3, .int (nI ((t) % 5))), (2, .ref L0), (0, .ref Nn), (1, .int 1)]) hx hb dX3_arriveOver_20 hl (by decide) rfl (fun ls hl => ?_)
  refine lv_iload hx hb dX3_arriveOver_22 (lv_at hl 0 rfl) ?_
  refine lv_iconst (v := (-1)) hx hb dX3_arriveOver_24 (by decide) ?_
  have join_20 : ∀ (F_11 : Nat → Int32) (H : Heap) (locs : List Loc) (ls : Array Slot), va_P D vwCl [(Nn, .inr (3, [.int (nI hp), .int (nI cc), .int zrs, .int zad, .int zpr, .int (nI t), .int zlo, .int zps, .ref Nl, .ref Nf, .ref Nb])), (Nl, .inl (g 1, 3, .inr (.inr (.inr (.inr (rf3 M0 L0 M2)))))), (Nb, .inl (g 0, 12, .inl F_11)), (L0, .inr (2, [.int (nI d0), .int (fk0 1), .int (fk0 2), .int (fv0 3), .int (fv0 4), .int (fv0 5), .ref L0c, .ref L0u, .ref L0p, .ref L0l])), (L0c, .inl (g 0, 5, .inl fc0)), (L0u, .inl (g 0, 15, .inl fu0)), (L0p, .inl (g 0, 15, .inl fp0)), (L0l, .inl (g 2, 3, .inr (.inr (.inr (.inr (rf3 L0a L0b L0d)))))), (L0a, .inr (1, [.int (fa0 0), .int (fa0 1), .int (fa0 2), .int (fa0 3), .int (fa0 4), .int (fa0 5), .int (fa0 6)])), (L0b, .inr (1, [.int (fb0 0), .int (fb0 1), .int (fb0 2), .int (fb0 3), .int (fb0 4), .int (fb0 5), .int (fb0 6)])), (L0d, .inr (1, [.int (fd0 0), .int (fd0 1), .int (fd0 2), .int (fd0 3), .int (fd0 4), .int (fd0 5), .int (fd0 6)]))] H → va_D A [(Nn, .inr (3, [.int (nI hp), .int (nI cc), .int zrs, .int zad, .int zpr, .int (nI t), .int zlo, .int zps, .ref Nl, .ref Nf, .ref Nb])), (Nl, .inl (g 1, 3, .inr (.inr (.inr (.inr (rf3 M0 L0 M2)))))), (Nb, .inl (g 0, 12, .inl F_11)), (L0, .inr (2, [.int (nI d0), .int (fk0 1), .int (fk0 2), .int (fv0 3), .int (fv0 4), .int (fv0 5), .ref L0c, .ref L0u, .ref L0p, .ref L0l])), (L0c, .inl (g 0, 5, .inl fc0)), (L0u, .inl (g 0, 15, .inl fu0)), (L0p, .inl (g 0, 15, .inl fp0)), (L0l, .inl (g 2, 3, .inr (.inr (.inr (.inr (rf3 L0a L0b L0d)))))), (L0a, .inr (1, [.int (fa0 0), .int (fa0 1), .int (fa0 2), .int (fa0 3), .int (fa0 4), .int (fa0 5), .int (fa0 6)])), (L0b, .inr (1, [.int (fb0 0), .int (fb0 1), .int (fb0 2), .int (fb0 3), .int (fb0 4), .int (fb0 5), .int (fb0 6)])), (L0d, .inr (1, [.int (fd0 0), .int (fd0 1), .int (fd0 2), .int (fd0 3), .int (fd0 4), .int (fd0 5), .int (fd0 6)]))] → va_S A s.heap H locs → lv_has ls 9 [(3, .int (nI ((t) % 5))), (2, .ref L0), (0, .ref Nn)] → W p l e (headSpec wsX3_arriveOver ({ frames := 2, cells := 0, slots := 0, locals := 42 })).room s m ([.ref Nn, .int 1] : List Value).toArray below meth c H locs 0 0 Q (F0 m 45 ls []) := by
    clear hP hD hS hl
    intro F_11  H locs ls hP hD hS hl
    refine lv_iconst (v := 0) hx hb dX3_arriveOver_45 (by decide) ?_
    refine lv_istore (lv' := [(5, .int 0), (3, .int (nI ((t) % 5))), (2, .ref L0), (0, .ref Nn)]) hx hb dX3_arriveOver_46 hl (by decide) rfl (fun ls hl => ?_)
    have loop_203 : ∀ (Nloop_203 : Nat) (G_66 : Nat → Int32) (G_67 : Nat → Int32) (i_68 : Nat) (z_69 : Int32) (F_70 : Nat → Int32) (G_136 : Nat → Int32) (G_137 : Nat → Int32) (hG_67p4 : okc (G_67 4)) (hbi_68 : i_68 ≤ cc) (hmloop_203 : cc - i_68 < Nloop_203) (H : Heap) (locs : List Loc) (ls : Array Slot), va_P D vwCl [(Nn, .inr (3, [.int (nI hp), .int (nI cc), .int zrs, .int zad, .int zpr, .int (nI t), .int z_69, .int zps, .ref Nl, .ref Nf, .ref Nb])), (Nl, .inl (g 1, 3, .inr (.inr (.inr (.inr (rf3 M0 L0 M2)))))), (Nb, .inl (g 0, 12, .inl F_11)), (L0, .inr (2, [.int (nI d0), .int (fk0 1), .int (fk0 2), .int (G_67 3), .int (G_67 4), .int (G_67 5), .ref L0c, .ref L0u, .ref L0p, .ref L0l])), (L0c, .inl (g 0, 5, .inl fc0)), (L0u, .inl (g 0, 15, .inl F_70)), (L0p, .inl (g 0, 15, .inl fp0)), (L0l, .inl (g 2, 3, .inr (.inr (.inr (.inr (rf3 L0a L0b L0d)))))), (L0a, .inr (1, [.int (G_66 0), .int (G_66 1), .int (G_66 2), .int (fa0 3), .int (G_66 4), .int (G_66 5), .int (G_66 6)])), (L0b, .inr (1, [.int (G_136 0), .int (G_136 1), .int (G_136 2), .int (fb0 3), .int (G_136 4), .int (G_136 5), .int (G_136 6)])), (L0d, .inr (1, [.int (G_137 0), .int (G_137 1), .int (G_137 2), .int (fd0 3), .int (G_137 4), .int (G_137 5), .int (G_137 6)]))] H → va_D A [(Nn, .inr (3, [.int (nI hp), .int (nI cc), .int zrs, .int zad, .int zpr, .int (nI t), .int z_69, .int zps, .ref Nl, .ref Nf, .ref Nb])), (Nl, .inl (g 1, 3, .inr (.inr (.inr (.inr (rf3 M0 L0 M2)))))), (Nb, .inl (g 0, 12, .inl F_11)), (L0, .inr (2, [.int (nI d0), .int (fk0 1), .int (fk0 2), .int (G_67 3), .int (G_67 4), .int (G_67 5), .ref L0c, .ref L0u, .ref L0p, .ref L0l])), (L0c, .inl (g 0, 5, .inl fc0)), (L0u, .inl (g 0, 15, .inl F_70)), (L0p, .inl (g 0, 15, .inl fp0)), (L0l, .inl (g 2, 3, .inr (.inr (.inr (.inr (rf3 L0a L0b L0d)))))), (L0a, .inr (1, [.int (G_66 0), .int (G_66 1), .int (G_66 2), .int (fa0 3), .int (G_66 4), .int (G_66 5), .int (G_66 6)])), (L0b, .inr (1, [.int (G_136 0), .int (G_136 1), .int (G_136 2), .int (fb0 3), .int (G_136 4), .int (G_136 5), .int (G_136 6)])), (L0d, .inr (1, [.int (G_137 0), .int (G_137 1), .int (G_137 2), .int (fd0 3), .int (G_137 4), .int (G_137 5), .int (G_137 6)]))] → va_S A s.heap H locs → lv_has ls 9 [(5, .int (nI i_68)), (3, .int (nI ((t) % 5))), (2, .ref L0), (0, .ref Nn)] → W p l e (headSpec wsX3_arriveOver ({ frames := 2, cells := 0, slots := 0, locals := 42 })).room s m ([.ref Nn, .int 1] : List Value).toArray below meth c H locs 0 0 Q (F0 m 48 ls []) := by
      clear hP hD hS hl
      intro Nloop_203
      induction Nloop_203 with
      | zero => intro G_66 G_67 i_68 z_69 F_70 G_136 G_137 hG_67p4 hbi_68 hm9; exact absurd hm9 (Nat.not_lt_zero _)
      | succ Nloop_203 loop_203_ih =>
        intro G_66 G_67 i_68 z_69 F_70 G_136 G_137 hG_67p4 hbi_68 hmloop_203 H locs ls hP hD hS hl
        refine lv_iload hx hb dX3_arriveOver_48 (lv_at hl 0 rfl) ?_
        refine lv_aload_n hx hb dX3_arriveOver_50 rfl (lv_at hl 3 rfl) ?_
        refine va_get (D := D) (ci := 3) (v := .int (nI cc)) (C := RX3) (T := TX3) (N := 11) hx hb hts iX3 hown hK hP 0 rfl rfl 1 (by decide) f62 (fun _ h9 => h9) rfl dX3_arriveOver_51 ?_
        refine lv_icmp_ge (tgt := 130) hx hb dX3_arriveOver_54 (by decide) (fun cb_204 => ?_) (fun cb_204 => ?_)
        · skip
          have cn_205 : cc ≤ i_68 := (nI_leI (show cc < 2 ^ 31 by omega) (show i_68 < 2 ^ 31 by omega)).mp cb_204
          refine lv_aload_n hx hb dX3_arriveOver_130 rfl (lv_at hl 2 rfl) ?_
          refine lv_iload_n hx hb dX3_arriveOver_131 rfl (lv_at hl 1 rfl) ?_
          refine ky_Vv (As := [.int (nI ((t) % 5))]) (rest := []) ⟨hx, hb, hml, hown, hts⟩ ⟨hK, hN⟩ hZ hP hD hS hA [3, 4, 5, 6] [0, 1, 2, 7, 8, 9, 10] (wc := [(L0, .inr (2, [.int (nI d0), .int (fk0 1), .int (fk0 2), .int (G_67 3), .int (G_67 4), .int (G_67 5), .ref L0c, .ref L0u, .ref L0p, .ref L0l])), (L0c, .inl (g 0, 5, .inl fc0)), (L0u, .inl (g 0, 15, .inl F_70)), (L0p, .inl (g 0, 15, .inl fp0))]) (wr := [(Nn, .inr (3, [.int (nI hp), .int (nI cc), .int zrs, .int zad, .int zpr, .int (nI t), .int z_69, .int zps, .ref Nl, .ref Nf, .ref Nb])), (Nl, .inl (g 1, 3, .inr (.inr (.inr (.inr (rf3 M0 L0 M2)))))), (Nb, .inl (g 0, 12, .inl F_11)), (L0l, .inl (g 2, 3, .inr (.inr (.inr (.inr (rf3 L0a L0b L0d)))))), (L0a, .inr (1, [.int (G_66 0), .int (G_66 1), .int (G_66 2), .int (fa0 3), .int (G_66 4), .int (G_66 5), .int (G_66 6)])), (L0b, .inr (1, [.int (G_136 0), .int (G_136 1), .int (G_136 2), .int (fb0 3), .int (G_136 4), .int (G_136 5), .int (G_136 6)])), (L0d, .inr (1, [.int (G_137 0), .int (G_137 1), .int (G_137 2), .int (fd0 3), .int (G_137 4), .int (G_137 5), .int (G_137 6)]))]) rfl rfl rfl rfl (by decide) (k_X2_clearSlot l D g H.size L0 ((t) % 5) (lf [nI d0, fk0 1, fk0 2, G_67 3, G_67 4, G_67 5]) L0c L0u L0p L0l fc0 F_70 fp0 (show ((t) % 5) < 5 by omega) (h5)) (cwV 1 hts gX3_arriveOver_X2_clearSlot rfl rfl rfl (by decide +kernel) ⟨(Nat.le_of_ble_eq_true rfl), (Nat.le_of_ble_eq_true rfl)⟩) 3 2 rfl rfl rfl rfl hl.1 rfl (Nat.le_of_ble_eq_true rfl) dX3_arriveOver_132 ⟨(Nat.le_of_ble_eq_true rfl), (Nat.le_of_ble_eq_true rfl)⟩ (fun u H locs hw hP2 hD2 hS2 => ?_)
          clear hP hD hS
          obtain ⟨fcx_207, fux_208, fpx_209, rfl, hf_210⟩ := hw
          have hPD : PD D A [(Nn, .inr (3, [.int (nI hp), .int (nI cc), .int zrs, .int zad, .int zpr, .int (nI t), .int z_69, .int zps, .ref Nl, .ref Nf, .ref Nb])), (Nl, .inl (g 1, 3, .inr (.inr (.inr (.inr (rf3 M0 L0 M2)))))), (Nb, .inl (g 0, 12, .inl F_11)), (L0l, .inl (g 2, 3, .inr (.inr (.inr (.inr (rf3 L0a L0b L0d)))))), (L0a, .inr (1, [.int (G_66 0), .int (G_66 1), .int (G_66 2), .int (fa0 3), .int (G_66 4), .int (G_66 5), .int (G_66 6)])), (L0b, .inr (1, [.int (G_136 0), .int (G_136 1), .int (G_136 2), .int (fb0 3), .int (G_136 4), .int (G_136 5), .int (G_136 6)])), (L0d, .inr (1, [.int (G_137 0), .int (G_137 1), .int (G_137 2), .int (fd0 3), .int (G_137 4), .int (G_137 5), .int (G_137 6)])), (L0, .inr (2, [.int (nI d0), .int (fk0 1), .int (fk0 2), .int (G_67 3), .int (G_67 4), .int (G_67 5), .ref L0c, .ref L0u, .ref L0p, .ref L0l])), (L0c, .inl (g 0, 5, .inl fcx_207)), (L0u, .inl (g 0, 15, .inl fux_208)), (L0p, .inl (g 0, 15, .inl fpx_209))] H := ⟨hP2, hD2⟩
          have hS := hS2; clear hP2 hD2 hS2; have hP := hPD.1; have hD := hPD.2; clear hPD
          refine W.widen (k := 0) (n := 0) (Nat.le_of_ble_eq_true rfl) (Nat.le_of_ble_eq_true rfl) ?_
          have hPD9 : PD D A [(Nn, .inr (3, [.int (nI hp), .int (nI cc), .int zrs, .int zad, .int zpr, .int (nI t), .int z_69, .int zps, .ref Nl, .ref Nf, .ref Nb])), (Nl, .inl (g 1, 3, .inr (.inr (.inr (.inr (rf3 M0 L0 M2)))))), (Nb, .inl (g 0, 12, .inl F_11)), (L0, .inr (2, [.int (nI d0), .int (fk0 1), .int (fk0 2), .int (G_67 3), .int (G_67 4), .int (G_67 5), .ref L0c, .ref L0u, .ref L0p, .ref L0l])), (L0c, .inl (g 0, 5, .inl fcx_207)), (L0u, .inl (g 0, 15, .inl fux_208)), (L0p, .inl (g 0, 15, .inl fpx_209)), (L0l, .inl (g 2, 3, .inr (.inr (.inr (.inr (rf3 L0a L0b L0d)))))), (L0a, .inr (1, [.int (G_66 0), .int (G_66 1), .int (G_66 2), .int (fa0 3), .int (G_66 4), .int (G_66 5), .int (G_66 6)])), (L0b, .inr (1, [.int (G_136 0), .int (G_136 1), .int (G_136 2), .int (fb0 3), .int (G_136 4), .int (G_136 5), .int (G_136 6)])), (L0d, .inr (1, [.int (G_137 0), .int (G_137 1), .int (G_137 2), .int (fd0 3), .int (G_137 4), .int (G_137 5), .int (G_137 6)]))] H := ⟨hP.sub [0, 1, 2, 7, 8, 9, 10, 3, 4, 5, 6] rfl, hD.sub [0, 1, 2, 7, 8, 9, 10, 3, 4, 5, 6] (by decide) rfl⟩
          have hP9 := hPD9.1; have hD9 := hPD9.2
          subst hQ
          refine W.widen (k := 0) (n := 0) (Nat.le_of_ble_eq_true rfl) (Nat.le_of_ble_eq_true rfl) ?_
          exact W.vret hx hb hr (fun tS htS _ => ⟨⟨_, rfl, ⟨(lf2 [F_11, G_67, fcx_207, fux_208, fpx_209, G_66, G_136, G_137]), z_69, rfl, (hG_67p4), (hf_210)⟩, by rw [htS]; exact hP9, hD9⟩, hS.F htS⟩) hS.2.2 dX3_arriveOver_135
        · skip
          have cn_211 : i_68 < cc := Nat.lt_of_not_le (fun q9 => cb_204 ((nI_leI (show cc < 2 ^ 31 by omega) (show i_68 < 2 ^ 31 by omega)).mpr q9))
          refine lv_aload_n hx hb dX3_arriveOver_57 rfl (lv_at hl 2 rfl) ?_
          refine va_get (D := D) (ci := 2) (v := .ref L0u) (C := RX2) (T := TX2) (N := 10) hx hb hts iX2 hown hK hP 3 rfl rfl 7 (by decide) f125 (fun _ h9 => h9) rfl dX3_arriveOver_58 ?_
          refine lv_iload_n hx hb dX3_arriveOver_61 rfl (lv_at hl 1 rfl) ?_
          refine lv_iconst (v := 3) hx hb dX3_arriveOver_62 (by decide) ?_
          refine lv_imul hx hb dX3_arriveOver_63 ?_
          refine lv_eqi (y := (nI (((t) % 5) * 3))) (pk_mul ((t) % 5) (3)) ?_
          refine lv_iload hx hb dX3_arriveOver_64 (lv_at hl 0 rfl) ?_
          refine lv_iadd hx hb dX3_arriveOver_66 ?_
          refine lv_eqi (y := (nI (((t) % 5) * 3 + i_68))) (nI_add (((t) % 5) * 3) (i_68)) ?_
          refine va_iald hx hb hK hP 5 0 rfl rfl (vp_in_nI (show ((t) % 5) * 3 + i_68 < 15 by omega) (by decide)) dX3_arriveOver_67 ?_
          refine lv_eqi (y := (F_70 (((t) % 5) * 3 + i_68))) (congrArg F_70 (nI_clamp (show ((t) % 5) * 3 + i_68 < 2 ^ 31 by omega))) ?_
          refine lv_topi (fun y_212 _ => ?_)
          refine lv_istore (lv' := [(6, .int y_212), (5, .int (nI i_68)), (3, .int (nI ((t) % 5))), (2, .ref L0), (0, .ref Nn)]) hx hb dX3_arriveOver_68 hl (by decide) rfl (fun ls hl => ?_)
          refine lv_iload hx hb dX3_arriveOver_70 (lv_at hl 0 rfl) ?_
          refine lv_iconst (v := (-1)) hx hb dX3_arriveOver_72 (by decide) ?_
          have join_234 : ∀ (G_222 : Nat → Int32) (G_223 : Nat → Int32) (G_224 : Nat → Int32) (H : Heap) (locs : List Loc) (ls : Array Slot), va_P D vwCl [(Nn, .inr (3, [.int (nI hp), .int (nI cc), .int zrs, .int zad, .int zpr, .int (nI t), .int z_69, .int zps, .ref Nl, .ref Nf, .ref Nb])), (Nl, .inl (g 1, 3, .inr (.inr (.inr (.inr (rf3 M0 L0 M2)))))), (Nb, .inl (g 0, 12, .inl F_11)), (L0, .inr (2, [.int (nI d0), .int (fk0 1), .int (fk0 2), .int (G_67 3), .int (G_67 4), .int (G_67 5), .ref L0c, .ref L0u, .ref L0p, .ref L0l])), (L0c, .inl (g 0, 5, .inl fc0)), (L0u, .inl (g 0, 15, .inl F_70)), (L0p, .inl (g 0, 15, .inl fp0)), (L0l, .inl (g 2, 3, .inr (.inr (.inr (.inr (rf3 L0a L0b L0d)))))), (L0a, .inr (1, [.int (G_222 0), .int (G_222 1), .int (G_222 2), .int (fa0 3), .int (G_222 4), .int (G_222 5), .int (G_222 6)])), (L0b, .inr (1, [.int (G_223 0), .int (G_223 1), .int (G_223 2), .int (fb0 3), .int (G_223 4), .int (G_223 5), .int (G_223 6)])), (L0d, .inr (1, [.int (G_224 0), .int (G_224 1), .int (G_224 2), .int (fd0 3), .int (G_224 4), .int (G_224 5), .int (G_224 6)]))] H → va_D A [(Nn, .inr (3, [.int (nI hp), .int (nI cc), .int zrs, .int zad, .int zpr, .int (nI t), .int z_69, .int zps, .ref Nl, .ref Nf, .ref Nb])), (Nl, .inl (g 1, 3, .inr (.inr (.inr (.inr (rf3 M0 L0 M2)))))), (Nb, .inl (g 0, 12, .inl F_11)), (L0, .inr (2, [.int (nI d0), .int (fk0 1), .int (fk0 2), .int (G_67 3), .int (G_67 4), .int (G_67 5), .ref L0c, .ref L0u, .ref L0p, .ref L0l])), (L0c, .inl (g 0, 5, .inl fc0)), (L0u, .inl (g 0, 15, .inl F_70)), (L0p, .inl (g 0, 15, .inl fp0)), (L0l, .inl (g 2, 3, .inr (.inr (.inr (.inr (rf3 L0a L0b L0d)))))), (L0a, .inr (1, [.int (G_222 0), .int (G_222 1), .int (G_222 2), .int (fa0 3), .int (G_222 4), .int (G_222 5), .int (G_222 6)])), (L0b, .inr (1, [.int (G_223 0), .int (G_223 1), .int (G_223 2), .int (fb0 3), .int (G_223 4), .int (G_223 5), .int (G_223 6)])), (L0d, .inr (1, [.int (G_224 0), .int (G_224 1), .int (G_224 2), .int (fd0 3), .int (G_224 4), .int (G_224 5), .int (G_224 6)]))] → va_S A s.heap H locs → lv_has ls 9 [(5, .int (nI i_68)), (3, .int (nI ((t) % 5))), (2, .ref L0), (0, .ref Nn)] → W p l e (headSpec wsX3_arriveOver ({ frames := 2, cells := 0, slots := 0, locals := 42 })).room s m ([.ref Nn, .int 1] : List Value).toArray below meth c H locs 0 0 Q (F0 m 88 ls []) := by
            clear hP hD hS hl
            intro G_222 G_223 G_224  H locs ls hP hD hS hl
            refine lv_aload_n hx hb dX3_arriveOver_88 rfl (lv_at hl 2 rfl) ?_
            refine va_get (D := D) (ci := 2) (v := .ref L0p) (C := RX2) (T := TX2) (N := 10) hx hb hts iX2 hown hK hP 3 rfl rfl 8 (by decide) f137 (fun _ h9 => h9) rfl dX3_arriveOver_89 ?_
            refine lv_iload_n hx hb dX3_arriveOver_92 rfl (lv_at hl 1 rfl) ?_
            refine lv_iconst (v := 3) hx hb dX3_arriveOver_93 (by decide) ?_
            refine lv_imul hx hb dX3_arriveOver_94 ?_
            refine lv_eqi (y := (nI (((t) % 5) * 3))) (pk_mul ((t) % 5) (3)) ?_
            refine lv_iload hx hb dX3_arriveOver_95 (lv_at hl 0 rfl) ?_
            refine lv_iadd hx hb dX3_arriveOver_97 ?_
            refine lv_eqi (y := (nI (((t) % 5) * 3 + i_68))) (nI_add (((t) % 5) * 3) (i_68)) ?_
            refine va_iald hx hb hK hP 6 0 rfl rfl (vp_in_nI (show ((t) % 5) * 3 + i_68 < 15 by omega) (by decide)) dX3_arriveOver_98 ?_
            refine lv_eqi (y := (fp0 (((t) % 5) * 3 + i_68))) (congrArg fp0 (nI_clamp (show ((t) % 5) * 3 + i_68 < 2 ^ 31 by omega))) ?_
            refine lv_topi (fun y_235 _ => ?_)
            refine lv_istore (lv' := [(7, .int y_235), (5, .int (nI i_68)), (3, .int (nI ((t) % 5))), (2, .ref L0), (0, .ref Nn)]) hx hb dX3_arriveOver_99 hl (by decide) rfl (fun ls hl => ?_)
            refine lv_iconst (v := 0) hx hb dX3_arriveOver_101 (by decide) ?_
            refine lv_istore (lv' := [(8, .int 0), (7, .int y_235), (5, .int (nI i_68)), (3, .int (nI ((t) % 5))), (2, .ref L0), (0, .ref Nn)]) hx hb dX3_arriveOver_102 hl (by decide) rfl (fun ls hl => ?_)
            have loop_258 : ∀ (Nloop_258 : Nat) (G_242 : Nat → Int32) (i_243 : Int32) (z_244 : Int32) (F_245 : Nat → Int32) (hG_242p4 : okc (G_242 4)) (hmloop_258 : (y_235.toInt - i_243.toInt).toNat < Nloop_258) (H : Heap) (locs : List Loc) (ls : Array Slot), va_P D vwCl [(Nn, .inr (3, [.int (nI hp), .int (nI cc), .int zrs, .int zad, .int zpr, .int (nI t), .int z_244, .int zps, .ref Nl, .ref Nf, .ref Nb])), (Nl, .inl (g 1, 3, .inr (.inr (.inr (.inr (rf3 M0 L0 M2)))))), (Nb, .inl (g 0, 12, .inl F_11)), (L0, .inr (2, [.int (nI d0), .int (fk0 1), .int (fk0 2), .int (G_242 3), .int (G_242 4), .int (G_242 5), .ref L0c, .ref L0u, .ref L0p, .ref L0l])), (L0c, .inl (g 0, 5, .inl fc0)), (L0u, .inl (g 0, 15, .inl F_245)), (L0p, .inl (g 0, 15, .inl fp0)), (L0l, .inl (g 2, 3, .inr (.inr (.inr (.inr (rf3 L0a L0b L0d)))))), (L0a, .inr (1, [.int (G_222 0), .int (G_222 1), .int (G_222 2), .int (fa0 3), .int (G_222 4), .int (G_222 5), .int (G_222 6)])), (L0b, .inr (1, [.int (G_223 0), .int (G_223 1), .int (G_223 2), .int (fb0 3), .int (G_223 4), .int (G_223 5), .int (G_223 6)])), (L0d, .inr (1, [.int (G_224 0), .int (G_224 1), .int (G_224 2), .int (fd0 3), .int (G_224 4), .int (G_224 5), .int (G_224 6)]))] H → va_D A [(Nn, .inr (3, [.int (nI hp), .int (nI cc), .int zrs, .int zad, .int zpr, .int (nI t), .int z_244, .int zps, .ref Nl, .ref Nf, .ref Nb])), (Nl, .inl (g 1, 3, .inr (.inr (.inr (.inr (rf3 M0 L0 M2)))))), (Nb, .inl (g 0, 12, .inl F_11)), (L0, .inr (2, [.int (nI d0), .int (fk0 1), .int (fk0 2), .int (G_242 3), .int (G_242 4), .int (G_242 5), .ref L0c, .ref L0u, .ref L0p, .ref L0l])), (L0c, .inl (g 0, 5, .inl fc0)), (L0u, .inl (g 0, 15, .inl F_245)), (L0p, .inl (g 0, 15, .inl fp0)), (L0l, .inl (g 2, 3, .inr (.inr (.inr (.inr (rf3 L0a L0b L0d)))))), (L0a, .inr (1, [.int (G_222 0), .int (G_222 1), .int (G_222 2), .int (fa0 3), .int (G_222 4), .int (G_222 5), .int (G_222 6)])), (L0b, .inr (1, [.int (G_223 0), .int (G_223 1), .int (G_223 2), .int (fb0 3), .int (G_223 4), .int (G_223 5), .int (G_223 6)])), (L0d, .inr (1, [.int (G_224 0), .int (G_224 1), .int (G_224 2), .int (fd0 3), .int (G_224 4), .int (G_224 5), .int (G_224 6)]))] → va_S A s.heap H locs → lv_has ls 9 [(8, .int i_243), (7, .int y_235), (5, .int (nI i_68)), (3, .int (nI ((t) % 5))), (2, .ref L0), (0, .ref Nn)] → W p l e (headSpec wsX3_arriveOver ({ frames := 2, cells := 0, slots := 0, locals := 42 })).room s m ([.ref Nn, .int 1] : List Value).toArray below meth c H locs 0 0 Q (F0 m 104 ls []) := by
              clear hP hD hS hl
              intro Nloop_258
              induction Nloop_258 with
              | zero => intro G_242 i_243 z_244 F_245 hG_242p4 hm9; exact absurd hm9 (Nat.not_lt_zero _)
              | succ Nloop_258 loop_258_ih =>
                intro G_242 i_243 z_244 F_245 hG_242p4 hmloop_258 H locs ls hP hD hS hl
                refine lv_iload hx hb dX3_arriveOver_104 (lv_at hl 0 rfl) ?_
                refine lv_iload hx hb dX3_arriveOver_106 (lv_at hl 1 rfl) ?_
                refine lv_icmp_ge (tgt := 124) hx hb dX3_arriveOver_108 (by decide) (fun cb_259 => ?_) (fun cb_259 => ?_)
                · skip
                  refine lv_iinc (v := (nI (i_68 + 1))) (lv' := [(5, .int (nI (i_68 + 1))), (8, .int i_243), (7, .int y_235), (3, .int (nI ((t) % 5))), (2, .ref L0), (0, .ref Nn)]) hx hb dX3_arriveOver_124 hl (k := 2) rfl (nI_1 (i_68)) (by decide) rfl (fun ls hl => ?_)
                  refine lv_goto (tgt := 48) hx hb dX3_arriveOver_127 (by decide) ?_
                  exact loop_203_ih G_222 G_242 (i_68 + 1) z_244 F_245 G_223 G_224 (hG_242p4) (show (i_68 + 1) ≤ cc by omega) (show cc - (i_68 + 1) < Nloop_203 by omega) _ _ _ hP hD hS (lv_sub hl [0, 3, 4, 5] rfl)
                · skip
                  refine lv_aload_n hx hb dX3_arriveOver_111 rfl (lv_at hl 5 rfl) ?_
                  refine lv_aload_n hx hb dX3_arriveOver_112 rfl (lv_at hl 4 rfl) ?_
                  refine lv_iload hx hb dX3_arriveOver_113 (lv_at hl 2 rfl) ?_
                  refine ky_Vv (As := [.ref L0, .int (nI i_68)]) (rest := []) ⟨hx, hb, hml, hown, hts⟩ ⟨hK, hN⟩ hZ hP hD hS hA [0, 3, 5, 7, 8, 9, 10] [1, 2, 4, 6] (wc := [(Nn, .inr (3, [.int (nI hp), .int (nI cc), .int zrs, .int zad, .int zpr, .int (nI t), .int z_244, .int zps, .ref Nl, .ref Nf, .ref Nb])), (L0, .inr (2, [.int (nI d0), .int (fk0 1), .int (fk0 2), .int (G_242 3), .int (G_242 4), .int (G_242 5), .ref L0c, .ref L0u, .ref L0p, .ref L0l])), (L0u, .inl (g 0, 15, .inl F_245)), (L0l, .inl (g 2, 3, .inr (.inr (.inr (.inr (rf3 L0a L0b L0d)))))), (L0a, .inr (1, [.int (G_222 0), .int (G_222 1), .int (G_222 2), .int (fa0 3), .int (G_222 4), .int (G_222 5), .int (G_222 6)])), (L0b, .inr (1, [.int (G_223 0), .int (G_223 1), .int (G_223 2), .int (fb0 3), .int (G_223 4), .int (G_223 5), .int (G_223 6)])), (L0d, .inr (1, [.int (G_224 0), .int (G_224 1), .int (G_224 2), .int (fd0 3), .int (G_224 4), .int (G_224 5), .int (G_224 6)]))]) (wr := [(Nl, .inl (g 1, 3, .inr (.inr (.inr (.inr (rf3 M0 L0 M2)))))), (Nb, .inl (g 0, 12, .inl F_11)), (L0c, .inl (g 0, 5, .inl fc0)), (L0p, .inl (g 0, 15, .inl fp0))]) rfl rfl rfl rfl (by decide) (k_X3_sendUpdate l D g H.size Nn L0 i_68 hp cc zrs zad zpr t z_244 zps Nl Nf Nb d0 fk0 G_242 L0c L0u L0p L0l F_245 L0a L0b L0d (lf [G_222 0, G_222 1, G_222 2, fa0 3, G_222 4, G_222 5, G_222 6]) (lf [G_223 0, G_223 1, G_223 2, fb0 3, G_223 4, G_223 5, G_223 6]) (lf [G_224 0, G_224 1, G_224 2, fd0 3, G_224 4, G_224 5, G_224 6]) (show i_68 < 3 by omega) (show t < 2 ^ 30 by omega) (show d0 < 5 by omega) (hG_242p4)) (cwV 2 hts gX3_arriveOver_X3_sendUpdate rfl rfl rfl (by decide +kernel) ⟨(Nat.le_of_ble_eq_true rfl), (Nat.le_of_ble_eq_true rfl)⟩) 0 3 rfl rfl rfl rfl hl.1 rfl (Nat.le_of_ble_eq_true rfl) dX3_arriveOver_115 ⟨(Nat.le_of_ble_eq_true rfl), (Nat.le_of_ble_eq_true rfl)⟩ (fun u H locs hw hP2 hD2 hS2 => ?_)
                  clear hP hD hS
                  obtain ⟨zlox_261, fv0x_262, fu0x_263, rfl, hf_264⟩ := hw
                  have hPD : PD D A [(Nl, .inl (g 1, 3, .inr (.inr (.inr (.inr (rf3 M0 L0 M2)))))), (Nb, .inl (g 0, 12, .inl F_11)), (L0c, .inl (g 0, 5, .inl fc0)), (L0p, .inl (g 0, 15, .inl fp0)), (Nn, .inr (3, [.int (nI hp), .int (nI cc), .int zrs, .int zad, .int zpr, .int (nI t), .int zlox_261, .int zps, .ref Nl, .ref Nf, .ref Nb])), (L0, .inr (2, [.int (nI d0), .int (fk0 1), .int (fk0 2), .int (fv0x_262 3), .int (fv0x_262 4), .int (fv0x_262 5), .ref L0c, .ref L0u, .ref L0p, .ref L0l])), (L0u, .inl (g 0, 15, .inl fu0x_263)), (L0l, .inl (g 2, 3, .inr (.inr (.inr (.inr (rf3 L0a L0b L0d)))))), (L0a, .inr (1, [.int (G_222 0), .int (G_222 1), .int (G_222 2), .int (fa0 3), .int (G_222 4), .int (G_222 5), .int (G_222 6)])), (L0b, .inr (1, [.int (G_223 0), .int (G_223 1), .int (G_223 2), .int (fb0 3), .int (G_223 4), .int (G_223 5), .int (G_223 6)])), (L0d, .inr (1, [.int (G_224 0), .int (G_224 1), .int (G_224 2), .int (fd0 3), .int (G_224 4), .int (G_224 5), .int (G_224 6)]))] H := ⟨hP2, hD2⟩
                  have hS := hS2; clear hP2 hD2 hS2; have hP := hPD.1; have hD := hPD.2; clear hPD
                  refine W.widen (k := 0) (n := 0) (Nat.le_of_ble_eq_true rfl) (Nat.le_of_ble_eq_true rfl) ?_
                  refine lv_iinc (v := (i_243 + 1)) (lv' := [(8, .int (i_243 + 1)), (7, .int y_235), (5, .int (nI i_68)), (3, .int (nI ((t) % 5))), (2, .ref L0), (0, .ref Nn)]) hx hb dX3_arriveOver_118 hl (k := 0) rfl (rfl) (by decide) rfl (fun ls hl => ?_)
                  refine lv_goto (tgt := 104) hx hb dX3_arriveOver_121 (by decide) ?_
                  exact loop_258_ih fv0x_262 (i_243 + 1) zlox_261 fu0x_263 (hf_264) (Nat.lt_of_lt_of_le (ms_lt (Int32.not_le.mp cb_259)) (Nat.le_of_lt_succ hmloop_258)) _ _ _ (hP.sub [4, 0, 1, 5, 2, 6, 3, 7, 8, 9, 10] rfl) (hD.sub [4, 0, 1, 5, 2, 6, 3, 7, 8, 9, 10] (by decide) rfl) hS hl
            exact loop_258 _ G_67 0 z_69 F_70 (hG_67p4) (Nat.lt_succ_self _) _ _ _ hP hD hS hl
          refine lv_icmp_eq (tgt := 88) hx hb dX3_arriveOver_73 (by decide) (fun cb_265 => ?_) (fun cb_265 => ?_)
          · skip
            have hPq_266 := hP; have hDq_266 := hD; have hSq_266 := hS; have hlq_266 := hl; clear hP hD hS hl
            subst cb_265
            have hP := hPq_266; have hD := hDq_266; have hS := hSq_266; have hl := hlq_266; clear hPq_266 hDq_266 hSq_266 hlq_266
            exact join_234 G_66 G_136 G_137 _ _ _ hP hD hS (lv_sub hl [1, 2, 3, 4] rfl)
          · skip
            refine lv_aload_n hx hb dX3_arriveOver_76 rfl (lv_at hl 3 rfl) ?_
            refine va_get (D := D) (ci := 2) (v := .ref L0l) (C := RX2) (T := TX2) (N := 10) hx hb hts iX2 hown hK hP 3 rfl rfl 9 (by decide) f128 (fun _ h9 => h9) rfl dX3_arriveOver_77 ?_
            refine lv_iload hx hb dX3_arriveOver_80 (lv_at hl 1 rfl) ?_
            have hPq_267 := hP; have hDq_267 := hD; have hSq_267 := hS; have hlq_267 := hl; clear hP hD hS hl
            rcases (show i_68 = 0 ∨ i_68 = 1 ∨ i_68 = 2 by omega) with rfl | rfl | rfl
            · skip
              have hP := hPq_267; have hD := hDq_267; have hS := hSq_267; have hl := hlq_267; clear hPq_267 hDq_267 hSq_267 hlq_267
              refine va_aldq (C := "HopCredits$Lane") hx hb hK hP 7 2 rfl rfl (by unfold vp_in; decide) dX3_arriveOver_82 ?_
              refine lv_eqv (v2 := .ref L0a) rfl ?_
              refine lv_iload hx hb dX3_arriveOver_83 (lv_at hl 0 rfl) ?_
              refine ky_Vv (As := [.int y_212]) (rest := []) ⟨hx, hb, hml, hown, hts⟩ ⟨hK, hN⟩ hZ hP hD hS hA [8] [0, 1, 2, 3, 4, 5, 6, 7, 9, 10] (wc := [(L0a, .inr (1, [.int (G_66 0), .int (G_66 1), .int (G_66 2), .int (fa0 3), .int (G_66 4), .int (G_66 5), .int (G_66 6)]))]) (wr := [(Nn, .inr (3, [.int (nI hp), .int (nI cc), .int zrs, .int zad, .int zpr, .int (nI t), .int z_69, .int zps, .ref Nl, .ref Nf, .ref Nb])), (Nl, .inl (g 1, 3, .inr (.inr (.inr (.inr (rf3 M0 L0 M2)))))), (Nb, .inl (g 0, 12, .inl F_11)), (L0, .inr (2, [.int (nI d0), .int (fk0 1), .int (fk0 2), .int (G_67 3), .int (G_67 4), .int (G_67 5), .ref L0c, .ref L0u, .ref L0p, .ref L0l])), (L0c, .inl (g 0, 5, .inl fc0)), (L0u, .inl (g 0, 15, .inl F_70)), (L0p, .inl (g 0, 15, .inl fp0)), (L0l, .inl (g 2, 3, .inr (.inr (.inr (.inr (rf3 L0a L0b L0d)))))), (L0b, .inr (1, [.int (G_136 0), .int (G_136 1), .int (G_136 2), .int (fb0 3), .int (G_136 4), .int (G_136 5), .int (G_136 6)])), (L0d, .inr (1, [.int (G_137 0), .int (G_137 1), .int (G_137 2), .int (fd0 3), .int (G_137 4), .int (G_137 5), .int (G_137 6)]))]) rfl rfl rfl rfl (by decide) (k_X1_hear l D g H.size L0a y_212 (lf [G_66 0, G_66 1, G_66 2, fa0 3, G_66 4, G_66 5, G_66 6])) (cwV 1 hts gX3_arriveOver_X1_hear rfl rfl rfl (by decide +kernel) ⟨(Nat.le_of_ble_eq_true rfl), (Nat.le_of_ble_eq_true rfl)⟩) 8 1 rfl rfl rfl rfl hl.1 rfl (Nat.le_of_ble_eq_true rfl) dX3_arriveOver_85 ⟨(Nat.le_of_ble_eq_true rfl), (Nat.le_of_ble_eq_true rfl)⟩ (fun u H locs hw hP2 hD2 hS2 => ?_)
              clear hP hD hS
              obtain ⟨fwx_269, rfl⟩ := hw
              have hPD : PD D A [(Nn, .inr (3, [.int (nI hp), .int (nI cc), .int zrs, .int zad, .int zpr, .int (nI t), .int z_69, .int zps, .ref Nl, .ref Nf, .ref Nb])), (Nl, .inl (g 1, 3, .inr (.inr (.inr (.inr (rf3 M0 L0 M2)))))), (Nb, .inl (g 0, 12, .inl F_11)), (L0, .inr (2, [.int (nI d0), .int (fk0 1), .int (fk0 2), .int (G_67 3), .int (G_67 4), .int (G_67 5), .ref L0c, .ref L0u, .ref L0p, .ref L0l])), (L0c, .inl (g 0, 5, .inl fc0)), (L0u, .inl (g 0, 15, .inl F_70)), (L0p, .inl (g 0, 15, .inl fp0)), (L0l, .inl (g 2, 3, .inr (.inr (.inr (.inr (rf3 L0a L0b L0d)))))), (L0b, .inr (1, [.int (G_136 0), .int (G_136 1), .int (G_136 2), .int (fb0 3), .int (G_136 4), .int (G_136 5), .int (G_136 6)])), (L0d, .inr (1, [.int (G_137 0), .int (G_137 1), .int (G_137 2), .int (fd0 3), .int (G_137 4), .int (G_137 5), .int (G_137 6)])), (L0a, .inr (1, [.int (fwx_269 0), .int (fwx_269 1), .int (fwx_269 2), .int (fa0 3), .int (fwx_269 4), .int (fwx_269 5), .int (fwx_269 6)]))] H := ⟨hP2, hD2⟩
              have hS := hS2; clear hP2 hD2 hS2; have hP := hPD.1; have hD := hPD.2; clear hPD
              refine W.widen (k := 0) (n := 0) (Nat.le_of_ble_eq_true rfl) (Nat.le_of_ble_eq_true rfl) ?_
              exact join_234 fwx_269 G_136 G_137 _ _ _ (hP.sub [0, 1, 2, 3, 4, 5, 6, 7, 10, 8, 9] rfl) (hD.sub [0, 1, 2, 3, 4, 5, 6, 7, 10, 8, 9] (by decide) rfl) hS (lv_sub hl [1, 2, 3, 4] rfl)
            · skip
              have hP := hPq_267; have hD := hDq_267; have hS := hSq_267; have hl := hlq_267; clear hPq_267 hDq_267 hSq_267 hlq_267
              refine va_aldq (C := "HopCredits$Lane") hx hb hK hP 7 2 rfl rfl (by unfold vp_in; decide) dX3_arriveOver_82 ?_
              refine lv_eqv (v2 := .ref L0b) rfl ?_
              refine lv_iload hx hb dX3_arriveOver_83 (lv_at hl 0 rfl) ?_
              refine ky_Vv (As := [.int y_212]) (rest := []) ⟨hx, hb, hml, hown, hts⟩ ⟨hK, hN⟩ hZ hP hD hS hA [9] [0, 1, 2, 3, 4, 5, 6, 7, 8, 10] (wc := [(L0b, .inr (1, [.int (G_136 0), .int (G_136 1), .int (G_136 2), .int (fb0 3), .int (G_136 4), .int (G_136 5), .int (G_136 6)]))]) (wr := [(Nn, .inr (3, [.int (nI hp), .int (nI cc), .int zrs, .int zad, .int zpr, .int (nI t), .int z_69, .int zps, .ref Nl, .ref Nf, .ref Nb])), (Nl, .inl (g 1, 3, .inr (.inr (.inr (.inr (rf3 M0 L0 M2)))))), (Nb, .inl (g 0, 12, .inl F_11)), (L0, .inr (2, [.int (nI d0), .int (fk0 1), .int (fk0 2), .int (G_67 3), .int (G_67 4), .int (G_67 5), .ref L0c, .ref L0u, .ref L0p, .ref L0l])), (L0c, .inl (g 0, 5, .inl fc0)), (L0u, .inl (g 0, 15, .inl F_70)), (L0p, .inl (g 0, 15, .inl fp0)), (L0l, .inl (g 2, 3, .inr (.inr (.inr (.inr (rf3 L0a L0b L0d)))))), (L0a, .inr (1, [.int (G_66 0), .int (G_66 1), .int (G_66 2), .int (fa0 3), .int (G_66 4), .int (G_66 5), .int (G_66 6)])), (L0d, .inr (1, [.int (G_137 0), .int (G_137 1), .int (G_137 2), .int (fd0 3), .int (G_137 4), .int (G_137 5), .int (G_137 6)]))]) rfl rfl rfl rfl (by decide) (k_X1_hear l D g H.size L0b y_212 (lf [G_136 0, G_136 1, G_136 2, fb0 3, G_136 4, G_136 5, G_136 6])) (cwV 1 hts gX3_arriveOver_X1_hear rfl rfl rfl (by decide +kernel) ⟨(Nat.le_of_ble_eq_true rfl), (Nat.le_of_ble_eq_true rfl)⟩) 9 1 rfl rfl rfl rfl hl.1 rfl (Nat.le_of_ble_eq_true rfl) dX3_arriveOver_85 ⟨(Nat.le_of_ble_eq_true rfl), (Nat.le_of_ble_eq_true rfl)⟩ (fun u H locs hw hP2 hD2 hS2 => ?_)
              clear hP hD hS
              obtain ⟨fwx_271, rfl⟩ := hw
              have hPD : PD D A [(Nn, .inr (3, [.int (nI hp), .int (nI cc), .int zrs, .int zad, .int zpr, .int (nI t), .int z_69, .int zps, .ref Nl, .ref Nf, .ref Nb])), (Nl, .inl (g 1, 3, .inr (.inr (.inr (.inr (rf3 M0 L0 M2)))))), (Nb, .inl (g 0, 12, .inl F_11)), (L0, .inr (2, [.int (nI d0), .int (fk0 1), .int (fk0 2), .int (G_67 3), .int (G_67 4), .int (G_67 5), .ref L0c, .ref L0u, .ref L0p, .ref L0l])), (L0c, .inl (g 0, 5, .inl fc0)), (L0u, .inl (g 0, 15, .inl F_70)), (L0p, .inl (g 0, 15, .inl fp0)), (L0l, .inl (g 2, 3, .inr (.inr (.inr (.inr (rf3 L0a L0b L0d)))))), (L0a, .inr (1, [.int (G_66 0), .int (G_66 1), .int (G_66 2), .int (fa0 3), .int (G_66 4), .int (G_66 5), .int (G_66 6)])), (L0d, .inr (1, [.int (G_137 0), .int (G_137 1), .int (G_137 2), .int (fd0 3), .int (G_137 4), .int (G_137 5), .int (G_137 6)])), (L0b, .inr (1, [.int (fwx_271 0), .int (fwx_271 1), .int (fwx_271 2), .int (fb0 3), .int (fwx_271 4), .int (fwx_271 5), .int (fwx_271 6)]))] H := ⟨hP2, hD2⟩
              have hS := hS2; clear hP2 hD2 hS2; have hP := hPD.1; have hD := hPD.2; clear hPD
              refine W.widen (k := 0) (n := 0) (Nat.le_of_ble_eq_true rfl) (Nat.le_of_ble_eq_true rfl) ?_
              exact join_234 G_66 fwx_271 G_137 _ _ _ (hP.sub [0, 1, 2, 3, 4, 5, 6, 7, 8, 10, 9] rfl) (hD.sub [0, 1, 2, 3, 4, 5, 6, 7, 8, 10, 9] (by decide) rfl) hS (lv_sub hl [1, 2, 3, 4] rfl)
            · skip
              have hP := hPq_267; have hD := hDq_267; have hS := hSq_267; have hl := hlq_267; clear hPq_267 hDq_267 hSq_267 hlq_267
              refine va_aldq (C := "HopCredits$Lane") hx hb hK hP 7 2 rfl rfl (by unfold vp_in; decide) dX3_arriveOver_82 ?_
              refine lv_eqv (v2 := .ref L0d) rfl ?_
              refine lv_iload hx hb dX3_arriveOver_83 (lv_at hl 0 rfl) ?_
              refine ky_Vv (As := [.int y_212]) (rest := []) ⟨hx, hb, hml, hown, hts⟩ ⟨hK, hN⟩ hZ hP hD hS hA [10] [0, 1, 2, 3, 4, 5, 6, 7, 8, 9] (wc := [(L0d, .inr (1, [.int (G_137 0), .int (G_137 1), .int (G_137 2), .int (fd0 3), .int (G_137 4), .int (G_137 5), .int (G_137 6)]))]) (wr := [(Nn, .inr (3, [.int (nI hp), .int (nI cc), .int zrs, .int zad, .int zpr, .int (nI t), .int z_69, .int zps, .ref Nl, .ref Nf, .ref Nb])), (Nl, .inl (g 1, 3, .inr (.inr (.inr (.inr (rf3 M0 L0 M2)))))), (Nb, .inl (g 0, 12, .inl F_11)), (L0, .inr (2, [.int (nI d0), .int (fk0 1), .int (fk0 2), .int (G_67 3), .int (G_67 4), .int (G_67 5), .ref L0c, .ref L0u, .ref L0p, .ref L0l])), (L0c, .inl (g 0, 5, .inl fc0)), (L0u, .inl (g 0, 15, .inl F_70)), (L0p, .inl (g 0, 15, .inl fp0)), (L0l, .inl (g 2, 3, .inr (.inr (.inr (.inr (rf3 L0a L0b L0d)))))), (L0a, .inr (1, [.int (G_66 0), .int (G_66 1), .int (G_66 2), .int (fa0 3), .int (G_66 4), .int (G_66 5), .int (G_66 6)])), (L0b, .inr (1, [.int (G_136 0), .int (G_136 1), .int (G_136 2), .int (fb0 3), .int (G_136 4), .int (G_136 5), .int (G_136 6)]))]) rfl rfl rfl rfl (by decide) (k_X1_hear l D g H.size L0d y_212 (lf [G_137 0, G_137 1, G_137 2, fd0 3, G_137 4, G_137 5, G_137 6])) (cwV 1 hts gX3_arriveOver_X1_hear rfl rfl rfl (by decide +kernel) ⟨(Nat.le_of_ble_eq_true rfl), (Nat.le_of_ble_eq_true rfl)⟩) 10 1 rfl rfl rfl rfl hl.1 rfl (Nat.le_of_ble_eq_true rfl) dX3_arriveOver_85 ⟨(Nat.le_of_ble_eq_true rfl), (Nat.le_of_ble_eq_true rfl)⟩ (fun u H locs hw hP2 hD2 hS2 => ?_)
              clear hP hD hS
              obtain ⟨fwx_273, rfl⟩ := hw
              have hPD : PD D A [(Nn, .inr (3, [.int (nI hp), .int (nI cc), .int zrs, .int zad, .int zpr, .int (nI t), .int z_69, .int zps, .ref Nl, .ref Nf, .ref Nb])), (Nl, .inl (g 1, 3, .inr (.inr (.inr (.inr (rf3 M0 L0 M2)))))), (Nb, .inl (g 0, 12, .inl F_11)), (L0, .inr (2, [.int (nI d0), .int (fk0 1), .int (fk0 2), .int (G_67 3), .int (G_67 4), .int (G_67 5), .ref L0c, .ref L0u, .ref L0p, .ref L0l])), (L0c, .inl (g 0, 5, .inl fc0)), (L0u, .inl (g 0, 15, .inl F_70)), (L0p, .inl (g 0, 15, .inl fp0)), (L0l, .inl (g 2, 3, .inr (.inr (.inr (.inr (rf3 L0a L0b L0d)))))), (L0a, .inr (1, [.int (G_66 0), .int (G_66 1), .int (G_66 2), .int (fa0 3), .int (G_66 4), .int (G_66 5), .int (G_66 6)])), (L0b, .inr (1, [.int (G_136 0), .int (G_136 1), .int (G_136 2), .int (fb0 3), .int (G_136 4), .int (G_136 5), .int (G_136 6)])), (L0d, .inr (1, [.int (fwx_273 0), .int (fwx_273 1), .int (fwx_273 2), .int (fd0 3), .int (fwx_273 4), .int (fwx_273 5), .int (fwx_273 6)]))] H := ⟨hP2, hD2⟩
              have hS := hS2; clear hP2 hD2 hS2; have hP := hPD.1; have hD := hPD.2; clear hPD
              refine W.widen (k := 0) (n := 0) (Nat.le_of_ble_eq_true rfl) (Nat.le_of_ble_eq_true rfl) ?_
              exact join_234 G_66 G_136 fwx_273 _ _ _ hP hD hS (lv_sub hl [1, 2, 3, 4] rfl)
    exact loop_203 _ fa0 fv0 0 zlo fu0 fb0 fd0 (h4) (show 0 ≤ cc by omega) (Nat.lt_succ_self _) _ _ _ hP hD hS hl
  refine lv_icmp_eq (tgt := 45) hx hb dX3_arriveOver_25 (by decide) (fun cb_274 => ?_) (fun cb_274 => ?_)
  · skip
    have hPq_275 := hP; have hDq_275 := hD; have hSq_275 := hS; have hlq_275 := hl; clear hP hD hS hl
    subst cb_274
    have hP := hPq_275; have hD := hDq_275; have hS := hSq_275; have hl := hlq_275; clear hPq_275 hDq_275 hSq_275 hlq_275
    exact join_20 fbuf _ _ _ hP hD hS (lv_sub hl [1, 2, 3] rfl)
  · skip
    have hPq_278 := hP; have hDq_278 := hD; have hSq_278 := hS; have hlq_278 := hl; clear hP hD hS hl
    obtain ⟨j_276, hj_277, rfl⟩ := okc_j (hc_2) cb_274
    have hP := hPq_278; have hD := hDq_278; have hS := hSq_278; have hl := hlq_278; clear hPq_278 hDq_278 hSq_278 hlq_278
    refine lv_aload_n hx hb dX3_arriveOver_28 rfl (lv_at hl 3 rfl) ?_
    refine va_get (D := D) (ci := 3) (v := .ref Nb) (C := RX3) (T := TX3) (N := 11) hx hb hts iX3 hown hK hP 0 rfl rfl 10 (by decide) f23 (fun _ h9 => h9) rfl dX3_arriveOver_29 ?_
    refine lv_iload_n hx hb dX3_arriveOver_32 rfl (lv_at hl 4 rfl) ?_
    refine lv_iconst (v := 1) hx hb dX3_arriveOver_33 (by decide) ?_
    refine lv_iadd hx hb dX3_arriveOver_34 ?_
    refine lv_eqi (y := 2) (by decide) ?_
    refine lv_iconst (v := 3) hx hb dX3_arriveOver_35 (by decide) ?_
    refine lv_imul hx hb dX3_arriveOver_36 ?_
    refine lv_eqi (y := 6) (by decide) ?_
    refine lv_iload hx hb dX3_arriveOver_37 (lv_at hl 0 rfl) ?_
    refine lv_iadd hx hb dX3_arriveOver_39 ?_
    refine lv_eqi (y := (nI (6 + j_276))) (nI_add (6) (j_276)) ?_
    refine lv_dup2_11 hx hb dX3_arriveOver_40 rfl rfl ?_
    refine va_iald hx hb hK hP 2 0 rfl rfl (vp_in_nI (show 6 + j_276 < 12 by omega) (by decide)) dX3_arriveOver_41 ?_
    refine lv_eqi (y := (fbuf (6 + j_276))) (congrArg fbuf (nI_clamp (show 6 + j_276 < 2 ^ 31 by omega))) ?_
    refine lv_topi (fun y_279 _ => ?_)
    refine lv_iconst (v := 1) hx hb dX3_arriveOver_42 (by decide) ?_
    refine lv_iadd hx hb dX3_arriveOver_43 ?_
    refine lv_topi (fun y_280 _ => ?_)
    refine va_iast hx hb hK hP hD hS 2 0 rfl rfl (vp_in_nI (show 6 + j_276 < 12 by omega) (by decide)) dX3_arriveOver_44 (fun H locs hP2 hD2 hS2 => ?_)
    clear hP hD hS
    have hPD : PD D A [(Nn, .inr (3, [.int (nI hp), .int (nI cc), .int zrs, .int zad, .int zpr, .int (nI t), .int zlo, .int zps, .ref Nl, .ref Nf, .ref Nb])), (Nl, .inl (g 1, 3, .inr (.inr (.inr (.inr (rf3 M0 L0 M2)))))), (Nb, .inl (g 0, 12, .inl (upd fbuf (nI (6 + j_276)).toNatClampNeg y_280))), (L0, .inr (2, [.int (nI d0), .int (fk0 1), .int (fk0 2), .int (fv0 3), .int (fv0 4), .int (fv0 5), .ref L0c, .ref L0u, .ref L0p, .ref L0l])), (L0c, .inl (g 0, 5, .inl fc0)), (L0u, .inl (g 0, 15, .inl fu0)), (L0p, .inl (g 0, 15, .inl fp0)), (L0l, .inl (g 2, 3, .inr (.inr (.inr (.inr (rf3 L0a L0b L0d)))))), (L0a, .inr (1, [.int (fa0 0), .int (fa0 1), .int (fa0 2), .int (fa0 3), .int (fa0 4), .int (fa0 5), .int (fa0 6)])), (L0b, .inr (1, [.int (fb0 0), .int (fb0 1), .int (fb0 2), .int (fb0 3), .int (fb0 4), .int (fb0 5), .int (fb0 6)])), (L0d, .inr (1, [.int (fd0 0), .int (fd0 1), .int (fd0 2), .int (fd0 3), .int (fd0 4), .int (fd0 5), .int (fd0 6)]))] H := ⟨hP2, hD2⟩
    have hS := hS2; clear hP2 hD2 hS2; have hP := hPD.1; have hD := hPD.2; clear hPD
    rw [nI_clamp (show 6 + j_276 < 2 ^ 31 by omega)] at hP hD
    have hPD : PD D A [(Nn, .inr (3, [.int (nI hp), .int (nI cc), .int zrs, .int zad, .int zpr, .int (nI t), .int zlo, .int zps, .ref Nl, .ref Nf, .ref Nb])), (Nl, .inl (g 1, 3, .inr (.inr (.inr (.inr (rf3 M0 L0 M2)))))), (Nb, .inl (g 0, 12, .inl (upd fbuf (6 + j_276) y_280))), (L0, .inr (2, [.int (nI d0), .int (fk0 1), .int (fk0 2), .int (fv0 3), .int (fv0 4), .int (fv0 5), .ref L0c, .ref L0u, .ref L0p, .ref L0l])), (L0c, .inl (g 0, 5, .inl fc0)), (L0u, .inl (g 0, 15, .inl fu0)), (L0p, .inl (g 0, 15, .inl fp0)), (L0l, .inl (g 2, 3, .inr (.inr (.inr (.inr (rf3 L0a L0b L0d)))))), (L0a, .inr (1, [.int (fa0 0), .int (fa0 1), .int (fa0 2), .int (fa0 3), .int (fa0 4), .int (fa0 5), .int (fa0 6)])), (L0b, .inr (1, [.int (fb0 0), .int (fb0 1), .int (fb0 2), .int (fb0 3), .int (fb0 4), .int (fb0 5), .int (fb0 6)])), (L0d, .inr (1, [.int (fd0 0), .int (fd0 1), .int (fd0 2), .int (fd0 3), .int (fd0 4), .int (fd0 5), .int (fd0 6)]))] H := ⟨hP, hD⟩
    clear hP hD; have hP := hPD.1; have hD := hPD.2; clear hPD
    generalize upd fbuf (6 + j_276) y_280 = F_281 at hP hD
    exact join_20 F_281 _ _ _ hP hD hS (lv_sub hl [1, 2, 3] rfl)

set_option maxHeartbeats 4000000 in
set_option maxRecDepth 100000 in
theorem k_X3_arriveOver_2 (l : Launch) (D : va_G) (g : Nat → ClassId) (sz : Nat) (Nn : Nat) (hp : Nat) (cc : Nat) (zrs : Int32) (zad : Int32) (zpr : Int32) (t : Nat) (zlo : Int32) (zps : Int32) (Nl : Nat) (Nf : Nat) (Nb : Nat) (M0 : Nat) (M1 : Nat) (L0 : Nat) (fbuf : Nat → Int32) (d0 : Nat) (fk0 : Nat → Int32) (fv0 : Nat → Int32) (L0c : Nat) (L0u : Nat) (L0p : Nat) (L0l : Nat) (fc0 : Nat → Int32) (fu0 : Nat → Int32) (fp0 : Nat → Int32) (L0a : Nat) (L0b : Nat) (L0d : Nat) (fa0 : Nat → Int32) (fb0 : Nat → Int32) (fd0 : Nat → Int32) (h0 : 1 ≤ cc) (h1 : cc ≤ 3) (h2 : t < 2 ^ 30) (h3 : d0 < 5) (h4 : okc (fv0 4)) (h5 : okF fc0) : Met l yX3_arriveOver wsX3_arriveOver ({ frames := 2, cells := 0, slots := 0, locals := 42 }) (va_Pc [.ref Nn, .int 2] (pre D g sz [(Nn, .inr (3, [.int (nI hp), .int (nI cc), .int zrs, .int zad, .int zpr, .int (nI t), .int zlo, .int zps, .ref Nl, .ref Nf, .ref Nb])), (Nl, .inl (g 1, 3, .inr (.inr (.inr (.inr (rf3 M0 M1 L0)))))), (Nb, .inl (g 0, 12, .inl fbuf)), (L0, .inr (2, [.int (nI d0), .int (fk0 1), .int (fk0 2), .int (fv0 3), .int (fv0 4), .int (fv0 5), .ref L0c, .ref L0u, .ref L0p, .ref L0l])), (L0c, .inl (g 0, 5, .inl fc0)), (L0u, .inl (g 0, 15, .inl fu0)), (L0p, .inl (g 0, 15, .inl fp0)), (L0l, .inl (g 2, 3, .inr (.inr (.inr (.inr (rf3 L0a L0b L0d)))))), (L0a, .inr (1, [.int (fa0 0), .int (fa0 1), .int (fa0 2), .int (fa0 3), .int (fa0 4), .int (fa0 5), .int (fa0 6)])), (L0b, .inr (1, [.int (fb0 0), .int (fb0 1), .int (fb0 2), .int (fb0 3), .int (fb0 4), .int (fb0 5), .int (fb0 6)])), (L0d, .inr (1, [.int (fd0 0), .int (fd0 1), .int (fd0 2), .int (fd0 3), .int (fd0 4), .int (fd0 5), .int (fd0 6)]))])) (va_Qv (fun (u : va_W) => ∃ (PF : Nat → Nat → Int32) (zlox : Int32), u = [(Nn, .inr (3, [.int (nI hp), .int (nI cc), .int zrs, .int zad, .int zpr, .int (nI t), .int zlox, .int zps, .ref Nl, .ref Nf, .ref Nb])), (Nl, .inl (g 1, 3, .inr (.inr (.inr (.inr (rf3 M0 M1 L0)))))), (Nb, .inl (g 0, 12, .inl (PF 0))), (L0, .inr (2, [.int (nI d0), .int (fk0 1), .int (fk0 2), .int ((PF 1) 3), .int ((PF 1) 4), .int ((PF 1) 5), .ref L0c, .ref L0u, .ref L0p, .ref L0l])), (L0c, .inl (g 0, 5, .inl (PF 2))), (L0u, .inl (g 0, 15, .inl (PF 3))), (L0p, .inl (g 0, 15, .inl (PF 4))), (L0l, .inl (g 2, 3, .inr (.inr (.inr (.inr (rf3 L0a L0b L0d)))))), (L0a, .inr (1, [.int ((PF 5) 0), .int ((PF 5) 1), .int ((PF 5) 2), .int (fa0 3), .int ((PF 5) 4), .int ((PF 5) 5), .int ((PF 5) 6)])), (L0b, .inr (1, [.int ((PF 6) 0), .int ((PF 6) 1), .int ((PF 6) 2), .int (fb0 3), .int ((PF 6) 4), .int ((PF 6) 5), .int ((PF 6) 6)])), (L0d, .inr (1, [.int ((PF 7) 0), .int ((PF 7) 1), .int ((PF 7) 2), .int (fd0 3), .int ((PF 7) 4), .int ((PF 7) 5), .int ((PF 7) 6)]))] ∧ (okc ((PF 1) 4)) ∧ (okF (PF 2))) (wd D (va_A [(Nn, .inr (3, [.int (nI hp), .int (nI cc), .int zrs, .int zad, .int zpr, .int (nI t), .int zlo, .int zps, .ref Nl, .ref Nf, .ref Nb])), (Nl, .inl (g 1, 3, .inr (.inr (.inr (.inr (rf3 M0 M1 L0)))))), (Nb, .inl (g 0, 12, .inl fbuf)), (L0, .inr (2, [.int (nI d0), .int (fk0 1), .int (fk0 2), .int (fv0 3), .int (fv0 4), .int (fv0 5), .ref L0c, .ref L0u, .ref L0p, .ref L0l])), (L0c, .inl (g 0, 5, .inl fc0)), (L0u, .inl (g 0, 15, .inl fu0)), (L0p, .inl (g 0, 15, .inl fp0)), (L0l, .inl (g 2, 3, .inr (.inr (.inr (.inr (rf3 L0a L0b L0d)))))), (L0a, .inr (1, [.int (fa0 0), .int (fa0 1), .int (fa0 2), .int (fa0 3), .int (fa0 4), .int (fa0 5), .int (fa0 6)])), (L0b, .inr (1, [.int (fb0 0), .int (fb0 1), .int (fb0 2), .int (fb0 3), .int (fb0 4), .int (fb0 5), .int (fb0 6)])), (L0d, .inr (1, [.int (fd0 0), .int (fd0 1), .int (fd0 2), .int (fd0 3), .int (fd0 4), .int (fd0 5), .int (fd0 6)]))] sz)) (va_A [(Nn, .inr (3, [.int (nI hp), .int (nI cc), .int zrs, .int zad, .int zpr, .int (nI t), .int zlo, .int zps, .ref Nl, .ref Nf, .ref Nb])), (Nl, .inl (g 1, 3, .inr (.inr (.inr (.inr (rf3 M0 M1 L0)))))), (Nb, .inl (g 0, 12, .inl fbuf)), (L0, .inr (2, [.int (nI d0), .int (fk0 1), .int (fk0 2), .int (fv0 3), .int (fv0 4), .int (fv0 5), .ref L0c, .ref L0u, .ref L0p, .ref L0l])), (L0c, .inl (g 0, 5, .inl fc0)), (L0u, .inl (g 0, 15, .inl fu0)), (L0p, .inl (g 0, 15, .inl fp0)), (L0l, .inl (g 2, 3, .inr (.inr (.inr (.inr (rf3 L0a L0b L0d)))))), (L0a, .inr (1, [.int (fa0 0), .int (fa0 1), .int (fa0 2), .int (fa0 3), .int (fa0 4), .int (fa0 5), .int (fa0 6)])), (L0b, .inr (1, [.int (fb0 0), .int (fb0 1), .int (fb0 2), .int (fb0 3), .int (fb0 4), .int (fb0 5), .int (fb0 6)])), (L0d, .inr (1, [.int (fd0 0), .int (fd0 1), .int (fd0 2), .int (fd0 3), .int (fd0 4), .int (fd0 5), .int (fd0 6)]))] sz)) 0 0 (va_A [(Nn, .inr (3, [.int (nI hp), .int (nI cc), .int zrs, .int zad, .int zpr, .int (nI t), .int zlo, .int zps, .ref Nl, .ref Nf, .ref Nb])), (Nl, .inl (g 1, 3, .inr (.inr (.inr (.inr (rf3 M0 M1 L0)))))), (Nb, .inl (g 0, 12, .inl fbuf)), (L0, .inr (2, [.int (nI d0), .int (fk0 1), .int (fk0 2), .int (fv0 3), .int (fv0 4), .int (fv0 5), .ref L0c, .ref L0u, .ref L0p, .ref L0l])), (L0c, .inl (g 0, 5, .inl fc0)), (L0u, .inl (g 0, 15, .inl fu0)), (L0p, .inl (g 0, 15, .inl fp0)), (L0l, .inl (g 2, 3, .inr (.inr (.inr (.inr (rf3 L0a L0b L0d)))))), (L0a, .inr (1, [.int (fa0 0), .int (fa0 1), .int (fa0 2), .int (fa0 3), .int (fa0 4), .int (fa0 5), .int (fa0 6)])), (L0b, .inr (1, [.int (fb0 0), .int (fb0 1), .int (fb0 2), .int (fb0 3), .int (fb0 4), .int (fb0 5), .int (fb0 6)])), (L0d, .inr (1, [.int (fd0 0), .int (fd0 1), .int (fd0 2), .int (fd0 3), .int (fd0 4), .int (fd0 5), .int (fd0 6)]))] sz) := by
  refine Met.ofW (cc := cX3_arriveOver) (maxL := 9) (ret := none) (by decide) rfl ?_
  intro p e s m args below meth c s₁ B hml hv
  obtain ⟨rfl, hsz, hP, ⟨hK, hN⟩, hD0, hZ⟩ := hv
  have hx := B.exec
  have hb := B.bytes
  have hr := B.returns
  have hts := atoms_spec (ws := wsX3_arriveOver) B.pre
  have hown : s.vm.findClass RX3 = some m.cls := findClass_of_methodNamed B.named
  have hlocks := B.notSynchronized
  clear B
  subst hsz
  have hD := hD0.self (sz := s.heap.size)
  clear hD0
  generalize hAe : va_A [(Nn, .inr (3, [.int (nI hp), .int (nI cc), .int zrs, .int zad, .int zpr, .int (nI t), .int zlo, .int zps, .ref Nl, .ref Nf, .ref Nb])), (Nl, .inl (g 1, 3, .inr (.inr (.inr (.inr (rf3 M0 M1 L0)))))), (Nb, .inl (g 0, 12, .inl fbuf)), (L0, .inr (2, [.int (nI d0), .int (fk0 1), .int (fk0 2), .int (fv0 3), .int (fv0 4), .int (fv0 5), .ref L0c, .ref L0u, .ref L0p, .ref L0l])), (L0c, .inl (g 0, 5, .inl fc0)), (L0u, .inl (g 0, 15, .inl fu0)), (L0p, .inl (g 0, 15, .inl fp0)), (L0l, .inl (g 2, 3, .inr (.inr (.inr (.inr (rf3 L0a L0b L0d)))))), (L0a, .inr (1, [.int (fa0 0), .int (fa0 1), .int (fa0 2), .int (fa0 3), .int (fa0 4), .int (fa0 5), .int (fa0 6)])), (L0b, .inr (1, [.int (fb0 0), .int (fb0 1), .int (fb0 2), .int (fb0 3), .int (fb0 4), .int (fb0 5), .int (fb0 6)])), (L0d, .inr (1, [.int (fd0 0), .int (fd0 1), .int (fd0 2), .int (fd0 3), .int (fd0 4), .int (fd0 5), .int (fd0 6)]))] s.heap.size = A at hD hZ ⊢
  have hA : ∀ q : Nat, s.heap.size ≤ q → A q := fun q h => by rw [← hAe]; exact Or.inr h
  have hS : va_S A s.heap s.heap [] := va_S.rf
  have f11 := hts (.fieldLink RX3 11 "HopCredits$Net" "links" "[LHopCredits$Link;") (List.mem_of_getElem? (i := 1) rfl)
  have f122 := hts (.fieldLink RX3 122 "HopCredits$Link" "cellAt" "[I") (List.mem_of_getElem? (i := 3) rfl)
  have f125 := hts (.fieldLink RX3 125 "HopCredits$Link" "updateAt" "[I") (List.mem_of_getElem? (i := 6) rfl)
  have f128 := hts (.fieldLink RX3 128 "HopCredits$Link" "lanes" "[LHopCredits$Lane;") (List.mem_of_getElem? (i := 7) rfl)
  have f137 := hts (.fieldLink RX3 137 "HopCredits$Link" "probesAt" "[I") (List.mem_of_getElem? (i := 8) rfl)
  have f23 := hts (.fieldLink RX3 23 "HopCredits$Net" "buffers" "[I") (List.mem_of_getElem? (i := 4) rfl)
  have f62 := hts (.fieldLink RX3 62 "HopCredits$Net" "circuits" "I") (List.mem_of_getElem? (i := 5) rfl)
  have f78 := hts (.fieldLink RX3 78 "HopCredits$Net" "tick" "I") (List.mem_of_getElem? (i := 2) rfl)
  have iX2 : ∀ w ∈ u_ws RX2 TX2 10, w ∈ wsX3_arriveOver := fun w h => List.mem_cons_of_mem _ (List.mem_append_left _ (List.mem_append_right _ (h)))
  have iX3 : ∀ w ∈ u_ws RX3 TX3 11, w ∈ wsX3_arriveOver := fun w h => List.mem_cons_of_mem _ (List.mem_append_left _ (List.mem_append_left _ (List.mem_append_right _ (h))))
  have hl := lv_entry ([.ref Nn, .int 2]) (n := 9) (Nat.le_of_ble_eq_true rfl)
  rw [lg_entry_eq]
  generalize (lg_sl ([.ref Nn, .int 2]) ++ List.replicate (9 - (lg_sl ([.ref Nn, .int 2])).length) Slot.unset).toArray = ls at hl ⊢
  have hl : lv_has ls 9 [(0, .ref Nn), (1, .int 2)] := hl
  generalize hQ : MQ below _ _ s _ _ _ = Q
  generalize hH : s.heap = H at hP ⊢
  have hS : va_S A s.heap H [] := by rw [← hH]; exact hS
  clear hH
  refine lv_aload_n hx hb dX3_arriveOver_0 rfl (lv_at hl 0 rfl) ?_
  refine va_get (D := D) (ci := 3) (v := .ref Nl) (C := RX3) (T := TX3) (N := 11) hx hb hts iX3 hown hK hP 0 rfl rfl 8 (by decide) f11 (fun _ h9 => h9) rfl dX3_arriveOver_1 ?_
  refine lv_iload_n hx hb dX3_arriveOver_4 rfl (lv_at hl 1 rfl) ?_
  refine va_aldq (C := "HopCredits$Link") hx hb hK hP 1 1 rfl rfl (by unfold vp_in; decide) dX3_arriveOver_5 ?_
  refine lv_eqv (v2 := .ref L0) rfl ?_
  refine lv_astore_n (lv' := [(2, .ref L0), (0, .ref Nn), (1, .int 2)]) hx hb dX3_arriveOver_6 rfl hl (by decide) rfl (fun ls hl => ?_)
  refine lv_aload_n hx hb dX3_arriveOver_7 rfl (lv_at hl 1 rfl) ?_
  refine va_get (D := D) (ci := 3) (v := .int (nI t)) (C := RX3) (T := TX3) (N := 11) hx hb hts iX3 hown hK hP 0 rfl rfl 5 (by decide) f78 (fun _ h9 => h9) rfl dX3_arriveOver_8 ?_
  refine lv_iconst (v := 5) hx hb dX3_arriveOver_11 (by decide) ?_
  refine lv_irem hx hb dX3_arriveOver_12 (by decide) ?_
  refine lv_eqi (y := (nI ((t) % 5))) (pk_rem (show t < 2 ^ 31 by omega) (show 0 < 5 by omega) (show 5 < 2 ^ 31 by omega)) ?_
  refine lv_istore_n (lv' := [(3, .int (nI ((t) % 5))), (2, .ref L0), (0, .ref Nn), (1, .int 2)]) hx hb dX3_arriveOver_13 rfl hl (by decide) rfl (fun ls hl => ?_)
  refine lv_aload_n hx hb dX3_arriveOver_14 rfl (lv_at hl 1 rfl) ?_
  refine va_get (D := D) (ci := 2) (v := .ref L0c) (C := RX2) (T := TX2) (N := 10) hx hb hts iX2 hown hK hP 3 rfl rfl 6 (by decide) f122 (fun _ h9 => h9) rfl dX3_arriveOver_15 ?_
  refine lv_iload_n hx hb dX3_arriveOver_18 rfl (lv_at hl 0 rfl) ?_
  refine va_iald hx hb hK hP 4 0 rfl rfl (vp_in_nI (show (t) % 5 < 5 by omega) (by decide)) dX3_arriveOver_19 ?_
  refine lv_eqi (y := (fc0 ((t) % 5))) (congrArg fc0 (nI_clamp (show (t) % 5 < 2 ^ 31 by omega))) ?_
  refine lv_topc (h5 ((t) % 5)) (fun y_1 hc_2 => ?_)
  refine lv_istore (lv' := [(4, .int y_1), (3, .int (nI ((t) % 5))), (2, .ref L0), (0, .ref Nn), (1, .int 2)]) hx hb dX3_arriveOver_20 hl (by decide) rfl (fun ls hl => ?_)
  refine lv_iload hx hb dX3_arriveOver_22 (lv_at hl 0 rfl) ?_
  refine lv_iconst (v := (-1)) hx hb dX3_arriveOver_24 (by decide) ?_
  have join_20 : ∀ (F_11 : Nat → Int32) (H : Heap) (locs : List Loc) (ls : Array Slot), va_P D vwCl [(Nn, .inr (3, [.int (nI hp), .int (nI cc), .int zrs, .int zad, .int zpr, .int (nI t), .int zlo, .int zps, .ref Nl, .ref Nf, .ref Nb])), (Nl, .inl (g 1, 3, .inr (.inr (.inr (.inr (rf3 M0 M1 L0)))))), (Nb, .inl (g 0, 12, .inl F_11)), (L0, .inr (2, [.int (nI d0), .int (fk0 1), .int (fk0 2), .int (fv0 3), .int (fv0 4), .int (fv0 5), .ref L0c, .ref L0u, .ref L0p, .ref L0l])), (L0c, .inl (g 0, 5, .inl fc0)), (L0u, .inl (g 0, 15, .inl fu0)), (L0p, .inl (g 0, 15, .inl fp0)), (L0l, .inl (g 2, 3, .inr (.inr (.inr (.inr (rf3 L0a L0b L0d)))))), (L0a, .inr (1, [.int (fa0 0), .int (fa0 1), .int (fa0 2), .int (fa0 3), .int (fa0 4), .int (fa0 5), .int (fa0 6)])), (L0b, .inr (1, [.int (fb0 0), .int (fb0 1), .int (fb0 2), .int (fb0 3), .int (fb0 4), .int (fb0 5), .int (fb0 6)])), (L0d, .inr (1, [.int (fd0 0), .int (fd0 1), .int (fd0 2), .int (fd0 3), .int (fd0 4), .int (fd0 5), .int (fd0 6)]))] H → va_D A [(Nn, .inr (3, [.int (nI hp), .int (nI cc), .int zrs, .int zad, .int zpr, .int (nI t), .int zlo, .int zps, .ref Nl, .ref Nf, .ref Nb])), (Nl, .inl (g 1, 3, .inr (.inr (.inr (.inr (rf3 M0 M1 L0)))))), (Nb, .inl (g 0, 12, .inl F_11)), (L0, .inr (2, [.int (nI d0), .int (fk0 1), .int (fk0 2), .int (fv0 3), .int (fv0 4), .int (fv0 5), .ref L0c, .ref L0u, .ref L0p, .ref L0l])), (L0c, .inl (g 0, 5, .inl fc0)), (L0u, .inl (g 0, 15, .inl fu0)), (L0p, .inl (g 0, 15, .inl fp0)), (L0l, .inl (g 2, 3, .inr (.inr (.inr (.inr (rf3 L0a L0b L0d)))))), (L0a, .inr (1, [.int (fa0 0), .int (fa0 1), .int (fa0 2), .int (fa0 3), .int (fa0 4), .int (fa0 5), .int (fa0 6)])), (L0b, .inr (1, [.int (fb0 0), .int (fb0 1), .int (fb0 2), .int (fb0 3), .int (fb0 4), .int (fb0 5), .int (fb0 6)])), (L0d, .inr (1, [.int (fd0 0), .int (fd0 1), .int (fd0 2), .int (fd0 3), .int (fd0 4), .int (fd0 5), .int (fd0 6)]))] → va_S A s.heap H locs → lv_has ls 9 [(3, .int (nI ((t) % 5))), (2, .ref L0), (0, .ref Nn)] → W p l e (headSpec wsX3_arriveOver ({ frames := 2, cells := 0, slots := 0, locals := 42 })).room s m ([.ref Nn, .int 2] : List Value).toArray below meth c H locs 0 0 Q (F0 m 45 ls []) := by
    clear hP hD hS hl
    intro F_11  H locs ls hP hD hS hl
    refine lv_iconst (v := 0) hx hb dX3_arriveOver_45 (by decide) ?_
    refine lv_istore (lv' := [(5, .int 0), (3, .int (nI ((t) % 5))), (2, .ref L0), (0, .ref Nn)]) hx hb dX3_arriveOver_46 hl (by decide) rfl (fun ls hl => ?_)
    have loop_203 : ∀ (Nloop_203 : Nat) (G_66 : Nat → Int32) (G_67 : Nat → Int32) (i_68 : Nat) (z_69 : Int32) (F_70 : Nat → Int32) (G_136 : Nat → Int32) (G_137 : Nat → Int32) (hG_67p4 : okc (G_67 4)) (hbi_68 : i_68 ≤ cc) (hmloop_203 : cc - i_68 < Nloop_203) (H : Heap) (locs : List Loc) (ls : Array Slot), va_P D vwCl [(Nn, .inr (3, [.int (nI hp), .int (nI cc), .int zrs, .int zad, .int zpr, .int (nI t), .int z_69, .int zps, .ref Nl, .ref Nf, .ref Nb])), (Nl, .inl (g 1, 3, .inr (.inr (.inr (.inr (rf3 M0 M1 L0)))))), (Nb, .inl (g 0, 12, .inl F_11)), (L0, .inr (2, [.int (nI d0), .int (fk0 1), .int (fk0 2), .int (G_67 3), .int (G_67 4), .int (G_67 5), .ref L0c, .ref L0u, .ref L0p, .ref L0l])), (L0c, .inl (g 0, 5, .inl fc0)), (L0u, .inl (g 0, 15, .inl F_70)), (L0p, .inl (g 0, 15, .inl fp0)), (L0l, .inl (g 2, 3, .inr (.inr (.inr (.inr (rf3 L0a L0b L0d)))))), (L0a, .inr (1, [.int (G_66 0), .int (G_66 1), .int (G_66 2), .int (fa0 3), .int (G_66 4), .int (G_66 5), .int (G_66 6)])), (L0b, .inr (1, [.int (G_136 0), .int (G_136 1), .int (G_136 2), .int (fb0 3), .int (G_136 4), .int (G_136 5), .int (G_136 6)])), (L0d, .inr (1, [.int (G_137 0), .int (G_137 1), .int (G_137 2), .int (fd0 3), .int (G_137 4), .int (G_137 5), .int (G_137 6)]))] H → va_D A [(Nn, .inr (3, [.int (nI hp), .int (nI cc), .int zrs, .int zad, .int zpr, .int (nI t), .int z_69, .int zps, .ref Nl, .ref Nf, .ref Nb])), (Nl, .inl (g 1, 3, .inr (.inr (.inr (.inr (rf3 M0 M1 L0)))))), (Nb, .inl (g 0, 12, .inl F_11)), (L0, .inr (2, [.int (nI d0), .int (fk0 1), .int (fk0 2), .int (G_67 3), .int (G_67 4), .int (G_67 5), .ref L0c, .ref L0u, .ref L0p, .ref L0l])), (L0c, .inl (g 0, 5, .inl fc0)), (L0u, .inl (g 0, 15, .inl F_70)), (L0p, .inl (g 0, 15, .inl fp0)), (L0l, .inl (g 2, 3, .inr (.inr (.inr (.inr (rf3 L0a L0b L0d)))))), (L0a, .inr (1, [.int (G_66 0), .int (G_66 1), .int (G_66 2), .int (fa0 3), .int (G_66 4), .int (G_66 5), .int (G_66 6)])), (L0b, .inr (1, [.int (G_136 0), .int (G_136 1), .int (G_136 2), .int (fb0 3), .int (G_136 4), .int (G_136 5), .int (G_136 6)])), (L0d, .inr (1, [.int (G_137 0), .int (G_137 1), .int (G_137 2), .int (fd0 3), .int (G_137 4), .int (G_137 5), .int (G_137 6)]))] → va_S A s.heap H locs → lv_has ls 9 [(5, .int (nI i_68)), (3, .int (nI ((t) % 5))), (2, .ref L0), (0, .ref Nn)] → W p l e (headSpec wsX3_arriveOver ({ frames := 2, cells := 0, slots := 0, locals := 42 })).room s m ([.ref Nn, .int 2] : List Value).toArray below meth c H locs 0 0 Q (F0 m 48 ls []) := by
      clear hP hD hS hl
      intro Nloop_203
      induction Nloop_203 with
      | zero => intro G_66 G_67 i_68 z_69 F_70 G_136 G_137 hG_67p4 hbi_68 hm9; exact absurd hm9 (Nat.not_lt_zero _)
      | succ Nloop_203 loop_203_ih =>
        intro G_66 G_67 i_68 z_69 F_70 G_136 G_137 hG_67p4 hbi_68 hmloop_203 H locs ls hP hD hS hl
        refine lv_iload hx hb dX3_arriveOver_48 (lv_at hl 0 rfl) ?_
        refine lv_aload_n hx hb dX3_arriveOver_50 rfl (lv_at hl 3 rfl) ?_
        refine va_get (D := D) (ci := 3) (v := .int (nI cc)) (C := RX3) (T := TX3) (N := 11) hx hb hts iX3 hown hK hP 0 rfl rfl 1 (by decide) f62 (fun _ h9 => h9) rfl dX3_arriveOver_51 ?_
        refine lv_icmp_ge (tgt := 130) hx hb dX3_arriveOver_54 (by decide) (fun cb_204 => ?_) (fun cb_204 => ?_)
        · skip
          have cn_205 : cc ≤ i_68 := (nI_leI (show cc < 2 ^ 31 by omega) (show i_68 < 2 ^ 31 by omega)).mp cb_204
          refine lv_aload_n hx hb dX3_arriveOver_130 rfl (lv_at hl 2 rfl) ?_
          refine lv_iload_n hx hb dX3_arriveOver_131 rfl (lv_at hl 1 rfl) ?_
          refine ky_Vv (As := [.int (nI ((t) % 5))]) (rest := []) ⟨hx, hb, hml, hown, hts⟩ ⟨hK, hN⟩ hZ hP hD hS hA [3, 4, 5, 6] [0, 1, 2, 7, 8, 9, 10] (wc := [(L0, .inr (2, [.int (nI d0), .int (fk0 1), .int (fk0 2), .int (G_67 3), .int (G_67 4), .int (G_67 5), .ref L0c, .ref L0u, .ref L0p, .ref L0l])), (L0c, .inl (g 0, 5, .inl fc0)), (L0u, .inl (g 0, 15, .inl F_70)), (L0p, .inl (g 0, 15, .inl fp0))]) (wr := [(Nn, .inr (3, [.int (nI hp), .int (nI cc), .int zrs, .int zad, .int zpr, .int (nI t), .int z_69, .int zps, .ref Nl, .ref Nf, .ref Nb])), (Nl, .inl (g 1, 3, .inr (.inr (.inr (.inr (rf3 M0 M1 L0)))))), (Nb, .inl (g 0, 12, .inl F_11)), (L0l, .inl (g 2, 3, .inr (.inr (.inr (.inr (rf3 L0a L0b L0d)))))), (L0a, .inr (1, [.int (G_66 0), .int (G_66 1), .int (G_66 2), .int (fa0 3), .int (G_66 4), .int (G_66 5), .int (G_66 6)])), (L0b, .inr (1, [.int (G_136 0), .int (G_136 1), .int (G_136 2), .int (fb0 3), .int (G_136 4), .int (G_136 5), .int (G_136 6)])), (L0d, .inr (1, [.int (G_137 0), .int (G_137 1), .int (G_137 2), .int (fd0 3), .int (G_137 4), .int (G_137 5), .int (G_137 6)]))]) rfl rfl rfl rfl (by decide) (k_X2_clearSlot l D g H.size L0 ((t) % 5) (lf [nI d0, fk0 1, fk0 2, G_67 3, G_67 4, G_67 5]) L0c L0u L0p L0l fc0 F_70 fp0 (show ((t) % 5) < 5 by omega) (h5)) (cwV 1 hts gX3_arriveOver_X2_clearSlot rfl rfl rfl (by decide +kernel) ⟨(Nat.le_of_ble_eq_true rfl), (Nat.le_of_ble_eq_true rfl)⟩) 3 2 rfl rfl rfl rfl hl.1 rfl (Nat.le_of_ble_eq_true rfl) dX3_arriveOver_132 ⟨(Nat.le_of_ble_eq_true rfl), (Nat.le_of_ble_eq_true rfl)⟩ (fun u H locs hw hP2 hD2 hS2 => ?_)
          clear hP hD hS
          obtain ⟨fcx_207, fux_208, fpx_209, rfl, hf_210⟩ := hw
          have hPD : PD D A [(Nn, .inr (3, [.int (nI hp), .int (nI cc), .int zrs, .int zad, .int zpr, .int (nI t), .int z_69, .int zps, .ref Nl, .ref Nf, .ref Nb])), (Nl, .inl (g 1, 3, .inr (.inr (.inr (.inr (rf3 M0 M1 L0)))))), (Nb, .inl (g 0, 12, .inl F_11)), (L0l, .inl (g 2, 3, .inr (.inr (.inr (.inr (rf3 L0a L0b L0d)))))), (L0a, .inr (1, [.int (G_66 0), .int (G_66 1), .int (G_66 2), .int (fa0 3), .int (G_66 4), .int (G_66 5), .int (G_66 6)])), (L0b, .inr (1, [.int (G_136 0), .int (G_136 1), .int (G_136 2), .int (fb0 3), .int (G_136 4), .int (G_136 5), .int (G_136 6)])), (L0d, .inr (1, [.int (G_137 0), .int (G_137 1), .int (G_137 2), .int (fd0 3), .int (G_137 4), .int (G_137 5), .int (G_137 6)])), (L0, .inr (2, [.int (nI d0), .int (fk0 1), .int (fk0 2), .int (G_67 3), .int (G_67 4), .int (G_67 5), .ref L0c, .ref L0u, .ref L0p, .ref L0l])), (L0c, .inl (g 0, 5, .inl fcx_207)), (L0u, .inl (g 0, 15, .inl fux_208)), (L0p, .inl (g 0, 15, .inl fpx_209))] H := ⟨hP2, hD2⟩
          have hS := hS2; clear hP2 hD2 hS2; have hP := hPD.1; have hD := hPD.2; clear hPD
          refine W.widen (k := 0) (n := 0) (Nat.le_of_ble_eq_true rfl) (Nat.le_of_ble_eq_true rfl) ?_
          have hPD9 : PD D A [(Nn, .inr (3, [.int (nI hp), .int (nI cc), .int zrs, .int zad, .int zpr, .int (nI t), .int z_69, .int zps, .ref Nl, .ref Nf, .ref Nb])), (Nl, .inl (g 1, 3, .inr (.inr (.inr (.inr (rf3 M0 M1 L0)))))), (Nb, .inl (g 0, 12, .inl F_11)), (L0, .inr (2, [.int (nI d0), .int (fk0 1), .int (fk0 2), .int (G_67 3), .int (G_67 4), .int (G_67 5), .ref L0c, .ref L0u, .ref L0p, .ref L0l])), (L0c, .inl (g 0, 5, .inl fcx_207)), (L0u, .inl (g 0, 15, .inl fux_208)), (L0p, .inl (g 0, 15, .inl fpx_209)), (L0l, .inl (g 2, 3, .inr (.inr (.inr (.inr (rf3 L0a L0b L0d)))))), (L0a, .inr (1, [.int (G_66 0), .int (G_66 1), .int (G_66 2), .int (fa0 3), .int (G_66 4), .int (G_66 5), .int (G_66 6)])), (L0b, .inr (1, [.int (G_136 0), .int (G_136 1), .int (G_136 2), .int (fb0 3), .int (G_136 4), .int (G_136 5), .int (G_136 6)])), (L0d, .inr (1, [.int (G_137 0), .int (G_137 1), .int (G_137 2), .int (fd0 3), .int (G_137 4), .int (G_137 5), .int (G_137 6)]))] H := ⟨hP.sub [0, 1, 2, 7, 8, 9, 10, 3, 4, 5, 6] rfl, hD.sub [0, 1, 2, 7, 8, 9, 10, 3, 4, 5, 6] (by decide) rfl⟩
          have hP9 := hPD9.1; have hD9 := hPD9.2
          subst hQ
          refine W.widen (k := 0) (n := 0) (Nat.le_of_ble_eq_true rfl) (Nat.le_of_ble_eq_true rfl) ?_
          exact W.vret hx hb hr (fun tS htS _ => ⟨⟨_, rfl, ⟨(lf2 [F_11, G_67, fcx_207, fux_208, fpx_209, G_66, G_136, G_137]), z_69, rfl, (hG_67p4), (hf_210)⟩, by rw [htS]; exact hP9, hD9⟩, hS.F htS⟩) hS.2.2 dX3_arriveOver_135
        · skip
          have cn_211 : i_68 < cc := Nat.lt_of_not_le (fun q9 => cb_204 ((nI_leI (show cc < 2 ^ 31 by omega) (show i_68 < 2 ^ 31 by omega)).mpr q9))
          refine lv_aload_n hx hb dX3_arriveOver_57 rfl (lv_at hl 2 rfl) ?_
          refine va_get (D := D) (ci := 2) (v := .ref L0u) (C := RX2) (T := TX2) (N := 10) hx hb hts iX2 hown hK hP 3 rfl rfl 7 (by decide) f125 (fun _ h9 => h9) rfl dX3_arriveOver_58 ?_
          refine lv_iload_n hx hb dX3_arriveOver_61 rfl (lv_at hl 1 rfl) ?_
          refine lv_iconst (v := 3) hx hb dX3_arriveOver_62 (by decide) ?_
          refine lv_imul hx hb dX3_arriveOver_63 ?_
          refine lv_eqi (y := (nI (((t) % 5) * 3))) (pk_mul ((t) % 5) (3)) ?_
          refine lv_iload hx hb dX3_arriveOver_64 (lv_at hl 0 rfl) ?_
          refine lv_iadd hx hb dX3_arriveOver_66 ?_
          refine lv_eqi (y := (nI (((t) % 5) * 3 + i_68))) (nI_add (((t) % 5) * 3) (i_68)) ?_
          refine va_iald hx hb hK hP 5 0 rfl rfl (vp_in_nI (show ((t) % 5) * 3 + i_68 < 15 by omega) (by decide)) dX3_arriveOver_67 ?_
          refine lv_eqi (y := (F_70 (((t) % 5) * 3 + i_68))) (congrArg F_70 (nI_clamp (show ((t) % 5) * 3 + i_68 < 2 ^ 31 by omega))) ?_
          refine lv_topi (fun y_212 _ => ?_)
          refine lv_istore (lv' := [(6, .int y_212), (5, .int (nI i_68)), (3, .int (nI ((t) % 5))), (2, .ref L0), (0, .ref Nn)]) hx hb dX3_arriveOver_68 hl (by decide) rfl (fun ls hl => ?_)
          refine lv_iload hx hb dX3_arriveOver_70 (lv_at hl 0 rfl) ?_
          refine lv_iconst (v := (-1)) hx hb dX3_arriveOver_72 (by decide) ?_
          have join_234 : ∀ (G_222 : Nat → Int32) (G_223 : Nat → Int32) (G_224 : Nat → Int32) (H : Heap) (locs : List Loc) (ls : Array Slot), va_P D vwCl [(Nn, .inr (3, [.int (nI hp), .int (nI cc), .int zrs, .int zad, .int zpr, .int (nI t), .int z_69, .int zps, .ref Nl, .ref Nf, .ref Nb])), (Nl, .inl (g 1, 3, .inr (.inr (.inr (.inr (rf3 M0 M1 L0)))))), (Nb, .inl (g 0, 12, .inl F_11)), (L0, .inr (2, [.int (nI d0), .int (fk0 1), .int (fk0 2), .int (G_67 3), .int (G_67 4), .int (G_67 5), .ref L0c, .ref L0u, .ref L0p, .ref L0l])), (L0c, .inl (g 0, 5, .inl fc0)), (L0u, .inl (g 0, 15, .inl F_70)), (L0p, .inl (g 0, 15, .inl fp0)), (L0l, .inl (g 2, 3, .inr (.inr (.inr (.inr (rf3 L0a L0b L0d)))))), (L0a, .inr (1, [.int (G_222 0), .int (G_222 1), .int (G_222 2), .int (fa0 3), .int (G_222 4), .int (G_222 5), .int (G_222 6)])), (L0b, .inr (1, [.int (G_223 0), .int (G_223 1), .int (G_223 2), .int (fb0 3), .int (G_223 4), .int (G_223 5), .int (G_223 6)])), (L0d, .inr (1, [.int (G_224 0), .int (G_224 1), .int (G_224 2), .int (fd0 3), .int (G_224 4), .int (G_224 5), .int (G_224 6)]))] H → va_D A [(Nn, .inr (3, [.int (nI hp), .int (nI cc), .int zrs, .int zad, .int zpr, .int (nI t), .int z_69, .int zps, .ref Nl, .ref Nf, .ref Nb])), (Nl, .inl (g 1, 3, .inr (.inr (.inr (.inr (rf3 M0 M1 L0)))))), (Nb, .inl (g 0, 12, .inl F_11)), (L0, .inr (2, [.int (nI d0), .int (fk0 1), .int (fk0 2), .int (G_67 3), .int (G_67 4), .int (G_67 5), .ref L0c, .ref L0u, .ref L0p, .ref L0l])), (L0c, .inl (g 0, 5, .inl fc0)), (L0u, .inl (g 0, 15, .inl F_70)), (L0p, .inl (g 0, 15, .inl fp0)), (L0l, .inl (g 2, 3, .inr (.inr (.inr (.inr (rf3 L0a L0b L0d)))))), (L0a, .inr (1, [.int (G_222 0), .int (G_222 1), .int (G_222 2), .int (fa0 3), .int (G_222 4), .int (G_222 5), .int (G_222 6)])), (L0b, .inr (1, [.int (G_223 0), .int (G_223 1), .int (G_223 2), .int (fb0 3), .int (G_223 4), .int (G_223 5), .int (G_223 6)])), (L0d, .inr (1, [.int (G_224 0), .int (G_224 1), .int (G_224 2), .int (fd0 3), .int (G_224 4), .int (G_224 5), .int (G_224 6)]))] → va_S A s.heap H locs → lv_has ls 9 [(5, .int (nI i_68)), (3, .int (nI ((t) % 5))), (2, .ref L0), (0, .ref Nn)] → W p l e (headSpec wsX3_arriveOver ({ frames := 2, cells := 0, slots := 0, locals := 42 })).room s m ([.ref Nn, .int 2] : List Value).toArray below meth c H locs 0 0 Q (F0 m 88 ls []) := by
            clear hP hD hS hl
            intro G_222 G_223 G_224  H locs ls hP hD hS hl
            refine lv_aload_n hx hb dX3_arriveOver_88 rfl (lv_at hl 2 rfl) ?_
            refine va_get (D := D) (ci := 2) (v := .ref L0p) (C := RX2) (T := TX2) (N := 10) hx hb hts iX2 hown hK hP 3 rfl rfl 8 (by decide) f137 (fun _ h9 => h9) rfl dX3_arriveOver_89 ?_
            refine lv_iload_n hx hb dX3_arriveOver_92 rfl (lv_at hl 1 rfl) ?_
            refine lv_iconst (v := 3) hx hb dX3_arriveOver_93 (by decide) ?_
            refine lv_imul hx hb dX3_arriveOver_94 ?_
            refine lv_eqi (y := (nI (((t) % 5) * 3))) (pk_mul ((t) % 5) (3)) ?_
            refine lv_iload hx hb dX3_arriveOver_95 (lv_at hl 0 rfl) ?_
            refine lv_iadd hx hb dX3_arriveOver_97 ?_
            refine lv_eqi (y := (nI (((t) % 5) * 3 + i_68))) (nI_add (((t) % 5) * 3) (i_68)) ?_
            refine va_iald hx hb hK hP 6 0 rfl rfl (vp_in_nI (show ((t) % 5) * 3 + i_68 < 15 by omega) (by decide)) dX3_arriveOver_98 ?_
            refine lv_eqi (y := (fp0 (((t) % 5) * 3 + i_68))) (congrArg fp0 (nI_clamp (show ((t) % 5) * 3 + i_68 < 2 ^ 31 by omega))) ?_
            refine lv_topi (fun y_235 _ => ?_)
            refine lv_istore (lv' := [(7, .int y_235), (5, .int (nI i_68)), (3, .int (nI ((t) % 5))), (2, .ref L0), (0, .ref Nn)]) hx hb dX3_arriveOver_99 hl (by decide) rfl (fun ls hl => ?_)
            refine lv_iconst (v := 0) hx hb dX3_arriveOver_101 (by decide) ?_
            refine lv_istore (lv' := [(8, .int 0), (7, .int y_235), (5, .int (nI i_68)), (3, .int (nI ((t) % 5))), (2, .ref L0), (0, .ref Nn)]) hx hb dX3_arriveOver_102 hl (by decide) rfl (fun ls hl => ?_)
            have loop_258 : ∀ (Nloop_258 : Nat) (G_242 : Nat → Int32) (i_243 : Int32) (z_244 : Int32) (F_245 : Nat → Int32) (hG_242p4 : okc (G_242 4)) (hmloop_258 : (y_235.toInt - i_243.toInt).toNat < Nloop_258) (H : Heap) (locs : List Loc) (ls : Array Slot), va_P D vwCl [(Nn, .inr (3, [.int (nI hp), .int (nI cc), .int zrs, .int zad, .int zpr, .int (nI t), .int z_244, .int zps, .ref Nl, .ref Nf, .ref Nb])), (Nl, .inl (g 1, 3, .inr (.inr (.inr (.inr (rf3 M0 M1 L0)))))), (Nb, .inl (g 0, 12, .inl F_11)), (L0, .inr (2, [.int (nI d0), .int (fk0 1), .int (fk0 2), .int (G_242 3), .int (G_242 4), .int (G_242 5), .ref L0c, .ref L0u, .ref L0p, .ref L0l])), (L0c, .inl (g 0, 5, .inl fc0)), (L0u, .inl (g 0, 15, .inl F_245)), (L0p, .inl (g 0, 15, .inl fp0)), (L0l, .inl (g 2, 3, .inr (.inr (.inr (.inr (rf3 L0a L0b L0d)))))), (L0a, .inr (1, [.int (G_222 0), .int (G_222 1), .int (G_222 2), .int (fa0 3), .int (G_222 4), .int (G_222 5), .int (G_222 6)])), (L0b, .inr (1, [.int (G_223 0), .int (G_223 1), .int (G_223 2), .int (fb0 3), .int (G_223 4), .int (G_223 5), .int (G_223 6)])), (L0d, .inr (1, [.int (G_224 0), .int (G_224 1), .int (G_224 2), .int (fd0 3), .int (G_224 4), .int (G_224 5), .int (G_224 6)]))] H → va_D A [(Nn, .inr (3, [.int (nI hp), .int (nI cc), .int zrs, .int zad, .int zpr, .int (nI t), .int z_244, .int zps, .ref Nl, .ref Nf, .ref Nb])), (Nl, .inl (g 1, 3, .inr (.inr (.inr (.inr (rf3 M0 M1 L0)))))), (Nb, .inl (g 0, 12, .inl F_11)), (L0, .inr (2, [.int (nI d0), .int (fk0 1), .int (fk0 2), .int (G_242 3), .int (G_242 4), .int (G_242 5), .ref L0c, .ref L0u, .ref L0p, .ref L0l])), (L0c, .inl (g 0, 5, .inl fc0)), (L0u, .inl (g 0, 15, .inl F_245)), (L0p, .inl (g 0, 15, .inl fp0)), (L0l, .inl (g 2, 3, .inr (.inr (.inr (.inr (rf3 L0a L0b L0d)))))), (L0a, .inr (1, [.int (G_222 0), .int (G_222 1), .int (G_222 2), .int (fa0 3), .int (G_222 4), .int (G_222 5), .int (G_222 6)])), (L0b, .inr (1, [.int (G_223 0), .int (G_223 1), .int (G_223 2), .int (fb0 3), .int (G_223 4), .int (G_223 5), .int (G_223 6)])), (L0d, .inr (1, [.int (G_224 0), .int (G_224 1), .int (G_224 2), .int (fd0 3), .int (G_224 4), .int (G_224 5), .int (G_224 6)]))] → va_S A s.heap H locs → lv_has ls 9 [(8, .int i_243), (7, .int y_235), (5, .int (nI i_68)), (3, .int (nI ((t) % 5))), (2, .ref L0), (0, .ref Nn)] → W p l e (headSpec wsX3_arriveOver ({ frames := 2, cells := 0, slots := 0, locals := 42 })).room s m ([.ref Nn, .int 2] : List Value).toArray below meth c H locs 0 0 Q (F0 m 104 ls []) := by
              clear hP hD hS hl
              intro Nloop_258
              induction Nloop_258 with
              | zero => intro G_242 i_243 z_244 F_245 hG_242p4 hm9; exact absurd hm9 (Nat.not_lt_zero _)
              | succ Nloop_258 loop_258_ih =>
                intro G_242 i_243 z_244 F_245 hG_242p4 hmloop_258 H locs ls hP hD hS hl
                refine lv_iload hx hb dX3_arriveOver_104 (lv_at hl 0 rfl) ?_
                refine lv_iload hx hb dX3_arriveOver_106 (lv_at hl 1 rfl) ?_
                refine lv_icmp_ge (tgt := 124) hx hb dX3_arriveOver_108 (by decide) (fun cb_259 => ?_) (fun cb_259 => ?_)
                · skip
                  refine lv_iinc (v := (nI (i_68 + 1))) (lv' := [(5, .int (nI (i_68 + 1))), (8, .int i_243), (7, .int y_235), (3, .int (nI ((t) % 5))), (2, .ref L0), (0, .ref Nn)]) hx hb dX3_arriveOver_124 hl (k := 2) rfl (nI_1 (i_68)) (by decide) rfl (fun ls hl => ?_)
                  refine lv_goto (tgt := 48) hx hb dX3_arriveOver_127 (by decide) ?_
                  exact loop_203_ih G_222 G_242 (i_68 + 1) z_244 F_245 G_223 G_224 (hG_242p4) (show (i_68 + 1) ≤ cc by omega) (show cc - (i_68 + 1) < Nloop_203 by omega) _ _ _ hP hD hS (lv_sub hl [0, 3, 4, 5] rfl)
                · skip
                  refine lv_aload_n hx hb dX3_arriveOver_111 rfl (lv_at hl 5 rfl) ?_
                  refine lv_aload_n hx hb dX3_arriveOver_112 rfl (lv_at hl 4 rfl) ?_
                  refine lv_iload hx hb dX3_arriveOver_113 (lv_at hl 2 rfl) ?_
                  refine ky_Vv (As := [.ref L0, .int (nI i_68)]) (rest := []) ⟨hx, hb, hml, hown, hts⟩ ⟨hK, hN⟩ hZ hP hD hS hA [0, 3, 5, 7, 8, 9, 10] [1, 2, 4, 6] (wc := [(Nn, .inr (3, [.int (nI hp), .int (nI cc), .int zrs, .int zad, .int zpr, .int (nI t), .int z_244, .int zps, .ref Nl, .ref Nf, .ref Nb])), (L0, .inr (2, [.int (nI d0), .int (fk0 1), .int (fk0 2), .int (G_242 3), .int (G_242 4), .int (G_242 5), .ref L0c, .ref L0u, .ref L0p, .ref L0l])), (L0u, .inl (g 0, 15, .inl F_245)), (L0l, .inl (g 2, 3, .inr (.inr (.inr (.inr (rf3 L0a L0b L0d)))))), (L0a, .inr (1, [.int (G_222 0), .int (G_222 1), .int (G_222 2), .int (fa0 3), .int (G_222 4), .int (G_222 5), .int (G_222 6)])), (L0b, .inr (1, [.int (G_223 0), .int (G_223 1), .int (G_223 2), .int (fb0 3), .int (G_223 4), .int (G_223 5), .int (G_223 6)])), (L0d, .inr (1, [.int (G_224 0), .int (G_224 1), .int (G_224 2), .int (fd0 3), .int (G_224 4), .int (G_224 5), .int (G_224 6)]))]) (wr := [(Nl, .inl (g 1, 3, .inr (.inr (.inr (.inr (rf3 M0 M1 L0)))))), (Nb, .inl (g 0, 12, .inl F_11)), (L0c, .inl (g 0, 5, .inl fc0)), (L0p, .inl (g 0, 15, .inl fp0))]) rfl rfl rfl rfl (by decide) (k_X3_sendUpdate l D g H.size Nn L0 i_68 hp cc zrs zad zpr t z_244 zps Nl Nf Nb d0 fk0 G_242 L0c L0u L0p L0l F_245 L0a L0b L0d (lf [G_222 0, G_222 1, G_222 2, fa0 3, G_222 4, G_222 5, G_222 6]) (lf [G_223 0, G_223 1, G_223 2, fb0 3, G_223 4, G_223 5, G_223 6]) (lf [G_224 0, G_224 1, G_224 2, fd0 3, G_224 4, G_224 5, G_224 6]) (show i_68 < 3 by omega) (show t < 2 ^ 30 by omega) (show d0 < 5 by omega) (hG_242p4)) (cwV 2 hts gX3_arriveOver_X3_sendUpdate rfl rfl rfl (by decide +kernel) ⟨(Nat.le_of_ble_eq_true rfl), (Nat.le_of_ble_eq_true rfl)⟩) 0 3 rfl rfl rfl rfl hl.1 rfl (Nat.le_of_ble_eq_true rfl) dX3_arriveOver_115 ⟨(Nat.le_of_ble_eq_true rfl), (Nat.le_of_ble_eq_true rfl)⟩ (fun u H locs hw hP2 hD2 hS2 => ?_)
                  clear hP hD hS
                  obtain ⟨zlox_261, fv0x_262, fu0x_263, rfl, hf_264⟩ := hw
                  have hPD : PD D A [(Nl, .inl (g 1, 3, .inr (.inr (.inr (.inr (rf3 M0 M1 L0)))))), (Nb, .inl (g 0, 12, .inl F_11)), (L0c, .inl (g 0, 5, .inl fc0)), (L0p, .inl (g 0, 15, .inl fp0)), (Nn, .inr (3, [.int (nI hp), .int (nI cc), .int zrs, .int zad, .int zpr, .int (nI t), .int zlox_261, .int zps, .ref Nl, .ref Nf, .ref Nb])), (L0, .inr (2, [.int (nI d0), .int (fk0 1), .int (fk0 2), .int (fv0x_262 3), .int (fv0x_262 4), .int (fv0x_262 5), .ref L0c, .ref L0u, .ref L0p, .ref L0l])), (L0u, .inl (g 0, 15, .inl fu0x_263)), (L0l, .inl (g 2, 3, .inr (.inr (.inr (.inr (rf3 L0a L0b L0d)))))), (L0a, .inr (1, [.int (G_222 0), .int (G_222 1), .int (G_222 2), .int (fa0 3), .int (G_222 4), .int (G_222 5), .int (G_222 6)])), (L0b, .inr (1, [.int (G_223 0), .int (G_223 1), .int (G_223 2), .int (fb0 3), .int (G_223 4), .int (G_223 5), .int (G_223 6)])), (L0d, .inr (1, [.int (G_224 0), .int (G_224 1), .int (G_224 2), .int (fd0 3), .int (G_224 4), .int (G_224 5), .int (G_224 6)]))] H := ⟨hP2, hD2⟩
                  have hS := hS2; clear hP2 hD2 hS2; have hP := hPD.1; have hD := hPD.2; clear hPD
                  refine W.widen (k := 0) (n := 0) (Nat.le_of_ble_eq_true rfl) (Nat.le_of_ble_eq_true rfl) ?_
                  refine lv_iinc (v := (i_243 + 1)) (lv' := [(8, .int (i_243 + 1)), (7, .int y_235), (5, .int (nI i_68)), (3, .int (nI ((t) % 5))), (2, .ref L0), (0, .ref Nn)]) hx hb dX3_arriveOver_118 hl (k := 0) rfl (rfl) (by decide) rfl (fun ls hl => ?_)
                  refine lv_goto (tgt := 104) hx hb dX3_arriveOver_121 (by decide) ?_
                  exact loop_258_ih fv0x_262 (i_243 + 1) zlox_261 fu0x_263 (hf_264) (Nat.lt_of_lt_of_le (ms_lt (Int32.not_le.mp cb_259)) (Nat.le_of_lt_succ hmloop_258)) _ _ _ (hP.sub [4, 0, 1, 5, 2, 6, 3, 7, 8, 9, 10] rfl) (hD.sub [4, 0, 1, 5, 2, 6, 3, 7, 8, 9, 10] (by decide) rfl) hS hl
            exact loop_258 _ G_67 0 z_69 F_70 (hG_67p4) (Nat.lt_succ_self _) _ _ _ hP hD hS hl
          refine lv_icmp_eq (tgt := 88) hx hb dX3_arriveOver_73 (by decide) (fun cb_265 => ?_) (fun cb_265 => ?_)
          · skip
            have hPq_266 := hP; have hDq_266 := hD; have hSq_266 := hS; have hlq_266 := hl; clear hP hD hS hl
            subst cb_265
            have hP := hPq_266; have hD := hDq_266; have hS := hSq_266; have hl := hlq_266; clear hPq_266 hDq_266 hSq_266 hlq_266
            exact join_234 G_66 G_136 G_137 _ _ _ hP hD hS (lv_sub hl [1, 2, 3, 4] rfl)
          · skip
            refine lv_aload_n hx hb dX3_arriveOver_76 rfl (lv_at hl 3 rfl) ?_
            refine va_get (D := D) (ci := 2) (v := .ref L0l) (C := RX2) (T := TX2) (N := 10) hx hb hts iX2 hown hK hP 3 rfl rfl 9 (by decide) f128 (fun _ h9 => h9) rfl dX3_arriveOver_77 ?_
            refine lv_iload hx hb dX3_arriveOver_80 (lv_at hl 1 rfl) ?_
            have hPq_267 := hP; have hDq_267 := hD; have hSq_267 := hS; have hlq_267 := hl; clear hP hD hS hl
            rcases (show i_68 = 0 ∨ i_68 = 1 ∨ i_68 = 2 by omega) with rfl | rfl | rfl
            · skip
              have hP := hPq_267; have hD := hDq_267; have hS := hSq_267; have hl := hlq_267; clear hPq_267 hDq_267 hSq_267 hlq_267
              refine va_aldq (C := "HopCredits$Lane") hx hb hK hP 7 2 rfl rfl (by unfold vp_in; decide) dX3_arriveOver_82 ?_
              refine lv_eqv (v2 := .ref L0a) rfl ?_
              refine lv_iload hx hb dX3_arriveOver_83 (lv_at hl 0 rfl) ?_
              refine ky_Vv (As := [.int y_212]) (rest := []) ⟨hx, hb, hml, hown, hts⟩ ⟨hK, hN⟩ hZ hP hD hS hA [8] [0, 1, 2, 3, 4, 5, 6, 7, 9, 10] (wc := [(L0a, .inr (1, [.int (G_66 0), .int (G_66 1), .int (G_66 2), .int (fa0 3), .int (G_66 4), .int (G_66 5), .int (G_66 6)]))]) (wr := [(Nn, .inr (3, [.int (nI hp), .int (nI cc), .int zrs, .int zad, .int zpr, .int (nI t), .int z_69, .int zps, .ref Nl, .ref Nf, .ref Nb])), (Nl, .inl (g 1, 3, .inr (.inr (.inr (.inr (rf3 M0 M1 L0)))))), (Nb, .inl (g 0, 12, .inl F_11)), (L0, .inr (2, [.int (nI d0), .int (fk0 1), .int (fk0 2), .int (G_67 3), .int (G_67 4), .int (G_67 5), .ref L0c, .ref L0u, .ref L0p, .ref L0l])), (L0c, .inl (g 0, 5, .inl fc0)), (L0u, .inl (g 0, 15, .inl F_70)), (L0p, .inl (g 0, 15, .inl fp0)), (L0l, .inl (g 2, 3, .inr (.inr (.inr (.inr (rf3 L0a L0b L0d)))))), (L0b, .inr (1, [.int (G_136 0), .int (G_136 1), .int (G_136 2), .int (fb0 3), .int (G_136 4), .int (G_136 5), .int (G_136 6)])), (L0d, .inr (1, [.int (G_137 0), .int (G_137 1), .int (G_137 2), .int (fd0 3), .int (G_137 4), .int (G_137 5), .int (G_137 6)]))]) rfl rfl rfl rfl (by decide) (k_X1_hear l D g H.size L0a y_212 (lf [G_66 0, G_66 1, G_66 2, fa0 3, G_66 4, G_66 5, G_66 6])) (cwV 1 hts gX3_arriveOver_X1_hear rfl rfl rfl (by decide +kernel) ⟨(Nat.le_of_ble_eq_true rfl), (Nat.le_of_ble_eq_true rfl)⟩) 8 1 rfl rfl rfl rfl hl.1 rfl (Nat.le_of_ble_eq_true rfl) dX3_arriveOver_85 ⟨(Nat.le_of_ble_eq_true rfl), (Nat.le_of_ble_eq_true rfl)⟩ (fun u H locs hw hP2 hD2 hS2 => ?_)
              clear hP hD hS
              obtain ⟨fwx_269, rfl⟩ := hw
              have hPD : PD D A [(Nn, .inr (3, [.int (nI hp), .int (nI cc), .int zrs, .int zad, .int zpr, .int (nI t), .int z_69, .int zps, .ref Nl, .ref Nf, .ref Nb])), (Nl, .inl (g 1, 3, .inr (.inr (.inr (.inr (rf3 M0 M1 L0)))))), (Nb, .inl (g 0, 12, .inl F_11)), (L0, .inr (2, [.int (nI d0), .int (fk0 1), .int (fk0 2), .int (G_67 3), .int (G_67 4), .int (G_67 5), .ref L0c, .ref L0u, .ref L0p, .ref L0l])), (L0c, .inl (g 0, 5, .inl fc0)), (L0u, .inl (g 0, 15, .inl F_70)), (L0p, .inl (g 0, 15, .inl fp0)), (L0l, .inl (g 2, 3, .inr (.inr (.inr (.inr (rf3 L0a L0b L0d)))))), (L0b, .inr (1, [.int (G_136 0), .int (G_136 1), .int (G_136 2), .int (fb0 3), .int (G_136 4), .int (G_136 5), .int (G_136 6)])), (L0d, .inr (1, [.int (G_137 0), .int (G_137 1), .int (G_137 2), .int (fd0 3), .int (G_137 4), .int (G_137 5), .int (G_137 6)])), (L0a, .inr (1, [.int (fwx_269 0), .int (fwx_269 1), .int (fwx_269 2), .int (fa0 3), .int (fwx_269 4), .int (fwx_269 5), .int (fwx_269 6)]))] H := ⟨hP2, hD2⟩
              have hS := hS2; clear hP2 hD2 hS2; have hP := hPD.1; have hD := hPD.2; clear hPD
              refine W.widen (k := 0) (n := 0) (Nat.le_of_ble_eq_true rfl) (Nat.le_of_ble_eq_true rfl) ?_
              exact join_234 fwx_269 G_136 G_137 _ _ _ (hP.sub [0, 1, 2, 3, 4, 5, 6, 7, 10, 8, 9] rfl) (hD.sub [0, 1, 2, 3, 4, 5, 6, 7, 10, 8, 9] (by decide) rfl) hS (lv_sub hl [1, 2, 3, 4] rfl)
            · skip
              have hP := hPq_267; have hD := hDq_267; have hS := hSq_267; have hl := hlq_267; clear hPq_267 hDq_267 hSq_267 hlq_267
              refine va_aldq (C := "HopCredits$Lane") hx hb hK hP 7 2 rfl rfl (by unfold vp_in; decide) dX3_arriveOver_82 ?_
              refine lv_eqv (v2 := .ref L0b) rfl ?_
              refine lv_iload hx hb dX3_arriveOver_83 (lv_at hl 0 rfl) ?_
              refine ky_Vv (As := [.int y_212]) (rest := []) ⟨hx, hb, hml, hown, hts⟩ ⟨hK, hN⟩ hZ hP hD hS hA [9] [0, 1, 2, 3, 4, 5, 6, 7, 8, 10] (wc := [(L0b, .inr (1, [.int (G_136 0), .int (G_136 1), .int (G_136 2), .int (fb0 3), .int (G_136 4), .int (G_136 5), .int (G_136 6)]))]) (wr := [(Nn, .inr (3, [.int (nI hp), .int (nI cc), .int zrs, .int zad, .int zpr, .int (nI t), .int z_69, .int zps, .ref Nl, .ref Nf, .ref Nb])), (Nl, .inl (g 1, 3, .inr (.inr (.inr (.inr (rf3 M0 M1 L0)))))), (Nb, .inl (g 0, 12, .inl F_11)), (L0, .inr (2, [.int (nI d0), .int (fk0 1), .int (fk0 2), .int (G_67 3), .int (G_67 4), .int (G_67 5), .ref L0c, .ref L0u, .ref L0p, .ref L0l])), (L0c, .inl (g 0, 5, .inl fc0)), (L0u, .inl (g 0, 15, .inl F_70)), (L0p, .inl (g 0, 15, .inl fp0)), (L0l, .inl (g 2, 3, .inr (.inr (.inr (.inr (rf3 L0a L0b L0d)))))), (L0a, .inr (1, [.int (G_66 0), .int (G_66 1), .int (G_66 2), .int (fa0 3), .int (G_66 4), .int (G_66 5), .int (G_66 6)])), (L0d, .inr (1, [.int (G_137 0), .int (G_137 1), .int (G_137 2), .int (fd0 3), .int (G_137 4), .int (G_137 5), .int (G_137 6)]))]) rfl rfl rfl rfl (by decide) (k_X1_hear l D g H.size L0b y_212 (lf [G_136 0, G_136 1, G_136 2, fb0 3, G_136 4, G_136 5, G_136 6])) (cwV 1 hts gX3_arriveOver_X1_hear rfl rfl rfl (by decide +kernel) ⟨(Nat.le_of_ble_eq_true rfl), (Nat.le_of_ble_eq_true rfl)⟩) 9 1 rfl rfl rfl rfl hl.1 rfl (Nat.le_of_ble_eq_true rfl) dX3_arriveOver_85 ⟨(Nat.le_of_ble_eq_true rfl), (Nat.le_of_ble_eq_true rfl)⟩ (fun u H locs hw hP2 hD2 hS2 => ?_)
              clear hP hD hS
              obtain ⟨fwx_271, rfl⟩ := hw
              have hPD : PD D A [(Nn, .inr (3, [.int (nI hp), .int (nI cc), .int zrs, .int zad, .int zpr, .int (nI t), .int z_69, .int zps, .ref Nl, .ref Nf, .ref Nb])), (Nl, .inl (g 1, 3, .inr (.inr (.inr (.inr (rf3 M0 M1 L0)))))), (Nb, .inl (g 0, 12, .inl F_11)), (L0, .inr (2, [.int (nI d0), .int (fk0 1), .int (fk0 2), .int (G_67 3), .int (G_67 4), .int (G_67 5), .ref L0c, .ref L0u, .ref L0p, .ref L0l])), (L0c, .inl (g 0, 5, .inl fc0)), (L0u, .inl (g 0, 15, .inl F_70)), (L0p, .inl (g 0, 15, .inl fp0)), (L0l, .inl (g 2, 3, .inr (.inr (.inr (.inr (rf3 L0a L0b L0d)))))), (L0a, .inr (1, [.int (G_66 0), .int (G_66 1), .int (G_66 2), .int (fa0 3), .int (G_66 4), .int (G_66 5), .int (G_66 6)])), (L0d, .inr (1, [.int (G_137 0), .int (G_137 1), .int (G_137 2), .int (fd0 3), .int (G_137 4), .int (G_137 5), .int (G_137 6)])), (L0b, .inr (1, [.int (fwx_271 0), .int (fwx_271 1), .int (fwx_271 2), .int (fb0 3), .int (fwx_271 4), .int (fwx_271 5), .int (fwx_271 6)]))] H := ⟨hP2, hD2⟩
              have hS := hS2; clear hP2 hD2 hS2; have hP := hPD.1; have hD := hPD.2; clear hPD
              refine W.widen (k := 0) (n := 0) (Nat.le_of_ble_eq_true rfl) (Nat.le_of_ble_eq_true rfl) ?_
              exact join_234 G_66 fwx_271 G_137 _ _ _ (hP.sub [0, 1, 2, 3, 4, 5, 6, 7, 8, 10, 9] rfl) (hD.sub [0, 1, 2, 3, 4, 5, 6, 7, 8, 10, 9] (by decide) rfl) hS (lv_sub hl [1, 2, 3, 4] rfl)
            · skip
              have hP := hPq_267; have hD := hDq_267; have hS := hSq_267; have hl := hlq_267; clear hPq_267 hDq_267 hSq_267 hlq_267
              refine va_aldq (C := "HopCredits$Lane") hx hb hK hP 7 2 rfl rfl (by unfold vp_in; decide) dX3_arriveOver_82 ?_
              refine lv_eqv (v2 := .ref L0d) rfl ?_
              refine lv_iload hx hb dX3_arriveOver_83 (lv_at hl 0 rfl) ?_
              refine ky_Vv (As := [.int y_212]) (rest := []) ⟨hx, hb, hml, hown, hts⟩ ⟨hK, hN⟩ hZ hP hD hS hA [10] [0, 1, 2, 3, 4, 5, 6, 7, 8, 9] (wc := [(L0d, .inr (1, [.int (G_137 0), .int (G_137 1), .int (G_137 2), .int (fd0 3), .int (G_137 4), .int (G_137 5), .int (G_137 6)]))]) (wr := [(Nn, .inr (3, [.int (nI hp), .int (nI cc), .int zrs, .int zad, .int zpr, .int (nI t), .int z_69, .int zps, .ref Nl, .ref Nf, .ref Nb])), (Nl, .inl (g 1, 3, .inr (.inr (.inr (.inr (rf3 M0 M1 L0)))))), (Nb, .inl (g 0, 12, .inl F_11)), (L0, .inr (2, [.int (nI d0), .int (fk0 1), .int (fk0 2), .int (G_67 3), .int (G_67 4), .int (G_67 5), .ref L0c, .ref L0u, .ref L0p, .ref L0l])), (L0c, .inl (g 0, 5, .inl fc0)), (L0u, .inl (g 0, 15, .inl F_70)), (L0p, .inl (g 0, 15, .inl fp0)), (L0l, .inl (g 2, 3, .inr (.inr (.inr (.inr (rf3 L0a L0b L0d)))))), (L0a, .inr (1, [.int (G_66 0), .int (G_66 1), .int (G_66 2), .int (fa0 3), .int (G_66 4), .int (G_66 5), .int (G_66 6)])), (L0b, .inr (1, [.int (G_136 0), .int (G_136 1), .int (G_136 2), .int (fb0 3), .int (G_136 4), .int (G_136 5), .int (G_136 6)]))]) rfl rfl rfl rfl (by decide) (k_X1_hear l D g H.size L0d y_212 (lf [G_137 0, G_137 1, G_137 2, fd0 3, G_137 4, G_137 5, G_137 6])) (cwV 1 hts gX3_arriveOver_X1_hear rfl rfl rfl (by decide +kernel) ⟨(Nat.le_of_ble_eq_true rfl), (Nat.le_of_ble_eq_true rfl)⟩) 10 1 rfl rfl rfl rfl hl.1 rfl (Nat.le_of_ble_eq_true rfl) dX3_arriveOver_85 ⟨(Nat.le_of_ble_eq_true rfl), (Nat.le_of_ble_eq_true rfl)⟩ (fun u H locs hw hP2 hD2 hS2 => ?_)
              clear hP hD hS
              obtain ⟨fwx_273, rfl⟩ := hw
              have hPD : PD D A [(Nn, .inr (3, [.int (nI hp), .int (nI cc), .int zrs, .int zad, .int zpr, .int (nI t), .int z_69, .int zps, .ref Nl, .ref Nf, .ref Nb])), (Nl, .inl (g 1, 3, .inr (.inr (.inr (.inr (rf3 M0 M1 L0)))))), (Nb, .inl (g 0, 12, .inl F_11)), (L0, .inr (2, [.int (nI d0), .int (fk0 1), .int (fk0 2), .int (G_67 3), .int (G_67 4), .int (G_67 5), .ref L0c, .ref L0u, .ref L0p, .ref L0l])), (L0c, .inl (g 0, 5, .inl fc0)), (L0u, .inl (g 0, 15, .inl F_70)), (L0p, .inl (g 0, 15, .inl fp0)), (L0l, .inl (g 2, 3, .inr (.inr (.inr (.inr (rf3 L0a L0b L0d)))))), (L0a, .inr (1, [.int (G_66 0), .int (G_66 1), .int (G_66 2), .int (fa0 3), .int (G_66 4), .int (G_66 5), .int (G_66 6)])), (L0b, .inr (1, [.int (G_136 0), .int (G_136 1), .int (G_136 2), .int (fb0 3), .int (G_136 4), .int (G_136 5), .int (G_136 6)])), (L0d, .inr (1, [.int (fwx_273 0), .int (fwx_273 1), .int (fwx_273 2), .int (fd0 3), .int (fwx_273 4), .int (fwx_273 5), .int (fwx_273 6)]))] H := ⟨hP2, hD2⟩
              have hS := hS2; clear hP2 hD2 hS2; have hP := hPD.1; have hD := hPD.2; clear hPD
              refine W.widen (k := 0) (n := 0) (Nat.le_of_ble_eq_true rfl) (Nat.le_of_ble_eq_true rfl) ?_
              exact join_234 G_66 G_136 fwx_273 _ _ _ hP hD hS (lv_sub hl [1, 2, 3, 4] rfl)
    exact loop_203 _ fa0 fv0 0 zlo fu0 fb0 fd0 (h4) (show 0 ≤ cc by omega) (Nat.lt_succ_self _) _ _ _ hP hD hS hl
  refine lv_icmp_eq (tgt := 45) hx hb dX3_arriveOver_25 (by decide) (fun cb_274 => ?_) (fun cb_274 => ?_)
  · skip
    have hPq_275 := hP; have hDq_275 := hD; have hSq_275 := hS; have hlq_275 := hl; clear hP hD hS hl
    subst cb_274
    have hP := hPq_275; have hD := hDq_275; have hS := hSq_275; have hl := hlq_275; clear hPq_275 hDq_275 hSq_275 hlq_275
    exact join_20 fbuf _ _ _ hP hD hS (lv_sub hl [1, 2, 3] rfl)
  · skip
    have hPq_278 := hP; have hDq_278 := hD; have hSq_278 := hS; have hlq_278 := hl; clear hP hD hS hl
    obtain ⟨j_276, hj_277, rfl⟩ := okc_j (hc_2) cb_274
    have hP := hPq_278; have hD := hDq_278; have hS := hSq_278; have hl := hlq_278; clear hPq_278 hDq_278 hSq_278 hlq_278
    refine lv_aload_n hx hb dX3_arriveOver_28 rfl (lv_at hl 3 rfl) ?_
    refine va_get (D := D) (ci := 3) (v := .ref Nb) (C := RX3) (T := TX3) (N := 11) hx hb hts iX3 hown hK hP 0 rfl rfl 10 (by decide) f23 (fun _ h9 => h9) rfl dX3_arriveOver_29 ?_
    refine lv_iload_n hx hb dX3_arriveOver_32 rfl (lv_at hl 4 rfl) ?_
    refine lv_iconst (v := 1) hx hb dX3_arriveOver_33 (by decide) ?_
    refine lv_iadd hx hb dX3_arriveOver_34 ?_
    refine lv_eqi (y := 3) (by decide) ?_
    refine lv_iconst (v := 3) hx hb dX3_arriveOver_35 (by decide) ?_
    refine lv_imul hx hb dX3_arriveOver_36 ?_
    refine lv_eqi (y := 9) (by decide) ?_
    refine lv_iload hx hb dX3_arriveOver_37 (lv_at hl 0 rfl) ?_
    refine lv_iadd hx hb dX3_arriveOver_39 ?_
    refine lv_eqi (y := (nI (9 + j_276))) (nI_add (9) (j_276)) ?_
    refine lv_dup2_11 hx hb dX3_arriveOver_40 rfl rfl ?_
    refine va_iald hx hb hK hP 2 0 rfl rfl (vp_in_nI (show 9 + j_276 < 12 by omega) (by decide)) dX3_arriveOver_41 ?_
    refine lv_eqi (y := (fbuf (9 + j_276))) (congrArg fbuf (nI_clamp (show 9 + j_276 < 2 ^ 31 by omega))) ?_
    refine lv_topi (fun y_279 _ => ?_)
    refine lv_iconst (v := 1) hx hb dX3_arriveOver_42 (by decide) ?_
    refine lv_iadd hx hb dX3_arriveOver_43 ?_
    refine lv_topi (fun y_280 _ => ?_)
    refine va_iast hx hb hK hP hD hS 2 0 rfl rfl (vp_in_nI (show 9 + j_276 < 12 by omega) (by decide)) dX3_arriveOver_44 (fun H locs hP2 hD2 hS2 => ?_)
    clear hP hD hS
    have hPD : PD D A [(Nn, .inr (3, [.int (nI hp), .int (nI cc), .int zrs, .int zad, .int zpr, .int (nI t), .int zlo, .int zps, .ref Nl, .ref Nf, .ref Nb])), (Nl, .inl (g 1, 3, .inr (.inr (.inr (.inr (rf3 M0 M1 L0)))))), (Nb, .inl (g 0, 12, .inl (upd fbuf (nI (9 + j_276)).toNatClampNeg y_280))), (L0, .inr (2, [.int (nI d0), .int (fk0 1), .int (fk0 2), .int (fv0 3), .int (fv0 4), .int (fv0 5), .ref L0c, .ref L0u, .ref L0p, .ref L0l])), (L0c, .inl (g 0, 5, .inl fc0)), (L0u, .inl (g 0, 15, .inl fu0)), (L0p, .inl (g 0, 15, .inl fp0)), (L0l, .inl (g 2, 3, .inr (.inr (.inr (.inr (rf3 L0a L0b L0d)))))), (L0a, .inr (1, [.int (fa0 0), .int (fa0 1), .int (fa0 2), .int (fa0 3), .int (fa0 4), .int (fa0 5), .int (fa0 6)])), (L0b, .inr (1, [.int (fb0 0), .int (fb0 1), .int (fb0 2), .int (fb0 3), .int (fb0 4), .int (fb0 5), .int (fb0 6)])), (L0d, .inr (1, [.int (fd0 0), .int (fd0 1), .int (fd0 2), .int (fd0 3), .int (fd0 4), .int (fd0 5), .int (fd0 6)]))] H := ⟨hP2, hD2⟩
    have hS := hS2; clear hP2 hD2 hS2; have hP := hPD.1; have hD := hPD.2; clear hPD
    rw [nI_clamp (show 9 + j_276 < 2 ^ 31 by omega)] at hP hD
    have hPD : PD D A [(Nn, .inr (3, [.int (nI hp), .int (nI cc), .int zrs, .int zad, .int zpr, .int (nI t), .int zlo, .int zps, .ref Nl, .ref Nf, .ref Nb])), (Nl, .inl (g 1, 3, .inr (.inr (.inr (.inr (rf3 M0 M1 L0)))))), (Nb, .inl (g 0, 12, .inl (upd fbuf (9 + j_276) y_280))), (L0, .inr (2, [.int (nI d0), .int (fk0 1), .int (fk0 2), .int (fv0 3), .int (fv0 4), .int (fv0 5), .ref L0c, .ref L0u, .ref L0p, .ref L0l])), (L0c, .inl (g 0, 5, .inl fc0)), (L0u, .inl (g 0, 15, .inl fu0)), (L0p, .inl (g 0, 15, .inl fp0)), (L0l, .inl (g 2, 3, .inr (.inr (.inr (.inr (rf3 L0a L0b L0d)))))), (L0a, .inr (1, [.int (fa0 0), .int (fa0 1), .int (fa0 2), .int (fa0 3), .int (fa0 4), .int (fa0 5), .int (fa0 6)])), (L0b, .inr (1, [.int (fb0 0), .int (fb0 1), .int (fb0 2), .int (fb0 3), .int (fb0 4), .int (fb0 5), .int (fb0 6)])), (L0d, .inr (1, [.int (fd0 0), .int (fd0 1), .int (fd0 2), .int (fd0 3), .int (fd0 4), .int (fd0 5), .int (fd0 6)]))] H := ⟨hP, hD⟩
    clear hP hD; have hP := hPD.1; have hD := hPD.2; clear hPD
    generalize upd fbuf (9 + j_276) y_280 = F_281 at hP hD
    exact join_20 F_281 _ _ _ hP hD hS (lv_sub hl [1, 2, 3] rfl)

set_option maxHeartbeats 4000000 in
set_option maxRecDepth 100000 in
theorem k_X3_lacksCredit_0 (l : Launch) (D : va_G) (g : Nat → ClassId) (sz : Nat) (Nn : Nat) (cx : Nat) (fn : Nat → Int32) (Nl : Nat) (Nf : Nat) (Nb : Nat) (L0 : Nat) (M1 : Nat) (M2 : Nat) (fbuf : Nat → Int32) (d0 : Nat) (fk0 : Nat → Int32) (fv0 : Nat → Int32) (L0c : Nat) (L0u : Nat) (L0p : Nat) (L0l : Nat) (L0a : Nat) (L0b : Nat) (L0d : Nat) (fa0 : Nat → Int32) (fb0 : Nat → Int32) (fd0 : Nat → Int32) (h0 : cx < 3) : Met l yX3_lacksCredit wsX3_lacksCredit ({ frames := 1, cells := 0, slots := 0, locals := 20 }) (va_Pc [.ref Nn, .int 0, .int (nI cx)] (pre D g sz [(Nn, .inr (3, [.int (fn 0), .int (fn 1), .int (fn 2), .int (fn 3), .int (fn 4), .int (fn 5), .int (fn 6), .int (fn 7), .ref Nl, .ref Nf, .ref Nb])), (Nl, .inl (g 1, 3, .inr (.inr (.inr (.inr (rf3 L0 M1 M2)))))), (Nb, .inl (g 0, 12, .inl fbuf)), (L0, .inr (2, [.int (nI d0), .int (fk0 1), .int (fk0 2), .int (fv0 3), .int (fv0 4), .int (fv0 5), .ref L0c, .ref L0u, .ref L0p, .ref L0l])), (L0l, .inl (g 2, 3, .inr (.inr (.inr (.inr (rf3 L0a L0b L0d)))))), (L0a, .inr (1, [.int (fa0 0), .int (fa0 1), .int (fa0 2), .int (fa0 3), .int (fa0 4), .int (fa0 5), .int (fa0 6)])), (L0b, .inr (1, [.int (fb0 0), .int (fb0 1), .int (fb0 2), .int (fb0 3), .int (fb0 4), .int (fb0 5), .int (fb0 6)])), (L0d, .inr (1, [.int (fd0 0), .int (fd0 1), .int (fd0 2), .int (fd0 3), .int (fd0 4), .int (fd0 5), .int (fd0 6)]))])) (va_Qi (fun (r : Int32) (u : va_W) => u = [(Nn, .inr (3, [.int (fn 0), .int (fn 1), .int (fn 2), .int (fn 3), .int (fn 4), .int (fn 5), .int (fn 6), .int (fn 7), .ref Nl, .ref Nf, .ref Nb])), (Nl, .inl (g 1, 3, .inr (.inr (.inr (.inr (rf3 L0 M1 M2)))))), (Nb, .inl (g 0, 12, .inl fbuf)), (L0, .inr (2, [.int (nI d0), .int (fk0 1), .int (fk0 2), .int (fv0 3), .int (fv0 4), .int (fv0 5), .ref L0c, .ref L0u, .ref L0p, .ref L0l])), (L0l, .inl (g 2, 3, .inr (.inr (.inr (.inr (rf3 L0a L0b L0d)))))), (L0a, .inr (1, [.int (fa0 0), .int (fa0 1), .int (fa0 2), .int (fa0 3), .int (fa0 4), .int (fa0 5), .int (fa0 6)])), (L0b, .inr (1, [.int (fb0 0), .int (fb0 1), .int (fb0 2), .int (fb0 3), .int (fb0 4), .int (fb0 5), .int (fb0 6)])), (L0d, .inr (1, [.int (fd0 0), .int (fd0 1), .int (fd0 2), .int (fd0 3), .int (fd0 4), .int (fd0 5), .int (fd0 6)]))]) (wd D (va_A [(Nn, .inr (3, [.int (fn 0), .int (fn 1), .int (fn 2), .int (fn 3), .int (fn 4), .int (fn 5), .int (fn 6), .int (fn 7), .ref Nl, .ref Nf, .ref Nb])), (Nl, .inl (g 1, 3, .inr (.inr (.inr (.inr (rf3 L0 M1 M2)))))), (Nb, .inl (g 0, 12, .inl fbuf)), (L0, .inr (2, [.int (nI d0), .int (fk0 1), .int (fk0 2), .int (fv0 3), .int (fv0 4), .int (fv0 5), .ref L0c, .ref L0u, .ref L0p, .ref L0l])), (L0l, .inl (g 2, 3, .inr (.inr (.inr (.inr (rf3 L0a L0b L0d)))))), (L0a, .inr (1, [.int (fa0 0), .int (fa0 1), .int (fa0 2), .int (fa0 3), .int (fa0 4), .int (fa0 5), .int (fa0 6)])), (L0b, .inr (1, [.int (fb0 0), .int (fb0 1), .int (fb0 2), .int (fb0 3), .int (fb0 4), .int (fb0 5), .int (fb0 6)])), (L0d, .inr (1, [.int (fd0 0), .int (fd0 1), .int (fd0 2), .int (fd0 3), .int (fd0 4), .int (fd0 5), .int (fd0 6)]))] sz)) (va_A [(Nn, .inr (3, [.int (fn 0), .int (fn 1), .int (fn 2), .int (fn 3), .int (fn 4), .int (fn 5), .int (fn 6), .int (fn 7), .ref Nl, .ref Nf, .ref Nb])), (Nl, .inl (g 1, 3, .inr (.inr (.inr (.inr (rf3 L0 M1 M2)))))), (Nb, .inl (g 0, 12, .inl fbuf)), (L0, .inr (2, [.int (nI d0), .int (fk0 1), .int (fk0 2), .int (fv0 3), .int (fv0 4), .int (fv0 5), .ref L0c, .ref L0u, .ref L0p, .ref L0l])), (L0l, .inl (g 2, 3, .inr (.inr (.inr (.inr (rf3 L0a L0b L0d)))))), (L0a, .inr (1, [.int (fa0 0), .int (fa0 1), .int (fa0 2), .int (fa0 3), .int (fa0 4), .int (fa0 5), .int (fa0 6)])), (L0b, .inr (1, [.int (fb0 0), .int (fb0 1), .int (fb0 2), .int (fb0 3), .int (fb0 4), .int (fb0 5), .int (fb0 6)])), (L0d, .inr (1, [.int (fd0 0), .int (fd0 1), .int (fd0 2), .int (fd0 3), .int (fd0 4), .int (fd0 5), .int (fd0 6)]))] sz)) 0 0 (va_A [(Nn, .inr (3, [.int (fn 0), .int (fn 1), .int (fn 2), .int (fn 3), .int (fn 4), .int (fn 5), .int (fn 6), .int (fn 7), .ref Nl, .ref Nf, .ref Nb])), (Nl, .inl (g 1, 3, .inr (.inr (.inr (.inr (rf3 L0 M1 M2)))))), (Nb, .inl (g 0, 12, .inl fbuf)), (L0, .inr (2, [.int (nI d0), .int (fk0 1), .int (fk0 2), .int (fv0 3), .int (fv0 4), .int (fv0 5), .ref L0c, .ref L0u, .ref L0p, .ref L0l])), (L0l, .inl (g 2, 3, .inr (.inr (.inr (.inr (rf3 L0a L0b L0d)))))), (L0a, .inr (1, [.int (fa0 0), .int (fa0 1), .int (fa0 2), .int (fa0 3), .int (fa0 4), .int (fa0 5), .int (fa0 6)])), (L0b, .inr (1, [.int (fb0 0), .int (fb0 1), .int (fb0 2), .int (fb0 3), .int (fb0 4), .int (fb0 5), .int (fb0 6)])), (L0d, .inr (1, [.int (fd0 0), .int (fd0 1), .int (fd0 2), .int (fd0 3), .int (fd0 4), .int (fd0 5), .int (fd0 6)]))] sz) := by
  refine Met.ofW (cc := cX3_lacksCredit) (maxL := 3) (ret := (some .boolean)) (by decide) rfl ?_
  intro p e s m args below meth c s₁ B hml hv
  obtain ⟨rfl, hsz, hP, ⟨hK, hN⟩, hD0, hZ⟩ := hv
  have hx := B.exec
  have hb := B.bytes
  have hr := B.returns
  have hts := atoms_spec (ws := wsX3_lacksCredit) B.pre
  have hown : s.vm.findClass RX3 = some m.cls := findClass_of_methodNamed B.named
  have hlocks := B.notSynchronized
  clear B
  subst hsz
  have hD := hD0.self (sz := s.heap.size)
  clear hD0
  generalize hAe : va_A [(Nn, .inr (3, [.int (fn 0), .int (fn 1), .int (fn 2), .int (fn 3), .int (fn 4), .int (fn 5), .int (fn 6), .int (fn 7), .ref Nl, .ref Nf, .ref Nb])), (Nl, .inl (g 1, 3, .inr (.inr (.inr (.inr (rf3 L0 M1 M2)))))), (Nb, .inl (g 0, 12, .inl fbuf)), (L0, .inr (2, [.int (nI d0), .int (fk0 1), .int (fk0 2), .int (fv0 3), .int (fv0 4), .int (fv0 5), .ref L0c, .ref L0u, .ref L0p, .ref L0l])), (L0l, .inl (g 2, 3, .inr (.inr (.inr (.inr (rf3 L0a L0b L0d)))))), (L0a, .inr (1, [.int (fa0 0), .int (fa0 1), .int (fa0 2), .int (fa0 3), .int (fa0 4), .int (fa0 5), .int (fa0 6)])), (L0b, .inr (1, [.int (fb0 0), .int (fb0 1), .int (fb0 2), .int (fb0 3), .int (fb0 4), .int (fb0 5), .int (fb0 6)])), (L0d, .inr (1, [.int (fd0 0), .int (fd0 1), .int (fd0 2), .int (fd0 3), .int (fd0 4), .int (fd0 5), .int (fd0 6)]))] s.heap.size = A at hD hZ ⊢
  have hA : ∀ q : Nat, s.heap.size ≤ q → A q := fun q h => by rw [← hAe]; exact Or.inr h
  have hS : va_S A s.heap s.heap [] := va_S.rf
  have f11 := hts (.fieldLink RX3 11 "HopCredits$Net" "links" "[LHopCredits$Link;") (List.mem_of_getElem? (i := 2) rfl)
  have f128 := hts (.fieldLink RX3 128 "HopCredits$Link" "lanes" "[LHopCredits$Lane;") (List.mem_of_getElem? (i := 3) rfl)
  have f195 := hts (.fieldLink RX3 195 "HopCredits$Lane" "zone" "I") (List.mem_of_getElem? (i := 4) rfl)
  have f23 := hts (.fieldLink RX3 23 "HopCredits$Net" "buffers" "[I") (List.mem_of_getElem? (i := 1) rfl)
  have iX1 : ∀ w ∈ u_ws RX1 TX1 7, w ∈ wsX3_lacksCredit := fun w h => List.mem_cons_of_mem _ (List.mem_append_right _ (h))
  have iX2 : ∀ w ∈ u_ws RX2 TX2 10, w ∈ wsX3_lacksCredit := fun w h => List.mem_cons_of_mem _ (List.mem_append_left _ (List.mem_append_right _ (h)))
  have iX3 : ∀ w ∈ u_ws RX3 TX3 11, w ∈ wsX3_lacksCredit := fun w h => List.mem_cons_of_mem _ (List.mem_append_left _ (List.mem_append_left _ (List.mem_append_right _ (h))))
  have hl := lv_entry ([.ref Nn, .int 0, .int (nI cx)]) (n := 3) (Nat.le_of_ble_eq_true rfl)
  rw [lg_entry_eq]
  generalize (lg_sl ([.ref Nn, .int 0, .int (nI cx)]) ++ List.replicate (3 - (lg_sl ([.ref Nn, .int 0, .int (nI cx)])).length) Slot.unset).toArray = ls at hl ⊢
  have hl : lv_has ls 3 [(0, .ref Nn), (1, .int 0), (2, .int (nI cx))] := hl
  generalize hQ : MQ below _ _ s _ _ _ = Q
  generalize hH : s.heap = H at hP ⊢
  have hS : va_S A s.heap H [] := by rw [← hH]; exact hS
  clear hH
  refine lv_aload_n hx hb dX3_lacksCredit_0 rfl (lv_at hl 0 rfl) ?_
  refine va_get (D := D) (ci := 3) (v := .ref Nb) (C := RX3) (T := TX3) (N := 11) hx hb hts iX3 hown hK hP 0 rfl rfl 10 (by decide) f23 (fun _ h9 => h9) rfl dX3_lacksCredit_1 ?_
  refine lv_iload_n hx hb dX3_lacksCredit_4 rfl (lv_at hl 1 rfl) ?_
  refine lv_iconst (v := 3) hx hb dX3_lacksCredit_5 (by decide) ?_
  refine lv_imul hx hb dX3_lacksCredit_6 ?_
  refine lv_eqi (y := 0) (by decide) ?_
  refine lv_iload_n hx hb dX3_lacksCredit_7 rfl (lv_at hl 2 rfl) ?_
  refine lv_iadd hx hb dX3_lacksCredit_8 ?_
  refine lv_eqi (y := (nI (0 + cx))) (nI_add (0) (cx)) ?_
  refine va_iald hx hb hK hP 2 0 rfl rfl (vp_in_nI (show 0 + cx < 12 by omega) (by decide)) dX3_lacksCredit_9 ?_
  refine lv_eqi (y := (fbuf (0 + cx))) (congrArg fbuf (nI_clamp (show 0 + cx < 2 ^ 31 by omega))) ?_
  refine lv_topi (fun y_1 _ => ?_)
  refine lv_if_le (tgt := 48) hx hb dX3_lacksCredit_10 (by decide) (fun cb_2 => ?_) (fun cb_2 => ?_)
  · skip
    refine lv_iconst (v := 0) hx hb dX3_lacksCredit_48 (by decide) ?_
    have hP9 := hP; have hD9 := hD
    subst hQ
    refine W.widen (k := 0) (n := 0) (Nat.le_of_ble_eq_true rfl) (Nat.le_of_ble_eq_true rfl) ?_
    exact W.zret (v := 0) (ty := .boolean) hx hb hr (rfl) (fun tS htS _ => ⟨⟨_, _, rfl, rfl, by rw [htS]; exact hP9, hD9⟩, hS.F htS⟩) hS.2.2 dX3_lacksCredit_49
  · skip
    refine lv_aload_n hx hb dX3_lacksCredit_13 rfl (lv_at hl 0 rfl) ?_
    refine va_get (D := D) (ci := 3) (v := .ref Nl) (C := RX3) (T := TX3) (N := 11) hx hb hts iX3 hown hK hP 0 rfl rfl 8 (by decide) f11 (fun _ h9 => h9) rfl dX3_lacksCredit_14 ?_
    refine lv_iload_n hx hb dX3_lacksCredit_17 rfl (lv_at hl 1 rfl) ?_
    refine va_aldq (C := "HopCredits$Link") hx hb hK hP 1 1 rfl rfl (by unfold vp_in; decide) dX3_lacksCredit_18 ?_
    refine lv_eqv (v2 := .ref L0) rfl ?_
    refine va_get (D := D) (ci := 2) (v := .ref L0l) (C := RX2) (T := TX2) (N := 10) hx hb hts iX2 hown hK hP 3 rfl rfl 9 (by decide) f128 (fun _ h9 => h9) rfl dX3_lacksCredit_19 ?_
    refine lv_iload_n hx hb dX3_lacksCredit_22 rfl (lv_at hl 2 rfl) ?_
    have hPq_3 := hP; have hDq_3 := hD; have hSq_3 := hS; have hlq_3 := hl; clear hP hD hS hl
    rcases (show cx = 0 ∨ cx = 1 ∨ cx = 2 by omega) with rfl | rfl | rfl
    · skip
      have hP := hPq_3; have hD := hDq_3; have hS := hSq_3; have hl := hlq_3; clear hPq_3 hDq_3 hSq_3 hlq_3
      refine va_aldq (C := "HopCredits$Lane") hx hb hK hP 4 2 rfl rfl (by unfold vp_in; decide) dX3_lacksCredit_23 ?_
      refine lv_eqv (v2 := .ref L0a) rfl ?_
      refine ky_Vi (As := []) (rest := []) ⟨hx, hb, hml, hown, hts⟩ ⟨hK, hN⟩ hZ hP hD hS hA [5] [0, 1, 2, 3, 4, 6, 7] (wc := [(L0a, .inr (1, [.int (fa0 0), .int (fa0 1), .int (fa0 2), .int (fa0 3), .int (fa0 4), .int (fa0 5), .int (fa0 6)]))]) (wr := [(Nn, .inr (3, [.int (fn 0), .int (fn 1), .int (fn 2), .int (fn 3), .int (fn 4), .int (fn 5), .int (fn 6), .int (fn 7), .ref Nl, .ref Nf, .ref Nb])), (Nl, .inl (g 1, 3, .inr (.inr (.inr (.inr (rf3 L0 M1 M2)))))), (Nb, .inl (g 0, 12, .inl fbuf)), (L0, .inr (2, [.int (nI d0), .int (fk0 1), .int (fk0 2), .int (fv0 3), .int (fv0 4), .int (fv0 5), .ref L0c, .ref L0u, .ref L0p, .ref L0l])), (L0l, .inl (g 2, 3, .inr (.inr (.inr (.inr (rf3 L0a L0b L0d)))))), (L0b, .inr (1, [.int (fb0 0), .int (fb0 1), .int (fb0 2), .int (fb0 3), .int (fb0 4), .int (fb0 5), .int (fb0 6)])), (L0d, .inr (1, [.int (fd0 0), .int (fd0 1), .int (fd0 2), .int (fd0 3), .int (fd0 4), .int (fd0 5), .int (fd0 6)]))]) rfl rfl rfl rfl (by decide) (k_X1_out l D g H.size L0a fa0) (cwV 0 hts gX3_lacksCredit_X1_out rfl rfl rfl (by decide +kernel) ⟨(Nat.le_of_ble_eq_true rfl), (Nat.le_of_ble_eq_true rfl)⟩) 5 1 rfl rfl rfl rfl hl.1 rfl (Nat.le_of_ble_eq_true rfl) dX3_lacksCredit_24 ⟨(Nat.le_of_ble_eq_true rfl), (Nat.le_of_ble_eq_true rfl)⟩ (fun r_4 u H locs hw hP2 hD2 hS2 => ?_)
      clear hP hD hS
      obtain ⟨zr_5, rfl, rfl, hf_6⟩ := hw
      have hPD : PD D A [(Nn, .inr (3, [.int (fn 0), .int (fn 1), .int (fn 2), .int (fn 3), .int (fn 4), .int (fn 5), .int (fn 6), .int (fn 7), .ref Nl, .ref Nf, .ref Nb])), (Nl, .inl (g 1, 3, .inr (.inr (.inr (.inr (rf3 L0 M1 M2)))))), (Nb, .inl (g 0, 12, .inl fbuf)), (L0, .inr (2, [.int (nI d0), .int (fk0 1), .int (fk0 2), .int (fv0 3), .int (fv0 4), .int (fv0 5), .ref L0c, .ref L0u, .ref L0p, .ref L0l])), (L0l, .inl (g 2, 3, .inr (.inr (.inr (.inr (rf3 L0a L0b L0d)))))), (L0b, .inr (1, [.int (fb0 0), .int (fb0 1), .int (fb0 2), .int (fb0 3), .int (fb0 4), .int (fb0 5), .int (fb0 6)])), (L0d, .inr (1, [.int (fd0 0), .int (fd0 1), .int (fd0 2), .int (fd0 3), .int (fd0 4), .int (fd0 5), .int (fd0 6)])), (L0a, .inr (1, [.int (fa0 0), .int (fa0 1), .int (fa0 2), .int (fa0 3), .int (fa0 4), .int (fa0 5), .int (fa0 6)]))] H := ⟨hP2, hD2⟩
      have hS := hS2; clear hP2 hD2 hS2; have hP := hPD.1; have hD := hPD.2; clear hPD
      refine W.widen (k := 0) (n := 0) (Nat.le_of_ble_eq_true rfl) (Nat.le_of_ble_eq_true rfl) ?_
      refine lv_aload_n hx hb dX3_lacksCredit_27 rfl (lv_at hl 0 rfl) ?_
      refine va_get (D := D) (ci := 3) (v := .ref Nl) (C := RX3) (T := TX3) (N := 11) hx hb hts iX3 hown hK hP 0 rfl rfl 8 (by decide) f11 (fun _ h9 => h9) rfl dX3_lacksCredit_28 ?_
      refine lv_iload_n hx hb dX3_lacksCredit_31 rfl (lv_at hl 1 rfl) ?_
      refine va_aldq (C := "HopCredits$Link") hx hb hK hP 1 1 rfl rfl (by unfold vp_in; decide) dX3_lacksCredit_32 ?_
      refine lv_eqv (v2 := .ref L0) rfl ?_
      refine va_get (D := D) (ci := 2) (v := .ref L0l) (C := RX2) (T := TX2) (N := 10) hx hb hts iX2 hown hK hP 3 rfl rfl 9 (by decide) f128 (fun _ h9 => h9) rfl dX3_lacksCredit_33 ?_
      refine lv_iload_n hx hb dX3_lacksCredit_36 rfl (lv_at hl 2 rfl) ?_
      refine va_aldq (C := "HopCredits$Lane") hx hb hK hP 4 2 rfl rfl (by unfold vp_in; decide) dX3_lacksCredit_37 ?_
      refine lv_eqv (v2 := .ref L0a) rfl ?_
      refine va_get (D := D) (ci := 1) (v := .int (fa0 3)) (C := RX1) (T := TX1) (N := 7) hx hb hts iX1 hown hK hP 7 rfl rfl 3 (by decide) f195 (fun _ h9 => h9) rfl dX3_lacksCredit_38 ?_
      refine lv_icmp_lt (tgt := 48) hx hb dX3_lacksCredit_41 (by decide) (fun cb_7 => ?_) (fun cb_7 => ?_)
      · skip
        refine lv_iconst (v := 0) hx hb dX3_lacksCredit_48 (by decide) ?_
        have hPD9 : PD D A [(Nn, .inr (3, [.int (fn 0), .int (fn 1), .int (fn 2), .int (fn 3), .int (fn 4), .int (fn 5), .int (fn 6), .int (fn 7), .ref Nl, .ref Nf, .ref Nb])), (Nl, .inl (g 1, 3, .inr (.inr (.inr (.inr (rf3 L0 M1 M2)))))), (Nb, .inl (g 0, 12, .inl fbuf)), (L0, .inr (2, [.int (nI d0), .int (fk0 1), .int (fk0 2), .int (fv0 3), .int (fv0 4), .int (fv0 5), .ref L0c, .ref L0u, .ref L0p, .ref L0l])), (L0l, .inl (g 2, 3, .inr (.inr (.inr (.inr (rf3 L0a L0b L0d)))))), (L0a, .inr (1, [.int (fa0 0), .int (fa0 1), .int (fa0 2), .int (fa0 3), .int (fa0 4), .int (fa0 5), .int (fa0 6)])), (L0b, .inr (1, [.int (fb0 0), .int (fb0 1), .int (fb0 2), .int (fb0 3), .int (fb0 4), .int (fb0 5), .int (fb0 6)])), (L0d, .inr (1, [.int (fd0 0), .int (fd0 1), .int (fd0 2), .int (fd0 3), .int (fd0 4), .int (fd0 5), .int (fd0 6)]))] H := ⟨hP.sub [0, 1, 2, 3, 4, 7, 5, 6] rfl, hD.sub [0, 1, 2, 3, 4, 7, 5, 6] (by decide) rfl⟩
        have hP9 := hPD9.1; have hD9 := hPD9.2
        subst hQ
        refine W.widen (k := 0) (n := 0) (Nat.le_of_ble_eq_true rfl) (Nat.le_of_ble_eq_true rfl) ?_
        exact W.zret (v := 0) (ty := .boolean) hx hb hr (rfl) (fun tS htS _ => ⟨⟨_, _, rfl, rfl, by rw [htS]; exact hP9, hD9⟩, hS.F htS⟩) hS.2.2 dX3_lacksCredit_49
      · skip
        refine lv_iconst (v := 1) hx hb dX3_lacksCredit_44 (by decide) ?_
        refine lv_goto (tgt := 49) hx hb dX3_lacksCredit_45 (by decide) ?_
        have hPD9 : PD D A [(Nn, .inr (3, [.int (fn 0), .int (fn 1), .int (fn 2), .int (fn 3), .int (fn 4), .int (fn 5), .int (fn 6), .int (fn 7), .ref Nl, .ref Nf, .ref Nb])), (Nl, .inl (g 1, 3, .inr (.inr (.inr (.inr (rf3 L0 M1 M2)))))), (Nb, .inl (g 0, 12, .inl fbuf)), (L0, .inr (2, [.int (nI d0), .int (fk0 1), .int (fk0 2), .int (fv0 3), .int (fv0 4), .int (fv0 5), .ref L0c, .ref L0u, .ref L0p, .ref L0l])), (L0l, .inl (g 2, 3, .inr (.inr (.inr (.inr (rf3 L0a L0b L0d)))))), (L0a, .inr (1, [.int (fa0 0), .int (fa0 1), .int (fa0 2), .int (fa0 3), .int (fa0 4), .int (fa0 5), .int (fa0 6)])), (L0b, .inr (1, [.int (fb0 0), .int (fb0 1), .int (fb0 2), .int (fb0 3), .int (fb0 4), .int (fb0 5), .int (fb0 6)])), (L0d, .inr (1, [.int (fd0 0), .int (fd0 1), .int (fd0 2), .int (fd0 3), .int (fd0 4), .int (fd0 5), .int (fd0 6)]))] H := ⟨hP.sub [0, 1, 2, 3, 4, 7, 5, 6] rfl, hD.sub [0, 1, 2, 3, 4, 7, 5, 6] (by decide) rfl⟩
        have hP9 := hPD9.1; have hD9 := hPD9.2
        subst hQ
        refine W.widen (k := 0) (n := 0) (Nat.le_of_ble_eq_true rfl) (Nat.le_of_ble_eq_true rfl) ?_
        exact W.zret (v := 1) (ty := .boolean) hx hb hr (rfl) (fun tS htS _ => ⟨⟨_, _, rfl, rfl, by rw [htS]; exact hP9, hD9⟩, hS.F htS⟩) hS.2.2 dX3_lacksCredit_49
    · skip
      have hP := hPq_3; have hD := hDq_3; have hS := hSq_3; have hl := hlq_3; clear hPq_3 hDq_3 hSq_3 hlq_3
      refine va_aldq (C := "HopCredits$Lane") hx hb hK hP 4 2 rfl rfl (by unfold vp_in; decide) dX3_lacksCredit_23 ?_
      refine lv_eqv (v2 := .ref L0b) rfl ?_
      refine ky_Vi (As := []) (rest := []) ⟨hx, hb, hml, hown, hts⟩ ⟨hK, hN⟩ hZ hP hD hS hA [6] [0, 1, 2, 3, 4, 5, 7] (wc := [(L0b, .inr (1, [.int (fb0 0), .int (fb0 1), .int (fb0 2), .int (fb0 3), .int (fb0 4), .int (fb0 5), .int (fb0 6)]))]) (wr := [(Nn, .inr (3, [.int (fn 0), .int (fn 1), .int (fn 2), .int (fn 3), .int (fn 4), .int (fn 5), .int (fn 6), .int (fn 7), .ref Nl, .ref Nf, .ref Nb])), (Nl, .inl (g 1, 3, .inr (.inr (.inr (.inr (rf3 L0 M1 M2)))))), (Nb, .inl (g 0, 12, .inl fbuf)), (L0, .inr (2, [.int (nI d0), .int (fk0 1), .int (fk0 2), .int (fv0 3), .int (fv0 4), .int (fv0 5), .ref L0c, .ref L0u, .ref L0p, .ref L0l])), (L0l, .inl (g 2, 3, .inr (.inr (.inr (.inr (rf3 L0a L0b L0d)))))), (L0a, .inr (1, [.int (fa0 0), .int (fa0 1), .int (fa0 2), .int (fa0 3), .int (fa0 4), .int (fa0 5), .int (fa0 6)])), (L0d, .inr (1, [.int (fd0 0), .int (fd0 1), .int (fd0 2), .int (fd0 3), .int (fd0 4), .int (fd0 5), .int (fd0 6)]))]) rfl rfl rfl rfl (by decide) (k_X1_out l D g H.size L0b fb0) (cwV 0 hts gX3_lacksCredit_X1_out rfl rfl rfl (by decide +kernel) ⟨(Nat.le_of_ble_eq_true rfl), (Nat.le_of_ble_eq_true rfl)⟩) 6 1 rfl rfl rfl rfl hl.1 rfl (Nat.le_of_ble_eq_true rfl) dX3_lacksCredit_24 ⟨(Nat.le_of_ble_eq_true rfl), (Nat.le_of_ble_eq_true rfl)⟩ (fun r_8 u H locs hw hP2 hD2 hS2 => ?_)
      clear hP hD hS
      obtain ⟨zr_9, rfl, rfl, hf_10⟩ := hw
      have hPD : PD D A [(Nn, .inr (3, [.int (fn 0), .int (fn 1), .int (fn 2), .int (fn 3), .int (fn 4), .int (fn 5), .int (fn 6), .int (fn 7), .ref Nl, .ref Nf, .ref Nb])), (Nl, .inl (g 1, 3, .inr (.inr (.inr (.inr (rf3 L0 M1 M2)))))), (Nb, .inl (g 0, 12, .inl fbuf)), (L0, .inr (2, [.int (nI d0), .int (fk0 1), .int (fk0 2), .int (fv0 3), .int (fv0 4), .int (fv0 5), .ref L0c, .ref L0u, .ref L0p, .ref L0l])), (L0l, .inl (g 2, 3, .inr (.inr (.inr (.inr (rf3 L0a L0b L0d)))))), (L0a, .inr (1, [.int (fa0 0), .int (fa0 1), .int (fa0 2), .int (fa0 3), .int (fa0 4), .int (fa0 5), .int (fa0 6)])), (L0d, .inr (1, [.int (fd0 0), .int (fd0 1), .int (fd0 2), .int (fd0 3), .int (fd0 4), .int (fd0 5), .int (fd0 6)])), (L0b, .inr (1, [.int (fb0 0), .int (fb0 1), .int (fb0 2), .int (fb0 3), .int (fb0 4), .int (fb0 5), .int (fb0 6)]))] H := ⟨hP2, hD2⟩
      have hS := hS2; clear hP2 hD2 hS2; have hP := hPD.1; have hD := hPD.2; clear hPD
      refine W.widen (k := 0) (n := 0) (Nat.le_of_ble_eq_true rfl) (Nat.le_of_ble_eq_true rfl) ?_
      refine lv_aload_n hx hb dX3_lacksCredit_27 rfl (lv_at hl 0 rfl) ?_
      refine va_get (D := D) (ci := 3) (v := .ref Nl) (C := RX3) (T := TX3) (N := 11) hx hb hts iX3 hown hK hP 0 rfl rfl 8 (by decide) f11 (fun _ h9 => h9) rfl dX3_lacksCredit_28 ?_
      refine lv_iload_n hx hb dX3_lacksCredit_31 rfl (lv_at hl 1 rfl) ?_
      refine va_aldq (C := "HopCredits$Link") hx hb hK hP 1 1 rfl rfl (by unfold vp_in; decide) dX3_lacksCredit_32 ?_
      refine lv_eqv (v2 := .ref L0) rfl ?_
      refine va_get (D := D) (ci := 2) (v := .ref L0l) (C := RX2) (T := TX2) (N := 10) hx hb hts iX2 hown hK hP 3 rfl rfl 9 (by decide) f128 (fun _ h9 => h9) rfl dX3_lacksCredit_33 ?_
      refine lv_iload_n hx hb dX3_lacksCredit_36 rfl (lv_at hl 2 rfl) ?_
      refine va_aldq (C := "HopCredits$Lane") hx hb hK hP 4 2 rfl rfl (by unfold vp_in; decide) dX3_lacksCredit_37 ?_
      refine lv_eqv (v2 := .ref L0b) rfl ?_
      refine va_get (D := D) (ci := 1) (v := .int (fb0 3)) (C := RX1) (T := TX1) (N := 7) hx hb hts iX1 hown hK hP 7 rfl rfl 3 (by decide) f195 (fun _ h9 => h9) rfl dX3_lacksCredit_38 ?_
      refine lv_icmp_lt (tgt := 48) hx hb dX3_lacksCredit_41 (by decide) (fun cb_11 => ?_) (fun cb_11 => ?_)
      · skip
        refine lv_iconst (v := 0) hx hb dX3_lacksCredit_48 (by decide) ?_
        have hPD9 : PD D A [(Nn, .inr (3, [.int (fn 0), .int (fn 1), .int (fn 2), .int (fn 3), .int (fn 4), .int (fn 5), .int (fn 6), .int (fn 7), .ref Nl, .ref Nf, .ref Nb])), (Nl, .inl (g 1, 3, .inr (.inr (.inr (.inr (rf3 L0 M1 M2)))))), (Nb, .inl (g 0, 12, .inl fbuf)), (L0, .inr (2, [.int (nI d0), .int (fk0 1), .int (fk0 2), .int (fv0 3), .int (fv0 4), .int (fv0 5), .ref L0c, .ref L0u, .ref L0p, .ref L0l])), (L0l, .inl (g 2, 3, .inr (.inr (.inr (.inr (rf3 L0a L0b L0d)))))), (L0a, .inr (1, [.int (fa0 0), .int (fa0 1), .int (fa0 2), .int (fa0 3), .int (fa0 4), .int (fa0 5), .int (fa0 6)])), (L0b, .inr (1, [.int (fb0 0), .int (fb0 1), .int (fb0 2), .int (fb0 3), .int (fb0 4), .int (fb0 5), .int (fb0 6)])), (L0d, .inr (1, [.int (fd0 0), .int (fd0 1), .int (fd0 2), .int (fd0 3), .int (fd0 4), .int (fd0 5), .int (fd0 6)]))] H := ⟨hP.sub [0, 1, 2, 3, 4, 5, 7, 6] rfl, hD.sub [0, 1, 2, 3, 4, 5, 7, 6] (by decide) rfl⟩
        have hP9 := hPD9.1; have hD9 := hPD9.2
        subst hQ
        refine W.widen (k := 0) (n := 0) (Nat.le_of_ble_eq_true rfl) (Nat.le_of_ble_eq_true rfl) ?_
        exact W.zret (v := 0) (ty := .boolean) hx hb hr (rfl) (fun tS htS _ => ⟨⟨_, _, rfl, rfl, by rw [htS]; exact hP9, hD9⟩, hS.F htS⟩) hS.2.2 dX3_lacksCredit_49
      · skip
        refine lv_iconst (v := 1) hx hb dX3_lacksCredit_44 (by decide) ?_
        refine lv_goto (tgt := 49) hx hb dX3_lacksCredit_45 (by decide) ?_
        have hPD9 : PD D A [(Nn, .inr (3, [.int (fn 0), .int (fn 1), .int (fn 2), .int (fn 3), .int (fn 4), .int (fn 5), .int (fn 6), .int (fn 7), .ref Nl, .ref Nf, .ref Nb])), (Nl, .inl (g 1, 3, .inr (.inr (.inr (.inr (rf3 L0 M1 M2)))))), (Nb, .inl (g 0, 12, .inl fbuf)), (L0, .inr (2, [.int (nI d0), .int (fk0 1), .int (fk0 2), .int (fv0 3), .int (fv0 4), .int (fv0 5), .ref L0c, .ref L0u, .ref L0p, .ref L0l])), (L0l, .inl (g 2, 3, .inr (.inr (.inr (.inr (rf3 L0a L0b L0d)))))), (L0a, .inr (1, [.int (fa0 0), .int (fa0 1), .int (fa0 2), .int (fa0 3), .int (fa0 4), .int (fa0 5), .int (fa0 6)])), (L0b, .inr (1, [.int (fb0 0), .int (fb0 1), .int (fb0 2), .int (fb0 3), .int (fb0 4), .int (fb0 5), .int (fb0 6)])), (L0d, .inr (1, [.int (fd0 0), .int (fd0 1), .int (fd0 2), .int (fd0 3), .int (fd0 4), .int (fd0 5), .int (fd0 6)]))] H := ⟨hP.sub [0, 1, 2, 3, 4, 5, 7, 6] rfl, hD.sub [0, 1, 2, 3, 4, 5, 7, 6] (by decide) rfl⟩
        have hP9 := hPD9.1; have hD9 := hPD9.2
        subst hQ
        refine W.widen (k := 0) (n := 0) (Nat.le_of_ble_eq_true rfl) (Nat.le_of_ble_eq_true rfl) ?_
        exact W.zret (v := 1) (ty := .boolean) hx hb hr (rfl) (fun tS htS _ => ⟨⟨_, _, rfl, rfl, by rw [htS]; exact hP9, hD9⟩, hS.F htS⟩) hS.2.2 dX3_lacksCredit_49
    · skip
      have hP := hPq_3; have hD := hDq_3; have hS := hSq_3; have hl := hlq_3; clear hPq_3 hDq_3 hSq_3 hlq_3
      refine va_aldq (C := "HopCredits$Lane") hx hb hK hP 4 2 rfl rfl (by unfold vp_in; decide) dX3_lacksCredit_23 ?_
      refine lv_eqv (v2 := .ref L0d) rfl ?_
      refine ky_Vi (As := []) (rest := []) ⟨hx, hb, hml, hown, hts⟩ ⟨hK, hN⟩ hZ hP hD hS hA [7] [0, 1, 2, 3, 4, 5, 6] (wc := [(L0d, .inr (1, [.int (fd0 0), .int (fd0 1), .int (fd0 2), .int (fd0 3), .int (fd0 4), .int (fd0 5), .int (fd0 6)]))]) (wr := [(Nn, .inr (3, [.int (fn 0), .int (fn 1), .int (fn 2), .int (fn 3), .int (fn 4), .int (fn 5), .int (fn 6), .int (fn 7), .ref Nl, .ref Nf, .ref Nb])), (Nl, .inl (g 1, 3, .inr (.inr (.inr (.inr (rf3 L0 M1 M2)))))), (Nb, .inl (g 0, 12, .inl fbuf)), (L0, .inr (2, [.int (nI d0), .int (fk0 1), .int (fk0 2), .int (fv0 3), .int (fv0 4), .int (fv0 5), .ref L0c, .ref L0u, .ref L0p, .ref L0l])), (L0l, .inl (g 2, 3, .inr (.inr (.inr (.inr (rf3 L0a L0b L0d)))))), (L0a, .inr (1, [.int (fa0 0), .int (fa0 1), .int (fa0 2), .int (fa0 3), .int (fa0 4), .int (fa0 5), .int (fa0 6)])), (L0b, .inr (1, [.int (fb0 0), .int (fb0 1), .int (fb0 2), .int (fb0 3), .int (fb0 4), .int (fb0 5), .int (fb0 6)]))]) rfl rfl rfl rfl (by decide) (k_X1_out l D g H.size L0d fd0) (cwV 0 hts gX3_lacksCredit_X1_out rfl rfl rfl (by decide +kernel) ⟨(Nat.le_of_ble_eq_true rfl), (Nat.le_of_ble_eq_true rfl)⟩) 7 1 rfl rfl rfl rfl hl.1 rfl (Nat.le_of_ble_eq_true rfl) dX3_lacksCredit_24 ⟨(Nat.le_of_ble_eq_true rfl), (Nat.le_of_ble_eq_true rfl)⟩ (fun r_12 u H locs hw hP2 hD2 hS2 => ?_)
      clear hP hD hS
      obtain ⟨zr_13, rfl, rfl, hf_14⟩ := hw
      have hPD : PD D A [(Nn, .inr (3, [.int (fn 0), .int (fn 1), .int (fn 2), .int (fn 3), .int (fn 4), .int (fn 5), .int (fn 6), .int (fn 7), .ref Nl, .ref Nf, .ref Nb])), (Nl, .inl (g 1, 3, .inr (.inr (.inr (.inr (rf3 L0 M1 M2)))))), (Nb, .inl (g 0, 12, .inl fbuf)), (L0, .inr (2, [.int (nI d0), .int (fk0 1), .int (fk0 2), .int (fv0 3), .int (fv0 4), .int (fv0 5), .ref L0c, .ref L0u, .ref L0p, .ref L0l])), (L0l, .inl (g 2, 3, .inr (.inr (.inr (.inr (rf3 L0a L0b L0d)))))), (L0a, .inr (1, [.int (fa0 0), .int (fa0 1), .int (fa0 2), .int (fa0 3), .int (fa0 4), .int (fa0 5), .int (fa0 6)])), (L0b, .inr (1, [.int (fb0 0), .int (fb0 1), .int (fb0 2), .int (fb0 3), .int (fb0 4), .int (fb0 5), .int (fb0 6)])), (L0d, .inr (1, [.int (fd0 0), .int (fd0 1), .int (fd0 2), .int (fd0 3), .int (fd0 4), .int (fd0 5), .int (fd0 6)]))] H := ⟨hP2, hD2⟩
      have hS := hS2; clear hP2 hD2 hS2; have hP := hPD.1; have hD := hPD.2; clear hPD
      refine W.widen (k := 0) (n := 0) (Nat.le_of_ble_eq_true rfl) (Nat.le_of_ble_eq_true rfl) ?_
      refine lv_aload_n hx hb dX3_lacksCredit_27 rfl (lv_at hl 0 rfl) ?_
      refine va_get (D := D) (ci := 3) (v := .ref Nl) (C := RX3) (T := TX3) (N := 11) hx hb hts iX3 hown hK hP 0 rfl rfl 8 (by decide) f11 (fun _ h9 => h9) rfl dX3_lacksCredit_28 ?_
      refine lv_iload_n hx hb dX3_lacksCredit_31 rfl (lv_at hl 1 rfl) ?_
      refine va_aldq (C := "HopCredits$Link") hx hb hK hP 1 1 rfl rfl (by unfold vp_in; decide) dX3_lacksCredit_32 ?_
      refine lv_eqv (v2 := .ref L0) rfl ?_
      refine va_get (D := D) (ci := 2) (v := .ref L0l) (C := RX2) (T := TX2) (N := 10) hx hb hts iX2 hown hK hP 3 rfl rfl 9 (by decide) f128 (fun _ h9 => h9) rfl dX3_lacksCredit_33 ?_
      refine lv_iload_n hx hb dX3_lacksCredit_36 rfl (lv_at hl 2 rfl) ?_
      refine va_aldq (C := "HopCredits$Lane") hx hb hK hP 4 2 rfl rfl (by unfold vp_in; decide) dX3_lacksCredit_37 ?_
      refine lv_eqv (v2 := .ref L0d) rfl ?_
      refine va_get (D := D) (ci := 1) (v := .int (fd0 3)) (C := RX1) (T := TX1) (N := 7) hx hb hts iX1 hown hK hP 7 rfl rfl 3 (by decide) f195 (fun _ h9 => h9) rfl dX3_lacksCredit_38 ?_
      refine lv_icmp_lt (tgt := 48) hx hb dX3_lacksCredit_41 (by decide) (fun cb_15 => ?_) (fun cb_15 => ?_)
      · skip
        refine lv_iconst (v := 0) hx hb dX3_lacksCredit_48 (by decide) ?_
        have hP9 := hP; have hD9 := hD
        subst hQ
        refine W.widen (k := 0) (n := 0) (Nat.le_of_ble_eq_true rfl) (Nat.le_of_ble_eq_true rfl) ?_
        exact W.zret (v := 0) (ty := .boolean) hx hb hr (rfl) (fun tS htS _ => ⟨⟨_, _, rfl, rfl, by rw [htS]; exact hP9, hD9⟩, hS.F htS⟩) hS.2.2 dX3_lacksCredit_49
      · skip
        refine lv_iconst (v := 1) hx hb dX3_lacksCredit_44 (by decide) ?_
        refine lv_goto (tgt := 49) hx hb dX3_lacksCredit_45 (by decide) ?_
        have hP9 := hP; have hD9 := hD
        subst hQ
        refine W.widen (k := 0) (n := 0) (Nat.le_of_ble_eq_true rfl) (Nat.le_of_ble_eq_true rfl) ?_
        exact W.zret (v := 1) (ty := .boolean) hx hb hr (rfl) (fun tS htS _ => ⟨⟨_, _, rfl, rfl, by rw [htS]; exact hP9, hD9⟩, hS.F htS⟩) hS.2.2 dX3_lacksCredit_49

set_option maxHeartbeats 4000000 in
set_option maxRecDepth 100000 in
theorem k_X3_lacksCredit_1 (l : Launch) (D : va_G) (g : Nat → ClassId) (sz : Nat) (Nn : Nat) (cx : Nat) (fn : Nat → Int32) (Nl : Nat) (Nf : Nat) (Nb : Nat) (M0 : Nat) (L0 : Nat) (M2 : Nat) (fbuf : Nat → Int32) (d0 : Nat) (fk0 : Nat → Int32) (fv0 : Nat → Int32) (L0c : Nat) (L0u : Nat) (L0p : Nat) (L0l : Nat) (L0a : Nat) (L0b : Nat) (L0d : Nat) (fa0 : Nat → Int32) (fb0 : Nat → Int32) (fd0 : Nat → Int32) (h0 : cx < 3) : Met l yX3_lacksCredit wsX3_lacksCredit ({ frames := 1, cells := 0, slots := 0, locals := 20 }) (va_Pc [.ref Nn, .int 1, .int (nI cx)] (pre D g sz [(Nn, .inr (3, [.int (fn 0), .int (fn 1), .int (fn 2), .int (fn 3), .int (fn 4), .int (fn 5), .int (fn 6), .int (fn 7), .ref Nl, .ref Nf, .ref Nb])), (Nl, .inl (g 1, 3, .inr (.inr (.inr (.inr (rf3 M0 L0 M2)))))), (Nb, .inl (g 0, 12, .inl fbuf)), (L0, .inr (2, [.int (nI d0), .int (fk0 1), .int (fk0 2), .int (fv0 3), .int (fv0 4), .int (fv0 5), .ref L0c, .ref L0u, .ref L0p, .ref L0l])), (L0l, .inl (g 2, 3, .inr (.inr (.inr (.inr (rf3 L0a L0b L0d)))))), (L0a, .inr (1, [.int (fa0 0), .int (fa0 1), .int (fa0 2), .int (fa0 3), .int (fa0 4), .int (fa0 5), .int (fa0 6)])), (L0b, .inr (1, [.int (fb0 0), .int (fb0 1), .int (fb0 2), .int (fb0 3), .int (fb0 4), .int (fb0 5), .int (fb0 6)])), (L0d, .inr (1, [.int (fd0 0), .int (fd0 1), .int (fd0 2), .int (fd0 3), .int (fd0 4), .int (fd0 5), .int (fd0 6)]))])) (va_Qi (fun (r : Int32) (u : va_W) => u = [(Nn, .inr (3, [.int (fn 0), .int (fn 1), .int (fn 2), .int (fn 3), .int (fn 4), .int (fn 5), .int (fn 6), .int (fn 7), .ref Nl, .ref Nf, .ref Nb])), (Nl, .inl (g 1, 3, .inr (.inr (.inr (.inr (rf3 M0 L0 M2)))))), (Nb, .inl (g 0, 12, .inl fbuf)), (L0, .inr (2, [.int (nI d0), .int (fk0 1), .int (fk0 2), .int (fv0 3), .int (fv0 4), .int (fv0 5), .ref L0c, .ref L0u, .ref L0p, .ref L0l])), (L0l, .inl (g 2, 3, .inr (.inr (.inr (.inr (rf3 L0a L0b L0d)))))), (L0a, .inr (1, [.int (fa0 0), .int (fa0 1), .int (fa0 2), .int (fa0 3), .int (fa0 4), .int (fa0 5), .int (fa0 6)])), (L0b, .inr (1, [.int (fb0 0), .int (fb0 1), .int (fb0 2), .int (fb0 3), .int (fb0 4), .int (fb0 5), .int (fb0 6)])), (L0d, .inr (1, [.int (fd0 0), .int (fd0 1), .int (fd0 2), .int (fd0 3), .int (fd0 4), .int (fd0 5), .int (fd0 6)]))]) (wd D (va_A [(Nn, .inr (3, [.int (fn 0), .int (fn 1), .int (fn 2), .int (fn 3), .int (fn 4), .int (fn 5), .int (fn 6), .int (fn 7), .ref Nl, .ref Nf, .ref Nb])), (Nl, .inl (g 1, 3, .inr (.inr (.inr (.inr (rf3 M0 L0 M2)))))), (Nb, .inl (g 0, 12, .inl fbuf)), (L0, .inr (2, [.int (nI d0), .int (fk0 1), .int (fk0 2), .int (fv0 3), .int (fv0 4), .int (fv0 5), .ref L0c, .ref L0u, .ref L0p, .ref L0l])), (L0l, .inl (g 2, 3, .inr (.inr (.inr (.inr (rf3 L0a L0b L0d)))))), (L0a, .inr (1, [.int (fa0 0), .int (fa0 1), .int (fa0 2), .int (fa0 3), .int (fa0 4), .int (fa0 5), .int (fa0 6)])), (L0b, .inr (1, [.int (fb0 0), .int (fb0 1), .int (fb0 2), .int (fb0 3), .int (fb0 4), .int (fb0 5), .int (fb0 6)])), (L0d, .inr (1, [.int (fd0 0), .int (fd0 1), .int (fd0 2), .int (fd0 3), .int (fd0 4), .int (fd0 5), .int (fd0 6)]))] sz)) (va_A [(Nn, .inr (3, [.int (fn 0), .int (fn 1), .int (fn 2), .int (fn 3), .int (fn 4), .int (fn 5), .int (fn 6), .int (fn 7), .ref Nl, .ref Nf, .ref Nb])), (Nl, .inl (g 1, 3, .inr (.inr (.inr (.inr (rf3 M0 L0 M2)))))), (Nb, .inl (g 0, 12, .inl fbuf)), (L0, .inr (2, [.int (nI d0), .int (fk0 1), .int (fk0 2), .int (fv0 3), .int (fv0 4), .int (fv0 5), .ref L0c, .ref L0u, .ref L0p, .ref L0l])), (L0l, .inl (g 2, 3, .inr (.inr (.inr (.inr (rf3 L0a L0b L0d)))))), (L0a, .inr (1, [.int (fa0 0), .int (fa0 1), .int (fa0 2), .int (fa0 3), .int (fa0 4), .int (fa0 5), .int (fa0 6)])), (L0b, .inr (1, [.int (fb0 0), .int (fb0 1), .int (fb0 2), .int (fb0 3), .int (fb0 4), .int (fb0 5), .int (fb0 6)])), (L0d, .inr (1, [.int (fd0 0), .int (fd0 1), .int (fd0 2), .int (fd0 3), .int (fd0 4), .int (fd0 5), .int (fd0 6)]))] sz)) 0 0 (va_A [(Nn, .inr (3, [.int (fn 0), .int (fn 1), .int (fn 2), .int (fn 3), .int (fn 4), .int (fn 5), .int (fn 6), .int (fn 7), .ref Nl, .ref Nf, .ref Nb])), (Nl, .inl (g 1, 3, .inr (.inr (.inr (.inr (rf3 M0 L0 M2)))))), (Nb, .inl (g 0, 12, .inl fbuf)), (L0, .inr (2, [.int (nI d0), .int (fk0 1), .int (fk0 2), .int (fv0 3), .int (fv0 4), .int (fv0 5), .ref L0c, .ref L0u, .ref L0p, .ref L0l])), (L0l, .inl (g 2, 3, .inr (.inr (.inr (.inr (rf3 L0a L0b L0d)))))), (L0a, .inr (1, [.int (fa0 0), .int (fa0 1), .int (fa0 2), .int (fa0 3), .int (fa0 4), .int (fa0 5), .int (fa0 6)])), (L0b, .inr (1, [.int (fb0 0), .int (fb0 1), .int (fb0 2), .int (fb0 3), .int (fb0 4), .int (fb0 5), .int (fb0 6)])), (L0d, .inr (1, [.int (fd0 0), .int (fd0 1), .int (fd0 2), .int (fd0 3), .int (fd0 4), .int (fd0 5), .int (fd0 6)]))] sz) := by
  refine Met.ofW (cc := cX3_lacksCredit) (maxL := 3) (ret := (some .boolean)) (by decide) rfl ?_
  intro p e s m args below meth c s₁ B hml hv
  obtain ⟨rfl, hsz, hP, ⟨hK, hN⟩, hD0, hZ⟩ := hv
  have hx := B.exec
  have hb := B.bytes
  have hr := B.returns
  have hts := atoms_spec (ws := wsX3_lacksCredit) B.pre
  have hown : s.vm.findClass RX3 = some m.cls := findClass_of_methodNamed B.named
  have hlocks := B.notSynchronized
  clear B
  subst hsz
  have hD := hD0.self (sz := s.heap.size)
  clear hD0
  generalize hAe : va_A [(Nn, .inr (3, [.int (fn 0), .int (fn 1), .int (fn 2), .int (fn 3), .int (fn 4), .int (fn 5), .int (fn 6), .int (fn 7), .ref Nl, .ref Nf, .ref Nb])), (Nl, .inl (g 1, 3, .inr (.inr (.inr (.inr (rf3 M0 L0 M2)))))), (Nb, .inl (g 0, 12, .inl fbuf)), (L0, .inr (2, [.int (nI d0), .int (fk0 1), .int (fk0 2), .int (fv0 3), .int (fv0 4), .int (fv0 5), .ref L0c, .ref L0u, .ref L0p, .ref L0l])), (L0l, .inl (g 2, 3, .inr (.inr (.inr (.inr (rf3 L0a L0b L0d)))))), (L0a, .inr (1, [.int (fa0 0), .int (fa0 1), .int (fa0 2), .int (fa0 3), .int (fa0 4), .int (fa0 5), .int (fa0 6)])), (L0b, .inr (1, [.int (fb0 0), .int (fb0 1), .int (fb0 2), .int (fb0 3), .int (fb0 4), .int (fb0 5), .int (fb0 6)])), (L0d, .inr (1, [.int (fd0 0), .int (fd0 1), .int (fd0 2), .int (fd0 3), .int (fd0 4), .int (fd0 5), .int (fd0 6)]))] s.heap.size = A at hD hZ ⊢
  have hA : ∀ q : Nat, s.heap.size ≤ q → A q := fun q h => by rw [← hAe]; exact Or.inr h
  have hS : va_S A s.heap s.heap [] := va_S.rf
  have f11 := hts (.fieldLink RX3 11 "HopCredits$Net" "links" "[LHopCredits$Link;") (List.mem_of_getElem? (i := 2) rfl)
  have f128 := hts (.fieldLink RX3 128 "HopCredits$Link" "lanes" "[LHopCredits$Lane;") (List.mem_of_getElem? (i := 3) rfl)
  have f195 := hts (.fieldLink RX3 195 "HopCredits$Lane" "zone" "I") (List.mem_of_getElem? (i := 4) rfl)
  have f23 := hts (.fieldLink RX3 23 "HopCredits$Net" "buffers" "[I") (List.mem_of_getElem? (i := 1) rfl)
  have iX1 : ∀ w ∈ u_ws RX1 TX1 7, w ∈ wsX3_lacksCredit := fun w h => List.mem_cons_of_mem _ (List.mem_append_right _ (h))
  have iX2 : ∀ w ∈ u_ws RX2 TX2 10, w ∈ wsX3_lacksCredit := fun w h => List.mem_cons_of_mem _ (List.mem_append_left _ (List.mem_append_right _ (h)))
  have iX3 : ∀ w ∈ u_ws RX3 TX3 11, w ∈ wsX3_lacksCredit := fun w h => List.mem_cons_of_mem _ (List.mem_append_left _ (List.mem_append_left _ (List.mem_append_right _ (h))))
  have hl := lv_entry ([.ref Nn, .int 1, .int (nI cx)]) (n := 3) (Nat.le_of_ble_eq_true rfl)
  rw [lg_entry_eq]
  generalize (lg_sl ([.ref Nn, .int 1, .int (nI cx)]) ++ List.replicate (3 - (lg_sl ([.ref Nn, .int 1, .int (nI cx)])).length) Slot.unset).toArray = ls at hl ⊢
  have hl : lv_has ls 3 [(0, .ref Nn), (1, .int 1), (2, .int (nI cx))] := hl
  generalize hQ : MQ below _ _ s _ _ _ = Q
  generalize hH : s.heap = H at hP ⊢
  have hS : va_S A s.heap H [] := by rw [← hH]; exact hS
  clear hH
  refine lv_aload_n hx hb dX3_lacksCredit_0 rfl (lv_at hl 0 rfl) ?_
  refine va_get (D := D) (ci := 3) (v := .ref Nb) (C := RX3) (T := TX3) (N := 11) hx hb hts iX3 hown hK hP 0 rfl rfl 10 (by decide) f23 (fun _ h9 => h9) rfl dX3_lacksCredit_1 ?_
  refine lv_iload_n hx hb dX3_lacksCredit_4 rfl (lv_at hl 1 rfl) ?_
  refine lv_iconst (v := 3) hx hb dX3_lacksCredit_5 (by decide) ?_
  refine lv_imul hx hb dX3_lacksCredit_6 ?_
  refine lv_eqi (y := 3) (by decide) ?_
  refine lv_iload_n hx hb dX3_lacksCredit_7 rfl (lv_at hl 2 rfl) ?_
  refine lv_iadd hx hb dX3_lacksCredit_8 ?_
  refine lv_eqi (y := (nI (3 + cx))) (nI_add (3) (cx)) ?_
  refine va_iald hx hb hK hP 2 0 rfl rfl (vp_in_nI (show 3 + cx < 12 by omega) (by decide)) dX3_lacksCredit_9 ?_
  refine lv_eqi (y := (fbuf (3 + cx))) (congrArg fbuf (nI_clamp (show 3 + cx < 2 ^ 31 by omega))) ?_
  refine lv_topi (fun y_1 _ => ?_)
  refine lv_if_le (tgt := 48) hx hb dX3_lacksCredit_10 (by decide) (fun cb_2 => ?_) (fun cb_2 => ?_)
  · skip
    refine lv_iconst (v := 0) hx hb dX3_lacksCredit_48 (by decide) ?_
    have hP9 := hP; have hD9 := hD
    subst hQ
    refine W.widen (k := 0) (n := 0) (Nat.le_of_ble_eq_true rfl) (Nat.le_of_ble_eq_true rfl) ?_
    exact W.zret (v := 0) (ty := .boolean) hx hb hr (rfl) (fun tS htS _ => ⟨⟨_, _, rfl, rfl, by rw [htS]; exact hP9, hD9⟩, hS.F htS⟩) hS.2.2 dX3_lacksCredit_49
  · skip
    refine lv_aload_n hx hb dX3_lacksCredit_13 rfl (lv_at hl 0 rfl) ?_
    refine va_get (D := D) (ci := 3) (v := .ref Nl) (C := RX3) (T := TX3) (N := 11) hx hb hts iX3 hown hK hP 0 rfl rfl 8 (by decide) f11 (fun _ h9 => h9) rfl dX3_lacksCredit_14 ?_
    refine lv_iload_n hx hb dX3_lacksCredit_17 rfl (lv_at hl 1 rfl) ?_
    refine va_aldq (C := "HopCredits$Link") hx hb hK hP 1 1 rfl rfl (by unfold vp_in; decide) dX3_lacksCredit_18 ?_
    refine lv_eqv (v2 := .ref L0) rfl ?_
    refine va_get (D := D) (ci := 2) (v := .ref L0l) (C := RX2) (T := TX2) (N := 10) hx hb hts iX2 hown hK hP 3 rfl rfl 9 (by decide) f128 (fun _ h9 => h9) rfl dX3_lacksCredit_19 ?_
    refine lv_iload_n hx hb dX3_lacksCredit_22 rfl (lv_at hl 2 rfl) ?_
    have hPq_3 := hP; have hDq_3 := hD; have hSq_3 := hS; have hlq_3 := hl; clear hP hD hS hl
    rcases (show cx = 0 ∨ cx = 1 ∨ cx = 2 by omega) with rfl | rfl | rfl
    · skip
      have hP := hPq_3; have hD := hDq_3; have hS := hSq_3; have hl := hlq_3; clear hPq_3 hDq_3 hSq_3 hlq_3
      refine va_aldq (C := "HopCredits$Lane") hx hb hK hP 4 2 rfl rfl (by unfold vp_in; decide) dX3_lacksCredit_23 ?_
      refine lv_eqv (v2 := .ref L0a) rfl ?_
      refine ky_Vi (As := []) (rest := []) ⟨hx, hb, hml, hown, hts⟩ ⟨hK, hN⟩ hZ hP hD hS hA [5] [0, 1, 2, 3, 4, 6, 7] (wc := [(L0a, .inr (1, [.int (fa0 0), .int (fa0 1), .int (fa0 2), .int (fa0 3), .int (fa0 4), .int (fa0 5), .int (fa0 6)]))]) (wr := [(Nn, .inr (3, [.int (fn 0), .int (fn 1), .int (fn 2), .int (fn 3), .int (fn 4), .int (fn 5), .int (fn 6), .int (fn 7), .ref Nl, .ref Nf, .ref Nb])), (Nl, .inl (g 1, 3, .inr (.inr (.inr (.inr (rf3 M0 L0 M2)))))), (Nb, .inl (g 0, 12, .inl fbuf)), (L0, .inr (2, [.int (nI d0), .int (fk0 1), .int (fk0 2), .int (fv0 3), .int (fv0 4), .int (fv0 5), .ref L0c, .ref L0u, .ref L0p, .ref L0l])), (L0l, .inl (g 2, 3, .inr (.inr (.inr (.inr (rf3 L0a L0b L0d)))))), (L0b, .inr (1, [.int (fb0 0), .int (fb0 1), .int (fb0 2), .int (fb0 3), .int (fb0 4), .int (fb0 5), .int (fb0 6)])), (L0d, .inr (1, [.int (fd0 0), .int (fd0 1), .int (fd0 2), .int (fd0 3), .int (fd0 4), .int (fd0 5), .int (fd0 6)]))]) rfl rfl rfl rfl (by decide) (k_X1_out l D g H.size L0a fa0) (cwV 0 hts gX3_lacksCredit_X1_out rfl rfl rfl (by decide +kernel) ⟨(Nat.le_of_ble_eq_true rfl), (Nat.le_of_ble_eq_true rfl)⟩) 5 1 rfl rfl rfl rfl hl.1 rfl (Nat.le_of_ble_eq_true rfl) dX3_lacksCredit_24 ⟨(Nat.le_of_ble_eq_true rfl), (Nat.le_of_ble_eq_true rfl)⟩ (fun r_4 u H locs hw hP2 hD2 hS2 => ?_)
      clear hP hD hS
      obtain ⟨zr_5, rfl, rfl, hf_6⟩ := hw
      have hPD : PD D A [(Nn, .inr (3, [.int (fn 0), .int (fn 1), .int (fn 2), .int (fn 3), .int (fn 4), .int (fn 5), .int (fn 6), .int (fn 7), .ref Nl, .ref Nf, .ref Nb])), (Nl, .inl (g 1, 3, .inr (.inr (.inr (.inr (rf3 M0 L0 M2)))))), (Nb, .inl (g 0, 12, .inl fbuf)), (L0, .inr (2, [.int (nI d0), .int (fk0 1), .int (fk0 2), .int (fv0 3), .int (fv0 4), .int (fv0 5), .ref L0c, .ref L0u, .ref L0p, .ref L0l])), (L0l, .inl (g 2, 3, .inr (.inr (.inr (.inr (rf3 L0a L0b L0d)))))), (L0b, .inr (1, [.int (fb0 0), .int (fb0 1), .int (fb0 2), .int (fb0 3), .int (fb0 4), .int (fb0 5), .int (fb0 6)])), (L0d, .inr (1, [.int (fd0 0), .int (fd0 1), .int (fd0 2), .int (fd0 3), .int (fd0 4), .int (fd0 5), .int (fd0 6)])), (L0a, .inr (1, [.int (fa0 0), .int (fa0 1), .int (fa0 2), .int (fa0 3), .int (fa0 4), .int (fa0 5), .int (fa0 6)]))] H := ⟨hP2, hD2⟩
      have hS := hS2; clear hP2 hD2 hS2; have hP := hPD.1; have hD := hPD.2; clear hPD
      refine W.widen (k := 0) (n := 0) (Nat.le_of_ble_eq_true rfl) (Nat.le_of_ble_eq_true rfl) ?_
      refine lv_aload_n hx hb dX3_lacksCredit_27 rfl (lv_at hl 0 rfl) ?_
      refine va_get (D := D) (ci := 3) (v := .ref Nl) (C := RX3) (T := TX3) (N := 11) hx hb hts iX3 hown hK hP 0 rfl rfl 8 (by decide) f11 (fun _ h9 => h9) rfl dX3_lacksCredit_28 ?_
      refine lv_iload_n hx hb dX3_lacksCredit_31 rfl (lv_at hl 1 rfl) ?_
      refine va_aldq (C := "HopCredits$Link") hx hb hK hP 1 1 rfl rfl (by unfold vp_in; decide) dX3_lacksCredit_32 ?_
      refine lv_eqv (v2 := .ref L0) rfl ?_
      refine va_get (D := D) (ci := 2) (v := .ref L0l) (C := RX2) (T := TX2) (N := 10) hx hb hts iX2 hown hK hP 3 rfl rfl 9 (by decide) f128 (fun _ h9 => h9) rfl dX3_lacksCredit_33 ?_
      refine lv_iload_n hx hb dX3_lacksCredit_36 rfl (lv_at hl 2 rfl) ?_
      refine va_aldq (C := "HopCredits$Lane") hx hb hK hP 4 2 rfl rfl (by unfold vp_in; decide) dX3_lacksCredit_37 ?_
      refine lv_eqv (v2 := .ref L0a) rfl ?_
      refine va_get (D := D) (ci := 1) (v := .int (fa0 3)) (C := RX1) (T := TX1) (N := 7) hx hb hts iX1 hown hK hP 7 rfl rfl 3 (by decide) f195 (fun _ h9 => h9) rfl dX3_lacksCredit_38 ?_
      refine lv_icmp_lt (tgt := 48) hx hb dX3_lacksCredit_41 (by decide) (fun cb_7 => ?_) (fun cb_7 => ?_)
      · skip
        refine lv_iconst (v := 0) hx hb dX3_lacksCredit_48 (by decide) ?_
        have hPD9 : PD D A [(Nn, .inr (3, [.int (fn 0), .int (fn 1), .int (fn 2), .int (fn 3), .int (fn 4), .int (fn 5), .int (fn 6), .int (fn 7), .ref Nl, .ref Nf, .ref Nb])), (Nl, .inl (g 1, 3, .inr (.inr (.inr (.inr (rf3 M0 L0 M2)))))), (Nb, .inl (g 0, 12, .inl fbuf)), (L0, .inr (2, [.int (nI d0), .int (fk0 1), .int (fk0 2), .int (fv0 3), .int (fv0 4), .int (fv0 5), .ref L0c, .ref L0u, .ref L0p, .ref L0l])), (L0l, .inl (g 2, 3, .inr (.inr (.inr (.inr (rf3 L0a L0b L0d)))))), (L0a, .inr (1, [.int (fa0 0), .int (fa0 1), .int (fa0 2), .int (fa0 3), .int (fa0 4), .int (fa0 5), .int (fa0 6)])), (L0b, .inr (1, [.int (fb0 0), .int (fb0 1), .int (fb0 2), .int (fb0 3), .int (fb0 4), .int (fb0 5), .int (fb0 6)])), (L0d, .inr (1, [.int (fd0 0), .int (fd0 1), .int (fd0 2), .int (fd0 3), .int (fd0 4), .int (fd0 5), .int (fd0 6)]))] H := ⟨hP.sub [0, 1, 2, 3, 4, 7, 5, 6] rfl, hD.sub [0, 1, 2, 3, 4, 7, 5, 6] (by decide) rfl⟩
        have hP9 := hPD9.1; have hD9 := hPD9.2
        subst hQ
        refine W.widen (k := 0) (n := 0) (Nat.le_of_ble_eq_true rfl) (Nat.le_of_ble_eq_true rfl) ?_
        exact W.zret (v := 0) (ty := .boolean) hx hb hr (rfl) (fun tS htS _ => ⟨⟨_, _, rfl, rfl, by rw [htS]; exact hP9, hD9⟩, hS.F htS⟩) hS.2.2 dX3_lacksCredit_49
      · skip
        refine lv_iconst (v := 1) hx hb dX3_lacksCredit_44 (by decide) ?_
        refine lv_goto (tgt := 49) hx hb dX3_lacksCredit_45 (by decide) ?_
        have hPD9 : PD D A [(Nn, .inr (3, [.int (fn 0), .int (fn 1), .int (fn 2), .int (fn 3), .int (fn 4), .int (fn 5), .int (fn 6), .int (fn 7), .ref Nl, .ref Nf, .ref Nb])), (Nl, .inl (g 1, 3, .inr (.inr (.inr (.inr (rf3 M0 L0 M2)))))), (Nb, .inl (g 0, 12, .inl fbuf)), (L0, .inr (2, [.int (nI d0), .int (fk0 1), .int (fk0 2), .int (fv0 3), .int (fv0 4), .int (fv0 5), .ref L0c, .ref L0u, .ref L0p, .ref L0l])), (L0l, .inl (g 2, 3, .inr (.inr (.inr (.inr (rf3 L0a L0b L0d)))))), (L0a, .inr (1, [.int (fa0 0), .int (fa0 1), .int (fa0 2), .int (fa0 3), .int (fa0 4), .int (fa0 5), .int (fa0 6)])), (L0b, .inr (1, [.int (fb0 0), .int (fb0 1), .int (fb0 2), .int (fb0 3), .int (fb0 4), .int (fb0 5), .int (fb0 6)])), (L0d, .inr (1, [.int (fd0 0), .int (fd0 1), .int (fd0 2), .int (fd0 3), .int (fd0 4), .int (fd0 5), .int (fd0 6)]))] H := ⟨hP.sub [0, 1, 2, 3, 4, 7, 5, 6] rfl, hD.sub [0, 1, 2, 3, 4, 7, 5, 6] (by decide) rfl⟩
        have hP9 := hPD9.1; have hD9 := hPD9.2
        subst hQ
        refine W.widen (k := 0) (n := 0) (Nat.le_of_ble_eq_true rfl) (Nat.le_of_ble_eq_true rfl) ?_
        exact W.zret (v := 1) (ty := .boolean) hx hb hr (rfl) (fun tS htS _ => ⟨⟨_, _, rfl, rfl, by rw [htS]; exact hP9, hD9⟩, hS.F htS⟩) hS.2.2 dX3_lacksCredit_49
    · skip
      have hP := hPq_3; have hD := hDq_3; have hS := hSq_3; have hl := hlq_3; clear hPq_3 hDq_3 hSq_3 hlq_3
      refine va_aldq (C := "HopCredits$Lane") hx hb hK hP 4 2 rfl rfl (by unfold vp_in; decide) dX3_lacksCredit_23 ?_
      refine lv_eqv (v2 := .ref L0b) rfl ?_
      refine ky_Vi (As := []) (rest := []) ⟨hx, hb, hml, hown, hts⟩ ⟨hK, hN⟩ hZ hP hD hS hA [6] [0, 1, 2, 3, 4, 5, 7] (wc := [(L0b, .inr (1, [.int (fb0 0), .int (fb0 1), .int (fb0 2), .int (fb0 3), .int (fb0 4), .int (fb0 5), .int (fb0 6)]))]) (wr := [(Nn, .inr (3, [.int (fn 0), .int (fn 1), .int (fn 2), .int (fn 3), .int (fn 4), .int (fn 5), .int (fn 6), .int (fn 7), .ref Nl, .ref Nf, .ref Nb])), (Nl, .inl (g 1, 3, .inr (.inr (.inr (.inr (rf3 M0 L0 M2)))))), (Nb, .inl (g 0, 12, .inl fbuf)), (L0, .inr (2, [.int (nI d0), .int (fk0 1), .int (fk0 2), .int (fv0 3), .int (fv0 4), .int (fv0 5), .ref L0c, .ref L0u, .ref L0p, .ref L0l])), (L0l, .inl (g 2, 3, .inr (.inr (.inr (.inr (rf3 L0a L0b L0d)))))), (L0a, .inr (1, [.int (fa0 0), .int (fa0 1), .int (fa0 2), .int (fa0 3), .int (fa0 4), .int (fa0 5), .int (fa0 6)])), (L0d, .inr (1, [.int (fd0 0), .int (fd0 1), .int (fd0 2), .int (fd0 3), .int (fd0 4), .int (fd0 5), .int (fd0 6)]))]) rfl rfl rfl rfl (by decide) (k_X1_out l D g H.size L0b fb0) (cwV 0 hts gX3_lacksCredit_X1_out rfl rfl rfl (by decide +kernel) ⟨(Nat.le_of_ble_eq_true rfl), (Nat.le_of_ble_eq_true rfl)⟩) 6 1 rfl rfl rfl rfl hl.1 rfl (Nat.le_of_ble_eq_true rfl) dX3_lacksCredit_24 ⟨(Nat.le_of_ble_eq_true rfl), (Nat.le_of_ble_eq_true rfl)⟩ (fun r_8 u H locs hw hP2 hD2 hS2 => ?_)
      clear hP hD hS
      obtain ⟨zr_9, rfl, rfl, hf_10⟩ := hw
      have hPD : PD D A [(Nn, .inr (3, [.int (fn 0), .int (fn 1), .int (fn 2), .int (fn 3), .int (fn 4), .int (fn 5), .int (fn 6), .int (fn 7), .ref Nl, .ref Nf, .ref Nb])), (Nl, .inl (g 1, 3, .inr (.inr (.inr (.inr (rf3 M0 L0 M2)))))), (Nb, .inl (g 0, 12, .inl fbuf)), (L0, .inr (2, [.int (nI d0), .int (fk0 1), .int (fk0 2), .int (fv0 3), .int (fv0 4), .int (fv0 5), .ref L0c, .ref L0u, .ref L0p, .ref L0l])), (L0l, .inl (g 2, 3, .inr (.inr (.inr (.inr (rf3 L0a L0b L0d)))))), (L0a, .inr (1, [.int (fa0 0), .int (fa0 1), .int (fa0 2), .int (fa0 3), .int (fa0 4), .int (fa0 5), .int (fa0 6)])), (L0d, .inr (1, [.int (fd0 0), .int (fd0 1), .int (fd0 2), .int (fd0 3), .int (fd0 4), .int (fd0 5), .int (fd0 6)])), (L0b, .inr (1, [.int (fb0 0), .int (fb0 1), .int (fb0 2), .int (fb0 3), .int (fb0 4), .int (fb0 5), .int (fb0 6)]))] H := ⟨hP2, hD2⟩
      have hS := hS2; clear hP2 hD2 hS2; have hP := hPD.1; have hD := hPD.2; clear hPD
      refine W.widen (k := 0) (n := 0) (Nat.le_of_ble_eq_true rfl) (Nat.le_of_ble_eq_true rfl) ?_
      refine lv_aload_n hx hb dX3_lacksCredit_27 rfl (lv_at hl 0 rfl) ?_
      refine va_get (D := D) (ci := 3) (v := .ref Nl) (C := RX3) (T := TX3) (N := 11) hx hb hts iX3 hown hK hP 0 rfl rfl 8 (by decide) f11 (fun _ h9 => h9) rfl dX3_lacksCredit_28 ?_
      refine lv_iload_n hx hb dX3_lacksCredit_31 rfl (lv_at hl 1 rfl) ?_
      refine va_aldq (C := "HopCredits$Link") hx hb hK hP 1 1 rfl rfl (by unfold vp_in; decide) dX3_lacksCredit_32 ?_
      refine lv_eqv (v2 := .ref L0) rfl ?_
      refine va_get (D := D) (ci := 2) (v := .ref L0l) (C := RX2) (T := TX2) (N := 10) hx hb hts iX2 hown hK hP 3 rfl rfl 9 (by decide) f128 (fun _ h9 => h9) rfl dX3_lacksCredit_33 ?_
      refine lv_iload_n hx hb dX3_lacksCredit_36 rfl (lv_at hl 2 rfl) ?_
      refine va_aldq (C := "HopCredits$Lane") hx hb hK hP 4 2 rfl rfl (by unfold vp_in; decide) dX3_lacksCredit_37 ?_
      refine lv_eqv (v2 := .ref L0b) rfl ?_
      refine va_get (D := D) (ci := 1) (v := .int (fb0 3)) (C := RX1) (T := TX1) (N := 7) hx hb hts iX1 hown hK hP 7 rfl rfl 3 (by decide) f195 (fun _ h9 => h9) rfl dX3_lacksCredit_38 ?_
      refine lv_icmp_lt (tgt := 48) hx hb dX3_lacksCredit_41 (by decide) (fun cb_11 => ?_) (fun cb_11 => ?_)
      · skip
        refine lv_iconst (v := 0) hx hb dX3_lacksCredit_48 (by decide) ?_
        have hPD9 : PD D A [(Nn, .inr (3, [.int (fn 0), .int (fn 1), .int (fn 2), .int (fn 3), .int (fn 4), .int (fn 5), .int (fn 6), .int (fn 7), .ref Nl, .ref Nf, .ref Nb])), (Nl, .inl (g 1, 3, .inr (.inr (.inr (.inr (rf3 M0 L0 M2)))))), (Nb, .inl (g 0, 12, .inl fbuf)), (L0, .inr (2, [.int (nI d0), .int (fk0 1), .int (fk0 2), .int (fv0 3), .int (fv0 4), .int (fv0 5), .ref L0c, .ref L0u, .ref L0p, .ref L0l])), (L0l, .inl (g 2, 3, .inr (.inr (.inr (.inr (rf3 L0a L0b L0d)))))), (L0a, .inr (1, [.int (fa0 0), .int (fa0 1), .int (fa0 2), .int (fa0 3), .int (fa0 4), .int (fa0 5), .int (fa0 6)])), (L0b, .inr (1, [.int (fb0 0), .int (fb0 1), .int (fb0 2), .int (fb0 3), .int (fb0 4), .int (fb0 5), .int (fb0 6)])), (L0d, .inr (1, [.int (fd0 0), .int (fd0 1), .int (fd0 2), .int (fd0 3), .int (fd0 4), .int (fd0 5), .int (fd0 6)]))] H := ⟨hP.sub [0, 1, 2, 3, 4, 5, 7, 6] rfl, hD.sub [0, 1, 2, 3, 4, 5, 7, 6] (by decide) rfl⟩
        have hP9 := hPD9.1; have hD9 := hPD9.2
        subst hQ
        refine W.widen (k := 0) (n := 0) (Nat.le_of_ble_eq_true rfl) (Nat.le_of_ble_eq_true rfl) ?_
        exact W.zret (v := 0) (ty := .boolean) hx hb hr (rfl) (fun tS htS _ => ⟨⟨_, _, rfl, rfl, by rw [htS]; exact hP9, hD9⟩, hS.F htS⟩) hS.2.2 dX3_lacksCredit_49
      · skip
        refine lv_iconst (v := 1) hx hb dX3_lacksCredit_44 (by decide) ?_
        refine lv_goto (tgt := 49) hx hb dX3_lacksCredit_45 (by decide) ?_
        have hPD9 : PD D A [(Nn, .inr (3, [.int (fn 0), .int (fn 1), .int (fn 2), .int (fn 3), .int (fn 4), .int (fn 5), .int (fn 6), .int (fn 7), .ref Nl, .ref Nf, .ref Nb])), (Nl, .inl (g 1, 3, .inr (.inr (.inr (.inr (rf3 M0 L0 M2)))))), (Nb, .inl (g 0, 12, .inl fbuf)), (L0, .inr (2, [.int (nI d0), .int (fk0 1), .int (fk0 2), .int (fv0 3), .int (fv0 4), .int (fv0 5), .ref L0c, .ref L0u, .ref L0p, .ref L0l])), (L0l, .inl (g 2, 3, .inr (.inr (.inr (.inr (rf3 L0a L0b L0d)))))), (L0a, .inr (1, [.int (fa0 0), .int (fa0 1), .int (fa0 2), .int (fa0 3), .int (fa0 4), .int (fa0 5), .int (fa0 6)])), (L0b, .inr (1, [.int (fb0 0), .int (fb0 1), .int (fb0 2), .int (fb0 3), .int (fb0 4), .int (fb0 5), .int (fb0 6)])), (L0d, .inr (1, [.int (fd0 0), .int (fd0 1), .int (fd0 2), .int (fd0 3), .int (fd0 4), .int (fd0 5), .int (fd0 6)]))] H := ⟨hP.sub [0, 1, 2, 3, 4, 5, 7, 6] rfl, hD.sub [0, 1, 2, 3, 4, 5, 7, 6] (by decide) rfl⟩
        have hP9 := hPD9.1; have hD9 := hPD9.2
        subst hQ
        refine W.widen (k := 0) (n := 0) (Nat.le_of_ble_eq_true rfl) (Nat.le_of_ble_eq_true rfl) ?_
        exact W.zret (v := 1) (ty := .boolean) hx hb hr (rfl) (fun tS htS _ => ⟨⟨_, _, rfl, rfl, by rw [htS]; exact hP9, hD9⟩, hS.F htS⟩) hS.2.2 dX3_lacksCredit_49
    · skip
      have hP := hPq_3; have hD := hDq_3; have hS := hSq_3; have hl := hlq_3; clear hPq_3 hDq_3 hSq_3 hlq_3
      refine va_aldq (C := "HopCredits$Lane") hx hb hK hP 4 2 rfl rfl (by unfold vp_in; decide) dX3_lacksCredit_23 ?_
      refine lv_eqv (v2 := .ref L0d) rfl ?_
      refine ky_Vi (As := []) (rest := []) ⟨hx, hb, hml, hown, hts⟩ ⟨hK, hN⟩ hZ hP hD hS hA [7] [0, 1, 2, 3, 4, 5, 6] (wc := [(L0d, .inr (1, [.int (fd0 0), .int (fd0 1), .int (fd0 2), .int (fd0 3), .int (fd0 4), .int (fd0 5), .int (fd0 6)]))]) (wr := [(Nn, .inr (3, [.int (fn 0), .int (fn 1), .int (fn 2), .int (fn 3), .int (fn 4), .int (fn 5), .int (fn 6), .int (fn 7), .ref Nl, .ref Nf, .ref Nb])), (Nl, .inl (g 1, 3, .inr (.inr (.inr (.inr (rf3 M0 L0 M2)))))), (Nb, .inl (g 0, 12, .inl fbuf)), (L0, .inr (2, [.int (nI d0), .int (fk0 1), .int (fk0 2), .int (fv0 3), .int (fv0 4), .int (fv0 5), .ref L0c, .ref L0u, .ref L0p, .ref L0l])), (L0l, .inl (g 2, 3, .inr (.inr (.inr (.inr (rf3 L0a L0b L0d)))))), (L0a, .inr (1, [.int (fa0 0), .int (fa0 1), .int (fa0 2), .int (fa0 3), .int (fa0 4), .int (fa0 5), .int (fa0 6)])), (L0b, .inr (1, [.int (fb0 0), .int (fb0 1), .int (fb0 2), .int (fb0 3), .int (fb0 4), .int (fb0 5), .int (fb0 6)]))]) rfl rfl rfl rfl (by decide) (k_X1_out l D g H.size L0d fd0) (cwV 0 hts gX3_lacksCredit_X1_out rfl rfl rfl (by decide +kernel) ⟨(Nat.le_of_ble_eq_true rfl), (Nat.le_of_ble_eq_true rfl)⟩) 7 1 rfl rfl rfl rfl hl.1 rfl (Nat.le_of_ble_eq_true rfl) dX3_lacksCredit_24 ⟨(Nat.le_of_ble_eq_true rfl), (Nat.le_of_ble_eq_true rfl)⟩ (fun r_12 u H locs hw hP2 hD2 hS2 => ?_)
      clear hP hD hS
      obtain ⟨zr_13, rfl, rfl, hf_14⟩ := hw
      have hPD : PD D A [(Nn, .inr (3, [.int (fn 0), .int (fn 1), .int (fn 2), .int (fn 3), .int (fn 4), .int (fn 5), .int (fn 6), .int (fn 7), .ref Nl, .ref Nf, .ref Nb])), (Nl, .inl (g 1, 3, .inr (.inr (.inr (.inr (rf3 M0 L0 M2)))))), (Nb, .inl (g 0, 12, .inl fbuf)), (L0, .inr (2, [.int (nI d0), .int (fk0 1), .int (fk0 2), .int (fv0 3), .int (fv0 4), .int (fv0 5), .ref L0c, .ref L0u, .ref L0p, .ref L0l])), (L0l, .inl (g 2, 3, .inr (.inr (.inr (.inr (rf3 L0a L0b L0d)))))), (L0a, .inr (1, [.int (fa0 0), .int (fa0 1), .int (fa0 2), .int (fa0 3), .int (fa0 4), .int (fa0 5), .int (fa0 6)])), (L0b, .inr (1, [.int (fb0 0), .int (fb0 1), .int (fb0 2), .int (fb0 3), .int (fb0 4), .int (fb0 5), .int (fb0 6)])), (L0d, .inr (1, [.int (fd0 0), .int (fd0 1), .int (fd0 2), .int (fd0 3), .int (fd0 4), .int (fd0 5), .int (fd0 6)]))] H := ⟨hP2, hD2⟩
      have hS := hS2; clear hP2 hD2 hS2; have hP := hPD.1; have hD := hPD.2; clear hPD
      refine W.widen (k := 0) (n := 0) (Nat.le_of_ble_eq_true rfl) (Nat.le_of_ble_eq_true rfl) ?_
      refine lv_aload_n hx hb dX3_lacksCredit_27 rfl (lv_at hl 0 rfl) ?_
      refine va_get (D := D) (ci := 3) (v := .ref Nl) (C := RX3) (T := TX3) (N := 11) hx hb hts iX3 hown hK hP 0 rfl rfl 8 (by decide) f11 (fun _ h9 => h9) rfl dX3_lacksCredit_28 ?_
      refine lv_iload_n hx hb dX3_lacksCredit_31 rfl (lv_at hl 1 rfl) ?_
      refine va_aldq (C := "HopCredits$Link") hx hb hK hP 1 1 rfl rfl (by unfold vp_in; decide) dX3_lacksCredit_32 ?_
      refine lv_eqv (v2 := .ref L0) rfl ?_
      refine va_get (D := D) (ci := 2) (v := .ref L0l) (C := RX2) (T := TX2) (N := 10) hx hb hts iX2 hown hK hP 3 rfl rfl 9 (by decide) f128 (fun _ h9 => h9) rfl dX3_lacksCredit_33 ?_
      refine lv_iload_n hx hb dX3_lacksCredit_36 rfl (lv_at hl 2 rfl) ?_
      refine va_aldq (C := "HopCredits$Lane") hx hb hK hP 4 2 rfl rfl (by unfold vp_in; decide) dX3_lacksCredit_37 ?_
      refine lv_eqv (v2 := .ref L0d) rfl ?_
      refine va_get (D := D) (ci := 1) (v := .int (fd0 3)) (C := RX1) (T := TX1) (N := 7) hx hb hts iX1 hown hK hP 7 rfl rfl 3 (by decide) f195 (fun _ h9 => h9) rfl dX3_lacksCredit_38 ?_
      refine lv_icmp_lt (tgt := 48) hx hb dX3_lacksCredit_41 (by decide) (fun cb_15 => ?_) (fun cb_15 => ?_)
      · skip
        refine lv_iconst (v := 0) hx hb dX3_lacksCredit_48 (by decide) ?_
        have hP9 := hP; have hD9 := hD
        subst hQ
        refine W.widen (k := 0) (n := 0) (Nat.le_of_ble_eq_true rfl) (Nat.le_of_ble_eq_true rfl) ?_
        exact W.zret (v := 0) (ty := .boolean) hx hb hr (rfl) (fun tS htS _ => ⟨⟨_, _, rfl, rfl, by rw [htS]; exact hP9, hD9⟩, hS.F htS⟩) hS.2.2 dX3_lacksCredit_49
      · skip
        refine lv_iconst (v := 1) hx hb dX3_lacksCredit_44 (by decide) ?_
        refine lv_goto (tgt := 49) hx hb dX3_lacksCredit_45 (by decide) ?_
        have hP9 := hP; have hD9 := hD
        subst hQ
        refine W.widen (k := 0) (n := 0) (Nat.le_of_ble_eq_true rfl) (Nat.le_of_ble_eq_true rfl) ?_
        exact W.zret (v := 1) (ty := .boolean) hx hb hr (rfl) (fun tS htS _ => ⟨⟨_, _, rfl, rfl, by rw [htS]; exact hP9, hD9⟩, hS.F htS⟩) hS.2.2 dX3_lacksCredit_49

set_option maxHeartbeats 4000000 in
set_option maxRecDepth 100000 in
theorem k_X3_lacksCredit_2 (l : Launch) (D : va_G) (g : Nat → ClassId) (sz : Nat) (Nn : Nat) (cx : Nat) (fn : Nat → Int32) (Nl : Nat) (Nf : Nat) (Nb : Nat) (M0 : Nat) (M1 : Nat) (L0 : Nat) (fbuf : Nat → Int32) (d0 : Nat) (fk0 : Nat → Int32) (fv0 : Nat → Int32) (L0c : Nat) (L0u : Nat) (L0p : Nat) (L0l : Nat) (L0a : Nat) (L0b : Nat) (L0d : Nat) (fa0 : Nat → Int32) (fb0 : Nat → Int32) (fd0 : Nat → Int32) (h0 : cx < 3) : Met l yX3_lacksCredit wsX3_lacksCredit ({ frames := 1, cells := 0, slots := 0, locals := 20 }) (va_Pc [.ref Nn, .int 2, .int (nI cx)] (pre D g sz [(Nn, .inr (3, [.int (fn 0), .int (fn 1), .int (fn 2), .int (fn 3), .int (fn 4), .int (fn 5), .int (fn 6), .int (fn 7), .ref Nl, .ref Nf, .ref Nb])), (Nl, .inl (g 1, 3, .inr (.inr (.inr (.inr (rf3 M0 M1 L0)))))), (Nb, .inl (g 0, 12, .inl fbuf)), (L0, .inr (2, [.int (nI d0), .int (fk0 1), .int (fk0 2), .int (fv0 3), .int (fv0 4), .int (fv0 5), .ref L0c, .ref L0u, .ref L0p, .ref L0l])), (L0l, .inl (g 2, 3, .inr (.inr (.inr (.inr (rf3 L0a L0b L0d)))))), (L0a, .inr (1, [.int (fa0 0), .int (fa0 1), .int (fa0 2), .int (fa0 3), .int (fa0 4), .int (fa0 5), .int (fa0 6)])), (L0b, .inr (1, [.int (fb0 0), .int (fb0 1), .int (fb0 2), .int (fb0 3), .int (fb0 4), .int (fb0 5), .int (fb0 6)])), (L0d, .inr (1, [.int (fd0 0), .int (fd0 1), .int (fd0 2), .int (fd0 3), .int (fd0 4), .int (fd0 5), .int (fd0 6)]))])) (va_Qi (fun (r : Int32) (u : va_W) => u = [(Nn, .inr (3, [.int (fn 0), .int (fn 1), .int (fn 2), .int (fn 3), .int (fn 4), .int (fn 5), .int (fn 6), .int (fn 7), .ref Nl, .ref Nf, .ref Nb])), (Nl, .inl (g 1, 3, .inr (.inr (.inr (.inr (rf3 M0 M1 L0)))))), (Nb, .inl (g 0, 12, .inl fbuf)), (L0, .inr (2, [.int (nI d0), .int (fk0 1), .int (fk0 2), .int (fv0 3), .int (fv0 4), .int (fv0 5), .ref L0c, .ref L0u, .ref L0p, .ref L0l])), (L0l, .inl (g 2, 3, .inr (.inr (.inr (.inr (rf3 L0a L0b L0d)))))), (L0a, .inr (1, [.int (fa0 0), .int (fa0 1), .int (fa0 2), .int (fa0 3), .int (fa0 4), .int (fa0 5), .int (fa0 6)])), (L0b, .inr (1, [.int (fb0 0), .int (fb0 1), .int (fb0 2), .int (fb0 3), .int (fb0 4), .int (fb0 5), .int (fb0 6)])), (L0d, .inr (1, [.int (fd0 0), .int (fd0 1), .int (fd0 2), .int (fd0 3), .int (fd0 4), .int (fd0 5), .int (fd0 6)]))]) (wd D (va_A [(Nn, .inr (3, [.int (fn 0), .int (fn 1), .int (fn 2), .int (fn 3), .int (fn 4), .int (fn 5), .int (fn 6), .int (fn 7), .ref Nl, .ref Nf, .ref Nb])), (Nl, .inl (g 1, 3, .inr (.inr (.inr (.inr (rf3 M0 M1 L0)))))), (Nb, .inl (g 0, 12, .inl fbuf)), (L0, .inr (2, [.int (nI d0), .int (fk0 1), .int (fk0 2), .int (fv0 3), .int (fv0 4), .int (fv0 5), .ref L0c, .ref L0u, .ref L0p, .ref L0l])), (L0l, .inl (g 2, 3, .inr (.inr (.inr (.inr (rf3 L0a L0b L0d)))))), (L0a, .inr (1, [.int (fa0 0), .int (fa0 1), .int (fa0 2), .int (fa0 3), .int (fa0 4), .int (fa0 5), .int (fa0 6)])), (L0b, .inr (1, [.int (fb0 0), .int (fb0 1), .int (fb0 2), .int (fb0 3), .int (fb0 4), .int (fb0 5), .int (fb0 6)])), (L0d, .inr (1, [.int (fd0 0), .int (fd0 1), .int (fd0 2), .int (fd0 3), .int (fd0 4), .int (fd0 5), .int (fd0 6)]))] sz)) (va_A [(Nn, .inr (3, [.int (fn 0), .int (fn 1), .int (fn 2), .int (fn 3), .int (fn 4), .int (fn 5), .int (fn 6), .int (fn 7), .ref Nl, .ref Nf, .ref Nb])), (Nl, .inl (g 1, 3, .inr (.inr (.inr (.inr (rf3 M0 M1 L0)))))), (Nb, .inl (g 0, 12, .inl fbuf)), (L0, .inr (2, [.int (nI d0), .int (fk0 1), .int (fk0 2), .int (fv0 3), .int (fv0 4), .int (fv0 5), .ref L0c, .ref L0u, .ref L0p, .ref L0l])), (L0l, .inl (g 2, 3, .inr (.inr (.inr (.inr (rf3 L0a L0b L0d)))))), (L0a, .inr (1, [.int (fa0 0), .int (fa0 1), .int (fa0 2), .int (fa0 3), .int (fa0 4), .int (fa0 5), .int (fa0 6)])), (L0b, .inr (1, [.int (fb0 0), .int (fb0 1), .int (fb0 2), .int (fb0 3), .int (fb0 4), .int (fb0 5), .int (fb0 6)])), (L0d, .inr (1, [.int (fd0 0), .int (fd0 1), .int (fd0 2), .int (fd0 3), .int (fd0 4), .int (fd0 5), .int (fd0 6)]))] sz)) 0 0 (va_A [(Nn, .inr (3, [.int (fn 0), .int (fn 1), .int (fn 2), .int (fn 3), .int (fn 4), .int (fn 5), .int (fn 6), .int (fn 7), .ref Nl, .ref Nf, .ref Nb])), (Nl, .inl (g 1, 3, .inr (.inr (.inr (.inr (rf3 M0 M1 L0)))))), (Nb, .inl (g 0, 12, .inl fbuf)), (L0, .inr (2, [.int (nI d0), .int (fk0 1), .int (fk0 2), .int (fv0 3), .int (fv0 4), .int (fv0 5), .ref L0c, .ref L0u, .ref L0p, .ref L0l])), (L0l, .inl (g 2, 3, .inr (.inr (.inr (.inr (rf3 L0a L0b L0d)))))), (L0a, .inr (1, [.int (fa0 0), .int (fa0 1), .int (fa0 2), .int (fa0 3), .int (fa0 4), .int (fa0 5), .int (fa0 6)])), (L0b, .inr (1, [.int (fb0 0), .int (fb0 1), .int (fb0 2), .int (fb0 3), .int (fb0 4), .int (fb0 5), .int (fb0 6)])), (L0d, .inr (1, [.int (fd0 0), .int (fd0 1), .int (fd0 2), .int (fd0 3), .int (fd0 4), .int (fd0 5), .int (fd0 6)]))] sz) := by
  refine Met.ofW (cc := cX3_lacksCredit) (maxL := 3) (ret := (some .boolean)) (by decide) rfl ?_
  intro p e s m args below meth c s₁ B hml hv
  obtain ⟨rfl, hsz, hP, ⟨hK, hN⟩, hD0, hZ⟩ := hv
  have hx := B.exec
  have hb := B.bytes
  have hr := B.returns
  have hts := atoms_spec (ws := wsX3_lacksCredit) B.pre
  have hown : s.vm.findClass RX3 = some m.cls := findClass_of_methodNamed B.named
  have hlocks := B.notSynchronized
  clear B
  subst hsz
  have hD := hD0.self (sz := s.heap.size)
  clear hD0
  generalize hAe : va_A [(Nn, .inr (3, [.int (fn 0), .int (fn 1), .int (fn 2), .int (fn 3), .int (fn 4), .int (fn 5), .int (fn 6), .int (fn 7), .ref Nl, .ref Nf, .ref Nb])), (Nl, .inl (g 1, 3, .inr (.inr (.inr (.inr (rf3 M0 M1 L0)))))), (Nb, .inl (g 0, 12, .inl fbuf)), (L0, .inr (2, [.int (nI d0), .int (fk0 1), .int (fk0 2), .int (fv0 3), .int (fv0 4), .int (fv0 5), .ref L0c, .ref L0u, .ref L0p, .ref L0l])), (L0l, .inl (g 2, 3, .inr (.inr (.inr (.inr (rf3 L0a L0b L0d)))))), (L0a, .inr (1, [.int (fa0 0), .int (fa0 1), .int (fa0 2), .int (fa0 3), .int (fa0 4), .int (fa0 5), .int (fa0 6)])), (L0b, .inr (1, [.int (fb0 0), .int (fb0 1), .int (fb0 2), .int (fb0 3), .int (fb0 4), .int (fb0 5), .int (fb0 6)])), (L0d, .inr (1, [.int (fd0 0), .int (fd0 1), .int (fd0 2), .int (fd0 3), .int (fd0 4), .int (fd0 5), .int (fd0 6)]))] s.heap.size = A at hD hZ ⊢
  have hA : ∀ q : Nat, s.heap.size ≤ q → A q := fun q h => by rw [← hAe]; exact Or.inr h
  have hS : va_S A s.heap s.heap [] := va_S.rf
  have f11 := hts (.fieldLink RX3 11 "HopCredits$Net" "links" "[LHopCredits$Link;") (List.mem_of_getElem? (i := 2) rfl)
  have f128 := hts (.fieldLink RX3 128 "HopCredits$Link" "lanes" "[LHopCredits$Lane;") (List.mem_of_getElem? (i := 3) rfl)
  have f195 := hts (.fieldLink RX3 195 "HopCredits$Lane" "zone" "I") (List.mem_of_getElem? (i := 4) rfl)
  have f23 := hts (.fieldLink RX3 23 "HopCredits$Net" "buffers" "[I") (List.mem_of_getElem? (i := 1) rfl)
  have iX1 : ∀ w ∈ u_ws RX1 TX1 7, w ∈ wsX3_lacksCredit := fun w h => List.mem_cons_of_mem _ (List.mem_append_right _ (h))
  have iX2 : ∀ w ∈ u_ws RX2 TX2 10, w ∈ wsX3_lacksCredit := fun w h => List.mem_cons_of_mem _ (List.mem_append_left _ (List.mem_append_right _ (h)))
  have iX3 : ∀ w ∈ u_ws RX3 TX3 11, w ∈ wsX3_lacksCredit := fun w h => List.mem_cons_of_mem _ (List.mem_append_left _ (List.mem_append_left _ (List.mem_append_right _ (h))))
  have hl := lv_entry ([.ref Nn, .int 2, .int (nI cx)]) (n := 3) (Nat.le_of_ble_eq_true rfl)
  rw [lg_entry_eq]
  generalize (lg_sl ([.ref Nn, .int 2, .int (nI cx)]) ++ List.replicate (3 - (lg_sl ([.ref Nn, .int 2, .int (nI cx)])).length) Slot.unset).toArray = ls at hl ⊢
  have hl : lv_has ls 3 [(0, .ref Nn), (1, .int 2), (2, .int (nI cx))] := hl
  generalize hQ : MQ below _ _ s _ _ _ = Q
  generalize hH : s.heap = H at hP ⊢
  have hS : va_S A s.heap H [] := by rw [← hH]; exact hS
  clear hH
  refine lv_aload_n hx hb dX3_lacksCredit_0 rfl (lv_at hl 0 rfl) ?_
  refine va_get (D := D) (ci := 3) (v := .ref Nb) (C := RX3) (T := TX3) (N := 11) hx hb hts iX3 hown hK hP 0 rfl rfl 10 (by decide) f23 (fun _ h9 => h9) rfl dX3_lacksCredit_1 ?_
  refine lv_iload_n hx hb dX3_lacksCredit_4 rfl (lv_at hl 1 rfl) ?_
  refine lv_iconst (v := 3) hx hb dX3_lacksCredit_5 (by decide) ?_
  refine lv_imul hx hb dX3_lacksCredit_6 ?_
  refine lv_eqi (y := 6) (by decide) ?_
  refine lv_iload_n hx hb dX3_lacksCredit_7 rfl (lv_at hl 2 rfl) ?_
  refine lv_iadd hx hb dX3_lacksCredit_8 ?_
  refine lv_eqi (y := (nI (6 + cx))) (nI_add (6) (cx)) ?_
  refine va_iald hx hb hK hP 2 0 rfl rfl (vp_in_nI (show 6 + cx < 12 by omega) (by decide)) dX3_lacksCredit_9 ?_
  refine lv_eqi (y := (fbuf (6 + cx))) (congrArg fbuf (nI_clamp (show 6 + cx < 2 ^ 31 by omega))) ?_
  refine lv_topi (fun y_1 _ => ?_)
  refine lv_if_le (tgt := 48) hx hb dX3_lacksCredit_10 (by decide) (fun cb_2 => ?_) (fun cb_2 => ?_)
  · skip
    refine lv_iconst (v := 0) hx hb dX3_lacksCredit_48 (by decide) ?_
    have hP9 := hP; have hD9 := hD
    subst hQ
    refine W.widen (k := 0) (n := 0) (Nat.le_of_ble_eq_true rfl) (Nat.le_of_ble_eq_true rfl) ?_
    exact W.zret (v := 0) (ty := .boolean) hx hb hr (rfl) (fun tS htS _ => ⟨⟨_, _, rfl, rfl, by rw [htS]; exact hP9, hD9⟩, hS.F htS⟩) hS.2.2 dX3_lacksCredit_49
  · skip
    refine lv_aload_n hx hb dX3_lacksCredit_13 rfl (lv_at hl 0 rfl) ?_
    refine va_get (D := D) (ci := 3) (v := .ref Nl) (C := RX3) (T := TX3) (N := 11) hx hb hts iX3 hown hK hP 0 rfl rfl 8 (by decide) f11 (fun _ h9 => h9) rfl dX3_lacksCredit_14 ?_
    refine lv_iload_n hx hb dX3_lacksCredit_17 rfl (lv_at hl 1 rfl) ?_
    refine va_aldq (C := "HopCredits$Link") hx hb hK hP 1 1 rfl rfl (by unfold vp_in; decide) dX3_lacksCredit_18 ?_
    refine lv_eqv (v2 := .ref L0) rfl ?_
    refine va_get (D := D) (ci := 2) (v := .ref L0l) (C := RX2) (T := TX2) (N := 10) hx hb hts iX2 hown hK hP 3 rfl rfl 9 (by decide) f128 (fun _ h9 => h9) rfl dX3_lacksCredit_19 ?_
    refine lv_iload_n hx hb dX3_lacksCredit_22 rfl (lv_at hl 2 rfl) ?_
    have hPq_3 := hP; have hDq_3 := hD; have hSq_3 := hS; have hlq_3 := hl; clear hP hD hS hl
    rcases (show cx = 0 ∨ cx = 1 ∨ cx = 2 by omega) with rfl | rfl | rfl
    · skip
      have hP := hPq_3; have hD := hDq_3; have hS := hSq_3; have hl := hlq_3; clear hPq_3 hDq_3 hSq_3 hlq_3
      refine va_aldq (C := "HopCredits$Lane") hx hb hK hP 4 2 rfl rfl (by unfold vp_in; decide) dX3_lacksCredit_23 ?_
      refine lv_eqv (v2 := .ref L0a) rfl ?_
      refine ky_Vi (As := []) (rest := []) ⟨hx, hb, hml, hown, hts⟩ ⟨hK, hN⟩ hZ hP hD hS hA [5] [0, 1, 2, 3, 4, 6, 7] (wc := [(L0a, .inr (1, [.int (fa0 0), .int (fa0 1), .int (fa0 2), .int (fa0 3), .int (fa0 4), .int (fa0 5), .int (fa0 6)]))]) (wr := [(Nn, .inr (3, [.int (fn 0), .int (fn 1), .int (fn 2), .int (fn 3), .int (fn 4), .int (fn 5), .int (fn 6), .int (fn 7), .ref Nl, .ref Nf, .ref Nb])), (Nl, .inl (g 1, 3, .inr (.inr (.inr (.inr (rf3 M0 M1 L0)))))), (Nb, .inl (g 0, 12, .inl fbuf)), (L0, .inr (2, [.int (nI d0), .int (fk0 1), .int (fk0 2), .int (fv0 3), .int (fv0 4), .int (fv0 5), .ref L0c, .ref L0u, .ref L0p, .ref L0l])), (L0l, .inl (g 2, 3, .inr (.inr (.inr (.inr (rf3 L0a L0b L0d)))))), (L0b, .inr (1, [.int (fb0 0), .int (fb0 1), .int (fb0 2), .int (fb0 3), .int (fb0 4), .int (fb0 5), .int (fb0 6)])), (L0d, .inr (1, [.int (fd0 0), .int (fd0 1), .int (fd0 2), .int (fd0 3), .int (fd0 4), .int (fd0 5), .int (fd0 6)]))]) rfl rfl rfl rfl (by decide) (k_X1_out l D g H.size L0a fa0) (cwV 0 hts gX3_lacksCredit_X1_out rfl rfl rfl (by decide +kernel) ⟨(Nat.le_of_ble_eq_true rfl), (Nat.le_of_ble_eq_true rfl)⟩) 5 1 rfl rfl rfl rfl hl.1 rfl (Nat.le_of_ble_eq_true rfl) dX3_lacksCredit_24 ⟨(Nat.le_of_ble_eq_true rfl), (Nat.le_of_ble_eq_true rfl)⟩ (fun r_4 u H locs hw hP2 hD2 hS2 => ?_)
      clear hP hD hS
      obtain ⟨zr_5, rfl, rfl, hf_6⟩ := hw
      have hPD : PD D A [(Nn, .inr (3, [.int (fn 0), .int (fn 1), .int (fn 2), .int (fn 3), .int (fn 4), .int (fn 5), .int (fn 6), .int (fn 7), .ref Nl, .ref Nf, .ref Nb])), (Nl, .inl (g 1, 3, .inr (.inr (.inr (.inr (rf3 M0 M1 L0)))))), (Nb, .inl (g 0, 12, .inl fbuf)), (L0, .inr (2, [.int (nI d0), .int (fk0 1), .int (fk0 2), .int (fv0 3), .int (fv0 4), .int (fv0 5), .ref L0c, .ref L0u, .ref L0p, .ref L0l])), (L0l, .inl (g 2, 3, .inr (.inr (.inr (.inr (rf3 L0a L0b L0d)))))), (L0b, .inr (1, [.int (fb0 0), .int (fb0 1), .int (fb0 2), .int (fb0 3), .int (fb0 4), .int (fb0 5), .int (fb0 6)])), (L0d, .inr (1, [.int (fd0 0), .int (fd0 1), .int (fd0 2), .int (fd0 3), .int (fd0 4), .int (fd0 5), .int (fd0 6)])), (L0a, .inr (1, [.int (fa0 0), .int (fa0 1), .int (fa0 2), .int (fa0 3), .int (fa0 4), .int (fa0 5), .int (fa0 6)]))] H := ⟨hP2, hD2⟩
      have hS := hS2; clear hP2 hD2 hS2; have hP := hPD.1; have hD := hPD.2; clear hPD
      refine W.widen (k := 0) (n := 0) (Nat.le_of_ble_eq_true rfl) (Nat.le_of_ble_eq_true rfl) ?_
      refine lv_aload_n hx hb dX3_lacksCredit_27 rfl (lv_at hl 0 rfl) ?_
      refine va_get (D := D) (ci := 3) (v := .ref Nl) (C := RX3) (T := TX3) (N := 11) hx hb hts iX3 hown hK hP 0 rfl rfl 8 (by decide) f11 (fun _ h9 => h9) rfl dX3_lacksCredit_28 ?_
      refine lv_iload_n hx hb dX3_lacksCredit_31 rfl (lv_at hl 1 rfl) ?_
      refine va_aldq (C := "HopCredits$Link") hx hb hK hP 1 1 rfl rfl (by unfold vp_in; decide) dX3_lacksCredit_32 ?_
      refine lv_eqv (v2 := .ref L0) rfl ?_
      refine va_get (D := D) (ci := 2) (v := .ref L0l) (C := RX2) (T := TX2) (N := 10) hx hb hts iX2 hown hK hP 3 rfl rfl 9 (by decide) f128 (fun _ h9 => h9) rfl dX3_lacksCredit_33 ?_
      refine lv_iload_n hx hb dX3_lacksCredit_36 rfl (lv_at hl 2 rfl) ?_
      refine va_aldq (C := "HopCredits$Lane") hx hb hK hP 4 2 rfl rfl (by unfold vp_in; decide) dX3_lacksCredit_37 ?_
      refine lv_eqv (v2 := .ref L0a) rfl ?_
      refine va_get (D := D) (ci := 1) (v := .int (fa0 3)) (C := RX1) (T := TX1) (N := 7) hx hb hts iX1 hown hK hP 7 rfl rfl 3 (by decide) f195 (fun _ h9 => h9) rfl dX3_lacksCredit_38 ?_
      refine lv_icmp_lt (tgt := 48) hx hb dX3_lacksCredit_41 (by decide) (fun cb_7 => ?_) (fun cb_7 => ?_)
      · skip
        refine lv_iconst (v := 0) hx hb dX3_lacksCredit_48 (by decide) ?_
        have hPD9 : PD D A [(Nn, .inr (3, [.int (fn 0), .int (fn 1), .int (fn 2), .int (fn 3), .int (fn 4), .int (fn 5), .int (fn 6), .int (fn 7), .ref Nl, .ref Nf, .ref Nb])), (Nl, .inl (g 1, 3, .inr (.inr (.inr (.inr (rf3 M0 M1 L0)))))), (Nb, .inl (g 0, 12, .inl fbuf)), (L0, .inr (2, [.int (nI d0), .int (fk0 1), .int (fk0 2), .int (fv0 3), .int (fv0 4), .int (fv0 5), .ref L0c, .ref L0u, .ref L0p, .ref L0l])), (L0l, .inl (g 2, 3, .inr (.inr (.inr (.inr (rf3 L0a L0b L0d)))))), (L0a, .inr (1, [.int (fa0 0), .int (fa0 1), .int (fa0 2), .int (fa0 3), .int (fa0 4), .int (fa0 5), .int (fa0 6)])), (L0b, .inr (1, [.int (fb0 0), .int (fb0 1), .int (fb0 2), .int (fb0 3), .int (fb0 4), .int (fb0 5), .int (fb0 6)])), (L0d, .inr (1, [.int (fd0 0), .int (fd0 1), .int (fd0 2), .int (fd0 3), .int (fd0 4), .int (fd0 5), .int (fd0 6)]))] H := ⟨hP.sub [0, 1, 2, 3, 4, 7, 5, 6] rfl, hD.sub [0, 1, 2, 3, 4, 7, 5, 6] (by decide) rfl⟩
        have hP9 := hPD9.1; have hD9 := hPD9.2
        subst hQ
        refine W.widen (k := 0) (n := 0) (Nat.le_of_ble_eq_true rfl) (Nat.le_of_ble_eq_true rfl) ?_
        exact W.zret (v := 0) (ty := .boolean) hx hb hr (rfl) (fun tS htS _ => ⟨⟨_, _, rfl, rfl, by rw [htS]; exact hP9, hD9⟩, hS.F htS⟩) hS.2.2 dX3_lacksCredit_49
      · skip
        refine lv_iconst (v := 1) hx hb dX3_lacksCredit_44 (by decide) ?_
        refine lv_goto (tgt := 49) hx hb dX3_lacksCredit_45 (by decide) ?_
        have hPD9 : PD D A [(Nn, .inr (3, [.int (fn 0), .int (fn 1), .int (fn 2), .int (fn 3), .int (fn 4), .int (fn 5), .int (fn 6), .int (fn 7), .ref Nl, .ref Nf, .ref Nb])), (Nl, .inl (g 1, 3, .inr (.inr (.inr (.inr (rf3 M0 M1 L0)))))), (Nb, .inl (g 0, 12, .inl fbuf)), (L0, .inr (2, [.int (nI d0), .int (fk0 1), .int (fk0 2), .int (fv0 3), .int (fv0 4), .int (fv0 5), .ref L0c, .ref L0u, .ref L0p, .ref L0l])), (L0l, .inl (g 2, 3, .inr (.inr (.inr (.inr (rf3 L0a L0b L0d)))))), (L0a, .inr (1, [.int (fa0 0), .int (fa0 1), .int (fa0 2), .int (fa0 3), .int (fa0 4), .int (fa0 5), .int (fa0 6)])), (L0b, .inr (1, [.int (fb0 0), .int (fb0 1), .int (fb0 2), .int (fb0 3), .int (fb0 4), .int (fb0 5), .int (fb0 6)])), (L0d, .inr (1, [.int (fd0 0), .int (fd0 1), .int (fd0 2), .int (fd0 3), .int (fd0 4), .int (fd0 5), .int (fd0 6)]))] H := ⟨hP.sub [0, 1, 2, 3, 4, 7, 5, 6] rfl, hD.sub [0, 1, 2, 3, 4, 7, 5, 6] (by decide) rfl⟩
        have hP9 := hPD9.1; have hD9 := hPD9.2
        subst hQ
        refine W.widen (k := 0) (n := 0) (Nat.le_of_ble_eq_true rfl) (Nat.le_of_ble_eq_true rfl) ?_
        exact W.zret (v := 1) (ty := .boolean) hx hb hr (rfl) (fun tS htS _ => ⟨⟨_, _, rfl, rfl, by rw [htS]; exact hP9, hD9⟩, hS.F htS⟩) hS.2.2 dX3_lacksCredit_49
    · skip
      have hP := hPq_3; have hD := hDq_3; have hS := hSq_3; have hl := hlq_3; clear hPq_3 hDq_3 hSq_3 hlq_3
      refine va_aldq (C := "HopCredits$Lane") hx hb hK hP 4 2 rfl rfl (by unfold vp_in; decide) dX3_lacksCredit_23 ?_
      refine lv_eqv (v2 := .ref L0b) rfl ?_
      refine ky_Vi (As := []) (rest := []) ⟨hx, hb, hml, hown, hts⟩ ⟨hK, hN⟩ hZ hP hD hS hA [6] [0, 1, 2, 3, 4, 5, 7] (wc := [(L0b, .inr (1, [.int (fb0 0), .int (fb0 1), .int (fb0 2), .int (fb0 3), .int (fb0 4), .int (fb0 5), .int (fb0 6)]))]) (wr := [(Nn, .inr (3, [.int (fn 0), .int (fn 1), .int (fn 2), .int (fn 3), .int (fn 4), .int (fn 5), .int (fn 6), .int (fn 7), .ref Nl, .ref Nf, .ref Nb])), (Nl, .inl (g 1, 3, .inr (.inr (.inr (.inr (rf3 M0 M1 L0)))))), (Nb, .inl (g 0, 12, .inl fbuf)), (L0, .inr (2, [.int (nI d0), .int (fk0 1), .int (fk0 2), .int (fv0 3), .int (fv0 4), .int (fv0 5), .ref L0c, .ref L0u, .ref L0p, .ref L0l])), (L0l, .inl (g 2, 3, .inr (.inr (.inr (.inr (rf3 L0a L0b L0d)))))), (L0a, .inr (1, [.int (fa0 0), .int (fa0 1), .int (fa0 2), .int (fa0 3), .int (fa0 4), .int (fa0 5), .int (fa0 6)])), (L0d, .inr (1, [.int (fd0 0), .int (fd0 1), .int (fd0 2), .int (fd0 3), .int (fd0 4), .int (fd0 5), .int (fd0 6)]))]) rfl rfl rfl rfl (by decide) (k_X1_out l D g H.size L0b fb0) (cwV 0 hts gX3_lacksCredit_X1_out rfl rfl rfl (by decide +kernel) ⟨(Nat.le_of_ble_eq_true rfl), (Nat.le_of_ble_eq_true rfl)⟩) 6 1 rfl rfl rfl rfl hl.1 rfl (Nat.le_of_ble_eq_true rfl) dX3_lacksCredit_24 ⟨(Nat.le_of_ble_eq_true rfl), (Nat.le_of_ble_eq_true rfl)⟩ (fun r_8 u H locs hw hP2 hD2 hS2 => ?_)
      clear hP hD hS
      obtain ⟨zr_9, rfl, rfl, hf_10⟩ := hw
      have hPD : PD D A [(Nn, .inr (3, [.int (fn 0), .int (fn 1), .int (fn 2), .int (fn 3), .int (fn 4), .int (fn 5), .int (fn 6), .int (fn 7), .ref Nl, .ref Nf, .ref Nb])), (Nl, .inl (g 1, 3, .inr (.inr (.inr (.inr (rf3 M0 M1 L0)))))), (Nb, .inl (g 0, 12, .inl fbuf)), (L0, .inr (2, [.int (nI d0), .int (fk0 1), .int (fk0 2), .int (fv0 3), .int (fv0 4), .int (fv0 5), .ref L0c, .ref L0u, .ref L0p, .ref L0l])), (L0l, .inl (g 2, 3, .inr (.inr (.inr (.inr (rf3 L0a L0b L0d)))))), (L0a, .inr (1, [.int (fa0 0), .int (fa0 1), .int (fa0 2), .int (fa0 3), .int (fa0 4), .int (fa0 5), .int (fa0 6)])), (L0d, .inr (1, [.int (fd0 0), .int (fd0 1), .int (fd0 2), .int (fd0 3), .int (fd0 4), .int (fd0 5), .int (fd0 6)])), (L0b, .inr (1, [.int (fb0 0), .int (fb0 1), .int (fb0 2), .int (fb0 3), .int (fb0 4), .int (fb0 5), .int (fb0 6)]))] H := ⟨hP2, hD2⟩
      have hS := hS2; clear hP2 hD2 hS2; have hP := hPD.1; have hD := hPD.2; clear hPD
      refine W.widen (k := 0) (n := 0) (Nat.le_of_ble_eq_true rfl) (Nat.le_of_ble_eq_true rfl) ?_
      refine lv_aload_n hx hb dX3_lacksCredit_27 rfl (lv_at hl 0 rfl) ?_
      refine va_get (D := D) (ci := 3) (v := .ref Nl) (C := RX3) (T := TX3) (N := 11) hx hb hts iX3 hown hK hP 0 rfl rfl 8 (by decide) f11 (fun _ h9 => h9) rfl dX3_lacksCredit_28 ?_
      refine lv_iload_n hx hb dX3_lacksCredit_31 rfl (lv_at hl 1 rfl) ?_
      refine va_aldq (C := "HopCredits$Link") hx hb hK hP 1 1 rfl rfl (by unfold vp_in; decide) dX3_lacksCredit_32 ?_
      refine lv_eqv (v2 := .ref L0) rfl ?_
      refine va_get (D := D) (ci := 2) (v := .ref L0l) (C := RX2) (T := TX2) (N := 10) hx hb hts iX2 hown hK hP 3 rfl rfl 9 (by decide) f128 (fun _ h9 => h9) rfl dX3_lacksCredit_33 ?_
      refine lv_iload_n hx hb dX3_lacksCredit_36 rfl (lv_at hl 2 rfl) ?_
      refine va_aldq (C := "HopCredits$Lane") hx hb hK hP 4 2 rfl rfl (by unfold vp_in; decide) dX3_lacksCredit_37 ?_
      refine lv_eqv (v2 := .ref L0b) rfl ?_
      refine va_get (D := D) (ci := 1) (v := .int (fb0 3)) (C := RX1) (T := TX1) (N := 7) hx hb hts iX1 hown hK hP 7 rfl rfl 3 (by decide) f195 (fun _ h9 => h9) rfl dX3_lacksCredit_38 ?_
      refine lv_icmp_lt (tgt := 48) hx hb dX3_lacksCredit_41 (by decide) (fun cb_11 => ?_) (fun cb_11 => ?_)
      · skip
        refine lv_iconst (v := 0) hx hb dX3_lacksCredit_48 (by decide) ?_
        have hPD9 : PD D A [(Nn, .inr (3, [.int (fn 0), .int (fn 1), .int (fn 2), .int (fn 3), .int (fn 4), .int (fn 5), .int (fn 6), .int (fn 7), .ref Nl, .ref Nf, .ref Nb])), (Nl, .inl (g 1, 3, .inr (.inr (.inr (.inr (rf3 M0 M1 L0)))))), (Nb, .inl (g 0, 12, .inl fbuf)), (L0, .inr (2, [.int (nI d0), .int (fk0 1), .int (fk0 2), .int (fv0 3), .int (fv0 4), .int (fv0 5), .ref L0c, .ref L0u, .ref L0p, .ref L0l])), (L0l, .inl (g 2, 3, .inr (.inr (.inr (.inr (rf3 L0a L0b L0d)))))), (L0a, .inr (1, [.int (fa0 0), .int (fa0 1), .int (fa0 2), .int (fa0 3), .int (fa0 4), .int (fa0 5), .int (fa0 6)])), (L0b, .inr (1, [.int (fb0 0), .int (fb0 1), .int (fb0 2), .int (fb0 3), .int (fb0 4), .int (fb0 5), .int (fb0 6)])), (L0d, .inr (1, [.int (fd0 0), .int (fd0 1), .int (fd0 2), .int (fd0 3), .int (fd0 4), .int (fd0 5), .int (fd0 6)]))] H := ⟨hP.sub [0, 1, 2, 3, 4, 5, 7, 6] rfl, hD.sub [0, 1, 2, 3, 4, 5, 7, 6] (by decide) rfl⟩
        have hP9 := hPD9.1; have hD9 := hPD9.2
        subst hQ
        refine W.widen (k := 0) (n := 0) (Nat.le_of_ble_eq_true rfl) (Nat.le_of_ble_eq_true rfl) ?_
        exact W.zret (v := 0) (ty := .boolean) hx hb hr (rfl) (fun tS htS _ => ⟨⟨_, _, rfl, rfl, by rw [htS]; exact hP9, hD9⟩, hS.F htS⟩) hS.2.2 dX3_lacksCredit_49
      · skip
        refine lv_iconst (v := 1) hx hb dX3_lacksCredit_44 (by decide) ?_
        refine lv_goto (tgt := 49) hx hb dX3_lacksCredit_45 (by decide) ?_
        have hPD9 : PD D A [(Nn, .inr (3, [.int (fn 0), .int (fn 1), .int (fn 2), .int (fn 3), .int (fn 4), .int (fn 5), .int (fn 6), .int (fn 7), .ref Nl, .ref Nf, .ref Nb])), (Nl, .inl (g 1, 3, .inr (.inr (.inr (.inr (rf3 M0 M1 L0)))))), (Nb, .inl (g 0, 12, .inl fbuf)), (L0, .inr (2, [.int (nI d0), .int (fk0 1), .int (fk0 2), .int (fv0 3), .int (fv0 4), .int (fv0 5), .ref L0c, .ref L0u, .ref L0p, .ref L0l])), (L0l, .inl (g 2, 3, .inr (.inr (.inr (.inr (rf3 L0a L0b L0d)))))), (L0a, .inr (1, [.int (fa0 0), .int (fa0 1), .int (fa0 2), .int (fa0 3), .int (fa0 4), .int (fa0 5), .int (fa0 6)])), (L0b, .inr (1, [.int (fb0 0), .int (fb0 1), .int (fb0 2), .int (fb0 3), .int (fb0 4), .int (fb0 5), .int (fb0 6)])), (L0d, .inr (1, [.int (fd0 0), .int (fd0 1), .int (fd0 2), .int (fd0 3), .int (fd0 4), .int (fd0 5), .int (fd0 6)]))] H := ⟨hP.sub [0, 1, 2, 3, 4, 5, 7, 6] rfl, hD.sub [0, 1, 2, 3, 4, 5, 7, 6] (by decide) rfl⟩
        have hP9 := hPD9.1; have hD9 := hPD9.2
        subst hQ
        refine W.widen (k := 0) (n := 0) (Nat.le_of_ble_eq_true rfl) (Nat.le_of_ble_eq_true rfl) ?_
        exact W.zret (v := 1) (ty := .boolean) hx hb hr (rfl) (fun tS htS _ => ⟨⟨_, _, rfl, rfl, by rw [htS]; exact hP9, hD9⟩, hS.F htS⟩) hS.2.2 dX3_lacksCredit_49
    · skip
      have hP := hPq_3; have hD := hDq_3; have hS := hSq_3; have hl := hlq_3; clear hPq_3 hDq_3 hSq_3 hlq_3
      refine va_aldq (C := "HopCredits$Lane") hx hb hK hP 4 2 rfl rfl (by unfold vp_in; decide) dX3_lacksCredit_23 ?_
      refine lv_eqv (v2 := .ref L0d) rfl ?_
      refine ky_Vi (As := []) (rest := []) ⟨hx, hb, hml, hown, hts⟩ ⟨hK, hN⟩ hZ hP hD hS hA [7] [0, 1, 2, 3, 4, 5, 6] (wc := [(L0d, .inr (1, [.int (fd0 0), .int (fd0 1), .int (fd0 2), .int (fd0 3), .int (fd0 4), .int (fd0 5), .int (fd0 6)]))]) (wr := [(Nn, .inr (3, [.int (fn 0), .int (fn 1), .int (fn 2), .int (fn 3), .int (fn 4), .int (fn 5), .int (fn 6), .int (fn 7), .ref Nl, .ref Nf, .ref Nb])), (Nl, .inl (g 1, 3, .inr (.inr (.inr (.inr (rf3 M0 M1 L0)))))), (Nb, .inl (g 0, 12, .inl fbuf)), (L0, .inr (2, [.int (nI d0), .int (fk0 1), .int (fk0 2), .int (fv0 3), .int (fv0 4), .int (fv0 5), .ref L0c, .ref L0u, .ref L0p, .ref L0l])), (L0l, .inl (g 2, 3, .inr (.inr (.inr (.inr (rf3 L0a L0b L0d)))))), (L0a, .inr (1, [.int (fa0 0), .int (fa0 1), .int (fa0 2), .int (fa0 3), .int (fa0 4), .int (fa0 5), .int (fa0 6)])), (L0b, .inr (1, [.int (fb0 0), .int (fb0 1), .int (fb0 2), .int (fb0 3), .int (fb0 4), .int (fb0 5), .int (fb0 6)]))]) rfl rfl rfl rfl (by decide) (k_X1_out l D g H.size L0d fd0) (cwV 0 hts gX3_lacksCredit_X1_out rfl rfl rfl (by decide +kernel) ⟨(Nat.le_of_ble_eq_true rfl), (Nat.le_of_ble_eq_true rfl)⟩) 7 1 rfl rfl rfl rfl hl.1 rfl (Nat.le_of_ble_eq_true rfl) dX3_lacksCredit_24 ⟨(Nat.le_of_ble_eq_true rfl), (Nat.le_of_ble_eq_true rfl)⟩ (fun r_12 u H locs hw hP2 hD2 hS2 => ?_)
      clear hP hD hS
      obtain ⟨zr_13, rfl, rfl, hf_14⟩ := hw
      have hPD : PD D A [(Nn, .inr (3, [.int (fn 0), .int (fn 1), .int (fn 2), .int (fn 3), .int (fn 4), .int (fn 5), .int (fn 6), .int (fn 7), .ref Nl, .ref Nf, .ref Nb])), (Nl, .inl (g 1, 3, .inr (.inr (.inr (.inr (rf3 M0 M1 L0)))))), (Nb, .inl (g 0, 12, .inl fbuf)), (L0, .inr (2, [.int (nI d0), .int (fk0 1), .int (fk0 2), .int (fv0 3), .int (fv0 4), .int (fv0 5), .ref L0c, .ref L0u, .ref L0p, .ref L0l])), (L0l, .inl (g 2, 3, .inr (.inr (.inr (.inr (rf3 L0a L0b L0d)))))), (L0a, .inr (1, [.int (fa0 0), .int (fa0 1), .int (fa0 2), .int (fa0 3), .int (fa0 4), .int (fa0 5), .int (fa0 6)])), (L0b, .inr (1, [.int (fb0 0), .int (fb0 1), .int (fb0 2), .int (fb0 3), .int (fb0 4), .int (fb0 5), .int (fb0 6)])), (L0d, .inr (1, [.int (fd0 0), .int (fd0 1), .int (fd0 2), .int (fd0 3), .int (fd0 4), .int (fd0 5), .int (fd0 6)]))] H := ⟨hP2, hD2⟩
      have hS := hS2; clear hP2 hD2 hS2; have hP := hPD.1; have hD := hPD.2; clear hPD
      refine W.widen (k := 0) (n := 0) (Nat.le_of_ble_eq_true rfl) (Nat.le_of_ble_eq_true rfl) ?_
      refine lv_aload_n hx hb dX3_lacksCredit_27 rfl (lv_at hl 0 rfl) ?_
      refine va_get (D := D) (ci := 3) (v := .ref Nl) (C := RX3) (T := TX3) (N := 11) hx hb hts iX3 hown hK hP 0 rfl rfl 8 (by decide) f11 (fun _ h9 => h9) rfl dX3_lacksCredit_28 ?_
      refine lv_iload_n hx hb dX3_lacksCredit_31 rfl (lv_at hl 1 rfl) ?_
      refine va_aldq (C := "HopCredits$Link") hx hb hK hP 1 1 rfl rfl (by unfold vp_in; decide) dX3_lacksCredit_32 ?_
      refine lv_eqv (v2 := .ref L0) rfl ?_
      refine va_get (D := D) (ci := 2) (v := .ref L0l) (C := RX2) (T := TX2) (N := 10) hx hb hts iX2 hown hK hP 3 rfl rfl 9 (by decide) f128 (fun _ h9 => h9) rfl dX3_lacksCredit_33 ?_
      refine lv_iload_n hx hb dX3_lacksCredit_36 rfl (lv_at hl 2 rfl) ?_
      refine va_aldq (C := "HopCredits$Lane") hx hb hK hP 4 2 rfl rfl (by unfold vp_in; decide) dX3_lacksCredit_37 ?_
      refine lv_eqv (v2 := .ref L0d) rfl ?_
      refine va_get (D := D) (ci := 1) (v := .int (fd0 3)) (C := RX1) (T := TX1) (N := 7) hx hb hts iX1 hown hK hP 7 rfl rfl 3 (by decide) f195 (fun _ h9 => h9) rfl dX3_lacksCredit_38 ?_
      refine lv_icmp_lt (tgt := 48) hx hb dX3_lacksCredit_41 (by decide) (fun cb_15 => ?_) (fun cb_15 => ?_)
      · skip
        refine lv_iconst (v := 0) hx hb dX3_lacksCredit_48 (by decide) ?_
        have hP9 := hP; have hD9 := hD
        subst hQ
        refine W.widen (k := 0) (n := 0) (Nat.le_of_ble_eq_true rfl) (Nat.le_of_ble_eq_true rfl) ?_
        exact W.zret (v := 0) (ty := .boolean) hx hb hr (rfl) (fun tS htS _ => ⟨⟨_, _, rfl, rfl, by rw [htS]; exact hP9, hD9⟩, hS.F htS⟩) hS.2.2 dX3_lacksCredit_49
      · skip
        refine lv_iconst (v := 1) hx hb dX3_lacksCredit_44 (by decide) ?_
        refine lv_goto (tgt := 49) hx hb dX3_lacksCredit_45 (by decide) ?_
        have hP9 := hP; have hD9 := hD
        subst hQ
        refine W.widen (k := 0) (n := 0) (Nat.le_of_ble_eq_true rfl) (Nat.le_of_ble_eq_true rfl) ?_
        exact W.zret (v := 1) (ty := .boolean) hx hb hr (rfl) (fun tS htS _ => ⟨⟨_, _, rfl, rfl, by rw [htS]; exact hP9, hD9⟩, hS.F htS⟩) hS.2.2 dX3_lacksCredit_49

set_option maxHeartbeats 4000000 in
set_option maxRecDepth 100000 in
theorem k_X3_nextSender_0 (l : Launch) (D : va_G) (g : Nat → ClassId) (sz : Nat) (Nn : Nat) (hp : Nat) (cc : Nat) (zrs : Int32) (zad : Int32) (zpr : Int32) (t : Nat) (zlo : Int32) (zps : Int32) (Nl : Nat) (Nf : Nat) (Nb : Nat) (L0 : Nat) (M1 : Nat) (M2 : Nat) (fbuf : Nat → Int32) (d0 : Nat) (fk0 : Nat → Int32) (fv0 : Nat → Int32) (L0c : Nat) (L0u : Nat) (L0p : Nat) (L0l : Nat) (L0a : Nat) (L0b : Nat) (L0d : Nat) (fa0 : Nat → Int32) (fb0 : Nat → Int32) (fd0 : Nat → Int32) (h0 : 1 ≤ cc) (h1 : cc ≤ 3) (h2 : okc (fv0 4)) : Met l yX3_nextSender wsX3_nextSender ({ frames := 1, cells := 0, slots := 0, locals := 20 }) (va_Pc [.ref Nn, .int 0] (pre D g sz [(Nn, .inr (3, [.int (nI hp), .int (nI cc), .int zrs, .int zad, .int zpr, .int (nI t), .int zlo, .int zps, .ref Nl, .ref Nf, .ref Nb])), (Nl, .inl (g 1, 3, .inr (.inr (.inr (.inr (rf3 L0 M1 M2)))))), (Nb, .inl (g 0, 12, .inl fbuf)), (L0, .inr (2, [.int (nI d0), .int (fk0 1), .int (fk0 2), .int (fv0 3), .int (fv0 4), .int (fv0 5), .ref L0c, .ref L0u, .ref L0p, .ref L0l])), (L0l, .inl (g 2, 3, .inr (.inr (.inr (.inr (rf3 L0a L0b L0d)))))), (L0a, .inr (1, [.int (fa0 0), .int (fa0 1), .int (fa0 2), .int (fa0 3), .int (fa0 4), .int (fa0 5), .int (fa0 6)])), (L0b, .inr (1, [.int (fb0 0), .int (fb0 1), .int (fb0 2), .int (fb0 3), .int (fb0 4), .int (fb0 5), .int (fb0 6)])), (L0d, .inr (1, [.int (fd0 0), .int (fd0 1), .int (fd0 2), .int (fd0 3), .int (fd0 4), .int (fd0 5), .int (fd0 6)]))])) (va_Qi (fun (r : Int32) (u : va_W) => ∃ (zr : Int32), u = [(Nn, .inr (3, [.int (nI hp), .int (nI cc), .int zrs, .int zad, .int zpr, .int (nI t), .int zlo, .int zps, .ref Nl, .ref Nf, .ref Nb])), (Nl, .inl (g 1, 3, .inr (.inr (.inr (.inr (rf3 L0 M1 M2)))))), (Nb, .inl (g 0, 12, .inl fbuf)), (L0, .inr (2, [.int (nI d0), .int (fk0 1), .int (fk0 2), .int (fv0 3), .int (fv0 4), .int (fv0 5), .ref L0c, .ref L0u, .ref L0p, .ref L0l])), (L0l, .inl (g 2, 3, .inr (.inr (.inr (.inr (rf3 L0a L0b L0d)))))), (L0a, .inr (1, [.int (fa0 0), .int (fa0 1), .int (fa0 2), .int (fa0 3), .int (fa0 4), .int (fa0 5), .int (fa0 6)])), (L0b, .inr (1, [.int (fb0 0), .int (fb0 1), .int (fb0 2), .int (fb0 3), .int (fb0 4), .int (fb0 5), .int (fb0 6)])), (L0d, .inr (1, [.int (fd0 0), .int (fd0 1), .int (fd0 2), .int (fd0 3), .int (fd0 4), .int (fd0 5), .int (fd0 6)]))] ∧ r = zr ∧ (okc zr)) (wd D (va_A [(Nn, .inr (3, [.int (nI hp), .int (nI cc), .int zrs, .int zad, .int zpr, .int (nI t), .int zlo, .int zps, .ref Nl, .ref Nf, .ref Nb])), (Nl, .inl (g 1, 3, .inr (.inr (.inr (.inr (rf3 L0 M1 M2)))))), (Nb, .inl (g 0, 12, .inl fbuf)), (L0, .inr (2, [.int (nI d0), .int (fk0 1), .int (fk0 2), .int (fv0 3), .int (fv0 4), .int (fv0 5), .ref L0c, .ref L0u, .ref L0p, .ref L0l])), (L0l, .inl (g 2, 3, .inr (.inr (.inr (.inr (rf3 L0a L0b L0d)))))), (L0a, .inr (1, [.int (fa0 0), .int (fa0 1), .int (fa0 2), .int (fa0 3), .int (fa0 4), .int (fa0 5), .int (fa0 6)])), (L0b, .inr (1, [.int (fb0 0), .int (fb0 1), .int (fb0 2), .int (fb0 3), .int (fb0 4), .int (fb0 5), .int (fb0 6)])), (L0d, .inr (1, [.int (fd0 0), .int (fd0 1), .int (fd0 2), .int (fd0 3), .int (fd0 4), .int (fd0 5), .int (fd0 6)]))] sz)) (va_A [(Nn, .inr (3, [.int (nI hp), .int (nI cc), .int zrs, .int zad, .int zpr, .int (nI t), .int zlo, .int zps, .ref Nl, .ref Nf, .ref Nb])), (Nl, .inl (g 1, 3, .inr (.inr (.inr (.inr (rf3 L0 M1 M2)))))), (Nb, .inl (g 0, 12, .inl fbuf)), (L0, .inr (2, [.int (nI d0), .int (fk0 1), .int (fk0 2), .int (fv0 3), .int (fv0 4), .int (fv0 5), .ref L0c, .ref L0u, .ref L0p, .ref L0l])), (L0l, .inl (g 2, 3, .inr (.inr (.inr (.inr (rf3 L0a L0b L0d)))))), (L0a, .inr (1, [.int (fa0 0), .int (fa0 1), .int (fa0 2), .int (fa0 3), .int (fa0 4), .int (fa0 5), .int (fa0 6)])), (L0b, .inr (1, [.int (fb0 0), .int (fb0 1), .int (fb0 2), .int (fb0 3), .int (fb0 4), .int (fb0 5), .int (fb0 6)])), (L0d, .inr (1, [.int (fd0 0), .int (fd0 1), .int (fd0 2), .int (fd0 3), .int (fd0 4), .int (fd0 5), .int (fd0 6)]))] sz)) 0 0 (va_A [(Nn, .inr (3, [.int (nI hp), .int (nI cc), .int zrs, .int zad, .int zpr, .int (nI t), .int zlo, .int zps, .ref Nl, .ref Nf, .ref Nb])), (Nl, .inl (g 1, 3, .inr (.inr (.inr (.inr (rf3 L0 M1 M2)))))), (Nb, .inl (g 0, 12, .inl fbuf)), (L0, .inr (2, [.int (nI d0), .int (fk0 1), .int (fk0 2), .int (fv0 3), .int (fv0 4), .int (fv0 5), .ref L0c, .ref L0u, .ref L0p, .ref L0l])), (L0l, .inl (g 2, 3, .inr (.inr (.inr (.inr (rf3 L0a L0b L0d)))))), (L0a, .inr (1, [.int (fa0 0), .int (fa0 1), .int (fa0 2), .int (fa0 3), .int (fa0 4), .int (fa0 5), .int (fa0 6)])), (L0b, .inr (1, [.int (fb0 0), .int (fb0 1), .int (fb0 2), .int (fb0 3), .int (fb0 4), .int (fb0 5), .int (fb0 6)])), (L0d, .inr (1, [.int (fd0 0), .int (fd0 1), .int (fd0 2), .int (fd0 3), .int (fd0 4), .int (fd0 5), .int (fd0 6)]))] sz) := by
  refine Met.ofW (cc := cX3_nextSender) (maxL := 6) (ret := (some .int)) (by decide) rfl ?_
  intro p e s m args below meth c s₁ B hml hv
  obtain ⟨rfl, hsz, hP, ⟨hK, hN⟩, hD0, hZ⟩ := hv
  have hx := B.exec
  have hb := B.bytes
  have hr := B.returns
  have hts := atoms_spec (ws := wsX3_nextSender) B.pre
  have hown : s.vm.findClass RX3 = some m.cls := findClass_of_methodNamed B.named
  have hlocks := B.notSynchronized
  clear B
  subst hsz
  have hD := hD0.self (sz := s.heap.size)
  clear hD0
  generalize hAe : va_A [(Nn, .inr (3, [.int (nI hp), .int (nI cc), .int zrs, .int zad, .int zpr, .int (nI t), .int zlo, .int zps, .ref Nl, .ref Nf, .ref Nb])), (Nl, .inl (g 1, 3, .inr (.inr (.inr (.inr (rf3 L0 M1 M2)))))), (Nb, .inl (g 0, 12, .inl fbuf)), (L0, .inr (2, [.int (nI d0), .int (fk0 1), .int (fk0 2), .int (fv0 3), .int (fv0 4), .int (fv0 5), .ref L0c, .ref L0u, .ref L0p, .ref L0l])), (L0l, .inl (g 2, 3, .inr (.inr (.inr (.inr (rf3 L0a L0b L0d)))))), (L0a, .inr (1, [.int (fa0 0), .int (fa0 1), .int (fa0 2), .int (fa0 3), .int (fa0 4), .int (fa0 5), .int (fa0 6)])), (L0b, .inr (1, [.int (fb0 0), .int (fb0 1), .int (fb0 2), .int (fb0 3), .int (fb0 4), .int (fb0 5), .int (fb0 6)])), (L0d, .inr (1, [.int (fd0 0), .int (fd0 1), .int (fd0 2), .int (fd0 3), .int (fd0 4), .int (fd0 5), .int (fd0 6)]))] s.heap.size = A at hD hZ ⊢
  have hA : ∀ q : Nat, s.heap.size ≤ q → A q := fun q h => by rw [← hAe]; exact Or.inr h
  have hS : va_S A s.heap s.heap [] := va_S.rf
  have f11 := hts (.fieldLink RX3 11 "HopCredits$Net" "links" "[LHopCredits$Link;") (List.mem_of_getElem? (i := 1) rfl)
  have f128 := hts (.fieldLink RX3 128 "HopCredits$Link" "lanes" "[LHopCredits$Lane;") (List.mem_of_getElem? (i := 4) rfl)
  have f180 := hts (.fieldLink RX3 180 "HopCredits$Link" "latest" "I") (List.mem_of_getElem? (i := 3) rfl)
  have f195 := hts (.fieldLink RX3 195 "HopCredits$Lane" "zone" "I") (List.mem_of_getElem? (i := 6) rfl)
  have f23 := hts (.fieldLink RX3 23 "HopCredits$Net" "buffers" "[I") (List.mem_of_getElem? (i := 5) rfl)
  have f62 := hts (.fieldLink RX3 62 "HopCredits$Net" "circuits" "I") (List.mem_of_getElem? (i := 2) rfl)
  have iX1 : ∀ w ∈ u_ws RX1 TX1 7, w ∈ wsX3_nextSender := fun w h => List.mem_cons_of_mem _ (List.mem_append_right _ (h))
  have iX2 : ∀ w ∈ u_ws RX2 TX2 10, w ∈ wsX3_nextSender := fun w h => List.mem_cons_of_mem _ (List.mem_append_left _ (List.mem_append_right _ (h)))
  have iX3 : ∀ w ∈ u_ws RX3 TX3 11, w ∈ wsX3_nextSender := fun w h => List.mem_cons_of_mem _ (List.mem_append_left _ (List.mem_append_left _ (List.mem_append_right _ (h))))
  have hl := lv_entry ([.ref Nn, .int 0]) (n := 6) (Nat.le_of_ble_eq_true rfl)
  rw [lg_entry_eq]
  generalize (lg_sl ([.ref Nn, .int 0]) ++ List.replicate (6 - (lg_sl ([.ref Nn, .int 0])).length) Slot.unset).toArray = ls at hl ⊢
  have hl : lv_has ls 6 [(0, .ref Nn), (1, .int 0)] := hl
  generalize hQ : MQ below _ _ s _ _ _ = Q
  generalize hH : s.heap = H at hP ⊢
  have hS : va_S A s.heap H [] := by rw [← hH]; exact hS
  clear hH
  refine lv_aload_n hx hb dX3_nextSender_0 rfl (lv_at hl 0 rfl) ?_
  refine va_get (D := D) (ci := 3) (v := .ref Nl) (C := RX3) (T := TX3) (N := 11) hx hb hts iX3 hown hK hP 0 rfl rfl 8 (by decide) f11 (fun _ h9 => h9) rfl dX3_nextSender_1 ?_
  refine lv_iload_n hx hb dX3_nextSender_4 rfl (lv_at hl 1 rfl) ?_
  refine va_aldq (C := "HopCredits$Link") hx hb hK hP 1 1 rfl rfl (by unfold vp_in; decide) dX3_nextSender_5 ?_
  refine lv_eqv (v2 := .ref L0) rfl ?_
  refine lv_astore_n (lv' := [(2, .ref L0), (0, .ref Nn), (1, .int 0)]) hx hb dX3_nextSender_6 rfl hl (by decide) rfl (fun ls hl => ?_)
  refine lv_iconst (v := 1) hx hb dX3_nextSender_7 (by decide) ?_
  refine lv_istore_n (lv' := [(3, .int 1), (2, .ref L0), (0, .ref Nn), (1, .int 0)]) hx hb dX3_nextSender_8 rfl hl (by decide) rfl (fun ls hl => ?_)
  have loop_50 : ∀ (Nloop_50 : Nat) (i_23 : Nat) (hbi_23 : i_23 ≤ cc + 1) (hv_49 : 1 ≤ i_23) (hmloop_50 : (cc + 1) - i_23 < Nloop_50) (H : Heap) (locs : List Loc) (ls : Array Slot), va_P D vwCl [(Nn, .inr (3, [.int (nI hp), .int (nI cc), .int zrs, .int zad, .int zpr, .int (nI t), .int zlo, .int zps, .ref Nl, .ref Nf, .ref Nb])), (Nl, .inl (g 1, 3, .inr (.inr (.inr (.inr (rf3 L0 M1 M2)))))), (Nb, .inl (g 0, 12, .inl fbuf)), (L0, .inr (2, [.int (nI d0), .int (fk0 1), .int (fk0 2), .int (fv0 3), .int (fv0 4), .int (fv0 5), .ref L0c, .ref L0u, .ref L0p, .ref L0l])), (L0l, .inl (g 2, 3, .inr (.inr (.inr (.inr (rf3 L0a L0b L0d)))))), (L0a, .inr (1, [.int (fa0 0), .int (fa0 1), .int (fa0 2), .int (fa0 3), .int (fa0 4), .int (fa0 5), .int (fa0 6)])), (L0b, .inr (1, [.int (fb0 0), .int (fb0 1), .int (fb0 2), .int (fb0 3), .int (fb0 4), .int (fb0 5), .int (fb0 6)])), (L0d, .inr (1, [.int (fd0 0), .int (fd0 1), .int (fd0 2), .int (fd0 3), .int (fd0 4), .int (fd0 5), .int (fd0 6)]))] H → va_D A [(Nn, .inr (3, [.int (nI hp), .int (nI cc), .int zrs, .int zad, .int zpr, .int (nI t), .int zlo, .int zps, .ref Nl, .ref Nf, .ref Nb])), (Nl, .inl (g 1, 3, .inr (.inr (.inr (.inr (rf3 L0 M1 M2)))))), (Nb, .inl (g 0, 12, .inl fbuf)), (L0, .inr (2, [.int (nI d0), .int (fk0 1), .int (fk0 2), .int (fv0 3), .int (fv0 4), .int (fv0 5), .ref L0c, .ref L0u, .ref L0p, .ref L0l])), (L0l, .inl (g 2, 3, .inr (.inr (.inr (.inr (rf3 L0a L0b L0d)))))), (L0a, .inr (1, [.int (fa0 0), .int (fa0 1), .int (fa0 2), .int (fa0 3), .int (fa0 4), .int (fa0 5), .int (fa0 6)])), (L0b, .inr (1, [.int (fb0 0), .int (fb0 1), .int (fb0 2), .int (fb0 3), .int (fb0 4), .int (fb0 5), .int (fb0 6)])), (L0d, .inr (1, [.int (fd0 0), .int (fd0 1), .int (fd0 2), .int (fd0 3), .int (fd0 4), .int (fd0 5), .int (fd0 6)]))] → va_S A s.heap H locs → lv_has ls 6 [(3, .int (nI i_23)), (2, .ref L0), (0, .ref Nn), (1, .int 0)] → W p l e (headSpec wsX3_nextSender ({ frames := 1, cells := 0, slots := 0, locals := 20 })).room s m ([.ref Nn, .int 0] : List Value).toArray below meth c H locs 0 0 Q (F0 m 9 ls []) := by
    clear hP hD hS hl
    intro Nloop_50
    induction Nloop_50 with
    | zero => intro i_23 hbi_23 hv_49 hm9; exact absurd hm9 (Nat.not_lt_zero _)
    | succ Nloop_50 loop_50_ih =>
      intro i_23 hbi_23 hv_49 hmloop_50 H locs ls hP hD hS hl
      refine lv_iload_n hx hb dX3_nextSender_9 rfl (lv_at hl 0 rfl) ?_
      refine lv_aload_n hx hb dX3_nextSender_10 rfl (lv_at hl 2 rfl) ?_
      refine va_get (D := D) (ci := 3) (v := .int (nI cc)) (C := RX3) (T := TX3) (N := 11) hx hb hts iX3 hown hK hP 0 rfl rfl 1 (by decide) f62 (fun _ h9 => h9) rfl dX3_nextSender_11 ?_
      refine lv_icmp_gt (tgt := 75) hx hb dX3_nextSender_14 (by decide) (fun cb_51 => ?_) (fun cb_51 => ?_)
      · skip
        have cn_52 : cc < i_23 := (nI_ltI (show cc < 2 ^ 31 by omega) (show i_23 < 2 ^ 31 by omega)).mp cb_51
        refine lv_iconst (v := (-1)) hx hb dX3_nextSender_75 (by decide) ?_
        have hP9 := hP; have hD9 := hD
        subst hQ
        refine W.widen (k := 0) (n := 0) (Nat.le_of_ble_eq_true rfl) (Nat.le_of_ble_eq_true rfl) ?_
        exact W.iret (v := (-1)) hx hb hr (fun tS htS _ => ⟨⟨_, _, rfl, ⟨(-1), rfl, rfl, (okc_m)⟩, by rw [htS]; exact hP9, hD9⟩, hS.F htS⟩) hS.2.2 dX3_nextSender_76
      · skip
        have cn_53 : i_23 ≤ cc := Nat.le_of_not_lt (fun q9 => cb_51 ((nI_ltI (show cc < 2 ^ 31 by omega) (show i_23 < 2 ^ 31 by omega)).mpr q9))
        refine lv_aload_n hx hb dX3_nextSender_17 rfl (lv_at hl 1 rfl) ?_
        refine va_get (D := D) (ci := 2) (v := .int (fv0 4)) (C := RX2) (T := TX2) (N := 10) hx hb hts iX2 hown hK hP 3 rfl rfl 4 (by decide) f180 (fun _ h9 => h9) rfl dX3_nextSender_18 ?_
        refine lv_iload_n hx hb dX3_nextSender_21 rfl (lv_at hl 0 rfl) ?_
        refine lv_iadd hx hb dX3_nextSender_22 ?_
        obtain ⟨m_54, hm_55, q9⟩ := okc_add (h2) (show 1 ≤ i_23 by omega)
        refine lv_eqi (y := nI m_54) q9 ?_
        refine lv_aload_n hx hb dX3_nextSender_23 rfl (lv_at hl 2 rfl) ?_
        refine va_get (D := D) (ci := 3) (v := .int (nI cc)) (C := RX3) (T := TX3) (N := 11) hx hb hts iX3 hown hK hP 0 rfl rfl 1 (by decide) f62 (fun _ h9 => h9) rfl dX3_nextSender_24 ?_
        refine lv_irem hx hb dX3_nextSender_27 (nI_ne0 (show 0 < cc by omega) (show cc < 2 ^ 31 by omega)) ?_
        refine lv_eqi (y := (nI ((m_54) % cc))) (pk_rem (show m_54 < 2 ^ 31 by omega) (show 0 < cc by omega) (show cc < 2 ^ 31 by omega)) ?_
        have hm_56 := Nat.mod_lt (m_54) (show 0 < cc by omega)
        revert hm_56; generalize m_54 % cc = m_56; intro hm_56
        refine lv_istore (lv' := [(4, .int (nI m_56)), (3, .int (nI i_23)), (2, .ref L0), (0, .ref Nn), (1, .int 0)]) hx hb dX3_nextSender_28 hl (by decide) rfl (fun ls hl => ?_)
        refine lv_aload_n hx hb dX3_nextSender_30 rfl (lv_at hl 2 rfl) ?_
        refine va_get (D := D) (ci := 2) (v := .ref L0l) (C := RX2) (T := TX2) (N := 10) hx hb hts iX2 hown hK hP 3 rfl rfl 9 (by decide) f128 (fun _ h9 => h9) rfl dX3_nextSender_31 ?_
        refine lv_iload hx hb dX3_nextSender_34 (lv_at hl 0 rfl) ?_
        have hPq_57 := hP; have hDq_57 := hD; have hSq_57 := hS; have hlq_57 := hl; clear hP hD hS hl
        rcases (show m_56 = 0 ∨ m_56 = 1 ∨ m_56 = 2 by omega) with rfl | rfl | rfl
        · skip
          have hP := hPq_57; have hD := hDq_57; have hS := hSq_57; have hl := hlq_57; clear hPq_57 hDq_57 hSq_57 hlq_57
          refine va_aldq (C := "HopCredits$Lane") hx hb hK hP 4 2 rfl rfl (by unfold vp_in; decide) dX3_nextSender_36 ?_
          refine lv_eqv (v2 := .ref L0a) rfl ?_
          refine lv_astore (lv' := [(5, .ref L0a), (4, .int (nI 0)), (3, .int (nI i_23)), (2, .ref L0), (0, .ref Nn), (1, .int 0)]) hx hb dX3_nextSender_37 hl (by decide) rfl (fun ls hl => ?_)
          refine lv_aload_n hx hb dX3_nextSender_39 rfl (lv_at hl 4 rfl) ?_
          refine va_get (D := D) (ci := 3) (v := .ref Nb) (C := RX3) (T := TX3) (N := 11) hx hb hts iX3 hown hK hP 0 rfl rfl 10 (by decide) f23 (fun _ h9 => h9) rfl dX3_nextSender_40 ?_
          refine lv_iload_n hx hb dX3_nextSender_43 rfl (lv_at hl 5 rfl) ?_
          refine lv_iconst (v := 3) hx hb dX3_nextSender_44 (by decide) ?_
          refine lv_imul hx hb dX3_nextSender_45 ?_
          refine lv_eqi (y := 0) (by decide) ?_
          refine lv_iload hx hb dX3_nextSender_46 (lv_at hl 1 rfl) ?_
          refine lv_iadd hx hb dX3_nextSender_48 ?_
          refine lv_eqi (y := 0) (by decide) ?_
          refine va_iald hx hb hK hP 2 0 rfl rfl (by unfold vp_in; decide) dX3_nextSender_49 ?_
          refine lv_eqi (y := (fbuf 0)) (rfl) ?_
          refine lv_topi (fun y_58 _ => ?_)
          refine lv_if_le (tgt := 69) hx hb dX3_nextSender_50 (by decide) (fun cb_59 => ?_) (fun cb_59 => ?_)
          · skip
            refine lv_iinc (v := (nI (i_23 + 1))) (lv' := [(3, .int (nI (i_23 + 1))), (5, .ref L0a), (4, .int (nI 0)), (2, .ref L0), (0, .ref Nn), (1, .int 0)]) hx hb dX3_nextSender_69 hl (k := 2) rfl (nI_1 (i_23)) (by decide) rfl (fun ls hl => ?_)
            refine lv_goto (tgt := 9) hx hb dX3_nextSender_72 (by decide) ?_
            exact loop_50_ih (i_23 + 1) (show (i_23 + 1) ≤ cc + 1 by omega) (show 1 ≤ (i_23 + 1) by omega) (show (cc + 1) - (i_23 + 1) < Nloop_50 by omega) _ _ _ hP hD hS (lv_sub hl [0, 3, 4, 5] rfl)
          · skip
            refine lv_aload hx hb dX3_nextSender_53 (lv_at hl 0 rfl) ?_
            refine ky_Vi (As := []) (rest := []) ⟨hx, hb, hml, hown, hts⟩ ⟨hK, hN⟩ hZ hP hD hS hA [5] [0, 1, 2, 3, 4, 6, 7] (wc := [(L0a, .inr (1, [.int (fa0 0), .int (fa0 1), .int (fa0 2), .int (fa0 3), .int (fa0 4), .int (fa0 5), .int (fa0 6)]))]) (wr := [(Nn, .inr (3, [.int (nI hp), .int (nI cc), .int zrs, .int zad, .int zpr, .int (nI t), .int zlo, .int zps, .ref Nl, .ref Nf, .ref Nb])), (Nl, .inl (g 1, 3, .inr (.inr (.inr (.inr (rf3 L0 M1 M2)))))), (Nb, .inl (g 0, 12, .inl fbuf)), (L0, .inr (2, [.int (nI d0), .int (fk0 1), .int (fk0 2), .int (fv0 3), .int (fv0 4), .int (fv0 5), .ref L0c, .ref L0u, .ref L0p, .ref L0l])), (L0l, .inl (g 2, 3, .inr (.inr (.inr (.inr (rf3 L0a L0b L0d)))))), (L0b, .inr (1, [.int (fb0 0), .int (fb0 1), .int (fb0 2), .int (fb0 3), .int (fb0 4), .int (fb0 5), .int (fb0 6)])), (L0d, .inr (1, [.int (fd0 0), .int (fd0 1), .int (fd0 2), .int (fd0 3), .int (fd0 4), .int (fd0 5), .int (fd0 6)]))]) rfl rfl rfl rfl (by decide) (k_X1_out l D g H.size L0a fa0) (cwV 0 hts gX3_nextSender_X1_out rfl rfl rfl (by decide +kernel) ⟨(Nat.le_of_ble_eq_true rfl), (Nat.le_of_ble_eq_true rfl)⟩) 5 1 rfl rfl rfl rfl hl.1 rfl (Nat.le_of_ble_eq_true rfl) dX3_nextSender_55 ⟨(Nat.le_of_ble_eq_true rfl), (Nat.le_of_ble_eq_true rfl)⟩ (fun r_60 u H locs hw hP2 hD2 hS2 => ?_)
            clear hP hD hS
            obtain ⟨zr_61, rfl, rfl, hf_62⟩ := hw
            have hPD : PD D A [(Nn, .inr (3, [.int (nI hp), .int (nI cc), .int zrs, .int zad, .int zpr, .int (nI t), .int zlo, .int zps, .ref Nl, .ref Nf, .ref Nb])), (Nl, .inl (g 1, 3, .inr (.inr (.inr (.inr (rf3 L0 M1 M2)))))), (Nb, .inl (g 0, 12, .inl fbuf)), (L0, .inr (2, [.int (nI d0), .int (fk0 1), .int (fk0 2), .int (fv0 3), .int (fv0 4), .int (fv0 5), .ref L0c, .ref L0u, .ref L0p, .ref L0l])), (L0l, .inl (g 2, 3, .inr (.inr (.inr (.inr (rf3 L0a L0b L0d)))))), (L0b, .inr (1, [.int (fb0 0), .int (fb0 1), .int (fb0 2), .int (fb0 3), .int (fb0 4), .int (fb0 5), .int (fb0 6)])), (L0d, .inr (1, [.int (fd0 0), .int (fd0 1), .int (fd0 2), .int (fd0 3), .int (fd0 4), .int (fd0 5), .int (fd0 6)])), (L0a, .inr (1, [.int (fa0 0), .int (fa0 1), .int (fa0 2), .int (fa0 3), .int (fa0 4), .int (fa0 5), .int (fa0 6)]))] H := ⟨hP2, hD2⟩
            have hS := hS2; clear hP2 hD2 hS2; have hP := hPD.1; have hD := hPD.2; clear hPD
            refine W.widen (k := 0) (n := 0) (Nat.le_of_ble_eq_true rfl) (Nat.le_of_ble_eq_true rfl) ?_
            refine lv_aload hx hb dX3_nextSender_58 (lv_at hl 0 rfl) ?_
            refine va_get (D := D) (ci := 1) (v := .int (fa0 3)) (C := RX1) (T := TX1) (N := 7) hx hb hts iX1 hown hK hP 7 rfl rfl 3 (by decide) f195 (fun _ h9 => h9) rfl dX3_nextSender_60 ?_
            refine lv_icmp_ge (tgt := 69) hx hb dX3_nextSender_63 (by decide) (fun cb_63 => ?_) (fun cb_63 => ?_)
            · skip
              refine lv_iinc (v := (nI (i_23 + 1))) (lv' := [(3, .int (nI (i_23 + 1))), (5, .ref L0a), (4, .int (nI 0)), (2, .ref L0), (0, .ref Nn), (1, .int 0)]) hx hb dX3_nextSender_69 hl (k := 2) rfl (nI_1 (i_23)) (by decide) rfl (fun ls hl => ?_)
              refine lv_goto (tgt := 9) hx hb dX3_nextSender_72 (by decide) ?_
              exact loop_50_ih (i_23 + 1) (show (i_23 + 1) ≤ cc + 1 by omega) (show 1 ≤ (i_23 + 1) by omega) (show (cc + 1) - (i_23 + 1) < Nloop_50 by omega) _ _ _ (hP.sub [0, 1, 2, 3, 4, 7, 5, 6] rfl) (hD.sub [0, 1, 2, 3, 4, 7, 5, 6] (by decide) rfl) hS (lv_sub hl [0, 3, 4, 5] rfl)
            · skip
              refine lv_iload hx hb dX3_nextSender_66 (lv_at hl 1 rfl) ?_
              have hPD9 : PD D A [(Nn, .inr (3, [.int (nI hp), .int (nI cc), .int zrs, .int zad, .int zpr, .int (nI t), .int zlo, .int zps, .ref Nl, .ref Nf, .ref Nb])), (Nl, .inl (g 1, 3, .inr (.inr (.inr (.inr (rf3 L0 M1 M2)))))), (Nb, .inl (g 0, 12, .inl fbuf)), (L0, .inr (2, [.int (nI d0), .int (fk0 1), .int (fk0 2), .int (fv0 3), .int (fv0 4), .int (fv0 5), .ref L0c, .ref L0u, .ref L0p, .ref L0l])), (L0l, .inl (g 2, 3, .inr (.inr (.inr (.inr (rf3 L0a L0b L0d)))))), (L0a, .inr (1, [.int (fa0 0), .int (fa0 1), .int (fa0 2), .int (fa0 3), .int (fa0 4), .int (fa0 5), .int (fa0 6)])), (L0b, .inr (1, [.int (fb0 0), .int (fb0 1), .int (fb0 2), .int (fb0 3), .int (fb0 4), .int (fb0 5), .int (fb0 6)])), (L0d, .inr (1, [.int (fd0 0), .int (fd0 1), .int (fd0 2), .int (fd0 3), .int (fd0 4), .int (fd0 5), .int (fd0 6)]))] H := ⟨hP.sub [0, 1, 2, 3, 4, 7, 5, 6] rfl, hD.sub [0, 1, 2, 3, 4, 7, 5, 6] (by decide) rfl⟩
              have hP9 := hPD9.1; have hD9 := hPD9.2
              subst hQ
              refine W.widen (k := 0) (n := 0) (Nat.le_of_ble_eq_true rfl) (Nat.le_of_ble_eq_true rfl) ?_
              exact W.iret (v := (nI 0)) hx hb hr (fun tS htS _ => ⟨⟨_, _, rfl, ⟨(nI 0), rfl, rfl, (okc_n (show 0 < 3 by omega))⟩, by rw [htS]; exact hP9, hD9⟩, hS.F htS⟩) hS.2.2 dX3_nextSender_68
        · skip
          have hP := hPq_57; have hD := hDq_57; have hS := hSq_57; have hl := hlq_57; clear hPq_57 hDq_57 hSq_57 hlq_57
          refine va_aldq (C := "HopCredits$Lane") hx hb hK hP 4 2 rfl rfl (by unfold vp_in; decide) dX3_nextSender_36 ?_
          refine lv_eqv (v2 := .ref L0b) rfl ?_
          refine lv_astore (lv' := [(5, .ref L0b), (4, .int (nI 1)), (3, .int (nI i_23)), (2, .ref L0), (0, .ref Nn), (1, .int 0)]) hx hb dX3_nextSender_37 hl (by decide) rfl (fun ls hl => ?_)
          refine lv_aload_n hx hb dX3_nextSender_39 rfl (lv_at hl 4 rfl) ?_
          refine va_get (D := D) (ci := 3) (v := .ref Nb) (C := RX3) (T := TX3) (N := 11) hx hb hts iX3 hown hK hP 0 rfl rfl 10 (by decide) f23 (fun _ h9 => h9) rfl dX3_nextSender_40 ?_
          refine lv_iload_n hx hb dX3_nextSender_43 rfl (lv_at hl 5 rfl) ?_
          refine lv_iconst (v := 3) hx hb dX3_nextSender_44 (by decide) ?_
          refine lv_imul hx hb dX3_nextSender_45 ?_
          refine lv_eqi (y := 0) (by decide) ?_
          refine lv_iload hx hb dX3_nextSender_46 (lv_at hl 1 rfl) ?_
          refine lv_iadd hx hb dX3_nextSender_48 ?_
          refine lv_eqi (y := 1) (by decide) ?_
          refine va_iald hx hb hK hP 2 0 rfl rfl (by unfold vp_in; decide) dX3_nextSender_49 ?_
          refine lv_eqi (y := (fbuf 1)) (rfl) ?_
          refine lv_topi (fun y_64 _ => ?_)
          refine lv_if_le (tgt := 69) hx hb dX3_nextSender_50 (by decide) (fun cb_65 => ?_) (fun cb_65 => ?_)
          · skip
            refine lv_iinc (v := (nI (i_23 + 1))) (lv' := [(3, .int (nI (i_23 + 1))), (5, .ref L0b), (4, .int (nI 1)), (2, .ref L0), (0, .ref Nn), (1, .int 0)]) hx hb dX3_nextSender_69 hl (k := 2) rfl (nI_1 (i_23)) (by decide) rfl (fun ls hl => ?_)
            refine lv_goto (tgt := 9) hx hb dX3_nextSender_72 (by decide) ?_
            exact loop_50_ih (i_23 + 1) (show (i_23 + 1) ≤ cc + 1 by omega) (show 1 ≤ (i_23 + 1) by omega) (show (cc + 1) - (i_23 + 1) < Nloop_50 by omega) _ _ _ hP hD hS (lv_sub hl [0, 3, 4, 5] rfl)
          · skip
            refine lv_aload hx hb dX3_nextSender_53 (lv_at hl 0 rfl) ?_
            refine ky_Vi (As := []) (rest := []) ⟨hx, hb, hml, hown, hts⟩ ⟨hK, hN⟩ hZ hP hD hS hA [6] [0, 1, 2, 3, 4, 5, 7] (wc := [(L0b, .inr (1, [.int (fb0 0), .int (fb0 1), .int (fb0 2), .int (fb0 3), .int (fb0 4), .int (fb0 5), .int (fb0 6)]))]) (wr := [(Nn, .inr (3, [.int (nI hp), .int (nI cc), .int zrs, .int zad, .int zpr, .int (nI t), .int zlo, .int zps, .ref Nl, .ref Nf, .ref Nb])), (Nl, .inl (g 1, 3, .inr (.inr (.inr (.inr (rf3 L0 M1 M2)))))), (Nb, .inl (g 0, 12, .inl fbuf)), (L0, .inr (2, [.int (nI d0), .int (fk0 1), .int (fk0 2), .int (fv0 3), .int (fv0 4), .int (fv0 5), .ref L0c, .ref L0u, .ref L0p, .ref L0l])), (L0l, .inl (g 2, 3, .inr (.inr (.inr (.inr (rf3 L0a L0b L0d)))))), (L0a, .inr (1, [.int (fa0 0), .int (fa0 1), .int (fa0 2), .int (fa0 3), .int (fa0 4), .int (fa0 5), .int (fa0 6)])), (L0d, .inr (1, [.int (fd0 0), .int (fd0 1), .int (fd0 2), .int (fd0 3), .int (fd0 4), .int (fd0 5), .int (fd0 6)]))]) rfl rfl rfl rfl (by decide) (k_X1_out l D g H.size L0b fb0) (cwV 0 hts gX3_nextSender_X1_out rfl rfl rfl (by decide +kernel) ⟨(Nat.le_of_ble_eq_true rfl), (Nat.le_of_ble_eq_true rfl)⟩) 6 1 rfl rfl rfl rfl hl.1 rfl (Nat.le_of_ble_eq_true rfl) dX3_nextSender_55 ⟨(Nat.le_of_ble_eq_true rfl), (Nat.le_of_ble_eq_true rfl)⟩ (fun r_66 u H locs hw hP2 hD2 hS2 => ?_)
            clear hP hD hS
            obtain ⟨zr_67, rfl, rfl, hf_68⟩ := hw
            have hPD : PD D A [(Nn, .inr (3, [.int (nI hp), .int (nI cc), .int zrs, .int zad, .int zpr, .int (nI t), .int zlo, .int zps, .ref Nl, .ref Nf, .ref Nb])), (Nl, .inl (g 1, 3, .inr (.inr (.inr (.inr (rf3 L0 M1 M2)))))), (Nb, .inl (g 0, 12, .inl fbuf)), (L0, .inr (2, [.int (nI d0), .int (fk0 1), .int (fk0 2), .int (fv0 3), .int (fv0 4), .int (fv0 5), .ref L0c, .ref L0u, .ref L0p, .ref L0l])), (L0l, .inl (g 2, 3, .inr (.inr (.inr (.inr (rf3 L0a L0b L0d)))))), (L0a, .inr (1, [.int (fa0 0), .int (fa0 1), .int (fa0 2), .int (fa0 3), .int (fa0 4), .int (fa0 5), .int (fa0 6)])), (L0d, .inr (1, [.int (fd0 0), .int (fd0 1), .int (fd0 2), .int (fd0 3), .int (fd0 4), .int (fd0 5), .int (fd0 6)])), (L0b, .inr (1, [.int (fb0 0), .int (fb0 1), .int (fb0 2), .int (fb0 3), .int (fb0 4), .int (fb0 5), .int (fb0 6)]))] H := ⟨hP2, hD2⟩
            have hS := hS2; clear hP2 hD2 hS2; have hP := hPD.1; have hD := hPD.2; clear hPD
            refine W.widen (k := 0) (n := 0) (Nat.le_of_ble_eq_true rfl) (Nat.le_of_ble_eq_true rfl) ?_
            refine lv_aload hx hb dX3_nextSender_58 (lv_at hl 0 rfl) ?_
            refine va_get (D := D) (ci := 1) (v := .int (fb0 3)) (C := RX1) (T := TX1) (N := 7) hx hb hts iX1 hown hK hP 7 rfl rfl 3 (by decide) f195 (fun _ h9 => h9) rfl dX3_nextSender_60 ?_
            refine lv_icmp_ge (tgt := 69) hx hb dX3_nextSender_63 (by decide) (fun cb_69 => ?_) (fun cb_69 => ?_)
            · skip
              refine lv_iinc (v := (nI (i_23 + 1))) (lv' := [(3, .int (nI (i_23 + 1))), (5, .ref L0b), (4, .int (nI 1)), (2, .ref L0), (0, .ref Nn), (1, .int 0)]) hx hb dX3_nextSender_69 hl (k := 2) rfl (nI_1 (i_23)) (by decide) rfl (fun ls hl => ?_)
              refine lv_goto (tgt := 9) hx hb dX3_nextSender_72 (by decide) ?_
              exact loop_50_ih (i_23 + 1) (show (i_23 + 1) ≤ cc + 1 by omega) (show 1 ≤ (i_23 + 1) by omega) (show (cc + 1) - (i_23 + 1) < Nloop_50 by omega) _ _ _ (hP.sub [0, 1, 2, 3, 4, 5, 7, 6] rfl) (hD.sub [0, 1, 2, 3, 4, 5, 7, 6] (by decide) rfl) hS (lv_sub hl [0, 3, 4, 5] rfl)
            · skip
              refine lv_iload hx hb dX3_nextSender_66 (lv_at hl 1 rfl) ?_
              have hPD9 : PD D A [(Nn, .inr (3, [.int (nI hp), .int (nI cc), .int zrs, .int zad, .int zpr, .int (nI t), .int zlo, .int zps, .ref Nl, .ref Nf, .ref Nb])), (Nl, .inl (g 1, 3, .inr (.inr (.inr (.inr (rf3 L0 M1 M2)))))), (Nb, .inl (g 0, 12, .inl fbuf)), (L0, .inr (2, [.int (nI d0), .int (fk0 1), .int (fk0 2), .int (fv0 3), .int (fv0 4), .int (fv0 5), .ref L0c, .ref L0u, .ref L0p, .ref L0l])), (L0l, .inl (g 2, 3, .inr (.inr (.inr (.inr (rf3 L0a L0b L0d)))))), (L0a, .inr (1, [.int (fa0 0), .int (fa0 1), .int (fa0 2), .int (fa0 3), .int (fa0 4), .int (fa0 5), .int (fa0 6)])), (L0b, .inr (1, [.int (fb0 0), .int (fb0 1), .int (fb0 2), .int (fb0 3), .int (fb0 4), .int (fb0 5), .int (fb0 6)])), (L0d, .inr (1, [.int (fd0 0), .int (fd0 1), .int (fd0 2), .int (fd0 3), .int (fd0 4), .int (fd0 5), .int (fd0 6)]))] H := ⟨hP.sub [0, 1, 2, 3, 4, 5, 7, 6] rfl, hD.sub [0, 1, 2, 3, 4, 5, 7, 6] (by decide) rfl⟩
              have hP9 := hPD9.1; have hD9 := hPD9.2
              subst hQ
              refine W.widen (k := 0) (n := 0) (Nat.le_of_ble_eq_true rfl) (Nat.le_of_ble_eq_true rfl) ?_
              exact W.iret (v := (nI 1)) hx hb hr (fun tS htS _ => ⟨⟨_, _, rfl, ⟨(nI 1), rfl, rfl, (okc_n (show 1 < 3 by omega))⟩, by rw [htS]; exact hP9, hD9⟩, hS.F htS⟩) hS.2.2 dX3_nextSender_68
        · skip
          have hP := hPq_57; have hD := hDq_57; have hS := hSq_57; have hl := hlq_57; clear hPq_57 hDq_57 hSq_57 hlq_57
          refine va_aldq (C := "HopCredits$Lane") hx hb hK hP 4 2 rfl rfl (by unfold vp_in; decide) dX3_nextSender_36 ?_
          refine lv_eqv (v2 := .ref L0d) rfl ?_
          refine lv_astore (lv' := [(5, .ref L0d), (4, .int (nI 2)), (3, .int (nI i_23)), (2, .ref L0), (0, .ref Nn), (1, .int 0)]) hx hb dX3_nextSender_37 hl (by decide) rfl (fun ls hl => ?_)
          refine lv_aload_n hx hb dX3_nextSender_39 rfl (lv_at hl 4 rfl) ?_
          refine va_get (D := D) (ci := 3) (v := .ref Nb) (C := RX3) (T := TX3) (N := 11) hx hb hts iX3 hown hK hP 0 rfl rfl 10 (by decide) f23 (fun _ h9 => h9) rfl dX3_nextSender_40 ?_
          refine lv_iload_n hx hb dX3_nextSender_43 rfl (lv_at hl 5 rfl) ?_
          refine lv_iconst (v := 3) hx hb dX3_nextSender_44 (by decide) ?_
          refine lv_imul hx hb dX3_nextSender_45 ?_
          refine lv_eqi (y := 0) (by decide) ?_
          refine lv_iload hx hb dX3_nextSender_46 (lv_at hl 1 rfl) ?_
          refine lv_iadd hx hb dX3_nextSender_48 ?_
          refine lv_eqi (y := 2) (by decide) ?_
          refine va_iald hx hb hK hP 2 0 rfl rfl (by unfold vp_in; decide) dX3_nextSender_49 ?_
          refine lv_eqi (y := (fbuf 2)) (rfl) ?_
          refine lv_topi (fun y_70 _ => ?_)
          refine lv_if_le (tgt := 69) hx hb dX3_nextSender_50 (by decide) (fun cb_71 => ?_) (fun cb_71 => ?_)
          · skip
            refine lv_iinc (v := (nI (i_23 + 1))) (lv' := [(3, .int (nI (i_23 + 1))), (5, .ref L0d), (4, .int (nI 2)), (2, .ref L0), (0, .ref Nn), (1, .int 0)]) hx hb dX3_nextSender_69 hl (k := 2) rfl (nI_1 (i_23)) (by decide) rfl (fun ls hl => ?_)
            refine lv_goto (tgt := 9) hx hb dX3_nextSender_72 (by decide) ?_
            exact loop_50_ih (i_23 + 1) (show (i_23 + 1) ≤ cc + 1 by omega) (show 1 ≤ (i_23 + 1) by omega) (show (cc + 1) - (i_23 + 1) < Nloop_50 by omega) _ _ _ hP hD hS (lv_sub hl [0, 3, 4, 5] rfl)
          · skip
            refine lv_aload hx hb dX3_nextSender_53 (lv_at hl 0 rfl) ?_
            refine ky_Vi (As := []) (rest := []) ⟨hx, hb, hml, hown, hts⟩ ⟨hK, hN⟩ hZ hP hD hS hA [7] [0, 1, 2, 3, 4, 5, 6] (wc := [(L0d, .inr (1, [.int (fd0 0), .int (fd0 1), .int (fd0 2), .int (fd0 3), .int (fd0 4), .int (fd0 5), .int (fd0 6)]))]) (wr := [(Nn, .inr (3, [.int (nI hp), .int (nI cc), .int zrs, .int zad, .int zpr, .int (nI t), .int zlo, .int zps, .ref Nl, .ref Nf, .ref Nb])), (Nl, .inl (g 1, 3, .inr (.inr (.inr (.inr (rf3 L0 M1 M2)))))), (Nb, .inl (g 0, 12, .inl fbuf)), (L0, .inr (2, [.int (nI d0), .int (fk0 1), .int (fk0 2), .int (fv0 3), .int (fv0 4), .int (fv0 5), .ref L0c, .ref L0u, .ref L0p, .ref L0l])), (L0l, .inl (g 2, 3, .inr (.inr (.inr (.inr (rf3 L0a L0b L0d)))))), (L0a, .inr (1, [.int (fa0 0), .int (fa0 1), .int (fa0 2), .int (fa0 3), .int (fa0 4), .int (fa0 5), .int (fa0 6)])), (L0b, .inr (1, [.int (fb0 0), .int (fb0 1), .int (fb0 2), .int (fb0 3), .int (fb0 4), .int (fb0 5), .int (fb0 6)]))]) rfl rfl rfl rfl (by decide) (k_X1_out l D g H.size L0d fd0) (cwV 0 hts gX3_nextSender_X1_out rfl rfl rfl (by decide +kernel) ⟨(Nat.le_of_ble_eq_true rfl), (Nat.le_of_ble_eq_true rfl)⟩) 7 1 rfl rfl rfl rfl hl.1 rfl (Nat.le_of_ble_eq_true rfl) dX3_nextSender_55 ⟨(Nat.le_of_ble_eq_true rfl), (Nat.le_of_ble_eq_true rfl)⟩ (fun r_72 u H locs hw hP2 hD2 hS2 => ?_)
            clear hP hD hS
            obtain ⟨zr_73, rfl, rfl, hf_74⟩ := hw
            have hPD : PD D A [(Nn, .inr (3, [.int (nI hp), .int (nI cc), .int zrs, .int zad, .int zpr, .int (nI t), .int zlo, .int zps, .ref Nl, .ref Nf, .ref Nb])), (Nl, .inl (g 1, 3, .inr (.inr (.inr (.inr (rf3 L0 M1 M2)))))), (Nb, .inl (g 0, 12, .inl fbuf)), (L0, .inr (2, [.int (nI d0), .int (fk0 1), .int (fk0 2), .int (fv0 3), .int (fv0 4), .int (fv0 5), .ref L0c, .ref L0u, .ref L0p, .ref L0l])), (L0l, .inl (g 2, 3, .inr (.inr (.inr (.inr (rf3 L0a L0b L0d)))))), (L0a, .inr (1, [.int (fa0 0), .int (fa0 1), .int (fa0 2), .int (fa0 3), .int (fa0 4), .int (fa0 5), .int (fa0 6)])), (L0b, .inr (1, [.int (fb0 0), .int (fb0 1), .int (fb0 2), .int (fb0 3), .int (fb0 4), .int (fb0 5), .int (fb0 6)])), (L0d, .inr (1, [.int (fd0 0), .int (fd0 1), .int (fd0 2), .int (fd0 3), .int (fd0 4), .int (fd0 5), .int (fd0 6)]))] H := ⟨hP2, hD2⟩
            have hS := hS2; clear hP2 hD2 hS2; have hP := hPD.1; have hD := hPD.2; clear hPD
            refine W.widen (k := 0) (n := 0) (Nat.le_of_ble_eq_true rfl) (Nat.le_of_ble_eq_true rfl) ?_
            refine lv_aload hx hb dX3_nextSender_58 (lv_at hl 0 rfl) ?_
            refine va_get (D := D) (ci := 1) (v := .int (fd0 3)) (C := RX1) (T := TX1) (N := 7) hx hb hts iX1 hown hK hP 7 rfl rfl 3 (by decide) f195 (fun _ h9 => h9) rfl dX3_nextSender_60 ?_
            refine lv_icmp_ge (tgt := 69) hx hb dX3_nextSender_63 (by decide) (fun cb_75 => ?_) (fun cb_75 => ?_)
            · skip
              refine lv_iinc (v := (nI (i_23 + 1))) (lv' := [(3, .int (nI (i_23 + 1))), (5, .ref L0d), (4, .int (nI 2)), (2, .ref L0), (0, .ref Nn), (1, .int 0)]) hx hb dX3_nextSender_69 hl (k := 2) rfl (nI_1 (i_23)) (by decide) rfl (fun ls hl => ?_)
              refine lv_goto (tgt := 9) hx hb dX3_nextSender_72 (by decide) ?_
              exact loop_50_ih (i_23 + 1) (show (i_23 + 1) ≤ cc + 1 by omega) (show 1 ≤ (i_23 + 1) by omega) (show (cc + 1) - (i_23 + 1) < Nloop_50 by omega) _ _ _ hP hD hS (lv_sub hl [0, 3, 4, 5] rfl)
            · skip
              refine lv_iload hx hb dX3_nextSender_66 (lv_at hl 1 rfl) ?_
              have hP9 := hP; have hD9 := hD
              subst hQ
              refine W.widen (k := 0) (n := 0) (Nat.le_of_ble_eq_true rfl) (Nat.le_of_ble_eq_true rfl) ?_
              exact W.iret (v := (nI 2)) hx hb hr (fun tS htS _ => ⟨⟨_, _, rfl, ⟨(nI 2), rfl, rfl, (okc_n (show 2 < 3 by omega))⟩, by rw [htS]; exact hP9, hD9⟩, hS.F htS⟩) hS.2.2 dX3_nextSender_68
  exact loop_50 _ 1 (show 1 ≤ cc + 1 by omega) (show 1 ≤ 1 by omega) (Nat.lt_succ_self _) _ _ _ hP hD hS hl
