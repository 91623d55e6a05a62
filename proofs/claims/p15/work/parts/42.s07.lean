set_option maxHeartbeats 4000000 in
set_option maxRecDepth 100000 in
theorem k_X3_layRules (l : Launch) (D : va_G) (g : Nat → ClassId) (sz : Nat) (Nn : Nat) (zva : Int32) (zvb : Int32) (zvc : Int32) (fn : Nat → Int32) (Nl : Nat) (Nf : Nat) (Nb : Nat) (fbuf : Nat → Int32) : Met l yX3_layRules wsX3_layRules ({ frames := 0, cells := 0, slots := 0, locals := 0 }) (va_Pc [.ref Nn, .int zva, .int zvb, .int zvc] (pre D g sz [(Nn, .inr (3, [.int (fn 0), .int (fn 1), .int (fn 2), .int (fn 3), .int (fn 4), .int (fn 5), .int (fn 6), .int (fn 7), .ref Nl, .ref Nf, .ref Nb])), (Nb, .inl (g 0, 12, .inl fbuf))])) (va_Qv (fun (u : va_W) => ∃ (fbufx : Nat → Int32), u = [(Nn, .inr (3, [.int zva, .int zvb, .int zvc, .int 0, .int 0, .int 0, .int 0, .int 0, .ref Nl, .ref Nf, .ref Nb])), (Nb, .inl (g 0, 12, .inl fbufx))]) (wd D (va_A [(Nn, .inr (3, [.int (fn 0), .int (fn 1), .int (fn 2), .int (fn 3), .int (fn 4), .int (fn 5), .int (fn 6), .int (fn 7), .ref Nl, .ref Nf, .ref Nb])), (Nb, .inl (g 0, 12, .inl fbuf))] sz)) (va_A [(Nn, .inr (3, [.int (fn 0), .int (fn 1), .int (fn 2), .int (fn 3), .int (fn 4), .int (fn 5), .int (fn 6), .int (fn 7), .ref Nl, .ref Nf, .ref Nb])), (Nb, .inl (g 0, 12, .inl fbuf))] sz)) 0 0 (va_A [(Nn, .inr (3, [.int (fn 0), .int (fn 1), .int (fn 2), .int (fn 3), .int (fn 4), .int (fn 5), .int (fn 6), .int (fn 7), .ref Nl, .ref Nf, .ref Nb])), (Nb, .inl (g 0, 12, .inl fbuf))] sz) := by
  refine Met.ofW (cc := cX3_layRules) (maxL := 5) (ret := none) (by decide) rfl ?_
  intro p e s m args below meth c s₁ B hml hv
  obtain ⟨rfl, hsz, hP, ⟨hK, hN⟩, hD0, hZ⟩ := hv
  have hx := B.exec
  have hb := B.bytes
  have hr := B.returns
  have hts := atoms_spec (ws := wsX3_layRules) B.pre
  have hown : s.vm.findClass RX3 = some m.cls := findClass_of_methodNamed B.named
  have hlocks := B.notSynchronized
  clear B
  subst hsz
  have hD := hD0.self (sz := s.heap.size)
  clear hD0
  generalize hAe : va_A [(Nn, .inr (3, [.int (fn 0), .int (fn 1), .int (fn 2), .int (fn 3), .int (fn 4), .int (fn 5), .int (fn 6), .int (fn 7), .ref Nl, .ref Nf, .ref Nb])), (Nb, .inl (g 0, 12, .inl fbuf))] s.heap.size = A at hD hZ ⊢
  have hA : ∀ q : Nat, s.heap.size ≤ q → A q := fun q h => by rw [← hAe]; exact Or.inr h
  have hS : va_S A s.heap s.heap [] := va_S.rf
  have f23 := hts (.fieldLink RX3 23 "HopCredits$Net" "buffers" "[I") (List.mem_of_getElem? (i := 9) rfl)
  have f46 := hts (.fieldLink RX3 46 "HopCredits$Net" "adapts" "I") (List.mem_of_getElem? (i := 4) rfl)
  have f50 := hts (.fieldLink RX3 50 "HopCredits$Net" "probes" "I") (List.mem_of_getElem? (i := 5) rfl)
  have f53 := hts (.fieldLink RX3 53 "HopCredits$Net" "hops" "I") (List.mem_of_getElem? (i := 1) rfl)
  have f59 := hts (.fieldLink RX3 59 "HopCredits$Net" "reserve" "I") (List.mem_of_getElem? (i := 3) rfl)
  have f62 := hts (.fieldLink RX3 62 "HopCredits$Net" "circuits" "I") (List.mem_of_getElem? (i := 2) rfl)
  have f78 := hts (.fieldLink RX3 78 "HopCredits$Net" "tick" "I") (List.mem_of_getElem? (i := 6) rfl)
  have f81 := hts (.fieldLink RX3 81 "HopCredits$Net" "lost" "I") (List.mem_of_getElem? (i := 7) rfl)
  have f84 := hts (.fieldLink RX3 84 "HopCredits$Net" "probesSent" "I") (List.mem_of_getElem? (i := 8) rfl)
  have iX3 : ∀ w ∈ u_ws RX3 TX3 11, w ∈ wsX3_layRules := fun w h => List.mem_cons_of_mem _ (List.mem_append_right _ (h))
  have hl := lv_entry ([.ref Nn, .int zva, .int zvb, .int zvc]) (n := 5) (Nat.le_of_ble_eq_true rfl)
  rw [lg_entry_eq]
  generalize (lg_sl ([.ref Nn, .int zva, .int zvb, .int zvc]) ++ List.replicate (5 - (lg_sl ([.ref Nn, .int zva, .int zvb, .int zvc])).length) Slot.unset).toArray = ls at hl ⊢
  have hl : lv_has ls 5 [(0, .ref Nn), (1, .int zva), (2, .int zvb), (3, .int zvc)] := hl
  generalize hQ : MQ below _ _ s _ _ _ = Q
  generalize hH : s.heap = H at hP ⊢
  have hS : va_S A s.heap H [] := by rw [← hH]; exact hS
  clear hH
  refine lv_aload_n hx hb dX3_layRules_0 rfl (lv_at hl 0 rfl) ?_
  refine lv_iload_n hx hb dX3_layRules_1 rfl (lv_at hl 1 rfl) ?_
  refine va_put (D := D) (ci := 3) (v := .int zva) (ty := .int) (C := RX3) (T := TX3) (N := 11) hx hb hts iX3 tyX3 tyX3_ok nmX3 hown hK hP hD hS 0 rfl rfl 0 (by decide) f53 (fun _ h9 => h9) rfl (by decide +kernel) (rfl) (rfl) (Nat.le_of_ble_eq_true rfl) dX3_layRules_2 (fun H locs hP2 hD2 hS2 => ?_)
  clear hP hD hS
  have hPD : PD D A [(Nn, .inr (3, [.int zva, .int (fn 1), .int (fn 2), .int (fn 3), .int (fn 4), .int (fn 5), .int (fn 6), .int (fn 7), .ref Nl, .ref Nf, .ref Nb])), (Nb, .inl (g 0, 12, .inl fbuf))] H := ⟨hP2, hD2⟩
  have hS := hS2; clear hP2 hD2 hS2; have hP := hPD.1; have hD := hPD.2; clear hPD
  refine lv_aload_n hx hb dX3_layRules_5 rfl (lv_at hl 0 rfl) ?_
  refine lv_iload_n hx hb dX3_layRules_6 rfl (lv_at hl 2 rfl) ?_
  refine va_put (D := D) (ci := 3) (v := .int zvb) (ty := .int) (C := RX3) (T := TX3) (N := 11) hx hb hts iX3 tyX3 tyX3_ok nmX3 hown hK hP hD hS 0 rfl rfl 1 (by decide) f62 (fun _ h9 => h9) rfl (by decide +kernel) (rfl) (rfl) (Nat.le_of_ble_eq_true rfl) dX3_layRules_7 (fun H locs hP2 hD2 hS2 => ?_)
  clear hP hD hS
  have hPD : PD D A [(Nn, .inr (3, [.int zva, .int zvb, .int (fn 2), .int (fn 3), .int (fn 4), .int (fn 5), .int (fn 6), .int (fn 7), .ref Nl, .ref Nf, .ref Nb])), (Nb, .inl (g 0, 12, .inl fbuf))] H := ⟨hP2, hD2⟩
  have hS := hS2; clear hP2 hD2 hS2; have hP := hPD.1; have hD := hPD.2; clear hPD
  refine lv_aload_n hx hb dX3_layRules_10 rfl (lv_at hl 0 rfl) ?_
  refine lv_iload_n hx hb dX3_layRules_11 rfl (lv_at hl 3 rfl) ?_
  refine va_put (D := D) (ci := 3) (v := .int zvc) (ty := .int) (C := RX3) (T := TX3) (N := 11) hx hb hts iX3 tyX3 tyX3_ok nmX3 hown hK hP hD hS 0 rfl rfl 2 (by decide) f59 (fun _ h9 => h9) rfl (by decide +kernel) (rfl) (rfl) (Nat.le_of_ble_eq_true rfl) dX3_layRules_12 (fun H locs hP2 hD2 hS2 => ?_)
  clear hP hD hS
  have hPD : PD D A [(Nn, .inr (3, [.int zva, .int zvb, .int zvc, .int (fn 3), .int (fn 4), .int (fn 5), .int (fn 6), .int (fn 7), .ref Nl, .ref Nf, .ref Nb])), (Nb, .inl (g 0, 12, .inl fbuf))] H := ⟨hP2, hD2⟩
  have hS := hS2; clear hP2 hD2 hS2; have hP := hPD.1; have hD := hPD.2; clear hPD
  refine lv_aload_n hx hb dX3_layRules_15 rfl (lv_at hl 0 rfl) ?_
  refine lv_iconst (v := 0) hx hb dX3_layRules_16 (by decide) ?_
  refine va_put (D := D) (ci := 3) (v := .int 0) (ty := .int) (C := RX3) (T := TX3) (N := 11) hx hb hts iX3 tyX3 tyX3_ok nmX3 hown hK hP hD hS 0 rfl rfl 3 (by decide) f46 (fun _ h9 => h9) rfl (by decide +kernel) (rfl) (rfl) (Nat.le_of_ble_eq_true rfl) dX3_layRules_17 (fun H locs hP2 hD2 hS2 => ?_)
  clear hP hD hS
  have hPD : PD D A [(Nn, .inr (3, [.int zva, .int zvb, .int zvc, .int 0, .int (fn 4), .int (fn 5), .int (fn 6), .int (fn 7), .ref Nl, .ref Nf, .ref Nb])), (Nb, .inl (g 0, 12, .inl fbuf))] H := ⟨hP2, hD2⟩
  have hS := hS2; clear hP2 hD2 hS2; have hP := hPD.1; have hD := hPD.2; clear hPD
  refine lv_aload_n hx hb dX3_layRules_20 rfl (lv_at hl 0 rfl) ?_
  refine lv_iconst (v := 0) hx hb dX3_layRules_21 (by decide) ?_
  refine va_put (D := D) (ci := 3) (v := .int 0) (ty := .int) (C := RX3) (T := TX3) (N := 11) hx hb hts iX3 tyX3 tyX3_ok nmX3 hown hK hP hD hS 0 rfl rfl 4 (by decide) f50 (fun _ h9 => h9) rfl (by decide +kernel) (rfl) (rfl) (Nat.le_of_ble_eq_true rfl) dX3_layRules_22 (fun H locs hP2 hD2 hS2 => ?_)
  clear hP hD hS
  have hPD : PD D A [(Nn, .inr (3, [.int zva, .int zvb, .int zvc, .int 0, .int 0, .int (fn 5), .int (fn 6), .int (fn 7), .ref Nl, .ref Nf, .ref Nb])), (Nb, .inl (g 0, 12, .inl fbuf))] H := ⟨hP2, hD2⟩
  have hS := hS2; clear hP2 hD2 hS2; have hP := hPD.1; have hD := hPD.2; clear hPD
  refine lv_aload_n hx hb dX3_layRules_25 rfl (lv_at hl 0 rfl) ?_
  refine lv_iconst (v := 0) hx hb dX3_layRules_26 (by decide) ?_
  refine va_put (D := D) (ci := 3) (v := .int 0) (ty := .int) (C := RX3) (T := TX3) (N := 11) hx hb hts iX3 tyX3 tyX3_ok nmX3 hown hK hP hD hS 0 rfl rfl 5 (by decide) f78 (fun _ h9 => h9) rfl (by decide +kernel) (rfl) (rfl) (Nat.le_of_ble_eq_true rfl) dX3_layRules_27 (fun H locs hP2 hD2 hS2 => ?_)
  clear hP hD hS
  have hPD : PD D A [(Nn, .inr (3, [.int zva, .int zvb, .int zvc, .int 0, .int 0, .int 0, .int (fn 6), .int (fn 7), .ref Nl, .ref Nf, .ref Nb])), (Nb, .inl (g 0, 12, .inl fbuf))] H := ⟨hP2, hD2⟩
  have hS := hS2; clear hP2 hD2 hS2; have hP := hPD.1; have hD := hPD.2; clear hPD
  refine lv_aload_n hx hb dX3_layRules_30 rfl (lv_at hl 0 rfl) ?_
  refine lv_iconst (v := 0) hx hb dX3_layRules_31 (by decide) ?_
  refine va_put (D := D) (ci := 3) (v := .int 0) (ty := .int) (C := RX3) (T := TX3) (N := 11) hx hb hts iX3 tyX3 tyX3_ok nmX3 hown hK hP hD hS 0 rfl rfl 6 (by decide) f81 (fun _ h9 => h9) rfl (by decide +kernel) (rfl) (rfl) (Nat.le_of_ble_eq_true rfl) dX3_layRules_32 (fun H locs hP2 hD2 hS2 => ?_)
  clear hP hD hS
  have hPD : PD D A [(Nn, .inr (3, [.int zva, .int zvb, .int zvc, .int 0, .int 0, .int 0, .int 0, .int (fn 7), .ref Nl, .ref Nf, .ref Nb])), (Nb, .inl (g 0, 12, .inl fbuf))] H := ⟨hP2, hD2⟩
  have hS := hS2; clear hP2 hD2 hS2; have hP := hPD.1; have hD := hPD.2; clear hPD
  refine lv_aload_n hx hb dX3_layRules_35 rfl (lv_at hl 0 rfl) ?_
  refine lv_iconst (v := 0) hx hb dX3_layRules_36 (by decide) ?_
  refine va_put (D := D) (ci := 3) (v := .int 0) (ty := .int) (C := RX3) (T := TX3) (N := 11) hx hb hts iX3 tyX3 tyX3_ok nmX3 hown hK hP hD hS 0 rfl rfl 7 (by decide) f84 (fun _ h9 => h9) rfl (by decide +kernel) (rfl) (rfl) (Nat.le_of_ble_eq_true rfl) dX3_layRules_37 (fun H locs hP2 hD2 hS2 => ?_)
  clear hP hD hS
  have hPD : PD D A [(Nn, .inr (3, [.int zva, .int zvb, .int zvc, .int 0, .int 0, .int 0, .int 0, .int 0, .ref Nl, .ref Nf, .ref Nb])), (Nb, .inl (g 0, 12, .inl fbuf))] H := ⟨hP2, hD2⟩
  have hS := hS2; clear hP2 hD2 hS2; have hP := hPD.1; have hD := hPD.2; clear hPD
  refine lv_iconst (v := 0) hx hb dX3_layRules_40 (by decide) ?_
  refine lv_istore (lv' := [(4, .int 0), (0, .ref Nn), (1, .int zva), (2, .int zvb), (3, .int zvc)]) hx hb dX3_layRules_41 hl (by decide) rfl (fun ls hl => ?_)
  have loop_8 : ∀ (Nloop_8 : Nat) (i_2 : Nat) (F_3 : Nat → Int32) (hbi_2 : i_2 ≤ 12) (hmloop_8 : 12 - i_2 < Nloop_8) (H : Heap) (locs : List Loc) (ls : Array Slot), va_P D vwCl [(Nn, .inr (3, [.int zva, .int zvb, .int zvc, .int 0, .int 0, .int 0, .int 0, .int 0, .ref Nl, .ref Nf, .ref Nb])), (Nb, .inl (g 0, 12, .inl F_3))] H → va_D A [(Nn, .inr (3, [.int zva, .int zvb, .int zvc, .int 0, .int 0, .int 0, .int 0, .int 0, .ref Nl, .ref Nf, .ref Nb])), (Nb, .inl (g 0, 12, .inl F_3))] → va_S A s.heap H locs → lv_has ls 5 [(4, .int (nI i_2)), (0, .ref Nn)] → W p l e (headSpec wsX3_layRules ({ frames := 0, cells := 0, slots := 0, locals := 0 })).room s m ([.ref Nn, .int zva, .int zvb, .int zvc] : List Value).toArray below meth c H locs 0 0 Q (F0 m 43 ls []) := by
    clear hP hD hS hl
    intro Nloop_8
    induction Nloop_8 with
    | zero => intro i_2 F_3 hbi_2 hm9; exact absurd hm9 (Nat.not_lt_zero _)
    | succ Nloop_8 loop_8_ih =>
      intro i_2 F_3 hbi_2 hmloop_8 H locs ls hP hD hS hl
      refine lv_iload hx hb dX3_layRules_43 (lv_at hl 0 rfl) ?_
      refine lv_aload_n hx hb dX3_layRules_45 rfl (lv_at hl 1 rfl) ?_
      refine va_get (D := D) (ci := 3) (v := .ref Nb) (C := RX3) (T := TX3) (N := 11) hx hb hts iX3 hown hK hP 0 rfl rfl 10 (by decide) f23 (fun _ h9 => h9) rfl dX3_layRules_46 ?_
      refine va_alen (v := 12) hx hb hK hP 1 0 rfl rfl rfl dX3_layRules_49 ?_
      refine lv_icmp_ge (tgt := 67) hx hb dX3_layRules_50 (by decide) (fun cb_9 => ?_) (fun cb_9 => ?_)
      · skip
        have cn_10 : 12 ≤ i_2 := (nI_leI (show 12 < 2 ^ 31 by omega) (show i_2 < 2 ^ 31 by omega)).mp cb_9
        have hP9 := hP; have hD9 := hD
        subst hQ
        refine W.widen (k := 0) (n := 0) (Nat.le_of_ble_eq_true rfl) (Nat.le_of_ble_eq_true rfl) ?_
        exact W.vret hx hb hr (fun tS htS _ => ⟨⟨_, rfl, ⟨F_3, rfl⟩, by rw [htS]; exact hP9, hD9⟩, hS.F htS⟩) hS.2.2 dX3_layRules_67
      · skip
        have cn_11 : i_2 < 12 := Nat.lt_of_not_le (fun q9 => cb_9 ((nI_leI (show 12 < 2 ^ 31 by omega) (show i_2 < 2 ^ 31 by omega)).mpr q9))
        refine lv_aload_n hx hb dX3_layRules_53 rfl (lv_at hl 1 rfl) ?_
        refine va_get (D := D) (ci := 3) (v := .ref Nb) (C := RX3) (T := TX3) (N := 11) hx hb hts iX3 hown hK hP 0 rfl rfl 10 (by decide) f23 (fun _ h9 => h9) rfl dX3_layRules_54 ?_
        refine lv_iload hx hb dX3_layRules_57 (lv_at hl 0 rfl) ?_
        refine lv_iconst (v := 0) hx hb dX3_layRules_59 (by decide) ?_
        refine va_iast hx hb hK hP hD hS 1 0 rfl rfl (vp_in_nI (show i_2 < 12 by omega) (by decide)) dX3_layRules_60 (fun H locs hP2 hD2 hS2 => ?_)
        clear hP hD hS
        have hPD : PD D A [(Nn, .inr (3, [.int zva, .int zvb, .int zvc, .int 0, .int 0, .int 0, .int 0, .int 0, .ref Nl, .ref Nf, .ref Nb])), (Nb, .inl (g 0, 12, .inl (upd F_3 (nI i_2).toNatClampNeg 0)))] H := ⟨hP2, hD2⟩
        have hS := hS2; clear hP2 hD2 hS2; have hP := hPD.1; have hD := hPD.2; clear hPD
        rw [nI_clamp (show i_2 < 2 ^ 31 by omega)] at hP hD
        have hPD : PD D A [(Nn, .inr (3, [.int zva, .int zvb, .int zvc, .int 0, .int 0, .int 0, .int 0, .int 0, .ref Nl, .ref Nf, .ref Nb])), (Nb, .inl (g 0, 12, .inl (upd F_3 (i_2) 0)))] H := ⟨hP, hD⟩
        clear hP hD; have hP := hPD.1; have hD := hPD.2; clear hPD
        generalize upd F_3 (i_2) 0 = F_12 at hP hD
        refine lv_iinc (v := (nI (i_2 + 1))) (lv' := [(4, .int (nI (i_2 + 1))), (0, .ref Nn)]) hx hb dX3_layRules_61 hl (k := 0) rfl (nI_1 (i_2)) (by decide) rfl (fun ls hl => ?_)
        refine lv_goto (tgt := 43) hx hb dX3_layRules_64 (by decide) ?_
        exact loop_8_ih (i_2 + 1) F_12 (show (i_2 + 1) ≤ 12 by omega) (show 12 - (i_2 + 1) < Nloop_8 by omega) _ _ _ hP hD hS hl
  exact loop_8 _ 0 fbuf (show 0 ≤ 12 by omega) (Nat.lt_succ_self _) _ _ _ hP hD hS (lv_sub hl [0, 1] rfl)
