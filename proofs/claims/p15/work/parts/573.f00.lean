set_option maxHeartbeats 4000000 in
set_option maxRecDepth 100000 in
theorem w_X4_faultOf (l : Launch) (D : va_G) (g : Nat → ClassId) (sz : Nat) (Rd : Nat) (Tp : Nat) (ln : Nat) (Rq : Nat) (fr : Nat → Int32) (Rv : Nat) (ftp : Nat → Int32) (fval : Nat → Int32) (h0 : ln ≤ 160) (h1 : vOK fval) : Met l yX4_faultOf wsX4_faultOf ({ frames := 6, cells := 0, slots := 0, locals := 132 }) (va_Pc [.ref Rd, .ref Tp, .int (nI ln)] (pre D g sz [(Rd, .inr (4, [.ref Rq, .int (fr 1), .int (fr 2), .int (fr 3), .int (fr 4), .int (fr 5), .ref Rv])), (Tp, .inl (g 0, 160, .inl ftp)), (Rv, .inl (g 0, 21, .inl fval))])) (va_Qi (fun (r : Int32) (u : va_W) => ∃ (axx : Nat) (zfax : Int32) (htx : Nat) (ctx : Nat) (fvalx : Nat → Int32), u = [(Rd, .inr (4, [.ref Tp, .int (nI ln), .int (nI axx), .int zfax, .int (nI htx), .int (nI ctx), .ref Rv])), (Tp, .inl (g 0, 160, .inl ftp)), (Rv, .inl (g 0, 21, .inl fvalx))] ∧ r = zfax ∧ ((htx ≤ 3) ∧ (ctx ≤ 3) ∧ (vOK fvalx) ∧ ((zfax, ctx) = rdV ftp ln) ∧ (zfax = -1 → htx = (rdWV ftp ln).1 ∧ V21 fvalx (rdWV ftp ln).2))) (wd D (va_A [(Rd, .inr (4, [.ref Rq, .int (fr 1), .int (fr 2), .int (fr 3), .int (fr 4), .int (fr 5), .ref Rv])), (Tp, .inl (g 0, 160, .inl ftp)), (Rv, .inl (g 0, 21, .inl fval))] sz)) (va_A [(Rd, .inr (4, [.ref Rq, .int (fr 1), .int (fr 2), .int (fr 3), .int (fr 4), .int (fr 5), .ref Rv])), (Tp, .inl (g 0, 160, .inl ftp)), (Rv, .inl (g 0, 21, .inl fval))] sz)) 0 0 (va_A [(Rd, .inr (4, [.ref Rq, .int (fr 1), .int (fr 2), .int (fr 3), .int (fr 4), .int (fr 5), .ref Rv])), (Tp, .inl (g 0, 160, .inl ftp)), (Rv, .inl (g 0, 21, .inl fval))] sz) := by
  refine Met.ofW (cc := cX4_faultOf) (maxL := 5) (ret := (some .int)) (by decide) rfl ?_
  intro p e s m args below meth c s₁ B hml hv
  obtain ⟨rfl, hsz, hP, ⟨hK, hN⟩, hD0, hZ⟩ := hv
  have hx := B.exec
  have hb := B.bytes
  have hr := B.returns
  have hts := atoms_spec (ws := wsX4_faultOf) B.pre
  have hown : s.vm.findClass RX4 = some m.cls := findClass_of_methodNamed B.named
  have hlocks := B.notSynchronized
  clear B
  subst hsz
  have hD := hD0.self (sz := s.heap.size)
  clear hD0
  generalize hAe : va_A [(Rd, .inr (4, [.ref Rq, .int (fr 1), .int (fr 2), .int (fr 3), .int (fr 4), .int (fr 5), .ref Rv])), (Tp, .inl (g 0, 160, .inl ftp)), (Rv, .inl (g 0, 21, .inl fval))] s.heap.size = A at hD hZ ⊢
  have hA : ∀ q : Nat, s.heap.size ≤ q → A q := fun q h => by rw [← hAe]; exact Or.inr h
  have hS : va_S A s.heap s.heap [] := va_S.rf
  have f24 := hts (.fieldLink RX4 24 "HopCredits$Reading" "length" "I") (List.mem_of_getElem? (i := 6) rfl)
  have f28 := hts (.fieldLink RX4 28 "HopCredits$Reading" "at" "I") (List.mem_of_getElem? (i := 7) rfl)
  have f31 := hts (.fieldLink RX4 31 "HopCredits$Reading" "fault" "I") (List.mem_of_getElem? (i := 8) rfl)
  have f34 := hts (.fieldLink RX4 34 "HopCredits$Reading" "hopsTold" "I") (List.mem_of_getElem? (i := 9) rfl)
  have f37 := hts (.fieldLink RX4 37 "HopCredits$Reading" "circuitsTold" "I") (List.mem_of_getElem? (i := 10) rfl)
  have f9 := hts (.fieldLink RX4 9 "HopCredits$Reading" "text" "[I") (List.mem_of_getElem? (i := 1) rfl)
  have mcmin := hts (.code Lib.Math.min.name Lib.Math.min.code 2 (some .int)) (List.mem_of_getElem? (i := 5) rfl)
  have mi := hts (.initialized "java/lang/Math") (List.mem_of_getElem? (i := 4) rfl)
  have mmmin := hts (.methodLink RX4 18 Lib.Math.min.name) (List.mem_of_getElem? (i := 2) rfl)
  have mtmin := hts (.static Lib.Math.min.name) (List.mem_of_getElem? (i := 3) rfl)
  have iX4 : ∀ w ∈ u_ws RX4 TX4 7, w ∈ wsX4_faultOf := fun w h => List.mem_cons_of_mem _ (List.mem_append_right _ (h))
  have hl := lv_entry ([.ref Rd, .ref Tp, .int (nI ln)]) (n := 5) (Nat.le_of_ble_eq_true rfl)
  rw [lg_entry_eq]
  generalize (lg_sl ([.ref Rd, .ref Tp, .int (nI ln)]) ++ List.replicate (5 - (lg_sl ([.ref Rd, .ref Tp, .int (nI ln)])).length) Slot.unset).toArray = ls at hl ⊢
  have hl : lv_has ls 5 [(0, .ref Rd), (1, .ref Tp), (2, .int (nI ln))] := hl
  generalize hQ : MQ below _ _ s _ _ _ = Q
  generalize hH : s.heap = H at hP ⊢
  have hS : va_S A s.heap H [] := by rw [← hH]; exact hS
  clear hH
  refine lv_aload_n hx hb dX4_faultOf_0 rfl (lv_at hl 0 rfl) ?_
  refine lv_aload_n hx hb dX4_faultOf_1 rfl (lv_at hl 1 rfl) ?_
  refine va_put (D := D) (ci := 4) (v := .ref Tp) (ty := (.array .int)) (C := RX4) (T := TX4) (N := 7) hx hb hts iX4 tyX4 tyX4_ok nmX4 hown hK hP hD hS 0 rfl rfl 0 (by decide) f9 (fun _ h9 => h9) rfl (by decide +kernel) (rfl) (rfl) (Nat.le_of_ble_eq_true rfl) dX4_faultOf_2 (fun H locs hP2 hD2 hS2 => ?_)
  clear hP hD hS
  have hPD : PD D A [(Rd, .inr (4, [.ref Tp, .int (fr 1), .int (fr 2), .int (fr 3), .int (fr 4), .int (fr 5), .ref Rv])), (Tp, .inl (g 0, 160, .inl ftp)), (Rv, .inl (g 0, 21, .inl fval))] H := ⟨hP2, hD2⟩
  have hS := hS2; clear hP2 hD2 hS2; have hP := hPD.1; have hD := hPD.2; clear hPD
  refine lv_aload_n hx hb dX4_faultOf_5 rfl (lv_at hl 0 rfl) ?_
  refine lv_iload_n hx hb dX4_faultOf_6 rfl (lv_at hl 2 rfl) ?_
  refine lv_aload_n hx hb dX4_faultOf_7 rfl (lv_at hl 1 rfl) ?_
  refine va_alen (v := 160) hx hb hK hP 1 0 rfl rfl rfl dX4_faultOf_8 ?_
  refine va_mmin hx hb (hml.trans hl.1.symm) hown mmmin mtmin mi mcmin (Nat.le_of_ble_eq_true rfl) (Nat.le_of_ble_eq_true rfl) (Nat.le_of_ble_eq_true rfl) (Nat.le_of_ble_eq_true rfl) dX4_faultOf_9 ?_
  refine lv_eqi (y := (nI ln)) (min160 (show ln ≤ 160 by omega)) ?_
  refine va_put (D := D) (ci := 4) (v := .int (nI ln)) (ty := .int) (C := RX4) (T := TX4) (N := 7) hx hb hts iX4 tyX4 tyX4_ok nmX4 hown hK hP hD hS 0 rfl rfl 1 (by decide) f24 (fun _ h9 => h9) rfl (by decide +kernel) (rfl) (rfl) (Nat.le_of_ble_eq_true rfl) dX4_faultOf_12 (fun H locs hP2 hD2 hS2 => ?_)
  clear hP hD hS
  have hPD : PD D A [(Rd, .inr (4, [.ref Tp, .int (nI ln), .int (fr 2), .int (fr 3), .int (fr 4), .int (fr 5), .ref Rv])), (Tp, .inl (g 0, 160, .inl ftp)), (Rv, .inl (g 0, 21, .inl fval))] H := ⟨hP2, hD2⟩
  have hS := hS2; clear hP2 hD2 hS2; have hP := hPD.1; have hD := hPD.2; clear hPD
  refine lv_aload_n hx hb dX4_faultOf_15 rfl (lv_at hl 0 rfl) ?_
  refine lv_iconst (v := 0) hx hb dX4_faultOf_16 (by decide) ?_
  refine va_put (D := D) (ci := 4) (v := .int 0) (ty := .int) (C := RX4) (T := TX4) (N := 7) hx hb hts iX4 tyX4 tyX4_ok nmX4 hown hK hP hD hS 0 rfl rfl 2 (by decide) f28 (fun _ h9 => h9) rfl (by decide +kernel) (rfl) (rfl) (Nat.le_of_ble_eq_true rfl) dX4_faultOf_17 (fun H locs hP2 hD2 hS2 => ?_)
  clear hP hD hS
  have hPD : PD D A [(Rd, .inr (4, [.ref Tp, .int (nI ln), .int 0, .int (fr 3), .int (fr 4), .int (fr 5), .ref Rv])), (Tp, .inl (g 0, 160, .inl ftp)), (Rv, .inl (g 0, 21, .inl fval))] H := ⟨hP2, hD2⟩
  have hS := hS2; clear hP2 hD2 hS2; have hP := hPD.1; have hD := hPD.2; clear hPD
  refine lv_aload_n hx hb dX4_faultOf_20 rfl (lv_at hl 0 rfl) ?_
  refine lv_iconst (v := (-1)) hx hb dX4_faultOf_21 (by decide) ?_
  refine va_put (D := D) (ci := 4) (v := .int (-1)) (ty := .int) (C := RX4) (T := TX4) (N := 7) hx hb hts iX4 tyX4 tyX4_ok nmX4 hown hK hP hD hS 0 rfl rfl 3 (by decide) f31 (fun _ h9 => h9) rfl (by decide +kernel) (rfl) (rfl) (Nat.le_of_ble_eq_true rfl) dX4_faultOf_22 (fun H locs hP2 hD2 hS2 => ?_)
  clear hP hD hS
  have hPD : PD D A [(Rd, .inr (4, [.ref Tp, .int (nI ln), .int 0, .int (-1), .int (fr 4), .int (fr 5), .ref Rv])), (Tp, .inl (g 0, 160, .inl ftp)), (Rv, .inl (g 0, 21, .inl fval))] H := ⟨hP2, hD2⟩
  have hS := hS2; clear hP2 hD2 hS2; have hP := hPD.1; have hD := hPD.2; clear hPD
  refine lv_aload_n hx hb dX4_faultOf_25 rfl (lv_at hl 0 rfl) ?_
  refine lv_iconst (v := 0) hx hb dX4_faultOf_26 (by decide) ?_
  refine va_put (D := D) (ci := 4) (v := .int 0) (ty := .int) (C := RX4) (T := TX4) (N := 7) hx hb hts iX4 tyX4 tyX4_ok nmX4 hown hK hP hD hS 0 rfl rfl 4 (by decide) f34 (fun _ h9 => h9) rfl (by decide +kernel) (rfl) (rfl) (Nat.le_of_ble_eq_true rfl) dX4_faultOf_27 (fun H locs hP2 hD2 hS2 => ?_)
  clear hP hD hS
  have hPD : PD D A [(Rd, .inr (4, [.ref Tp, .int (nI ln), .int 0, .int (-1), .int 0, .int (fr 5), .ref Rv])), (Tp, .inl (g 0, 160, .inl ftp)), (Rv, .inl (g 0, 21, .inl fval))] H := ⟨hP2, hD2⟩
  have hS := hS2; clear hP2 hD2 hS2; have hP := hPD.1; have hD := hPD.2; clear hPD
  refine lv_aload_n hx hb dX4_faultOf_30 rfl (lv_at hl 0 rfl) ?_
  refine lv_iconst (v := 0) hx hb dX4_faultOf_31 (by decide) ?_
  refine va_put (D := D) (ci := 4) (v := .int 0) (ty := .int) (C := RX4) (T := TX4) (N := 7) hx hb hts iX4 tyX4 tyX4_ok nmX4 hown hK hP hD hS 0 rfl rfl 5 (by decide) f37 (fun _ h9 => h9) rfl (by decide +kernel) (rfl) (rfl) (Nat.le_of_ble_eq_true rfl) dX4_faultOf_32 (fun H locs hP2 hD2 hS2 => ?_)
  clear hP hD hS
  have hPD : PD D A [(Rd, .inr (4, [.ref Tp, .int (nI ln), .int 0, .int (-1), .int 0, .int 0, .ref Rv])), (Tp, .inl (g 0, 160, .inl ftp)), (Rv, .inl (g 0, 21, .inl fval))] H := ⟨hP2, hD2⟩
  have hS := hS2; clear hP2 hD2 hS2; have hP := hPD.1; have hD := hPD.2; clear hPD
  refine lv_aload_n hx hb dX4_faultOf_35 rfl (lv_at hl 0 rfl) ?_
  refine ky_Vv (As := []) (rest := []) ⟨hx, hb, hml, hown, hts⟩ ⟨hK, hN⟩ hZ hP hD hS hA [0, 2] [1] (wc := [(Rd, .inr (4, [.ref Tp, .int (nI ln), .int 0, .int (-1), .int 0, .int 0, .ref Rv])), (Rv, .inl (g 0, 21, .inl fval))]) (wr := [(Tp, .inl (g 0, 160, .inl ftp))]) rfl rfl rfl rfl (by decide) (w_X4_setUsual l D g H.size Rd Tp (lf [0, nI ln, 0, -1, 0, 0]) Rv fval (h1)) (cwV 0 hts gX4_faultOf_X4_setUsual rfl rfl rfl (by decide +kernel) ⟨(Nat.le_of_ble_eq_true rfl), (Nat.le_of_ble_eq_true rfl)⟩) 0 4 rfl rfl rfl rfl hl.1 rfl (Nat.le_of_ble_eq_true rfl) dX4_faultOf_36 ⟨(Nat.le_of_ble_eq_true rfl), (Nat.le_of_ble_eq_true rfl)⟩ (fun u H locs hw hP2 hD2 hS2 => ?_)
  clear hP hD hS
  obtain ⟨fvalx_2, rfl, hf_3, hf_4⟩ := hw
  have hPD : PD D A [(Tp, .inl (g 0, 160, .inl ftp)), (Rd, .inr (4, [.ref Tp, .int (nI ln), .int 0, .int (-1), .int 0, .int 0, .ref Rv])), (Rv, .inl (g 0, 21, .inl fvalx_2))] H := ⟨hP2, hD2⟩
  have hS := hS2; clear hP2 hD2 hS2; have hP := hPD.1; have hD := hPD.2; clear hPD
  refine W.widen (k := 0) (n := 0) (Nat.le_of_ble_eq_true rfl) (Nat.le_of_ble_eq_true rfl) ?_
  refine lv_iconst (v := 1) hx hb dX4_faultOf_39 (by decide) ?_
  refine lv_istore_n (lv' := [(3, .int 1), (0, .ref Rd), (1, .ref Tp), (2, .int (nI ln))]) hx hb dX4_faultOf_40 rfl hl (by decide) rfl (fun ls hl => ?_)
  refine lv_iconst (v := 0) hx hb dX4_faultOf_41 (by decide) ?_
  refine lv_istore (lv' := [(4, .int 0), (3, .int 1), (0, .ref Rd), (1, .ref Tp), (2, .int (nI ln))]) hx hb dX4_faultOf_42 hl (by decide) rfl (fun ls hl => ?_)
  have loop_83 : ∀ (Nloop_83 : Nat) (i_23 : Nat) (i_24 : Int32) (z_25 : Nat) (z_26 : Int32) (z_27 : Nat) (z_28 : Nat) (F_29 : Nat → Int32) (hi_24 : zb i_24) (hnz_27 : z_27 ≤ 3) (hnz_28 : z_28 ≤ 3) (hF_29 : vOK F_29) (hbi_23 : i_23 ≤ ln + 1) (hv_79 : ¬ i_24 = 0 → z_26 = -1 ∧ z_25 ≤ ln ∧ i_23 ≤ z_25 ∧ rdF ftp ln (ln + 1 - i_23) (if i_23 = 0 then 1 else 0) z_25 z_27 z_28 = rdV ftp ln) (hv_80 : i_24 = 0 → (z_26, z_28) = rdV ftp ln) (hv_81 : ¬ i_24 = 0 → rdW ftp ln (ln + 1 - i_23) (if i_23 = 0 then 1 else 0) z_25 z_27 z_28 F_29 = rdW ftp ln (ln + 1) 1 0 0 0 fvalx_2) (hv_82 : i_24 = 0 → z_26 = -1 → (z_27, F_29) = rdW ftp ln (ln + 1) 1 0 0 0 fvalx_2) (hmloop_83 : (ln + 1) - i_23 < Nloop_83) (H : Heap) (locs : List Loc) (ls : Array Slot), va_P D vwCl [(Tp, .inl (g 0, 160, .inl ftp)), (Rd, .inr (4, [.ref Tp, .int (nI ln), .int (nI z_25), .int z_26, .int (nI z_27), .int (nI z_28), .ref Rv])), (Rv, .inl (g 0, 21, .inl F_29))] H → va_D A [(Tp, .inl (g 0, 160, .inl ftp)), (Rd, .inr (4, [.ref Tp, .int (nI ln), .int (nI z_25), .int z_26, .int (nI z_27), .int (nI z_28), .ref Rv])), (Rv, .inl (g 0, 21, .inl F_29))] → va_S A s.heap H locs → lv_has ls 5 [(4, .int (nI i_23)), (3, .int i_24), (0, .ref Rd)] → W p l e (headSpec wsX4_faultOf ({ frames := 6, cells := 0, slots := 0, locals := 132 })).room s m ([.ref Rd, .ref Tp, .int (nI ln)] : List Value).toArray below meth c H locs 0 0 Q (F0 m 44 ls []) := by
    clear hP hD hS hl
    intro Nloop_83
    induction Nloop_83 with
    | zero => intro i_23 i_24 z_25 z_26 z_27 z_28 F_29 hi_24 hnz_27 hnz_28 hF_29 hbi_23 hv_79 hv_80 hv_81 hv_82 hm9; exact absurd hm9 (Nat.not_lt_zero _)
    | succ Nloop_83 loop_83_ih =>
      intro i_23 i_24 z_25 z_26 z_27 z_28 F_29 hi_24 hnz_27 hnz_28 hF_29 hbi_23 hv_79 hv_80 hv_81 hv_82 hmloop_83 H locs ls hP hD hS hl
      refine lv_iload_n hx hb dX4_faultOf_44 rfl (lv_at hl 1 rfl) ?_
      refine lv_if_eq (tgt := 112) hx hb dX4_faultOf_45 (by decide) (fun cb_84 => ?_) (fun cb_84 => ?_)
      · skip
        have hPq_85 := hP; have hDq_85 := hD; have hSq_85 := hS; have hlq_85 := hl; clear hP hD hS hl
        subst cb_84
        have hP := hPq_85; have hD := hDq_85; have hS := hSq_85; have hl := hlq_85; clear hPq_85 hDq_85 hSq_85 hlq_85
        refine lv_aload_n hx hb dX4_faultOf_112 rfl (lv_at hl 2 rfl) ?_
        refine va_get (D := D) (ci := 4) (v := .int z_26) (C := RX4) (T := TX4) (N := 7) hx hb hts iX4 hown hK hP 1 rfl rfl 3 (by decide) f31 (fun _ h9 => h9) rfl dX4_faultOf_113 ?_
        have hPD9 : PD D A [(Rd, .inr (4, [.ref Tp, .int (nI ln), .int (nI z_25), .int z_26, .int (nI z_27), .int (nI z_28), .ref Rv])), (Tp, .inl (g 0, 160, .inl ftp)), (Rv, .inl (g 0, 21, .inl F_29))] H := ⟨hP.sub [1, 0, 2] rfl, hD.sub [1, 0, 2] (by decide) rfl⟩
        have hP9 := hPD9.1; have hD9 := hPD9.2
        subst hQ
        refine W.widen (k := 0) (n := 0) (Nat.le_of_ble_eq_true rfl) (Nat.le_of_ble_eq_true rfl) ?_
        exact W.iret (v := z_26) hx hb hr (fun tS htS _ => ⟨⟨_, _, rfl, ⟨z_25, z_26, z_27, z_28, F_29, rfl, rfl, ⟨(show z_27 ≤ 3 by omega), (show z_28 ≤ 3 by omega), (hF_29), (hv_80 rfl), (fun q9 => rw_fin hf_4 (hv_82 rfl q9))⟩⟩, by rw [htS]; exact hP9, hD9⟩, hS.F htS⟩) hS.2.2 dX4_faultOf_116
      · skip
        have hw_86 := hv_81 cb_84
        have hPq_90 := hP; have hDq_90 := hD; have hSq_90 := hS; have hlq_90 := hl; clear hP hD hS hl
        obtain ⟨q9, hi_87, hi_88, hi_89⟩ := hv_79 cb_84; subst q9
        have hP := hPq_90; have hD := hDq_90; have hS := hSq_90; have hl := hlq_90; clear hPq_90 hDq_90 hSq_90 hlq_90
        refine lv_iload hx hb dX4_faultOf_48 (lv_at hl 0 rfl) ?_
        refine lv_aload_n hx hb dX4_faultOf_50 rfl (lv_at hl 2 rfl) ?_
        refine va_get (D := D) (ci := 4) (v := .int (nI ln)) (C := RX4) (T := TX4) (N := 7) hx hb hts iX4 hown hK hP 1 rfl rfl 1 (by decide) f24 (fun _ h9 => h9) rfl dX4_faultOf_51 ?_
        refine lv_icmp_gt (tgt := 112) hx hb dX4_faultOf_54 (by decide) (fun cb_91 => ?_) (fun cb_91 => ?_)
        · skip
          have cn_92 : ln < i_23 := (nI_ltI (show ln < 2 ^ 31 by omega) (show i_23 < 2 ^ 31 by omega)).mp cb_91
          refine lv_aload_n hx hb dX4_faultOf_112 rfl (lv_at hl 2 rfl) ?_
          refine va_get (D := D) (ci := 4) (v := .int (-1)) (C := RX4) (T := TX4) (N := 7) hx hb hts iX4 hown hK hP 1 rfl rfl 3 (by decide) f31 (fun _ h9 => h9) rfl dX4_faultOf_113 ?_
          have hPD9 : PD D A [(Rd, .inr (4, [.ref Tp, .int (nI ln), .int (nI z_25), .int (-1), .int (nI z_27), .int (nI z_28), .ref Rv])), (Tp, .inl (g 0, 160, .inl ftp)), (Rv, .inl (g 0, 21, .inl F_29))] H := ⟨hP.sub [1, 0, 2] rfl, hD.sub [1, 0, 2] (by decide) rfl⟩
          have hP9 := hPD9.1; have hD9 := hPD9.2
          subst hQ
          refine W.widen (k := 0) (n := 0) (Nat.le_of_ble_eq_true rfl) (Nat.le_of_ble_eq_true rfl) ?_
          exact W.iret (v := (-1)) hx hb hr (fun tS htS _ => ⟨⟨_, _, rfl, ⟨z_25, (-1), z_27, z_28, F_29, rfl, rfl, ⟨(show z_27 ≤ 3 by omega), (show z_28 ≤ 3 by omega), (hF_29), (False.elim (by omega)), (False.elim (by omega))⟩⟩, by rw [htS]; exact hP9, hD9⟩, hS.F htS⟩) hS.2.2 dX4_faultOf_116
        · skip
          have cn_93 : i_23 ≤ ln := Nat.le_of_not_lt (fun q9 => cb_91 ((nI_ltI (show ln < 2 ^ 31 by omega) (show i_23 < 2 ^ 31 by omega)).mpr q9))
          refine lv_aload_n hx hb dX4_faultOf_57 rfl (lv_at hl 2 rfl) ?_
          refine lv_iload hx hb dX4_faultOf_58 (lv_at hl 0 rfl) ?_
          refine lv_if_ne (tgt := 67) hx hb dX4_faultOf_60 (by decide) (fun cb_94 => ?_) (fun cb_94 => ?_)
          · skip
            have cn_95 : ¬ i_23 = 0 := fun q9 => cb_94 (congrArg nI q9)
            refine lv_iconst (v := 0) hx hb dX4_faultOf_67 (by decide) ?_
            have hi_97 : rdF ftp ln (ln + 1 - i_23) 0 z_25 z_27 z_28 = rdV ftp ln := by rw [← hi_89]; exact congrArg (fun z => rdF ftp ln (ln + 1 - i_23) z z_25 z_27 z_28) (if_neg cn_95).symm
            have hw_96 := (congrArg (fun z => rdW ftp ln (ln + 1 - i_23) z z_25 z_27 z_28 F_29) (if_neg cn_95).symm).trans hw_86
            refine ky_Vv (As := [.int 0]) (rest := []) ⟨hx, hb, hml, hown, hts⟩ ⟨hK, hN⟩ hZ hP hD hS hA [1, 0, 2] [] (wc := [(Rd, .inr (4, [.ref Tp, .int (nI ln), .int (nI z_25), .int (-1), .int (nI z_27), .int (nI z_28), .ref Rv])), (Tp, .inl (g 0, 160, .inl ftp)), (Rv, .inl (g 0, 21, .inl F_29))]) (wr := []) rfl rfl rfl rfl (by decide) (w_X4_readClause l D g H.size Rd 0 Tp ln z_25 z_27 z_28 Rv ftp F_29 (show ln ≤ 160 by omega) (show z_25 ≤ ln by omega) (show z_27 ≤ 3 by omega) (show z_28 ≤ 3 by omega) (hF_29)) (cwV 1 hts gX4_faultOf_X4_readClause rfl rfl rfl (by decide +kernel) ⟨(Nat.le_of_ble_eq_true rfl), (Nat.le_of_ble_eq_true rfl)⟩) 1 4 rfl rfl rfl rfl hl.1 rfl (Nat.le_of_ble_eq_true rfl) dX4_faultOf_68 ⟨(Nat.le_of_ble_eq_true rfl), (Nat.le_of_ble_eq_true rfl)⟩ (fun u H locs hw hP2 hD2 hS2 => ?_)
            clear hP hD hS
            obtain ⟨axx_99, zfax_100, htx_101, ctx_102, fvalx_103, rfl, hf_104⟩ := hw
            have hg_105 := hf_104.1
            have hg_106 := hf_104.2.1
            have hg_107 := hf_104.2.2.1
            have hPD : PD D A [(Rd, .inr (4, [.ref Tp, .int (nI ln), .int (nI axx_99), .int zfax_100, .int (nI htx_101), .int (nI ctx_102), .ref Rv])), (Tp, .inl (g 0, 160, .inl ftp)), (Rv, .inl (g 0, 21, .inl fvalx_103))] H := ⟨hP2, hD2⟩
            have hS := hS2; clear hP2 hD2 hS2; have hP := hPD.1; have hD := hPD.2; clear hPD
            refine W.widen (k := 0) (n := 0) (Nat.le_of_ble_eq_true rfl) (Nat.le_of_ble_eq_true rfl) ?_
            refine lv_aload_n hx hb dX4_faultOf_71 rfl (lv_at hl 2 rfl) ?_
            refine va_get (D := D) (ci := 4) (v := .int zfax_100) (C := RX4) (T := TX4) (N := 7) hx hb hts iX4 hown hK hP 0 rfl rfl 3 (by decide) f31 (fun _ h9 => h9) rfl dX4_faultOf_72 ?_
            refine lv_iconst (v := (-1)) hx hb dX4_faultOf_75 (by decide) ?_
            refine lv_icmp_ne (tgt := 94) hx hb dX4_faultOf_76 (by decide) (fun cb_108 => ?_) (fun cb_108 => ?_)
            · skip
              refine lv_iconst (v := 0) hx hb dX4_faultOf_94 (by decide) ?_
              refine lv_istore_n (lv' := [(3, .int 0), (4, .int (nI i_23)), (0, .ref Rd)]) hx hb dX4_faultOf_95 rfl hl (by decide) rfl (fun ls hl => ?_)
              refine lv_aload_n hx hb dX4_faultOf_96 rfl (lv_at hl 2 rfl) ?_
              refine lv_dup hx hb dX4_faultOf_97 rfl ?_
              refine va_get (D := D) (ci := 4) (v := .int (nI axx_99)) (C := RX4) (T := TX4) (N := 7) hx hb hts iX4 hown hK hP 0 rfl rfl 2 (by decide) f28 (fun _ h9 => h9) rfl dX4_faultOf_98 ?_
              refine lv_iconst (v := 1) hx hb dX4_faultOf_101 (by decide) ?_
              refine lv_iadd hx hb dX4_faultOf_102 ?_
              refine lv_eqi (y := (nI (axx_99 + 1))) (nI_add (axx_99) (1)) ?_
              refine va_put (D := D) (ci := 4) (v := .int (nI (axx_99 + 1))) (ty := .int) (C := RX4) (T := TX4) (N := 7) hx hb hts iX4 tyX4 tyX4_ok nmX4 hown hK hP hD hS 0 rfl rfl 2 (by decide) f28 (fun _ h9 => h9) rfl (by decide +kernel) (rfl) (rfl) (Nat.le_of_ble_eq_true rfl) dX4_faultOf_103 (fun H locs hP2 hD2 hS2 => ?_)
              clear hP hD hS
              have hPD : PD D A [(Rd, .inr (4, [.ref Tp, .int (nI ln), .int (nI (axx_99 + 1)), .int zfax_100, .int (nI htx_101), .int (nI ctx_102), .ref Rv])), (Tp, .inl (g 0, 160, .inl ftp)), (Rv, .inl (g 0, 21, .inl fvalx_103))] H := ⟨hP2, hD2⟩
              have hS := hS2; clear hP2 hD2 hS2; have hP := hPD.1; have hD := hPD.2; clear hPD
              refine lv_iinc (v := (nI (i_23 + 1))) (lv' := [(4, .int (nI (i_23 + 1))), (3, .int 0), (0, .ref Rd)]) hx hb dX4_faultOf_106 hl (k := 1) rfl (nI_1 (i_23)) (by decide) rfl (fun ls hl => ?_)
              refine lv_goto (tgt := 44) hx hb dX4_faultOf_109 (by decide) ?_
              exact loop_83_ih (i_23 + 1) 0 (axx_99 + 1) zfax_100 htx_101 ctx_102 fvalx_103 (zb_0) (show htx_101 ≤ 3 by omega) (show ctx_102 ≤ 3 by omega) (hf_104.2.2.2.1) (show (i_23 + 1) ≤ ln + 1 by omega) (fun q => absurd rfl q) (fun _ => rf_w hi_97 (show i_23 ≤ ln by omega) hf_104.2.2.2.2.1 hf_104.2.2.2.2.2.1 cb_108) (fun q => absurd rfl q) (fun _ q => absurd q cb_108) (show (ln + 1) - (i_23 + 1) < Nloop_83 by omega) _ _ _ (hP.sub [1, 0, 2] rfl) (hD.sub [1, 0, 2] (by decide) rfl) hS hl
            · skip
              have hPq_109 := hP; have hDq_109 := hD; have hSq_109 := hS; have hlq_109 := hl; clear hP hD hS hl
              subst cb_108
              have hP := hPq_109; have hD := hDq_109; have hS := hSq_109; have hl := hlq_109; clear hPq_109 hDq_109 hSq_109 hlq_109
              refine lv_aload_n hx hb dX4_faultOf_79 rfl (lv_at hl 2 rfl) ?_
              refine va_get (D := D) (ci := 4) (v := .int (nI axx_99)) (C := RX4) (T := TX4) (N := 7) hx hb hts iX4 hown hK hP 0 rfl rfl 2 (by decide) f28 (fun _ h9 => h9) rfl dX4_faultOf_80 ?_
              refine lv_aload_n hx hb dX4_faultOf_83 rfl (lv_at hl 2 rfl) ?_
              refine va_get (D := D) (ci := 4) (v := .int (nI ln)) (C := RX4) (T := TX4) (N := 7) hx hb hts iX4 hown hK hP 0 rfl rfl 1 (by decide) f24 (fun _ h9 => h9) rfl dX4_faultOf_84 ?_
              refine lv_icmp_ge (tgt := 94) hx hb dX4_faultOf_87 (by decide) (fun cb_110 => ?_) (fun cb_110 => ?_)
              · skip
                have cn_111 : ln ≤ axx_99 := (nI_leI (show ln < 2 ^ 31 by omega) (show axx_99 < 2 ^ 31 by omega)).mp cb_110
                refine lv_iconst (v := 0) hx hb dX4_faultOf_94 (by decide) ?_
                refine lv_istore_n (lv' := [(3, .int 0), (4, .int (nI i_23)), (0, .ref Rd)]) hx hb dX4_faultOf_95 rfl hl (by decide) rfl (fun ls hl => ?_)
                refine lv_aload_n hx hb dX4_faultOf_96 rfl (lv_at hl 2 rfl) ?_
                refine lv_dup hx hb dX4_faultOf_97 rfl ?_
                refine va_get (D := D) (ci := 4) (v := .int (nI axx_99)) (C := RX4) (T := TX4) (N := 7) hx hb hts iX4 hown hK hP 0 rfl rfl 2 (by decide) f28 (fun _ h9 => h9) rfl dX4_faultOf_98 ?_
                refine lv_iconst (v := 1) hx hb dX4_faultOf_101 (by decide) ?_
                refine lv_iadd hx hb dX4_faultOf_102 ?_
                refine lv_eqi (y := (nI (axx_99 + 1))) (nI_add (axx_99) (1)) ?_
                refine va_put (D := D) (ci := 4) (v := .int (nI (axx_99 + 1))) (ty := .int) (C := RX4) (T := TX4) (N := 7) hx hb hts iX4 tyX4 tyX4_ok nmX4 hown hK hP hD hS 0 rfl rfl 2 (by decide) f28 (fun _ h9 => h9) rfl (by decide +kernel) (rfl) (rfl) (Nat.le_of_ble_eq_true rfl) dX4_faultOf_103 (fun H locs hP2 hD2 hS2 => ?_)
                clear hP hD hS
                have hPD : PD D A [(Rd, .inr (4, [.ref Tp, .int (nI ln), .int (nI (axx_99 + 1)), .int (-1), .int (nI htx_101), .int (nI ctx_102), .ref Rv])), (Tp, .inl (g 0, 160, .inl ftp)), (Rv, .inl (g 0, 21, .inl fvalx_103))] H := ⟨hP2, hD2⟩
                have hS := hS2; clear hP2 hD2 hS2; have hP := hPD.1; have hD := hPD.2; clear hPD
                refine lv_iinc (v := (nI (i_23 + 1))) (lv' := [(4, .int (nI (i_23 + 1))), (3, .int 0), (0, .ref Rd)]) hx hb dX4_faultOf_106 hl (k := 1) rfl (nI_1 (i_23)) (by decide) rfl (fun ls hl => ?_)
                refine lv_goto (tgt := 44) hx hb dX4_faultOf_109 (by decide) ?_
                exact loop_83_ih (i_23 + 1) 0 (axx_99 + 1) (-1) htx_101 ctx_102 fvalx_103 (zb_0) (show htx_101 ≤ 3 by omega) (show ctx_102 ≤ 3 by omega) (hf_104.2.2.2.1) (show (i_23 + 1) ≤ ln + 1 by omega) (fun q => absurd rfl q) (fun _ => rf_end hi_97 (show i_23 ≤ ln by omega) hf_104.2.2.2.2.1 hf_104.2.2.2.2.2.1 (hf_104.2.2.2.2.2.2.1 rfl).1 (by omega)) (fun q => absurd rfl q) (fun _ _ => by rw [hf_104.2.2.2.2.2.2.2 rfl]; exact rw_end hw_96 (show i_23 ≤ ln by omega) hf_104.2.2.2.2.1 hf_104.2.2.2.2.2.1 (hf_104.2.2.2.2.2.2.1 rfl).1 (by omega)) (show (ln + 1) - (i_23 + 1) < Nloop_83 by omega) _ _ _ (hP.sub [1, 0, 2] rfl) (hD.sub [1, 0, 2] (by decide) rfl) hS hl
              · skip
                have cn_112 : axx_99 < ln := Nat.lt_of_not_le (fun q9 => cb_110 ((nI_leI (show ln < 2 ^ 31 by omega) (show axx_99 < 2 ^ 31 by omega)).mpr q9))
                refine lv_iconst (v := 1) hx hb dX4_faultOf_90 (by decide) ?_
                have hlt_113 := (hf_104.2.2.2.2.2.2.1 rfl).2
                refine lv_goto (tgt := 95) hx hb dX4_faultOf_91 (by decide) ?_
                refine lv_istore_n (lv' := [(3, .int 1), (4, .int (nI i_23)), (0, .ref Rd)]) hx hb dX4_faultOf_95 rfl hl (by decide) rfl (fun ls hl => ?_)
                refine lv_aload_n hx hb dX4_faultOf_96 rfl (lv_at hl 2 rfl) ?_
                refine lv_dup hx hb dX4_faultOf_97 rfl ?_
                refine va_get (D := D) (ci := 4) (v := .int (nI axx_99)) (C := RX4) (T := TX4) (N := 7) hx hb hts iX4 hown hK hP 0 rfl rfl 2 (by decide) f28 (fun _ h9 => h9) rfl dX4_faultOf_98 ?_
                refine lv_iconst (v := 1) hx hb dX4_faultOf_101 (by decide) ?_
                refine lv_iadd hx hb dX4_faultOf_102 ?_
                refine lv_eqi (y := (nI (axx_99 + 1))) (nI_add (axx_99) (1)) ?_
                refine va_put (D := D) (ci := 4) (v := .int (nI (axx_99 + 1))) (ty := .int) (C := RX4) (T := TX4) (N := 7) hx hb hts iX4 tyX4 tyX4_ok nmX4 hown hK hP hD hS 0 rfl rfl 2 (by decide) f28 (fun _ h9 => h9) rfl (by decide +kernel) (rfl) (rfl) (Nat.le_of_ble_eq_true rfl) dX4_faultOf_103 (fun H locs hP2 hD2 hS2 => ?_)
                clear hP hD hS
                have hPD : PD D A [(Rd, .inr (4, [.ref Tp, .int (nI ln), .int (nI (axx_99 + 1)), .int (-1), .int (nI htx_101), .int (nI ctx_102), .ref Rv])), (Tp, .inl (g 0, 160, .inl ftp)), (Rv, .inl (g 0, 21, .inl fvalx_103))] H := ⟨hP2, hD2⟩
                have hS := hS2; clear hP2 hD2 hS2; have hP := hPD.1; have hD := hPD.2; clear hPD
                refine lv_iinc (v := (nI (i_23 + 1))) (lv' := [(4, .int (nI (i_23 + 1))), (3, .int 1), (0, .ref Rd)]) hx hb dX4_faultOf_106 hl (k := 1) rfl (nI_1 (i_23)) (by decide) rfl (fun ls hl => ?_)
                refine lv_goto (tgt := 44) hx hb dX4_faultOf_109 (by decide) ?_
                exact loop_83_ih (i_23 + 1) 1 (axx_99 + 1) (-1) htx_101 ctx_102 fvalx_103 (zb_1) (show htx_101 ≤ 3 by omega) (show ctx_102 ≤ 3 by omega) (hf_104.2.2.2.1) (show (i_23 + 1) ≤ ln + 1 by omega) (fun _ => ⟨rfl, by omega, by omega, rf_go hi_97 (show i_23 ≤ ln by omega) hf_104.2.2.2.2.1 hf_104.2.2.2.2.2.1 (hf_104.2.2.2.2.2.2.1 rfl).1 (by omega)⟩) (fun q => absurd q (by decide)) (fun _ => by rw [hf_104.2.2.2.2.2.2.2 rfl]; exact rw_go hw_96 (show i_23 ≤ ln by omega) hf_104.2.2.2.2.1 hf_104.2.2.2.2.2.1 (hf_104.2.2.2.2.2.2.1 rfl).1 (by omega)) (fun q => absurd q (by decide)) (show (ln + 1) - (i_23 + 1) < Nloop_83 by omega) _ _ _ (hP.sub [1, 0, 2] rfl) (hD.sub [1, 0, 2] (by decide) rfl) hS hl
          · skip
            have cn_114 : i_23 = 0 := (nI_eq (show i_23 < 2 ^ 31 by omega) (show 0 < 2 ^ 31 by omega)).mp cb_94
            refine lv_iconst (v := 1) hx hb dX4_faultOf_63 (by decide) ?_
            refine lv_goto (tgt := 68) hx hb dX4_faultOf_64 (by decide) ?_
            have hi_116 : rdF ftp ln (ln + 1 - i_23) 1 z_25 z_27 z_28 = rdV ftp ln := by rw [← hi_89]; exact congrArg (fun z => rdF ftp ln (ln + 1 - i_23) z z_25 z_27 z_28) (if_pos cn_114).symm
            have hw_115 := (congrArg (fun z => rdW ftp ln (ln + 1 - i_23) z z_25 z_27 z_28 F_29) (if_pos cn_114).symm).trans hw_86
            refine ky_Vv (As := [.int 1]) (rest := []) ⟨hx, hb, hml, hown, hts⟩ ⟨hK, hN⟩ hZ hP hD hS hA [1, 0, 2] [] (wc := [(Rd, .inr (4, [.ref Tp, .int (nI ln), .int (nI z_25), .int (-1), .int (nI z_27), .int (nI z_28), .ref Rv])), (Tp, .inl (g 0, 160, .inl ftp)), (Rv, .inl (g 0, 21, .inl F_29))]) (wr := []) rfl rfl rfl rfl (by decide) (w_X4_readClause l D g H.size Rd 1 Tp ln z_25 z_27 z_28 Rv ftp F_29 (show ln ≤ 160 by omega) (show z_25 ≤ ln by omega) (show z_27 ≤ 3 by omega) (show z_28 ≤ 3 by omega) (hF_29)) (cwV 1 hts gX4_faultOf_X4_readClause rfl rfl rfl (by decide +kernel) ⟨(Nat.le_of_ble_eq_true rfl), (Nat.le_of_ble_eq_true rfl)⟩) 1 4 rfl rfl rfl rfl hl.1 rfl (Nat.le_of_ble_eq_true rfl) dX4_faultOf_68 ⟨(Nat.le_of_ble_eq_true rfl), (Nat.le_of_ble_eq_true rfl)⟩ (fun u H locs hw hP2 hD2 hS2 => ?_)
            clear hP hD hS
            obtain ⟨axx_118, zfax_119, htx_120, ctx_121, fvalx_122, rfl, hf_123⟩ := hw
            have hg_124 := hf_123.1
            have hg_125 := hf_123.2.1
            have hg_126 := hf_123.2.2.1
            have hPD : PD D A [(Rd, .inr (4, [.ref Tp, .int (nI ln), .int (nI axx_118), .int zfax_119, .int (nI htx_120), .int (nI ctx_121), .ref Rv])), (Tp, .inl (g 0, 160, .inl ftp)), (Rv, .inl (g 0, 21, .inl fvalx_122))] H := ⟨hP2, hD2⟩
            have hS := hS2; clear hP2 hD2 hS2; have hP := hPD.1; have hD := hPD.2; clear hPD
            refine W.widen (k := 0) (n := 0) (Nat.le_of_ble_eq_true rfl) (Nat.le_of_ble_eq_true rfl) ?_
            refine lv_aload_n hx hb dX4_faultOf_71 rfl (lv_at hl 2 rfl) ?_
            refine va_get (D := D) (ci := 4) (v := .int zfax_119) (C := RX4) (T := TX4) (N := 7) hx hb hts iX4 hown hK hP 0 rfl rfl 3 (by decide) f31 (fun _ h9 => h9) rfl dX4_faultOf_72 ?_
            refine lv_iconst (v := (-1)) hx hb dX4_faultOf_75 (by decide) ?_
            refine lv_icmp_ne (tgt := 94) hx hb dX4_faultOf_76 (by decide) (fun cb_127 => ?_) (fun cb_127 => ?_)
            · skip
              refine lv_iconst (v := 0) hx hb dX4_faultOf_94 (by decide) ?_
              refine lv_istore_n (lv' := [(3, .int 0), (4, .int (nI i_23)), (0, .ref Rd)]) hx hb dX4_faultOf_95 rfl hl (by decide) rfl (fun ls hl => ?_)
              refine lv_aload_n hx hb dX4_faultOf_96 rfl (lv_at hl 2 rfl) ?_
              refine lv_dup hx hb dX4_faultOf_97 rfl ?_
              refine va_get (D := D) (ci := 4) (v := .int (nI axx_118)) (C := RX4) (T := TX4) (N := 7) hx hb hts iX4 hown hK hP 0 rfl rfl 2 (by decide) f28 (fun _ h9 => h9) rfl dX4_faultOf_98 ?_
              refine lv_iconst (v := 1) hx hb dX4_faultOf_101 (by decide) ?_
              refine lv_iadd hx hb dX4_faultOf_102 ?_
              refine lv_eqi (y := (nI (axx_118 + 1))) (nI_add (axx_118) (1)) ?_
              refine va_put (D := D) (ci := 4) (v := .int (nI (axx_118 + 1))) (ty := .int) (C := RX4) (T := TX4) (N := 7) hx hb hts iX4 tyX4 tyX4_ok nmX4 hown hK hP hD hS 0 rfl rfl 2 (by decide) f28 (fun _ h9 => h9) rfl (by decide +kernel) (rfl) (rfl) (Nat.le_of_ble_eq_true rfl) dX4_faultOf_103 (fun H locs hP2 hD2 hS2 => ?_)
              clear hP hD hS
              have hPD : PD D A [(Rd, .inr (4, [.ref Tp, .int (nI ln), .int (nI (axx_118 + 1)), .int zfax_119, .int (nI htx_120), .int (nI ctx_121), .ref Rv])), (Tp, .inl (g 0, 160, .inl ftp)), (Rv, .inl (g 0, 21, .inl fvalx_122))] H := ⟨hP2, hD2⟩
              have hS := hS2; clear hP2 hD2 hS2; have hP := hPD.1; have hD := hPD.2; clear hPD
              refine lv_iinc (v := (nI (i_23 + 1))) (lv' := [(4, .int (nI (i_23 + 1))), (3, .int 0), (0, .ref Rd)]) hx hb dX4_faultOf_106 hl (k := 1) rfl (nI_1 (i_23)) (by decide) rfl (fun ls hl => ?_)
              refine lv_goto (tgt := 44) hx hb dX4_faultOf_109 (by decide) ?_
              exact loop_83_ih (i_23 + 1) 0 (axx_118 + 1) zfax_119 htx_120 ctx_121 fvalx_122 (zb_0) (show htx_120 ≤ 3 by omega) (show ctx_121 ≤ 3 by omega) (hf_123.2.2.2.1) (show (i_23 + 1) ≤ ln + 1 by omega) (fun q => absurd rfl q) (fun _ => rf_w hi_116 (show i_23 ≤ ln by omega) hf_123.2.2.2.2.1 hf_123.2.2.2.2.2.1 cb_127) (fun q => absurd rfl q) (fun _ q => absurd q cb_127) (show (ln + 1) - (i_23 + 1) < Nloop_83 by omega) _ _ _ (hP.sub [1, 0, 2] rfl) (hD.sub [1, 0, 2] (by decide) rfl) hS hl
            · skip
              have hPq_128 := hP; have hDq_128 := hD; have hSq_128 := hS; have hlq_128 := hl; clear hP hD hS hl
              subst cb_127
              have hP := hPq_128; have hD := hDq_128; have hS := hSq_128; have hl := hlq_128; clear hPq_128 hDq_128 hSq_128 hlq_128
              refine lv_aload_n hx hb dX4_faultOf_79 rfl (lv_at hl 2 rfl) ?_
              refine va_get (D := D) (ci := 4) (v := .int (nI axx_118)) (C := RX4) (T := TX4) (N := 7) hx hb hts iX4 hown hK hP 0 rfl rfl 2 (by decide) f28 (fun _ h9 => h9) rfl dX4_faultOf_80 ?_
              refine lv_aload_n hx hb dX4_faultOf_83 rfl (lv_at hl 2 rfl) ?_
              refine va_get (D := D) (ci := 4) (v := .int (nI ln)) (C := RX4) (T := TX4) (N := 7) hx hb hts iX4 hown hK hP 0 rfl rfl 1 (by decide) f24 (fun _ h9 => h9) rfl dX4_faultOf_84 ?_
              refine lv_icmp_ge (tgt := 94) hx hb dX4_faultOf_87 (by decide) (fun cb_129 => ?_) (fun cb_129 => ?_)
              · skip
                have cn_130 : ln ≤ axx_118 := (nI_leI (show ln < 2 ^ 31 by omega) (show axx_118 < 2 ^ 31 by omega)).mp cb_129
                refine lv_iconst (v := 0) hx hb dX4_faultOf_94 (by decide) ?_
                refine lv_istore_n (lv' := [(3, .int 0), (4, .int (nI i_23)), (0, .ref Rd)]) hx hb dX4_faultOf_95 rfl hl (by decide) rfl (fun ls hl => ?_)
                refine lv_aload_n hx hb dX4_faultOf_96 rfl (lv_at hl 2 rfl) ?_
                refine lv_dup hx hb dX4_faultOf_97 rfl ?_
                refine va_get (D := D) (ci := 4) (v := .int (nI axx_118)) (C := RX4) (T := TX4) (N := 7) hx hb hts iX4 hown hK hP 0 rfl rfl 2 (by decide) f28 (fun _ h9 => h9) rfl dX4_faultOf_98 ?_
                refine lv_iconst (v := 1) hx hb dX4_faultOf_101 (by decide) ?_
                refine lv_iadd hx hb dX4_faultOf_102 ?_
                refine lv_eqi (y := (nI (axx_118 + 1))) (nI_add (axx_118) (1)) ?_
                refine va_put (D := D) (ci := 4) (v := .int (nI (axx_118 + 1))) (ty := .int) (C := RX4) (T := TX4) (N := 7) hx hb hts iX4 tyX4 tyX4_ok nmX4 hown hK hP hD hS 0 rfl rfl 2 (by decide) f28 (fun _ h9 => h9) rfl (by decide +kernel) (rfl) (rfl) (Nat.le_of_ble_eq_true rfl) dX4_faultOf_103 (fun H locs hP2 hD2 hS2 => ?_)
                clear hP hD hS
                have hPD : PD D A [(Rd, .inr (4, [.ref Tp, .int (nI ln), .int (nI (axx_118 + 1)), .int (-1), .int (nI htx_120), .int (nI ctx_121), .ref Rv])), (Tp, .inl (g 0, 160, .inl ftp)), (Rv, .inl (g 0, 21, .inl fvalx_122))] H := ⟨hP2, hD2⟩
                have hS := hS2; clear hP2 hD2 hS2; have hP := hPD.1; have hD := hPD.2; clear hPD
                refine lv_iinc (v := (nI (i_23 + 1))) (lv' := [(4, .int (nI (i_23 + 1))), (3, .int 0), (0, .ref Rd)]) hx hb dX4_faultOf_106 hl (k := 1) rfl (nI_1 (i_23)) (by decide) rfl (fun ls hl => ?_)
                refine lv_goto (tgt := 44) hx hb dX4_faultOf_109 (by decide) ?_
                exact loop_83_ih (i_23 + 1) 0 (axx_118 + 1) (-1) htx_120 ctx_121 fvalx_122 (zb_0) (show htx_120 ≤ 3 by omega) (show ctx_121 ≤ 3 by omega) (hf_123.2.2.2.1) (show (i_23 + 1) ≤ ln + 1 by omega) (fun q => absurd rfl q) (fun _ => rf_end hi_116 (show i_23 ≤ ln by omega) hf_123.2.2.2.2.1 hf_123.2.2.2.2.2.1 (hf_123.2.2.2.2.2.2.1 rfl).1 (by omega)) (fun q => absurd rfl q) (fun _ _ => by rw [hf_123.2.2.2.2.2.2.2 rfl]; exact rw_end hw_115 (show i_23 ≤ ln by omega) hf_123.2.2.2.2.1 hf_123.2.2.2.2.2.1 (hf_123.2.2.2.2.2.2.1 rfl).1 (by omega)) (show (ln + 1) - (i_23 + 1) < Nloop_83 by omega) _ _ _ (hP.sub [1, 0, 2] rfl) (hD.sub [1, 0, 2] (by decide) rfl) hS hl
              · skip
                have cn_131 : axx_118 < ln := Nat.lt_of_not_le (fun q9 => cb_129 ((nI_leI (show ln < 2 ^ 31 by omega) (show axx_118 < 2 ^ 31 by omega)).mpr q9))
                refine lv_iconst (v := 1) hx hb dX4_faultOf_90 (by decide) ?_
                have hlt_132 := (hf_123.2.2.2.2.2.2.1 rfl).2
                refine lv_goto (tgt := 95) hx hb dX4_faultOf_91 (by decide) ?_
                refine lv_istore_n (lv' := [(3, .int 1), (4, .int (nI i_23)), (0, .ref Rd)]) hx hb dX4_faultOf_95 rfl hl (by decide) rfl (fun ls hl => ?_)
                refine lv_aload_n hx hb dX4_faultOf_96 rfl (lv_at hl 2 rfl) ?_
                refine lv_dup hx hb dX4_faultOf_97 rfl ?_
                refine va_get (D := D) (ci := 4) (v := .int (nI axx_118)) (C := RX4) (T := TX4) (N := 7) hx hb hts iX4 hown hK hP 0 rfl rfl 2 (by decide) f28 (fun _ h9 => h9) rfl dX4_faultOf_98 ?_
                refine lv_iconst (v := 1) hx hb dX4_faultOf_101 (by decide) ?_
                refine lv_iadd hx hb dX4_faultOf_102 ?_
                refine lv_eqi (y := (nI (axx_118 + 1))) (nI_add (axx_118) (1)) ?_
                refine va_put (D := D) (ci := 4) (v := .int (nI (axx_118 + 1))) (ty := .int) (C := RX4) (T := TX4) (N := 7) hx hb hts iX4 tyX4 tyX4_ok nmX4 hown hK hP hD hS 0 rfl rfl 2 (by decide) f28 (fun _ h9 => h9) rfl (by decide +kernel) (rfl) (rfl) (Nat.le_of_ble_eq_true rfl) dX4_faultOf_103 (fun H locs hP2 hD2 hS2 => ?_)
                clear hP hD hS
                have hPD : PD D A [(Rd, .inr (4, [.ref Tp, .int (nI ln), .int (nI (axx_118 + 1)), .int (-1), .int (nI htx_120), .int (nI ctx_121), .ref Rv])), (Tp, .inl (g 0, 160, .inl ftp)), (Rv, .inl (g 0, 21, .inl fvalx_122))] H := ⟨hP2, hD2⟩
                have hS := hS2; clear hP2 hD2 hS2; have hP := hPD.1; have hD := hPD.2; clear hPD
                refine lv_iinc (v := (nI (i_23 + 1))) (lv' := [(4, .int (nI (i_23 + 1))), (3, .int 1), (0, .ref Rd)]) hx hb dX4_faultOf_106 hl (k := 1) rfl (nI_1 (i_23)) (by decide) rfl (fun ls hl => ?_)
                refine lv_goto (tgt := 44) hx hb dX4_faultOf_109 (by decide) ?_
                exact loop_83_ih (i_23 + 1) 1 (axx_118 + 1) (-1) htx_120 ctx_121 fvalx_122 (zb_1) (show htx_120 ≤ 3 by omega) (show ctx_121 ≤ 3 by omega) (hf_123.2.2.2.1) (show (i_23 + 1) ≤ ln + 1 by omega) (fun _ => ⟨rfl, by omega, by omega, rf_go hi_116 (show i_23 ≤ ln by omega) hf_123.2.2.2.2.1 hf_123.2.2.2.2.2.1 (hf_123.2.2.2.2.2.2.1 rfl).1 (by omega)⟩) (fun q => absurd q (by decide)) (fun _ => by rw [hf_123.2.2.2.2.2.2.2 rfl]; exact rw_go hw_115 (show i_23 ≤ ln by omega) hf_123.2.2.2.2.1 hf_123.2.2.2.2.2.1 (hf_123.2.2.2.2.2.2.1 rfl).1 (by omega)) (fun q => absurd q (by decide)) (show (ln + 1) - (i_23 + 1) < Nloop_83 by omega) _ _ _ (hP.sub [1, 0, 2] rfl) (hD.sub [1, 0, 2] (by decide) rfl) hS hl
  exact loop_83 _ 0 1 0 (-1) 0 0 fvalx_2 (zb_1) (show 0 ≤ 3 by omega) (show 0 ≤ 3 by omega) (hf_3) (show 0 ≤ ln + 1 by omega) (fun _ => ⟨rfl, Nat.zero_le _, Nat.le_refl _, rfl⟩) (fun q => absurd q (by decide)) (fun _ => rfl) (fun q => absurd q (by decide)) (Nat.lt_succ_self _) _ _ _ hP hD hS (lv_sub hl [0, 1, 2] rfl)
