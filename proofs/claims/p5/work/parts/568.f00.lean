set_option maxHeartbeats 4000000 in
set_option maxRecDepth 100000 in
theorem r_X4_faultOf (l : Launch) (D : va_G) (g : Nat → ClassId) (sz : Nat) (Rd : Nat) (Tp : Nat) (ln : Nat) (Rq : Nat) (fr : Nat → Int32) (Rv : Nat) (ftp : Nat → Int32) (fval : Nat → Int32) (h0 : ln ≤ 160) (h1 : vOK fval) : Met l yX4_faultOf wsX4_faultOf ({ frames := 6, cells := 0, slots := 0, locals := 132 }) (va_Pc [.ref Rd, .ref Tp, .int (nI ln)] (pre D g sz [(Rd, .inr (4, [.ref Rq, .int (fr 1), .int (fr 2), .int (fr 3), .int (fr 4), .int (fr 5), .ref Rv])), (Tp, .inl (g 0, 160, .inl ftp)), (Rv, .inl (g 0, 21, .inl fval))])) (va_Qi (fun (r : Int32) (u : va_W) => ∃ (axx : Nat) (zfax : Int32) (htx : Nat) (ctx : Nat) (fvalx : Nat → Int32), u = [(Rd, .inr (4, [.ref Tp, .int (nI ln), .int (nI axx), .int zfax, .int (nI htx), .int (nI ctx), .ref Rv])), (Tp, .inl (g 0, 160, .inl ftp)), (Rv, .inl (g 0, 21, .inl fvalx))] ∧ r = zfax ∧ (htx ≤ 3) ∧ (ctx ≤ 3) ∧ (vOK fvalx) ∧ ((zfax, ctx) = rdV ftp ln)) (wd D (va_A [(Rd, .inr (4, [.ref Rq, .int (fr 1), .int (fr 2), .int (fr 3), .int (fr 4), .int (fr 5), .ref Rv])), (Tp, .inl (g 0, 160, .inl ftp)), (Rv, .inl (g 0, 21, .inl fval))] sz)) (va_A [(Rd, .inr (4, [.ref Rq, .int (fr 1), .int (fr 2), .int (fr 3), .int (fr 4), .int (fr 5), .ref Rv])), (Tp, .inl (g 0, 160, .inl ftp)), (Rv, .inl (g 0, 21, .inl fval))] sz)) 0 0 (va_A [(Rd, .inr (4, [.ref Rq, .int (fr 1), .int (fr 2), .int (fr 3), .int (fr 4), .int (fr 5), .ref Rv])), (Tp, .inl (g 0, 160, .inl ftp)), (Rv, .inl (g 0, 21, .inl fval))] sz) := by
  refine Met.ofW (cc := cX4_faultOf) (maxL := 5) (ret := (some .int)) (by decide) rfl ?_
  intro p e s m args below meth c s₁ B hml hv
  obtain ⟨rfl, hsz, hP, ⟨hK, hN⟩, hD0, hZ⟩ := hv
  have hx := B.exec
  have hb := B.bytes
  have hr := B.returns
  have hts := atoms_spec (ws := wsX4_faultOf) B.pre
  have hown : s.vm.findClass RX4 = some m.cls := findClass_of_methodNamed B.named
  have hlocks := B.notSynchronized
  clear B
  subst hsz
  have hD := hD0.self (sz := s.heap.size)
  clear hD0
  generalize hAe : va_A [(Rd, .inr (4, [.ref Rq, .int (fr 1), .int (fr 2), .int (fr 3), .int (fr 4), .int (fr 5), .ref Rv])), (Tp, .inl (g 0, 160, .inl ftp)), (Rv, .inl (g 0, 21, .inl fval))] s.heap.size = A at hD hZ ⊢
  have hA : ∀ q : Nat, s.heap.size ≤ q → A q := fun q h => by rw [← hAe]; exact Or.inr h
  have hS : va_S A s.heap s.heap [] := va_S.rf
  have f24 := hts (.fieldLink RX4 24 "HopCredits$Reading" "length" "I") (List.mem_of_getElem? (i := 6) rfl)
  have f28 := hts (.fieldLink RX4 28 "HopCredits$Reading" "at" "I") (List.mem_of_getElem? (i := 7) rfl)
  have f31 := hts (.fieldLink RX4 31 "HopCredits$Reading" "fault" "I") (List.mem_of_getElem? (i := 8) rfl)
  have f34 := hts (.fieldLink RX4 34 "HopCredits$Reading" "hopsTold" "I") (List.mem_of_getElem? (i := 9) rfl)
  have f37 := hts (.fieldLink RX4 37 "HopCredits$Reading" "circuitsTold" "I") (List.mem_of_getElem? (i := 10) rfl)
  have f9 := hts (.fieldLink RX4 9 "HopCredits$Reading" "text" "[I") (List.mem_of_getElem? (i := 1) rfl)
  have mcmin := hts (.code Lib.Math.min.name Lib.Math.min.code 2 (some .int)) (List.mem_of_getElem? (i := 5) rfl)
  have mi := hts (.initialized "java/lang/Math") (List.mem_of_getElem? (i := 4) rfl)
  have mmmin := hts (.methodLink RX4 18 Lib.Math.min.name) (List.mem_of_getElem? (i := 2) rfl)
  have mtmin := hts (.static Lib.Math.min.name) (List.mem_of_getElem? (i := 3) rfl)
  have iX4 : ∀ w ∈ u_ws RX4 TX4 7, w ∈ wsX4_faultOf := fun w h => List.mem_cons_of_mem _ (List.mem_append_right _ (h))
  have hl := lv_entry ([.ref Rd, .ref Tp, .int (nI ln)]) (n := 5) (Nat.le_of_ble_eq_true rfl)
  rw [lg_entry_eq]
  generalize (lg_sl ([.ref Rd, .ref Tp, .int (nI ln)]) ++ List.replicate (5 - (lg_sl ([.ref Rd, .ref Tp, .int (nI ln)])).length) Slot.unset).toArray = ls at hl ⊢
  have hl : lv_has ls 5 [(0, .ref Rd), (1, .ref Tp), (2, .int (nI ln))] := hl
  generalize hQ : MQ below _ _ s _ _ _ = Q
  generalize hH : s.heap = H at hP ⊢
  have hS : va_S A s.heap H [] := by rw [← hH]; exact hS
  clear hH
  refine lv_aload_n hx hb dX4_faultOf_0 rfl (lv_at hl 0 rfl) ?_
  refine lv_aload_n hx hb dX4_faultOf_1 rfl (lv_at hl 1 rfl) ?_
  refine va_put (D := D) (ci := 4) (v := .ref Tp) (ty := (.array .int)) (C := RX4) (T := TX4) (N := 7) hx hb hts iX4 tyX4 tyX4_ok nmX4 hown hK hP hD hS 0 rfl rfl 0 (by decide) f9 (fun _ h9 => h9) rfl (by decide +kernel) (rfl) (rfl) (Nat.le_of_ble_eq_true rfl) dX4_faultOf_2 (fun H locs hP2 hD2 hS2 => ?_)
  clear hP hD hS
  have hPD : PD D A [(Rd, .inr (4, [.ref Tp, .int (fr 1), .int (fr 2), .int (fr 3), .int (fr 4), .int (fr 5), .ref Rv])), (Tp, .inl (g 0, 160, .inl ftp)), (Rv, .inl (g 0, 21, .inl fval))] H := ⟨hP2, hD2⟩
  have hS := hS2; clear hP2 hD2 hS2; have hP := hPD.1; have hD := hPD.2; clear hPD
  refine lv_aload_n hx hb dX4_faultOf_5 rfl (lv_at hl 0 rfl) ?_
  refine lv_iload_n hx hb dX4_faultOf_6 rfl (lv_at hl 2 rfl) ?_
  refine lv_aload_n hx hb dX4_faultOf_7 rfl (lv_at hl 1 rfl) ?_
  refine va_alen (v := 160) hx hb hK hP 1 0 rfl rfl rfl dX4_faultOf_8 ?_
  refine va_mmin hx hb (hml.trans hl.1.symm) hown mmmin mtmin mi mcmin (Nat.le_of_ble_eq_true rfl) (Nat.le_of_ble_eq_true rfl) (Nat.le_of_ble_eq_true rfl) (Nat.le_of_ble_eq_true rfl) dX4_faultOf_9 ?_
  refine lv_eqi (y := (nI ln)) (min160 (show ln ≤ 160 by omega)) ?_
  refine va_put (D := D) (ci := 4) (v := .int (nI ln)) (ty := .int) (C := RX4) (T := TX4) (N := 7) hx hb hts iX4 tyX4 tyX4_ok nmX4 hown hK hP hD hS 0 rfl rfl 1 (by decide) f24 (fun _ h9 => h9) rfl (by decide +kernel) (rfl) (rfl) (Nat.le_of_ble_eq_true rfl) dX4_faultOf_12 (fun H locs hP2 hD2 hS2 => ?_)
  clear hP hD hS
  have hPD : PD D A [(Rd, .inr (4, [.ref Tp, .int (nI ln), .int (fr 2), .int (fr 3), .int (fr 4), .int (fr 5), .ref Rv])), (Tp, .inl (g 0, 160, .inl ftp)), (Rv, .inl (g 0, 21, .inl fval))] H := ⟨hP2, hD2⟩
  have hS := hS2; clear hP2 hD2 hS2; have hP := hPD.1; have hD := hPD.2; clear hPD
  refine lv_aload_n hx hb dX4_faultOf_15 rfl (lv_at hl 0 rfl) ?_
  refine lv_iconst (v := 0) hx hb dX4_faultOf_16 (by decide) ?_
  refine va_put (D := D) (ci := 4) (v := .int 0) (ty := .int) (C := RX4) (T := TX4) (N := 7) hx hb hts iX4 tyX4 tyX4_ok nmX4 hown hK hP hD hS 0 rfl rfl 2 (by decide) f28 (fun _ h9 => h9) rfl (by decide +kernel) (rfl) (rfl) (Nat.le_of_ble_eq_true rfl) dX4_faultOf_17 (fun H locs hP2 hD2 hS2 => ?_)
  clear hP hD hS
  have hPD : PD D A [(Rd, .inr (4, [.ref Tp, .int (nI ln), .int 0, .int (fr 3), .int (fr 4), .int (fr 5), .ref Rv])), (Tp, .inl (g 0, 160, .inl ftp)), (Rv, .inl (g 0, 21, .inl fval))] H := ⟨hP2, hD2⟩
  have hS := hS2; clear hP2 hD2 hS2; have hP := hPD.1; have hD := hPD.2; clear hPD
  refine lv_aload_n hx hb dX4_faultOf_20 rfl (lv_at hl 0 rfl) ?_
  refine lv_iconst (v := (-1)) hx hb dX4_faultOf_21 (by decide) ?_
  refine va_put (D := D) (ci := 4) (v := .int (-1)) (ty := .int) (C := RX4) (T := TX4) (N := 7) hx hb hts iX4 tyX4 tyX4_ok nmX4 hown hK hP hD hS 0 rfl rfl 3 (by decide) f31 (fun _ h9 => h9) rfl (by decide +kernel) (rfl) (rfl) (Nat.le_of_ble_eq_true rfl) dX4_faultOf_22 (fun H locs hP2 hD2 hS2 => ?_)
  clear hP hD hS
  have hPD : PD D A [(Rd, .inr (4, [.ref Tp, .int (nI ln), .int 0, .int (-1), .int (fr 4), .int (fr 5), .ref Rv])), (Tp, .inl (g 0, 160, .inl ftp)), (Rv, .inl (g 0, 21, .inl fval))] H := ⟨hP2, hD2⟩
  have hS := hS2; clear hP2 hD2 hS2; have hP := hPD.1; have hD := hPD.2; clear hPD
  refine lv_aload_n hx hb dX4_faultOf_25 rfl (lv_at hl 0 rfl) ?_
  refine lv_iconst (v := 0) hx hb dX4_faultOf_26 (by decide) ?_
  refine va_put (D := D) (ci := 4) (v := .int 0) (ty := .int) (C := RX4) (T := TX4) (N := 7) hx hb hts iX4 tyX4 tyX4_ok nmX4 hown hK hP hD hS 0 rfl rfl 4 (by decide) f34 (fun _ h9 => h9) rfl (by decide +kernel) (rfl) (rfl) (Nat.le_of_ble_eq_true rfl) dX4_faultOf_27 (fun H locs hP2 hD2 hS2 => ?_)
  clear hP hD hS
  have hPD : PD D A [(Rd, .inr (4, [.ref Tp, .int (nI ln), .int 0, .int (-1), .int 0, .int (fr 5), .ref Rv])), (Tp, .inl (g 0, 160, .inl ftp)), (Rv, .inl (g 0, 21, .inl fval))] H := ⟨hP2, hD2⟩
  have hS := hS2; clear hP2 hD2 hS2; have hP := hPD.1; have hD := hPD.2; clear hPD
  refine lv_aload_n hx hb dX4_faultOf_30 rfl (lv_at hl 0 rfl) ?_
  refine lv_iconst (v := 0) hx hb dX4_faultOf_31 (by decide) ?_
  refine va_put (D := D) (ci := 4) (v := .int 0) (ty := .int) (C := RX4) (T := TX4) (N := 7) hx hb hts iX4 tyX4 tyX4_ok nmX4 hown hK hP hD hS 0 rfl rfl 5 (by decide) f37 (fun _ h9 => h9) rfl (by decide +kernel) (rfl) (rfl) (Nat.le_of_ble_eq_true rfl) dX4_faultOf_32 (fun H locs hP2 hD2 hS2 => ?_)
  clear hP hD hS
  have hPD : PD D A [(Rd, .inr (4, [.ref Tp, .int (nI ln), .int 0, .int (-1), .int 0, .int 0, .ref Rv])), (Tp, .inl (g 0, 160, .inl ftp)), (Rv, .inl (g 0, 21, .inl fval))] H := ⟨hP2, hD2⟩
  have hS := hS2; clear hP2 hD2 hS2; have hP := hPD.1; have hD := hPD.2; clear hPD
  refine lv_aload_n hx hb dX4_faultOf_35 rfl (lv_at hl 0 rfl) ?_
  refine ky_Vv (As := []) (rest := []) ⟨hx, hb, hml, hown, hts⟩ ⟨hK, hN⟩ hZ hP hD hS hA [0, 2] [1] (wc := [(Rd, .inr (4, [.ref Tp, .int (nI ln), .int 0, .int (-1), .int 0, .int 0, .ref Rv])), (Rv, .inl (g 0, 21, .inl fval))]) (wr := [(Tp, .inl (g 0, 160, .inl ftp))]) rfl rfl rfl rfl (by decide) (k_X4_setUsual l D g H.size Rd Tp (lf [0, nI ln, 0, -1, 0, 0]) Rv fval (h1)) (cwV 0 hts gX4_faultOf_X4_setUsual rfl rfl rfl (by decide +kernel) ⟨(Nat.le_of_ble_eq_true rfl), (Nat.le_of_ble_eq_true rfl)⟩) 0 4 rfl rfl rfl rfl hl.1 rfl (Nat.le_of_ble_eq_true rfl) dX4_faultOf_36 ⟨(Nat.le_of_ble_eq_true rfl), (Nat.le_of_ble_eq_true rfl)⟩ (fun u H locs hw hP2 hD2 hS2 => ?_)
  clear hP hD hS
  obtain ⟨fvalx_2, rfl, hf_3⟩ := hw
  have hPD : PD D A [(Tp, .inl (g 0, 160, .inl ftp)), (Rd, .inr (4, [.ref Tp, .int (nI ln), .int 0, .int (-1), .int 0, .int 0, .ref Rv])), (Rv, .inl (g 0, 21, .inl fvalx_2))] H := ⟨hP2, hD2⟩
  have hS := hS2; clear hP2 hD2 hS2; have hP := hPD.1; have hD := hPD.2; clear hPD
  refine W.widen (k := 0) (n := 0) (Nat.le_of_ble_eq_true rfl) (Nat.le_of_ble_eq_true rfl) ?_
  refine lv_iconst (v := 1) hx hb dX4_faultOf_39 (by decide) ?_
  refine lv_istore_n (lv' := [(3, .int 1), (0, .ref Rd), (1, .ref Tp), (2, .int (nI ln))]) hx hb dX4_faultOf_40 rfl hl (by decide) rfl (fun ls hl => ?_)
  refine lv_iconst (v := 0) hx hb dX4_faultOf_41 (by decide) ?_
  refine lv_istore (lv' := [(4, .int 0), (3, .int 1), (0, .ref Rd), (1, .ref Tp), (2, .int (nI ln))]) hx hb dX4_faultOf_42 hl (by decide) rfl (fun ls hl => ?_)
  have loop_76 : ∀ (Nloop_76 : Nat) (i_21 : Nat) (i_22 : Int32) (z_23 : Nat) (z_24 : Int32) (z_25 : Nat) (z_26 : Nat) (F_27 : Nat → Int32) (hi_22 : zb i_22) (hnz_25 : z_25 ≤ 3) (hnz_26 : z_26 ≤ 3) (hF_27 : vOK F_27) (hbi_21 : i_21 ≤ ln + 1) (hv_74 : ¬ i_22 = 0 → z_24 = -1 ∧ z_23 ≤ ln ∧ i_21 ≤ z_23 ∧ rdF ftp ln (ln + 1 - i_21) (if i_21 = 0 then 1 else 0) z_23 z_25 z_26 = rdV ftp ln) (hv_75 : i_22 = 0 → (z_24, z_26) = rdV ftp ln) (hmloop_76 : (ln + 1) - i_21 < Nloop_76) (H : Heap) (locs : List Loc) (ls : Array Slot), va_P D vwCl [(Tp, .inl (g 0, 160, .inl ftp)), (Rd, .inr (4, [.ref Tp, .int (nI ln), .int (nI z_23), .int z_24, .int (nI z_25), .int (nI z_26), .ref Rv])), (Rv, .inl (g 0, 21, .inl F_27))] H → va_D A [(Tp, .inl (g 0, 160, .inl ftp)), (Rd, .inr (4, [.ref Tp, .int (nI ln), .int (nI z_23), .int z_24, .int (nI z_25), .int (nI z_26), .ref Rv])), (Rv, .inl (g 0, 21, .inl F_27))] → va_S A s.heap H locs → lv_has ls 5 [(4, .int (nI i_21)), (3, .int i_22), (0, .ref Rd)] → W p l e (headSpec wsX4_faultOf ({ frames := 6, cells := 0, slots := 0, locals := 132 })).room s m ([.ref Rd, .ref Tp, .int (nI ln)] : List Value).toArray below meth c H locs 0 0 Q (F0 m 44 ls []) := by
    clear hP hD hS hl
    intro Nloop_76
    induction Nloop_76 with
    | zero => intro i_21 i_22 z_23 z_24 z_25 z_26 F_27 hi_22 hnz_25 hnz_26 hF_27 hbi_21 hv_74 hv_75 hm9; exact absurd hm9 (Nat.not_lt_zero _)
    | succ Nloop_76 loop_76_ih =>
      intro i_21 i_22 z_23 z_24 z_25 z_26 F_27 hi_22 hnz_25 hnz_26 hF_27 hbi_21 hv_74 hv_75 hmloop_76 H locs ls hP hD hS hl
      refine lv_iload_n hx hb dX4_faultOf_44 rfl (lv_at hl 1 rfl) ?_
      refine lv_if_eq (tgt := 112) hx hb dX4_faultOf_45 (by decide) (fun cb_77 => ?_) (fun cb_77 => ?_)
      · skip
        have hPq_78 := hP; have hDq_78 := hD; have hSq_78 := hS; have hlq_78 := hl; clear hP hD hS hl
        subst cb_77
        have hP := hPq_78; have hD := hDq_78; have hS := hSq_78; have hl := hlq_78; clear hPq_78 hDq_78 hSq_78 hlq_78
        refine lv_aload_n hx hb dX4_faultOf_112 rfl (lv_at hl 2 rfl) ?_
        refine va_get (D := D) (ci := 4) (v := .int z_24) (C := RX4) (T := TX4) (N := 7) hx hb hts iX4 hown hK hP 1 rfl rfl 3 (by decide) f31 (fun _ h9 => h9) rfl dX4_faultOf_113 ?_
        have hPD9 : PD D A [(Rd, .inr (4, [.ref Tp, .int (nI ln), .int (nI z_23), .int z_24, .int (nI z_25), .int (nI z_26), .ref Rv])), (Tp, .inl (g 0, 160, .inl ftp)), (Rv, .inl (g 0, 21, .inl F_27))] H := ⟨hP.sub [1, 0, 2] rfl, hD.sub [1, 0, 2] (by decide) rfl⟩
        have hP9 := hPD9.1; have hD9 := hPD9.2
        subst hQ
        refine W.widen (k := 0) (n := 0) (Nat.le_of_ble_eq_true rfl) (Nat.le_of_ble_eq_true rfl) ?_
        exact W.iret (v := z_24) hx hb hr (fun tS htS _ => ⟨⟨_, _, rfl, ⟨z_23, z_24, z_25, z_26, F_27, rfl, rfl, (show z_25 ≤ 3 by omega), (show z_26 ≤ 3 by omega), (hF_27), (hv_75 rfl)⟩, by rw [htS]; exact hP9, hD9⟩, hS.F htS⟩) hS.2.2 dX4_faultOf_116
      · skip
        have hPq_82 := hP; have hDq_82 := hD; have hSq_82 := hS; have hlq_82 := hl; clear hP hD hS hl
        obtain ⟨q9, hi_79, hi_80, hi_81⟩ := hv_74 cb_77; subst q9
        have hP := hPq_82; have hD := hDq_82; have hS := hSq_82; have hl := hlq_82; clear hPq_82 hDq_82 hSq_82 hlq_82
        refine lv_iload hx hb dX4_faultOf_48 (lv_at hl 0 rfl) ?_
        refine lv_aload_n hx hb dX4_faultOf_50 rfl (lv_at hl 2 rfl) ?_
        refine va_get (D := D) (ci := 4) (v := .int (nI ln)) (C := RX4) (T := TX4) (N := 7) hx hb hts iX4 hown hK hP 1 rfl rfl 1 (by decide) f24 (fun _ h9 => h9) rfl dX4_faultOf_51 ?_
        refine lv_icmp_gt (tgt := 112) hx hb dX4_faultOf_54 (by decide) (fun cb_83 => ?_) (fun cb_83 => ?_)
        · skip
          have cn_84 : ln < i_21 := (nI_ltI (show ln < 2 ^ 31 by omega) (show i_21 < 2 ^ 31 by omega)).mp cb_83
          refine lv_aload_n hx hb dX4_faultOf_112 rfl (lv_at hl 2 rfl) ?_
          refine va_get (D := D) (ci := 4) (v := .int (-1)) (C := RX4) (T := TX4) (N := 7) hx hb hts iX4 hown hK hP 1 rfl rfl 3 (by decide) f31 (fun _ h9 => h9) rfl dX4_faultOf_113 ?_
          have hPD9 : PD D A [(Rd, .inr (4, [.ref Tp, .int (nI ln), .int (nI z_23), .int (-1), .int (nI z_25), .int (nI z_26), .ref Rv])), (Tp, .inl (g 0, 160, .inl ftp)), (Rv, .inl (g 0, 21, .inl F_27))] H := ⟨hP.sub [1, 0, 2] rfl, hD.sub [1, 0, 2] (by decide) rfl⟩
          have hP9 := hPD9.1; have hD9 := hPD9.2
          subst hQ
          refine W.widen (k := 0) (n := 0) (Nat.le_of_ble_eq_true rfl) (Nat.le_of_ble_eq_true rfl) ?_
          exact W.iret (v := (-1)) hx hb hr (fun tS htS _ => ⟨⟨_, _, rfl, ⟨z_23, (-1), z_25, z_26, F_27, rfl, rfl, (show z_25 ≤ 3 by omega), (show z_26 ≤ 3 by omega), (hF_27), (False.elim (by omega))⟩, by rw [htS]; exact hP9, hD9⟩, hS.F htS⟩) hS.2.2 dX4_faultOf_116
        · skip
          have cn_85 : i_21 ≤ ln := Nat.le_of_not_lt (fun q9 => cb_83 ((nI_ltI (show ln < 2 ^ 31 by omega) (show i_21 < 2 ^ 31 by omega)).mpr q9))
          refine lv_aload_n hx hb dX4_faultOf_57 rfl (lv_at hl 2 rfl) ?_
          refine lv_iload hx hb dX4_faultOf_58 (lv_at hl 0 rfl) ?_
          refine lv_if_ne (tgt := 67) hx hb dX4_faultOf_60 (by decide) (fun cb_86 => ?_) (fun cb_86 => ?_)
          · skip
            have cn_87 : ¬ i_21 = 0 := fun q9 => cb_86 (congrArg nI q9)
            refine lv_iconst (v := 0) hx hb dX4_faultOf_67 (by decide) ?_
            have hi_88 : rdF ftp ln (ln + 1 - i_21) 0 z_23 z_25 z_26 = rdV ftp ln := by rw [← hi_81]; exact congrArg (fun z => rdF ftp ln (ln + 1 - i_21) z z_23 z_25 z_26) (if_neg cn_87).symm
            refine ky_Vv (As := [.int 0]) (rest := []) ⟨hx, hb, hml, hown, hts⟩ ⟨hK, hN⟩ hZ hP hD hS hA [1, 0, 2] [] (wc := [(Rd, .inr (4, [.ref Tp, .int (nI ln), .int (nI z_23), .int (-1), .int (nI z_25), .int (nI z_26), .ref Rv])), (Tp, .inl (g 0, 160, .inl ftp)), (Rv, .inl (g 0, 21, .inl F_27))]) (wr := []) rfl rfl rfl rfl (by decide) (r_X4_readClause l D g H.size Rd 0 Tp ln z_23 z_25 z_26 Rv ftp F_27 (show ln ≤ 160 by omega) (show z_23 ≤ ln by omega) (show z_25 ≤ 3 by omega) (show z_26 ≤ 3 by omega) (hF_27)) (cwV 1 hts gX4_faultOf_X4_readClause rfl rfl rfl (by decide +kernel) ⟨(Nat.le_of_ble_eq_true rfl), (Nat.le_of_ble_eq_true rfl)⟩) 1 4 rfl rfl rfl rfl hl.1 rfl (Nat.le_of_ble_eq_true rfl) dX4_faultOf_68 ⟨(Nat.le_of_ble_eq_true rfl), (Nat.le_of_ble_eq_true rfl)⟩ (fun u H locs hw hP2 hD2 hS2 => ?_)
            clear hP hD hS
            obtain ⟨axx_90, zfax_91, htx_92, ctx_93, fvalx_94, rfl, hf_95⟩ := hw
            have hg_96 := hf_95.1
            have hg_97 := hf_95.2.1
            have hg_98 := hf_95.2.2.1
            have hPD : PD D A [(Rd, .inr (4, [.ref Tp, .int (nI ln), .int (nI axx_90), .int zfax_91, .int (nI htx_92), .int (nI ctx_93), .ref Rv])), (Tp, .inl (g 0, 160, .inl ftp)), (Rv, .inl (g 0, 21, .inl fvalx_94))] H := ⟨hP2, hD2⟩
            have hS := hS2; clear hP2 hD2 hS2; have hP := hPD.1; have hD := hPD.2; clear hPD
            refine W.widen (k := 0) (n := 0) (Nat.le_of_ble_eq_true rfl) (Nat.le_of_ble_eq_true rfl) ?_
            refine lv_aload_n hx hb dX4_faultOf_71 rfl (lv_at hl 2 rfl) ?_
            refine va_get (D := D) (ci := 4) (v := .int zfax_91) (C := RX4) (T := TX4) (N := 7) hx hb hts iX4 hown hK hP 0 rfl rfl 3 (by decide) f31 (fun _ h9 => h9) rfl dX4_faultOf_72 ?_
            refine lv_iconst (v := (-1)) hx hb dX4_faultOf_75 (by decide) ?_
            refine lv_icmp_ne (tgt := 94) hx hb dX4_faultOf_76 (by decide) (fun cb_99 => ?_) (fun cb_99 => ?_)
            · skip
              refine lv_iconst (v := 0) hx hb dX4_faultOf_94 (by decide) ?_
              refine lv_istore_n (lv' := [(3, .int 0), (4, .int (nI i_21)), (0, .ref Rd)]) hx hb dX4_faultOf_95 rfl hl (by decide) rfl (fun ls hl => ?_)
              refine lv_aload_n hx hb dX4_faultOf_96 rfl (lv_at hl 2 rfl) ?_
              refine lv_dup hx hb dX4_faultOf_97 rfl ?_
              refine va_get (D := D) (ci := 4) (v := .int (nI axx_90)) (C := RX4) (T := TX4) (N := 7) hx hb hts iX4 hown hK hP 0 rfl rfl 2 (by decide) f28 (fun _ h9 => h9) rfl dX4_faultOf_98 ?_
              refine lv_iconst (v := 1) hx hb dX4_faultOf_101 (by decide) ?_
              refine lv_iadd hx hb dX4_faultOf_102 ?_
              refine lv_eqi (y := (nI (axx_90 + 1))) (nI_add (axx_90) (1)) ?_
              refine va_put (D := D) (ci := 4) (v := .int (nI (axx_90 + 1))) (ty := .int) (C := RX4) (T := TX4) (N := 7) hx hb hts iX4 tyX4 tyX4_ok nmX4 hown hK hP hD hS 0 rfl rfl 2 (by decide) f28 (fun _ h9 => h9) rfl (by decide +kernel) (rfl) (rfl) (Nat.le_of_ble_eq_true rfl) dX4_faultOf_103 (fun H locs hP2 hD2 hS2 => ?_)
              clear hP hD hS
              have hPD : PD D A [(Rd, .inr (4, [.ref Tp, .int (nI ln), .int (nI (axx_90 + 1)), .int zfax_91, .int (nI htx_92), .int (nI ctx_93), .ref Rv])), (Tp, .inl (g 0, 160, .inl ftp)), (Rv, .inl (g 0, 21, .inl fvalx_94))] H := ⟨hP2, hD2⟩
              have hS := hS2; clear hP2 hD2 hS2; have hP := hPD.1; have hD := hPD.2; clear hPD
              refine lv_iinc (v := (nI (i_21 + 1))) (lv' := [(4, .int (nI (i_21 + 1))), (3, .int 0), (0, .ref Rd)]) hx hb dX4_faultOf_106 hl (k := 1) rfl (nI_1 (i_21)) (by decide) rfl (fun ls hl => ?_)
              refine lv_goto (tgt := 44) hx hb dX4_faultOf_109 (by decide) ?_
              exact loop_76_ih (i_21 + 1) 0 (axx_90 + 1) zfax_91 htx_92 ctx_93 fvalx_94 (zb_0) (show htx_92 ≤ 3 by omega) (show ctx_93 ≤ 3 by omega) (hf_95.2.2.2.1) (show (i_21 + 1) ≤ ln + 1 by omega) (fun q => absurd rfl q) (fun _ => rf_w hi_88 (show i_21 ≤ ln by omega) hf_95.2.2.2.2.1 hf_95.2.2.2.2.2.1 cb_99) (show (ln + 1) - (i_21 + 1) < Nloop_76 by omega) _ _ _ (hP.sub [1, 0, 2] rfl) (hD.sub [1, 0, 2] (by decide) rfl) hS hl
            · skip
              have hPq_100 := hP; have hDq_100 := hD; have hSq_100 := hS; have hlq_100 := hl; clear hP hD hS hl
              subst cb_99
              have hP := hPq_100; have hD := hDq_100; have hS := hSq_100; have hl := hlq_100; clear hPq_100 hDq_100 hSq_100 hlq_100
              refine lv_aload_n hx hb dX4_faultOf_79 rfl (lv_at hl 2 rfl) ?_
              refine va_get (D := D) (ci := 4) (v := .int (nI axx_90)) (C := RX4) (T := TX4) (N := 7) hx hb hts iX4 hown hK hP 0 rfl rfl 2 (by decide) f28 (fun _ h9 => h9) rfl dX4_faultOf_80 ?_
              refine lv_aload_n hx hb dX4_faultOf_83 rfl (lv_at hl 2 rfl) ?_
              refine va_get (D := D) (ci := 4) (v := .int (nI ln)) (C := RX4) (T := TX4) (N := 7) hx hb hts iX4 hown hK hP 0 rfl rfl 1 (by decide) f24 (fun _ h9 => h9) rfl dX4_faultOf_84 ?_
              refine lv_icmp_ge (tgt := 94) hx hb dX4_faultOf_87 (by decide) (fun cb_101 => ?_) (fun cb_101 => ?_)
              · skip
                have cn_102 : ln ≤ axx_90 := (nI_leI (show ln < 2 ^ 31 by omega) (show axx_90 < 2 ^ 31 by omega)).mp cb_101
                refine lv_iconst (v := 0) hx hb dX4_faultOf_94 (by decide) ?_
                refine lv_istore_n (lv' := [(3, .int 0), (4, .int (nI i_21)), (0, .ref Rd)]) hx hb dX4_faultOf_95 rfl hl (by decide) rfl (fun ls hl => ?_)
                refine lv_aload_n hx hb dX4_faultOf_96 rfl (lv_at hl 2 rfl) ?_
                refine lv_dup hx hb dX4_faultOf_97 rfl ?_
                refine va_get (D := D) (ci := 4) (v := .int (nI axx_90)) (C := RX4) (T := TX4) (N := 7) hx hb hts iX4 hown hK hP 0 rfl rfl 2 (by decide) f28 (fun _ h9 => h9) rfl dX4_faultOf_98 ?_
                refine lv_iconst (v := 1) hx hb dX4_faultOf_101 (by decide) ?_
                refine lv_iadd hx hb dX4_faultOf_102 ?_
                refine lv_eqi (y := (nI (axx_90 + 1))) (nI_add (axx_90) (1)) ?_
                refine va_put (D := D) (ci := 4) (v := .int (nI (axx_90 + 1))) (ty := .int) (C := RX4) (T := TX4) (N := 7) hx hb hts iX4 tyX4 tyX4_ok nmX4 hown hK hP hD hS 0 rfl rfl 2 (by decide) f28 (fun _ h9 => h9) rfl (by decide +kernel) (rfl) (rfl) (Nat.le_of_ble_eq_true rfl) dX4_faultOf_103 (fun H locs hP2 hD2 hS2 => ?_)
                clear hP hD hS
                have hPD : PD D A [(Rd, .inr (4, [.ref Tp, .int (nI ln), .int (nI (axx_90 + 1)), .int (-1), .int (nI htx_92), .int (nI ctx_93), .ref Rv])), (Tp, .inl (g 0, 160, .inl ftp)), (Rv, .inl (g 0, 21, .inl fvalx_94))] H := ⟨hP2, hD2⟩
                have hS := hS2; clear hP2 hD2 hS2; have hP := hPD.1; have hD := hPD.2; clear hPD
                refine lv_iinc (v := (nI (i_21 + 1))) (lv' := [(4, .int (nI (i_21 + 1))), (3, .int 0), (0, .ref Rd)]) hx hb dX4_faultOf_106 hl (k := 1) rfl (nI_1 (i_21)) (by decide) rfl (fun ls hl => ?_)
                refine lv_goto (tgt := 44) hx hb dX4_faultOf_109 (by decide) ?_
                exact loop_76_ih (i_21 + 1) 0 (axx_90 + 1) (-1) htx_92 ctx_93 fvalx_94 (zb_0) (show htx_92 ≤ 3 by omega) (show ctx_93 ≤ 3 by omega) (hf_95.2.2.2.1) (show (i_21 + 1) ≤ ln + 1 by omega) (fun q => absurd rfl q) (fun _ => rf_end hi_88 (show i_21 ≤ ln by omega) hf_95.2.2.2.2.1 hf_95.2.2.2.2.2.1 (hf_95.2.2.2.2.2.2 rfl).1 (by omega)) (show (ln + 1) - (i_21 + 1) < Nloop_76 by omega) _ _ _ (hP.sub [1, 0, 2] rfl) (hD.sub [1, 0, 2] (by decide) rfl) hS hl
              · skip
                have cn_103 : axx_90 < ln := Nat.lt_of_not_le (fun q9 => cb_101 ((nI_leI (show ln < 2 ^ 31 by omega) (show axx_90 < 2 ^ 31 by omega)).mpr q9))
                refine lv_iconst (v := 1) hx hb dX4_faultOf_90 (by decide) ?_
                have hlt_104 := (hf_95.2.2.2.2.2.2 rfl).2
                refine lv_goto (tgt := 95) hx hb dX4_faultOf_91 (by decide) ?_
                refine lv_istore_n (lv' := [(3, .int 1), (4, .int (nI i_21)), (0, .ref Rd)]) hx hb dX4_faultOf_95 rfl hl (by decide) rfl (fun ls hl => ?_)
                refine lv_aload_n hx hb dX4_faultOf_96 rfl (lv_at hl 2 rfl) ?_
                refine lv_dup hx hb dX4_faultOf_97 rfl ?_
                refine va_get (D := D) (ci := 4) (v := .int (nI axx_90)) (C := RX4) (T := TX4) (N := 7) hx hb hts iX4 hown hK hP 0 rfl rfl 2 (by decide) f28 (fun _ h9 => h9) rfl dX4_faultOf_98 ?_
                refine lv_iconst (v := 1) hx hb dX4_faultOf_101 (by decide) ?_
                refine lv_iadd hx hb dX4_faultOf_102 ?_
                refine lv_eqi (y := (nI (axx_90 + 1))) (nI_add (axx_90) (1)) ?_
                refine va_put (D := D) (ci := 4) (v := .int (nI (axx_90 + 1))) (ty := .int) (C := RX4) (T := TX4) (N := 7) hx hb hts iX4 tyX4 tyX4_ok nmX4 hown hK hP hD hS 0 rfl rfl 2 (by decide) f28 (fun _ h9 => h9) rfl (by decide +kernel) (rfl) (rfl) (Nat.le_of_ble_eq_true rfl) dX4_faultOf_103 (fun H locs hP2 hD2 hS2 => ?_)
                clear hP hD hS
                have hPD : PD D A [(Rd, .inr (4, [.ref Tp, .int (nI ln), .int (nI (axx_90 + 1)), .int (-1), .int (nI htx_92), .int (nI ctx_93), .ref Rv])), (Tp, .inl (g 0, 160, .inl ftp)), (Rv, .inl (g 0, 21, .inl fvalx_94))] H := ⟨hP2, hD2⟩
                have hS := hS2; clear hP2 hD2 hS2; have hP := hPD.1; have hD := hPD.2; clear hPD
                refine lv_iinc (v := (nI (i_21 + 1))) (lv' := [(4, .int (nI (i_21 + 1))), (3, .int 1), (0, .ref Rd)]) hx hb dX4_faultOf_106 hl (k := 1) rfl (nI_1 (i_21)) (by decide) rfl (fun ls hl => ?_)
                refine lv_goto (tgt := 44) hx hb dX4_faultOf_109 (by decide) ?_
                exact loop_76_ih (i_21 + 1) 1 (axx_90 + 1) (-1) htx_92 ctx_93 fvalx_94 (zb_1) (show htx_92 ≤ 3 by omega) (show ctx_93 ≤ 3 by omega) (hf_95.2.2.2.1) (show (i_21 + 1) ≤ ln + 1 by omega) (fun _ => ⟨rfl, by omega, by omega, rf_go hi_88 (show i_21 ≤ ln by omega) hf_95.2.2.2.2.1 hf_95.2.2.2.2.2.1 (hf_95.2.2.2.2.2.2 rfl).1 (by omega)⟩) (fun q => absurd q (by decide)) (show (ln + 1) - (i_21 + 1) < Nloop_76 by omega) _ _ _ (hP.sub [1, 0, 2] rfl) (hD.sub [1, 0, 2] (by decide) rfl) hS hl
          · skip
            have cn_105 : i_21 = 0 := (nI_eq (show i_21 < 2 ^ 31 by omega) (show 0 < 2 ^ 31 by omega)).mp cb_86
            refine lv_iconst (v := 1) hx hb dX4_faultOf_63 (by decide) ?_
            refine lv_goto (tgt := 68) hx hb dX4_faultOf_64 (by decide) ?_
            have hi_106 : rdF ftp ln (ln + 1 - i_21) 1 z_23 z_25 z_26 = rdV ftp ln := by rw [← hi_81]; exact congrArg (fun z => rdF ftp ln (ln + 1 - i_21) z z_23 z_25 z_26) (if_pos cn_105).symm
            refine ky_Vv (As := [.int 1]) (rest := []) ⟨hx, hb, hml, hown, hts⟩ ⟨hK, hN⟩ hZ hP hD hS hA [1, 0, 2] [] (wc := [(Rd, .inr (4, [.ref Tp, .int (nI ln), .int (nI z_23), .int (-1), .int (nI z_25), .int (nI z_26), .ref Rv])), (Tp, .inl (g 0, 160, .inl ftp)), (Rv, .inl (g 0, 21, .inl F_27))]) (wr := []) rfl rfl rfl rfl (by decide) (r_X4_readClause l D g H.size Rd 1 Tp ln z_23 z_25 z_26 Rv ftp F_27 (show ln ≤ 160 by omega) (show z_23 ≤ ln by omega) (show z_25 ≤ 3 by omega) (show z_26 ≤ 3 by omega) (hF_27)) (cwV 1 hts gX4_faultOf_X4_readClause rfl rfl rfl (by decide +kernel) ⟨(Nat.le_of_ble_eq_true rfl), (Nat.le_of_ble_eq_true rfl)⟩) 1 4 rfl rfl rfl rfl hl.1 rfl (Nat.le_of_ble_eq_true rfl) dX4_faultOf_68 ⟨(Nat.le_of_ble_eq_true rfl), (Nat.le_of_ble_eq_true rfl)⟩ (fun u H locs hw hP2 hD2 hS2 => ?_)
            clear hP hD hS
            obtain ⟨axx_108, zfax_109, htx_110, ctx_111, fvalx_112, rfl, hf_113⟩ := hw
            have hg_114 := hf_113.1
            have hg_115 := hf_113.2.1
            have hg_116 := hf_113.2.2.1
            have hPD : PD D A [(Rd, .inr (4, [.ref Tp, .int (nI ln), .int (nI axx_108), .int zfax_109, .int (nI htx_110), .int (nI ctx_111), .ref Rv])), (Tp, .inl (g 0, 160, .inl ftp)), (Rv, .inl (g 0, 21, .inl fvalx_112))] H := ⟨hP2, hD2⟩
            have hS := hS2; clear hP2 hD2 hS2; have hP := hPD.1; have hD := hPD.2; clear hPD
            refine W.widen (k := 0) (n := 0) (Nat.le_of_ble_eq_true rfl) (Nat.le_of_ble_eq_true rfl) ?_
            refine lv_aload_n hx hb dX4_faultOf_71 rfl (lv_at hl 2 rfl) ?_
            refine va_get (D := D) (ci := 4) (v := .int zfax_109) (C := RX4) (T := TX4) (N := 7) hx hb hts iX4 hown hK hP 0 rfl rfl 3 (by decide) f31 (fun _ h9 => h9) rfl dX4_faultOf_72 ?_
            refine lv_iconst (v := (-1)) hx hb dX4_faultOf_75 (by decide) ?_
            refine lv_icmp_ne (tgt := 94) hx hb dX4_faultOf_76 (by decide) (fun cb_117 => ?_) (fun cb_117 => ?_)
            · skip
              refine lv_iconst (v := 0) hx hb dX4_faultOf_94 (by decide) ?_
              refine lv_istore_n (lv' := [(3, .int 0), (4, .int (nI i_21)), (0, .ref Rd)]) hx hb dX4_faultOf_95 rfl hl (by decide) rfl (fun ls hl => ?_)
              refine lv_aload_n hx hb dX4_faultOf_96 rfl (lv_at hl 2 rfl) ?_
              refine lv_dup hx hb dX4_faultOf_97 rfl ?_
              refine va_get (D := D) (ci := 4) (v := .int (nI axx_108)) (C := RX4) (T := TX4) (N := 7) hx hb hts iX4 hown hK hP 0 rfl rfl 2 (by decide) f28 (fun _ h9 => h9) rfl dX4_faultOf_98 ?_
              refine lv_iconst (v := 1) hx hb dX4_faultOf_101 (by decide) ?_
              refine lv_iadd hx hb dX4_faultOf_102 ?_
              refine lv_eqi (y := (nI (axx_108 + 1))) (nI_add (axx_108) (1)) ?_
              refine va_put (D := D) (ci := 4) (v := .int (nI (axx_108 + 1))) (ty := .int) (C := RX4) (T := TX4) (N := 7) hx hb hts iX4 tyX4 tyX4_ok nmX4 hown hK hP hD hS 0 rfl rfl 2 (by decide) f28 (fun _ h9 => h9) rfl (by decide +kernel) (rfl) (rfl) (Nat.le_of_ble_eq_true rfl) dX4_faultOf_103 (fun H locs hP2 hD2 hS2 => ?_)
              clear hP hD hS
              have hPD : PD D A [(Rd, .inr (4, [.ref Tp, .int (nI ln), .int (nI (axx_108 + 1)), .int zfax_109, .int (nI htx_110), .int (nI ctx_111), .ref Rv])), (Tp, .inl (g 0, 160, .inl ftp)), (Rv, .inl (g 0, 21, .inl fvalx_112))] H := ⟨hP2, hD2⟩
              have hS := hS2; clear hP2 hD2 hS2; have hP := hPD.1; have hD := hPD.2; clear hPD
              refine lv_iinc (v := (nI (i_21 + 1))) (lv' := [(4, .int (nI (i_21 + 1))), (3, .int 0), (0, .ref Rd)]) hx hb dX4_faultOf_106 hl (k := 1) rfl (nI_1 (i_21)) (by decide) rfl (fun ls hl => ?_)
              refine lv_goto (tgt := 44) hx hb dX4_faultOf_109 (by decide) ?_
              exact loop_76_ih (i_21 + 1) 0 (axx_108 + 1) zfax_109 htx_110 ctx_111 fvalx_112 (zb_0) (show htx_110 ≤ 3 by omega) (show ctx_111 ≤ 3 by omega) (hf_113.2.2.2.1) (show (i_21 + 1) ≤ ln + 1 by omega) (fun q => absurd rfl q) (fun _ => rf_w hi_106 (show i_21 ≤ ln by omega) hf_113.2.2.2.2.1 hf_113.2.2.2.2.2.1 cb_117) (show (ln + 1) - (i_21 + 1) < Nloop_76 by omega) _ _ _ (hP.sub [1, 0, 2] rfl) (hD.sub [1, 0, 2] (by decide) rfl) hS hl
            · skip
              have hPq_118 := hP; have hDq_118 := hD; have hSq_118 := hS; have hlq_118 := hl; clear hP hD hS hl
              subst cb_117
              have hP := hPq_118; have hD := hDq_118; have hS := hSq_118; have hl := hlq_118; clear hPq_118 hDq_118 hSq_118 hlq_118
              refine lv_aload_n hx hb dX4_faultOf_79 rfl (lv_at hl 2 rfl) ?_
              refine va_get (D := D) (ci := 4) (v := .int (nI axx_108)) (C := RX4) (T := TX4) (N := 7) hx hb hts iX4 hown hK hP 0 rfl rfl 2 (by decide) f28 (fun _ h9 => h9) rfl dX4_faultOf_80 ?_
              refine lv_aload_n hx hb dX4_faultOf_83 rfl (lv_at hl 2 rfl) ?_
              refine va_get (D := D) (ci := 4) (v := .int (nI ln)) (C := RX4) (T := TX4) (N := 7) hx hb hts iX4 hown hK hP 0 rfl rfl 1 (by decide) f24 (fun _ h9 => h9) rfl dX4_faultOf_84 ?_
              refine lv_icmp_ge (tgt := 94) hx hb dX4_faultOf_87 (by decide) (fun cb_119 => ?_) (fun cb_119 => ?_)
              · skip
                have cn_120 : ln ≤ axx_108 := (nI_leI (show ln < 2 ^ 31 by omega) (show axx_108 < 2 ^ 31 by omega)).mp cb_119
                refine lv_iconst (v := 0) hx hb dX4_faultOf_94 (by decide) ?_
                refine lv_istore_n (lv' := [(3, .int 0), (4, .int (nI i_21)), (0, .ref Rd)]) hx hb dX4_faultOf_95 rfl hl (by decide) rfl (fun ls hl => ?_)
                refine lv_aload_n hx hb dX4_faultOf_96 rfl (lv_at hl 2 rfl) ?_
                refine lv_dup hx hb dX4_faultOf_97 rfl ?_
                refine va_get (D := D) (ci := 4) (v := .int (nI axx_108)) (C := RX4) (T := TX4) (N := 7) hx hb hts iX4 hown hK hP 0 rfl rfl 2 (by decide) f28 (fun _ h9 => h9) rfl dX4_faultOf_98 ?_
                refine lv_iconst (v := 1) hx hb dX4_faultOf_101 (by decide) ?_
                refine lv_iadd hx hb dX4_faultOf_102 ?_
                refine lv_eqi (y := (nI (axx_108 + 1))) (nI_add (axx_108) (1)) ?_
                refine va_put (D := D) (ci := 4) (v := .int (nI (axx_108 + 1))) (ty := .int) (C := RX4) (T := TX4) (N := 7) hx hb hts iX4 tyX4 tyX4_ok nmX4 hown hK hP hD hS 0 rfl rfl 2 (by decide) f28 (fun _ h9 => h9) rfl (by decide +kernel) (rfl) (rfl) (Nat.le_of_ble_eq_true rfl) dX4_faultOf_103 (fun H locs hP2 hD2 hS2 => ?_)
                clear hP hD hS
                have hPD : PD D A [(Rd, .inr (4, [.ref Tp, .int (nI ln), .int (nI (axx_108 + 1)), .int (-1), .int (nI htx_110), .int (nI ctx_111), .ref Rv])), (Tp, .inl (g 0, 160, .inl ftp)), (Rv, .inl (g 0, 21, .inl fvalx_112))] H := ⟨hP2, hD2⟩
                have hS := hS2; clear hP2 hD2 hS2; have hP := hPD.1; have hD := hPD.2; clear hPD
                refine lv_iinc (v := (nI (i_21 + 1))) (lv' := [(4, .int (nI (i_21 + 1))), (3, .int 0), (0, .ref Rd)]) hx hb dX4_faultOf_106 hl (k := 1) rfl (nI_1 (i_21)) (by decide) rfl (fun ls hl => ?_)
                refine lv_goto (tgt := 44) hx hb dX4_faultOf_109 (by decide) ?_
                exact loop_76_ih (i_21 + 1) 0 (axx_108 + 1) (-1) htx_110 ctx_111 fvalx_112 (zb_0) (show htx_110 ≤ 3 by omega) (show ctx_111 ≤ 3 by omega) (hf_113.2.2.2.1) (show (i_21 + 1) ≤ ln + 1 by omega) (fun q => absurd rfl q) (fun _ => rf_end hi_106 (show i_21 ≤ ln by omega) hf_113.2.2.2.2.1 hf_113.2.2.2.2.2.1 (hf_113.2.2.2.2.2.2 rfl).1 (by omega)) (show (ln + 1) - (i_21 + 1) < Nloop_76 by omega) _ _ _ (hP.sub [1, 0, 2] rfl) (hD.sub [1, 0, 2] (by decide) rfl) hS hl
              · skip
                have cn_121 : axx_108 < ln := Nat.lt_of_not_le (fun q9 => cb_119 ((nI_leI (show ln < 2 ^ 31 by omega) (show axx_108 < 2 ^ 31 by omega)).mpr q9))
                refine lv_iconst (v := 1) hx hb dX4_faultOf_90 (by decide) ?_
                have hlt_122 := (hf_113.2.2.2.2.2.2 rfl).2
                refine lv_goto (tgt := 95) hx hb dX4_faultOf_91 (by decide) ?_
                refine lv_istore_n (lv' := [(3, .int 1), (4, .int (nI i_21)), (0, .ref Rd)]) hx hb dX4_faultOf_95 rfl hl (by decide) rfl (fun ls hl => ?_)
                refine lv_aload_n hx hb dX4_faultOf_96 rfl (lv_at hl 2 rfl) ?_
                refine lv_dup hx hb dX4_faultOf_97 rfl ?_
                refine va_get (D := D) (ci := 4) (v := .int (nI axx_108)) (C := RX4) (T := TX4) (N := 7) hx hb hts iX4 hown hK hP 0 rfl rfl 2 (by decide) f28 (fun _ h9 => h9) rfl dX4_faultOf_98 ?_
                refine lv_iconst (v := 1) hx hb dX4_faultOf_101 (by decide) ?_
                refine lv_iadd hx hb dX4_faultOf_102 ?_
                refine lv_eqi (y := (nI (axx_108 + 1))) (nI_add (axx_108) (1)) ?_
                refine va_put (D := D) (ci := 4) (v := .int (nI (axx_108 + 1))) (ty := .int) (C := RX4) (T := TX4) (N := 7) hx hb hts iX4 tyX4 tyX4_ok nmX4 hown hK hP hD hS 0 rfl rfl 2 (by decide) f28 (fun _ h9 => h9) rfl (by decide +kernel) (rfl) (rfl) (Nat.le_of_ble_eq_true rfl) dX4_faultOf_103 (fun H locs hP2 hD2 hS2 => ?_)
                clear hP hD hS
                have hPD : PD D A [(Rd, .inr (4, [.ref Tp, .int (nI ln), .int (nI (axx_108 + 1)), .int (-1), .int (nI htx_110), .int (nI ctx_111), .ref Rv])), (Tp, .inl (g 0, 160, .inl ftp)), (Rv, .inl (g 0, 21, .inl fvalx_112))] H := ⟨hP2, hD2⟩
                have hS := hS2; clear hP2 hD2 hS2; have hP := hPD.1; have hD := hPD.2; clear hPD
                refine lv_iinc (v := (nI (i_21 + 1))) (lv' := [(4, .int (nI (i_21 + 1))), (3, .int 1), (0, .ref Rd)]) hx hb dX4_faultOf_106 hl (k := 1) rfl (nI_1 (i_21)) (by decide) rfl (fun ls hl => ?_)
                refine lv_goto (tgt := 44) hx hb dX4_faultOf_109 (by decide) ?_
                exact loop_76_ih (i_21 + 1) 1 (axx_108 + 1) (-1) htx_110 ctx_111 fvalx_112 (zb_1) (show htx_110 ≤ 3 by omega) (show ctx_111 ≤ 3 by omega) (hf_113.2.2.2.1) (show (i_21 + 1) ≤ ln + 1 by omega) (fun _ => ⟨rfl, by omega, by omega, rf_go hi_106 (show i_21 ≤ ln by omega) hf_113.2.2.2.2.1 hf_113.2.2.2.2.2.1 (hf_113.2.2.2.2.2.2 rfl).1 (by omega)⟩) (fun q => absurd q (by decide)) (show (ln + 1) - (i_21 + 1) < Nloop_76 by omega) _ _ _ (hP.sub [1, 0, 2] rfl) (hD.sub [1, 0, 2] (by decide) rfl) hS hl
  exact loop_76 _ 0 1 0 (-1) 0 0 fvalx_2 (zb_1) (show 0 ≤ 3 by omega) (show 0 ≤ 3 by omega) (hf_3) (show 0 ≤ ln + 1 by omega) (fun _ => ⟨rfl, Nat.zero_le _, Nat.le_refl _, rfl⟩) (fun q => absurd q (by decide)) (Nat.lt_succ_self _) _ _ _ hP hD hS (lv_sub hl [0, 1, 2] rfl)
