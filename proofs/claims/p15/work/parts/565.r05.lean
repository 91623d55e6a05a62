set_option maxHeartbeats 4000000 in
set_option maxRecDepth 100000 in
theorem r_X4_readNumber_61 (l : Launch) (D : va_G) (g : Nat → ClassId) (sz : Nat) (Rd : Nat) (Tp : Nat) (ln : Nat) (ax : Nat) (ht : Nat) (ct : Nat) (Rv : Nat) (ftp : Nat → Int32) (fval : Nat → Int32) (h0 : ln ≤ 160) (h1 : ax ≤ ln) (h2 : vOK fval) : Met l yX4_readNumber wsX4_readNumber ({ frames := 1, cells := 0, slots := 0, locals := 22 }) (va_Pc [.ref Rd, .int 6, .int 1] (pre D g sz [(Rd, .inr (4, [.ref Tp, .int (nI ln), .int (nI ax), .int (-1), .int (nI ht), .int (nI ct), .ref Rv])), (Tp, .inl (g 0, 160, .inl ftp)), (Rv, .inl (g 0, 21, .inl fval))])) (va_Qv (fun (u : va_W) => ∃ (axx : Nat) (zfax : Int32) (fvalx : Nat → Int32), u = [(Rd, .inr (4, [.ref Tp, .int (nI ln), .int (nI axx), .int zfax, .int (nI ht), .int (nI ct), .ref Rv])), (Tp, .inl (g 0, 160, .inl ftp)), (Rv, .inl (g 0, 21, .inl fvalx))] ∧ (axx ≤ ln) ∧ (vOK fvalx) ∧ (zfax = nmF ftp ln ax 0 20) ∧ (zfax = -1 → axx = nmE ftp ln ax ∧ fvalx = upd fval 19 (nmV ftp ln ax))) (wd D (va_A [(Rd, .inr (4, [.ref Tp, .int (nI ln), .int (nI ax), .int (-1), .int (nI ht), .int (nI ct), .ref Rv])), (Tp, .inl (g 0, 160, .inl ftp)), (Rv, .inl (g 0, 21, .inl fval))] sz)) (va_A [(Rd, .inr (4, [.ref Tp, .int (nI ln), .int (nI ax), .int (-1), .int (nI ht), .int (nI ct), .ref Rv])), (Tp, .inl (g 0, 160, .inl ftp)), (Rv, .inl (g 0, 21, .inl fval))] sz)) 0 0 (va_A [(Rd, .inr (4, [.ref Tp, .int (nI ln), .int (nI ax), .int (-1), .int (nI ht), .int (nI ct), .ref Rv])), (Tp, .inl (g 0, 160, .inl ftp)), (Rv, .inl (g 0, 21, .inl fval))] sz) := by
  refine Met.ofW (cc := cX4_readNumber) (maxL := 6) (ret := none) (by decide) rfl ?_
  intro p e s m args below meth c s₁ B hml hv
  obtain ⟨rfl, hsz, hP, ⟨hK, hN⟩, hD0, hZ⟩ := hv
  have hx := B.exec
  have hb := B.bytes
  have hr := B.returns
  have hts := atoms_spec (ws := wsX4_readNumber) B.pre
  have hown : s.vm.findClass RX4 = some m.cls := findClass_of_methodNamed B.named
  have hlocks := B.notSynchronized
  clear B
  subst hsz
  have hD := hD0.self (sz := s.heap.size)
  clear hD0
  generalize hAe : va_A [(Rd, .inr (4, [.ref Tp, .int (nI ln), .int (nI ax), .int (-1), .int (nI ht), .int (nI ct), .ref Rv])), (Tp, .inl (g 0, 160, .inl ftp)), (Rv, .inl (g 0, 21, .inl fval))] s.heap.size = A at hD hZ ⊢
  have hA : ∀ q : Nat, s.heap.size ≤ q → A q := fun q h => by rw [← hAe]; exact Or.inr h
  have hS : va_S A s.heap s.heap [] := va_S.rf
  have f15 := hts (.fieldLink RX4 15 "HopCredits$Reading" "values" "[I") (List.mem_of_getElem? (i := 6) rfl)
  have f28 := hts (.fieldLink RX4 28 "HopCredits$Reading" "at" "I") (List.mem_of_getElem? (i := 2) rfl)
  have f31 := hts (.fieldLink RX4 31 "HopCredits$Reading" "fault" "I") (List.mem_of_getElem? (i := 3) rfl)
  have f84 := hts (.fieldLink RX4 84 "HopCredits$Reading" "LOWS" "[I") (List.mem_of_getElem? (i := 4) rfl)
  have f87 := hts (.fieldLink RX4 87 "HopCredits$Reading" "HIGHS" "[I") (List.mem_of_getElem? (i := 5) rfl)
  have f9 := hts (.fieldLink RX4 9 "HopCredits$Reading" "text" "[I") (List.mem_of_getElem? (i := 1) rfl)
  have iiX6 := hts (.initialized RX6) (List.mem_of_getElem? (i := 21) rfl)
  have stX6_outside := hts (.static yX6_outside) (List.mem_of_getElem? (i := 20) rfl)
  have iX4 : ∀ w ∈ u_ws RX4 TX4 7, w ∈ wsX4_readNumber := fun w h => List.mem_cons_of_mem _ (List.mem_append_right _ (h))
  have hl := lv_entry ([.ref Rd, .int 6, .int 1]) (n := 6) (Nat.le_of_ble_eq_true rfl)
  rw [lg_entry_eq]
  generalize (lg_sl ([.ref Rd, .int 6, .int 1]) ++ List.replicate (6 - (lg_sl ([.ref Rd, .int 6, .int 1])).length) Slot.unset).toArray = ls at hl ⊢
  have hl : lv_has ls 6 [(0, .ref Rd), (1, .int 6), (2, .int 1)] := hl
  generalize hQ : MQ below _ _ s _ _ _ = Q
  generalize hH : s.heap = H at hP ⊢
  have hS : va_S A s.heap H [] := by rw [← hH]; exact hS
  clear hH
  refine lv_aload_n hx hb dX4_readNumber_0 rfl (lv_at hl 0 rfl) ?_
  refine ky_Vv (As := []) (rest := []) ⟨hx, hb, hml, hown, hts⟩ ⟨hK, hN⟩ hZ hP hD hS hA [0, 1] [2] (wc := [(Rd, .inr (4, [.ref Tp, .int (nI ln), .int (nI ax), .int (-1), .int (nI ht), .int (nI ct), .ref Rv])), (Tp, .inl (g 0, 160, .inl ftp))]) (wr := [(Rv, .inl (g 0, 21, .inl fval))]) rfl rfl rfl rfl (by decide) (r_X4_passBlanks l D g H.size Rd Tp ln ax (-1) ht ct Rv ftp (show ln ≤ 160 by omega) (show ax ≤ ln by omega)) (cwV 0 hts gX4_readNumber_X4_passBlanks rfl rfl rfl (by decide +kernel) ⟨(Nat.le_of_ble_eq_true rfl), (Nat.le_of_ble_eq_true rfl)⟩) 0 4 rfl rfl rfl rfl hl.1 rfl (Nat.le_of_ble_eq_true rfl) dX4_readNumber_1 ⟨(Nat.le_of_ble_eq_true rfl), (Nat.le_of_ble_eq_true rfl)⟩ (fun u H locs hw hP2 hD2 hS2 => ?_)
  clear hP hD hS
  obtain ⟨axx_2, rfl, hf_3, hf_4⟩ := hw
  have hPD : PD D A [(Rv, .inl (g 0, 21, .inl fval)), (Rd, .inr (4, [.ref Tp, .int (nI ln), .int (nI axx_2), .int (-1), .int (nI ht), .int (nI ct), .ref Rv])), (Tp, .inl (g 0, 160, .inl ftp))] H := ⟨hP2, hD2⟩
  have hS := hS2; clear hP2 hD2 hS2; have hP := hPD.1; have hD := hPD.2; clear hPD
  refine W.widen (k := 0) (n := 0) (Nat.le_of_ble_eq_true rfl) (Nat.le_of_ble_eq_true rfl) ?_
  refine lv_iconst (v := 0) hx hb dX4_readNumber_4 (by decide) ?_
  refine lv_istore_n (lv' := [(3, .int 0), (0, .ref Rd), (1, .int 6), (2, .int 1)]) hx hb dX4_readNumber_5 rfl hl (by decide) rfl (fun ls hl => ?_)
  refine lv_iconst (v := 0) hx hb dX4_readNumber_6 (by decide) ?_
  refine lv_istore (lv' := [(4, .int 0), (3, .int 0), (0, .ref Rd), (1, .int 6), (2, .int 1)]) hx hb dX4_readNumber_7 hl (by decide) rfl (fun ls hl => ?_)
  refine lv_iload hx hb dX4_readNumber_9 (lv_at hl 0 rfl) ?_
  refine lv_iconst (v := 2) hx hb dX4_readNumber_11 (by decide) ?_
  refine lv_icmp_ge (tgt := 56) hx hb dX4_readNumber_12 (by decide) (fun cb => absurd cb (by decide)) (fun _ => ?_)
  refine lv_aload_n hx hb dX4_readNumber_15 rfl (lv_at hl 2 rfl) ?_
  refine ky_Vi (As := []) (rest := []) ⟨hx, hb, hml, hown, hts⟩ ⟨hK, hN⟩ hZ hP hD hS hA [1, 2] [0] (wc := [(Rd, .inr (4, [.ref Tp, .int (nI ln), .int (nI axx_2), .int (-1), .int (nI ht), .int (nI ct), .ref Rv])), (Tp, .inl (g 0, 160, .inl ftp))]) (wr := [(Rv, .inl (g 0, 21, .inl fval))]) rfl rfl rfl rfl (by decide) (r_X4_isDigitHere l D g H.size Rd Tp ln axx_2 (-1) ht ct Rv ftp (show ln ≤ 160 by omega) (show axx_2 ≤ ln by omega)) (cwV 0 hts gX4_readNumber_X4_isDigitHere rfl rfl rfl (by decide +kernel) ⟨(Nat.le_of_ble_eq_true rfl), (Nat.le_of_ble_eq_true rfl)⟩) 1 4 rfl rfl rfl rfl hl.1 rfl (Nat.le_of_ble_eq_true rfl) dX4_readNumber_16 ⟨(Nat.le_of_ble_eq_true rfl), (Nat.le_of_ble_eq_true rfl)⟩ (fun r_5 u H locs hw hP2 hD2 hS2 => ?_)
  clear hP hD hS
  obtain ⟨rfl, rfl⟩ := hw
  have hPD : PD D A [(Rv, .inl (g 0, 21, .inl fval)), (Rd, .inr (4, [.ref Tp, .int (nI ln), .int (nI axx_2), .int (-1), .int (nI ht), .int (nI ct), .ref Rv])), (Tp, .inl (g 0, 160, .inl ftp))] H := ⟨hP2, hD2⟩
  have hS := hS2; clear hP2 hD2 hS2; have hP := hPD.1; have hD := hPD.2; clear hPD
  refine W.widen (k := 0) (n := 0) (Nat.le_of_ble_eq_true rfl) (Nat.le_of_ble_eq_true rfl) ?_
  refine lv_if_eq (tgt := 56) hx hb dX4_readNumber_19 (by decide) (fun cb_6 => ?_) (fun cb_6 => ?_)
  · skip
    have hq_7 : ¬ (pD ftp ln axx_2) := b01_0.mp cb_6
    refine lv_iload hx hb dX4_readNumber_56 (lv_at hl 0 rfl) ?_
    refine lv_if_eq (tgt := 68) hx hb dX4_readNumber_58 (by decide) (fun _ => ?_) (fun cb => absurd (by decide) cb)
    refine lv_aload_n hx hb dX4_readNumber_68 rfl (lv_at hl 2 rfl) ?_
    refine lv_aload_n hx hb dX4_readNumber_69 rfl (lv_at hl 2 rfl) ?_
    refine va_get (D := D) (ci := 4) (v := .int (nI axx_2)) (C := RX4) (T := TX4) (N := 7) hx hb hts iX4 hown hK hP 1 rfl rfl 2 (by decide) f28 (fun _ h9 => h9) rfl dX4_readNumber_70 ?_
    refine va_put (D := D) (ci := 4) (v := .int (nI axx_2)) (ty := .int) (C := RX4) (T := TX4) (N := 7) hx hb hts iX4 tyX4 tyX4_ok nmX4 hown hK hP hD hS 1 rfl rfl 3 (by decide) f31 (fun _ h9 => h9) rfl (by decide +kernel) (rfl) (rfl) (Nat.le_of_ble_eq_true rfl) dX4_readNumber_73 (fun H locs hP2 hD2 hS2 => ?_)
    clear hP hD hS
    have hPD : PD D A [(Rv, .inl (g 0, 21, .inl fval)), (Rd, .inr (4, [.ref Tp, .int (nI ln), .int (nI axx_2), .int (nI axx_2), .int (nI ht), .int (nI ct), .ref Rv])), (Tp, .inl (g 0, 160, .inl ftp))] H := ⟨hP2, hD2⟩
    have hS := hS2; clear hP2 hD2 hS2; have hP := hPD.1; have hD := hPD.2; clear hPD
    have hPD9 : PD D A [(Rd, .inr (4, [.ref Tp, .int (nI ln), .int (nI axx_2), .int (nI axx_2), .int (nI ht), .int (nI ct), .ref Rv])), (Tp, .inl (g 0, 160, .inl ftp)), (Rv, .inl (g 0, 21, .inl fval))] H := ⟨hP.sub [1, 2, 0] rfl, hD.sub [1, 2, 0] (by decide) rfl⟩
    have hP9 := hPD9.1; have hD9 := hPD9.2
    subst hQ
    refine W.widen (k := 0) (n := 0) (Nat.le_of_ble_eq_true rfl) (Nat.le_of_ble_eq_true rfl) ?_
    exact W.vret hx hb hr (fun tS htS _ => ⟨⟨_, rfl, ⟨axx_2, (nI axx_2), fval, rfl, (show axx_2 ≤ ln by omega), h2, (nm_0 (show axx_2 = sB ftp ln ax by omega) hq_7).symm, (fun q => absurd q (m1_ne (show axx_2 < 2 ^ 31 by omega)))⟩, by rw [htS]; exact hP9, hD9⟩, hS.F htS⟩) hS.2.2 dX4_readNumber_76
  · skip
    have hq_8 : pD ftp ln axx_2 := b01_1.mp cb_6
    refine lv_iload_n hx hb dX4_readNumber_22 rfl (lv_at hl 1 rfl) ?_
    refine lv_bipush (v := 10) hx hb dX4_readNumber_23 (by decide) ?_
    refine lv_imul hx hb dX4_readNumber_25 ?_
    refine lv_eqi (y := 0) (by decide) ?_
    refine lv_aload_n hx hb dX4_readNumber_26 rfl (lv_at hl 2 rfl) ?_
    refine va_get (D := D) (ci := 4) (v := .ref Tp) (C := RX4) (T := TX4) (N := 7) hx hb hts iX4 hown hK hP 1 rfl rfl 0 (by decide) f9 (fun _ h9 => h9) rfl dX4_readNumber_27 ?_
    refine lv_aload_n hx hb dX4_readNumber_30 rfl (lv_at hl 2 rfl) ?_
    refine va_get (D := D) (ci := 4) (v := .int (nI axx_2)) (C := RX4) (T := TX4) (N := 7) hx hb hts iX4 hown hK hP 1 rfl rfl 2 (by decide) f28 (fun _ h9 => h9) rfl dX4_readNumber_31 ?_
    refine va_iald hx hb hK hP 2 0 rfl rfl (vp_in_nI (show axx_2 < 160 by omega) (by decide)) dX4_readNumber_34 ?_
    refine lv_eqi (y := (ftp (axx_2))) (congrArg ftp (nI_clamp (show axx_2 < 2 ^ 31 by omega))) ?_
    refine lv_iadd hx hb dX4_readNumber_35 ?_
    refine lv_bipush (v := 48) hx hb dX4_readNumber_36 (by decide) ?_
    refine lv_isub hx hb dX4_readNumber_38 ?_
    refine lv_istore_n (lv' := [(3, .int ((0 + (ftp (axx_2))) - 48)), (4, .int 0), (0, .ref Rd), (1, .int 6), (2, .int 1)]) hx hb dX4_readNumber_39 rfl hl (by decide) rfl (fun ls hl => ?_)
    refine lv_iinc (v := 1) (lv' := [(4, .int 1), (3, .int ((0 + (ftp (axx_2))) - 48)), (0, .ref Rd), (1, .int 6), (2, .int 1)]) hx hb dX4_readNumber_40 hl (k := 1) rfl (by decide) (by decide) rfl (fun ls hl => ?_)
    refine lv_aload_n hx hb dX4_readNumber_43 rfl (lv_at hl 2 rfl) ?_
    refine lv_dup hx hb dX4_readNumber_44 rfl ?_
    refine va_get (D := D) (ci := 4) (v := .int (nI axx_2)) (C := RX4) (T := TX4) (N := 7) hx hb hts iX4 hown hK hP 1 rfl rfl 2 (by decide) f28 (fun _ h9 => h9) rfl dX4_readNumber_45 ?_
    refine lv_iconst (v := 1) hx hb dX4_readNumber_48 (by decide) ?_
    refine lv_iadd hx hb dX4_readNumber_49 ?_
    refine lv_eqi (y := (nI (axx_2 + 1))) (nI_add (axx_2) (1)) ?_
    refine va_put (D := D) (ci := 4) (v := .int (nI (axx_2 + 1))) (ty := .int) (C := RX4) (T := TX4) (N := 7) hx hb hts iX4 tyX4 tyX4_ok nmX4 hown hK hP hD hS 1 rfl rfl 2 (by decide) f28 (fun _ h9 => h9) rfl (by decide +kernel) (rfl) (rfl) (Nat.le_of_ble_eq_true rfl) dX4_readNumber_50 (fun H locs hP2 hD2 hS2 => ?_)
    clear hP hD hS
    have hPD : PD D A [(Rv, .inl (g 0, 21, .inl fval)), (Rd, .inr (4, [.ref Tp, .int (nI ln), .int (nI (axx_2 + 1)), .int (-1), .int (nI ht), .int (nI ct), .ref Rv])), (Tp, .inl (g 0, 160, .inl ftp))] H := ⟨hP2, hD2⟩
    have hS := hS2; clear hP2 hD2 hS2; have hP := hPD.1; have hD := hPD.2; clear hPD
    refine lv_goto (tgt := 9) hx hb dX4_readNumber_53 (by decide) ?_
    refine lv_iload hx hb dX4_readNumber_9 (lv_at hl 0 rfl) ?_
    refine lv_iconst (v := 2) hx hb dX4_readNumber_11 (by decide) ?_
    refine lv_icmp_ge (tgt := 56) hx hb dX4_readNumber_12 (by decide) (fun cb => absurd cb (by decide)) (fun _ => ?_)
    refine lv_aload_n hx hb dX4_readNumber_15 rfl (lv_at hl 2 rfl) ?_
    refine ky_Vi (As := []) (rest := []) ⟨hx, hb, hml, hown, hts⟩ ⟨hK, hN⟩ hZ hP hD hS hA [1, 2] [0] (wc := [(Rd, .inr (4, [.ref Tp, .int (nI ln), .int (nI (axx_2 + 1)), .int (-1), .int (nI ht), .int (nI ct), .ref Rv])), (Tp, .inl (g 0, 160, .inl ftp))]) (wr := [(Rv, .inl (g 0, 21, .inl fval))]) rfl rfl rfl rfl (by decide) (r_X4_isDigitHere l D g H.size Rd Tp ln (axx_2 + 1) (-1) ht ct Rv ftp (show ln ≤ 160 by omega) (show (axx_2 + 1) ≤ ln by omega)) (cwV 0 hts gX4_readNumber_X4_isDigitHere rfl rfl rfl (by decide +kernel) ⟨(Nat.le_of_ble_eq_true rfl), (Nat.le_of_ble_eq_true rfl)⟩) 1 4 rfl rfl rfl rfl hl.1 rfl (Nat.le_of_ble_eq_true rfl) dX4_readNumber_16 ⟨(Nat.le_of_ble_eq_true rfl), (Nat.le_of_ble_eq_true rfl)⟩ (fun r_9 u H locs hw hP2 hD2 hS2 => ?_)
    clear hP hD hS
    obtain ⟨rfl, rfl⟩ := hw
    have hPD : PD D A [(Rv, .inl (g 0, 21, .inl fval)), (Rd, .inr (4, [.ref Tp, .int (nI ln), .int (nI (axx_2 + 1)), .int (-1), .int (nI ht), .int (nI ct), .ref Rv])), (Tp, .inl (g 0, 160, .inl ftp))] H := ⟨hP2, hD2⟩
    have hS := hS2; clear hP2 hD2 hS2; have hP := hPD.1; have hD := hPD.2; clear hPD
    refine W.widen (k := 0) (n := 0) (Nat.le_of_ble_eq_true rfl) (Nat.le_of_ble_eq_true rfl) ?_
    refine lv_if_eq (tgt := 56) hx hb dX4_readNumber_19 (by decide) (fun cb_10 => ?_) (fun cb_10 => ?_)
    · skip
      have hq_11 : ¬ (pD ftp ln (axx_2 + 1)) := b01_0.mp cb_10
      refine lv_iload hx hb dX4_readNumber_56 (lv_at hl 0 rfl) ?_
      refine lv_if_eq (tgt := 68) hx hb dX4_readNumber_58 (by decide) (fun cb => absurd cb (by decide)) (fun _ => ?_)
      refine lv_aload_n hx hb dX4_readNumber_61 rfl (lv_at hl 2 rfl) ?_
      refine ky_Vi (As := []) (rest := []) ⟨hx, hb, hml, hown, hts⟩ ⟨hK, hN⟩ hZ hP hD hS hA [1, 2] [0] (wc := [(Rd, .inr (4, [.ref Tp, .int (nI ln), .int (nI (axx_2 + 1)), .int (-1), .int (nI ht), .int (nI ct), .ref Rv])), (Tp, .inl (g 0, 160, .inl ftp))]) (wr := [(Rv, .inl (g 0, 21, .inl fval))]) rfl rfl rfl rfl (by decide) (r_X4_isDigitHere l D g H.size Rd Tp ln (axx_2 + 1) (-1) ht ct Rv ftp (show ln ≤ 160 by omega) (show (axx_2 + 1) ≤ ln by omega)) (cwV 0 hts gX4_readNumber_X4_isDigitHere rfl rfl rfl (by decide +kernel) ⟨(Nat.le_of_ble_eq_true rfl), (Nat.le_of_ble_eq_true rfl)⟩) 1 4 rfl rfl rfl rfl hl.1 rfl (Nat.le_of_ble_eq_true rfl) dX4_readNumber_62 ⟨(Nat.le_of_ble_eq_true rfl), (Nat.le_of_ble_eq_true rfl)⟩ (fun r_12 u H locs hw hP2 hD2 hS2 => ?_)
      clear hP hD hS
      obtain ⟨rfl, rfl⟩ := hw
      have hPD : PD D A [(Rv, .inl (g 0, 21, .inl fval)), (Rd, .inr (4, [.ref Tp, .int (nI ln), .int (nI (axx_2 + 1)), .int (-1), .int (nI ht), .int (nI ct), .ref Rv])), (Tp, .inl (g 0, 160, .inl ftp))] H := ⟨hP2, hD2⟩
      have hS := hS2; clear hP2 hD2 hS2; have hP := hPD.1; have hD := hPD.2; clear hPD
      refine W.widen (k := 0) (n := 0) (Nat.le_of_ble_eq_true rfl) (Nat.le_of_ble_eq_true rfl) ?_
      refine lv_if_eq (tgt := 77) hx hb dX4_readNumber_65 (by decide) (fun cb_13 => ?_) (fun cb_13 => ?_)
      · skip
        have hq_14 : ¬ (pD ftp ln (axx_2 + 1)) := b01_0.mp cb_13
        refine lv_iload_n hx hb dX4_readNumber_77 rfl (lv_at hl 3 rfl) ?_
        refine ky_Si (As := [.int 6]) (rest := []) ⟨hx, hb, hml, hown, hts⟩ ⟨hK, hN⟩ hZ hP hD hS hA [] [0, 1, 2] (wc := []) (wr := [(Rv, .inl (g 0, 21, .inl fval)), (Rd, .inr (4, [.ref Tp, .int (nI ln), .int (nI (axx_2 + 1)), .int (-1), .int (nI ht), .int (nI ct), .ref Rv])), (Tp, .inl (g 0, 160, .inl ftp))]) rfl rfl rfl rfl (by decide) (k_X4_kindOf_6 l D g H.size) (va_cwS 1 hts gX4_readNumber_X4_kindOf rfl rfl rfl (by decide +kernel) ⟨(Nat.le_of_ble_eq_true rfl), (Nat.le_of_ble_eq_true rfl)⟩) rfl hl.1 rfl (Nat.le_of_ble_eq_true rfl) dX4_readNumber_78 ⟨(Nat.le_of_ble_eq_true rfl), (Nat.le_of_ble_eq_true rfl)⟩ (fun r_15 u H locs hw hP2 hD2 hS2 => ?_)
        clear hP hD hS
        obtain ⟨rfl, rfl⟩ := hw
        have hPD : PD D A [(Rv, .inl (g 0, 21, .inl fval)), (Rd, .inr (4, [.ref Tp, .int (nI ln), .int (nI (axx_2 + 1)), .int (-1), .int (nI ht), .int (nI ct), .ref Rv])), (Tp, .inl (g 0, 160, .inl ftp))] H := ⟨hP2, hD2⟩
        have hS := hS2; clear hP2 hD2 hS2; have hP := hPD.1; have hD := hPD.2; clear hPD
        refine W.widen (k := 0) (n := 0) (Nat.le_of_ble_eq_true rfl) (Nat.le_of_ble_eq_true rfl) ?_
        refine lv_iconst (v := 3) hx hb dX4_readNumber_81 (by decide) ?_
        refine lv_imul hx hb dX4_readNumber_82 ?_
        refine lv_eqi (y := 6) (by decide) ?_
        refine lv_iload_n hx hb dX4_readNumber_83 rfl (lv_at hl 4 rfl) ?_
        refine lv_iadd hx hb dX4_readNumber_84 ?_
        refine lv_eqi (y := 7) (by decide) ?_
        refine lv_istore (lv' := [(5, .int 7), (4, .int 1), (3, .int ((0 + (ftp (axx_2))) - 48)), (0, .ref Rd), (1, .int 6), (2, .int 1)]) hx hb dX4_readNumber_85 hl (by decide) rfl (fun ls hl => ?_)
        refine lv_iload_n hx hb dX4_readNumber_87 rfl (lv_at hl 2 rfl) ?_
        refine va_gets hx hb hZ.2.2.1 hS hown f84 (fun _ h9 => h9) dX4_readNumber_88 ?_
        refine lv_iload hx hb dX4_readNumber_91 (lv_at hl 0 rfl) ?_
        refine va_ti (v := .int 0) hx hb hZ.2.2.2.1 hS (by unfold vp_in; decide) rfl dX4_readNumber_93 ?_
        refine va_gets hx hb hZ.2.2.2.2.1 hS hown f87 (fun _ h9 => h9) dX4_readNumber_94 ?_
        refine lv_iload hx hb dX4_readNumber_97 (lv_at hl 0 rfl) ?_
        refine va_ti (v := .int 20) hx hb hZ.2.2.2.2.2.1 hS (by unfold vp_in; decide) rfl dX4_readNumber_99 ?_
        refine ky_SNi (As := [.int ((0 + (ftp (axx_2))) - 48), .int 0, .int 20]) (rest := []) ⟨hx, hb, hml, hown, hts⟩ ⟨hK, hN⟩ hZ hP hD hS hA [] [0, 1, 2] (wc := []) (wr := [(Rv, .inl (g 0, 21, .inl fval)), (Rd, .inr (4, [.ref Tp, .int (nI ln), .int (nI (axx_2 + 1)), .int (-1), .int (nI ht), .int (nI ct), .ref Rv])), (Tp, .inl (g 0, 160, .inl ftp))]) rfl rfl rfl rfl (by decide) (k_X6_outside l D g H.size ((0 + (ftp (axx_2))) - 48) 0 20) ⟨va_cnB 3 hts ggX4_readNumber_X6_outside rfl rfl rfl hN.2.2.2.2.2.1 iiX6 (by decide +kernel) ⟨(Nat.le_of_ble_eq_true rfl), (Nat.le_of_ble_eq_true rfl)⟩, stX6_outside, trivial⟩ rfl hl.1 rfl (Nat.le_of_ble_eq_true rfl) dX4_readNumber_100 ⟨(Nat.le_of_ble_eq_true rfl), (Nat.le_of_ble_eq_true rfl)⟩ (fun r_16 u H locs hw hP2 hD2 hS2 => ?_)
        clear hP hD hS
        obtain ⟨rfl, rfl⟩ := hw
        have hPD : PD D A [(Rv, .inl (g 0, 21, .inl fval)), (Rd, .inr (4, [.ref Tp, .int (nI ln), .int (nI (axx_2 + 1)), .int (-1), .int (nI ht), .int (nI ct), .ref Rv])), (Tp, .inl (g 0, 160, .inl ftp))] H := ⟨hP2, hD2⟩
        have hS := hS2; clear hP2 hD2 hS2; have hP := hPD.1; have hD := hPD.2; clear hPD
        refine W.widen (k := 0) (n := 0) (Nat.le_of_ble_eq_true rfl) (Nat.le_of_ble_eq_true rfl) ?_
        refine lv_if_eq (tgt := 117) hx hb dX4_readNumber_103 (by decide) (fun cb_17 => ?_) (fun cb_17 => ?_)
        · skip
          have hq_18 : ¬ (((0 + (ftp (axx_2))) - 48) < 0 ∨ 20 < ((0 + (ftp (axx_2))) - 48)) := b01_0.mp cb_17
          have hq_19 : ¬ ((0 + (ftp (axx_2))) - 48) < 0 := fun q => hq_18 (Or.inl q); have hq_20 : ¬ (20 < ((0 + (ftp (axx_2))) - 48)) := fun q => hq_18 (Or.inr q)
          refine lv_aload_n hx hb dX4_readNumber_117 rfl (lv_at hl 3 rfl) ?_
          refine va_get (D := D) (ci := 4) (v := .ref Rv) (C := RX4) (T := TX4) (N := 7) hx hb hts iX4 hown hK hP 1 rfl rfl 6 (by decide) f15 (fun _ h9 => h9) rfl dX4_readNumber_118 ?_
          refine lv_iload_n hx hb dX4_readNumber_121 rfl (lv_at hl 4 rfl) ?_
          refine lv_iconst (v := 3) hx hb dX4_readNumber_122 (by decide) ?_
          refine lv_imul hx hb dX4_readNumber_123 ?_
          refine lv_eqi (y := 18) (by decide) ?_
          refine lv_iload_n hx hb dX4_readNumber_124 rfl (lv_at hl 5 rfl) ?_
          refine lv_iadd hx hb dX4_readNumber_125 ?_
          refine lv_eqi (y := 19) (by decide) ?_
          refine lv_iload_n hx hb dX4_readNumber_126 rfl (lv_at hl 2 rfl) ?_
          refine va_iast hx hb hK hP hD hS 0 0 rfl rfl (by unfold vp_in; decide) dX4_readNumber_127 (fun H locs hP2 hD2 hS2 => ?_)
          clear hP hD hS
          have hPD : PD D A [(Rv, .inl (g 0, 21, .inl (upd fval 19 ((0 + (ftp (axx_2))) - 48)))), (Rd, .inr (4, [.ref Tp, .int (nI ln), .int (nI (axx_2 + 1)), .int (-1), .int (nI ht), .int (nI ct), .ref Rv])), (Tp, .inl (g 0, 160, .inl ftp))] H := ⟨hP2, hD2⟩
          have hS := hS2; clear hP2 hD2 hS2; have hP := hPD.1; have hD := hPD.2; clear hPD
          have hPD9 : PD D A [(Rd, .inr (4, [.ref Tp, .int (nI ln), .int (nI (axx_2 + 1)), .int (-1), .int (nI ht), .int (nI ct), .ref Rv])), (Tp, .inl (g 0, 160, .inl ftp)), (Rv, .inl (g 0, 21, .inl (upd fval 19 ((0 + (ftp (axx_2))) - 48))))] H := ⟨hP.sub [1, 2, 0] rfl, hD.sub [1, 2, 0] (by decide) rfl⟩
          have hP9 := hPD9.1; have hD9 := hPD9.2
          subst hQ
          refine W.widen (k := 0) (n := 0) (Nat.le_of_ble_eq_true rfl) (Nat.le_of_ble_eq_true rfl) ?_
          exact W.vret hx hb hr (fun tS htS _ => ⟨⟨_, rfl, ⟨(axx_2 + 1), (-1), (upd fval 19 ((0 + (ftp (axx_2))) - 48)), rfl, (show (axx_2 + 1) ≤ ln by omega), (vOK_rng (k := 19) (L := 0) (U := 20) h2 rfl rfl (by decide) (by decide) hq_18 (Nat.le_of_ble_eq_true rfl)), (by rw [nm_b (show axx_2 = sB ftp ln ax by omega) hq_8 (fun q => hq_11 q.1), (nm_1 (show axx_2 = sB ftp ln ax by omega) hq_8 hq_11).1, (show nmV ftp ln ax = ((0 + (ftp (axx_2))) - 48) from (nm_1 (show axx_2 = sB ftp ln ax by omega) hq_8 hq_11).2), if_neg hq_18]), (fun _ => ⟨(nm_1 (show axx_2 = sB ftp ln ax by omega) hq_8 hq_11).1.symm, by rw [(show nmV ftp ln ax = ((0 + (ftp (axx_2))) - 48) from (nm_1 (show axx_2 = sB ftp ln ax by omega) hq_8 hq_11).2)]⟩)⟩, by rw [htS]; exact hP9, hD9⟩, hS.F htS⟩) hS.2.2 dX4_readNumber_128
        · skip
          have hq_21 : ((0 + (ftp (axx_2))) - 48) < 0 ∨ 20 < ((0 + (ftp (axx_2))) - 48) := b01_1.mp cb_17
          refine lv_aload_n hx hb dX4_readNumber_106 rfl (lv_at hl 3 rfl) ?_
          refine lv_aload_n hx hb dX4_readNumber_107 rfl (lv_at hl 3 rfl) ?_
          refine va_get (D := D) (ci := 4) (v := .int (nI (axx_2 + 1))) (C := RX4) (T := TX4) (N := 7) hx hb hts iX4 hown hK hP 1 rfl rfl 2 (by decide) f28 (fun _ h9 => h9) rfl dX4_readNumber_108 ?_
          refine lv_iconst (v := 1) hx hb dX4_readNumber_111 (by decide) ?_
          refine lv_isub hx hb dX4_readNumber_112 ?_
          refine lv_eqi (y := (nI ((axx_2 + 1) - 1))) (pk_sub (show 1 ≤ axx_2 + 1 by omega)) ?_
          refine va_put (D := D) (ci := 4) (v := .int (nI ((axx_2 + 1) - 1))) (ty := .int) (C := RX4) (T := TX4) (N := 7) hx hb hts iX4 tyX4 tyX4_ok nmX4 hown hK hP hD hS 1 rfl rfl 3 (by decide) f31 (fun _ h9 => h9) rfl (by decide +kernel) (rfl) (rfl) (Nat.le_of_ble_eq_true rfl) dX4_readNumber_113 (fun H locs hP2 hD2 hS2 => ?_)
          clear hP hD hS
          have hPD : PD D A [(Rv, .inl (g 0, 21, .inl fval)), (Rd, .inr (4, [.ref Tp, .int (nI ln), .int (nI (axx_2 + 1)), .int (nI ((axx_2 + 1) - 1)), .int (nI ht), .int (nI ct), .ref Rv])), (Tp, .inl (g 0, 160, .inl ftp))] H := ⟨hP2, hD2⟩
          have hS := hS2; clear hP2 hD2 hS2; have hP := hPD.1; have hD := hPD.2; clear hPD
          have hPD9 : PD D A [(Rd, .inr (4, [.ref Tp, .int (nI ln), .int (nI (axx_2 + 1)), .int (nI ((axx_2 + 1) - 1)), .int (nI ht), .int (nI ct), .ref Rv])), (Tp, .inl (g 0, 160, .inl ftp)), (Rv, .inl (g 0, 21, .inl fval))] H := ⟨hP.sub [1, 2, 0] rfl, hD.sub [1, 2, 0] (by decide) rfl⟩
          have hP9 := hPD9.1; have hD9 := hPD9.2
          subst hQ
          refine W.widen (k := 0) (n := 0) (Nat.le_of_ble_eq_true rfl) (Nat.le_of_ble_eq_true rfl) ?_
          exact W.vret hx hb hr (fun tS htS _ => ⟨⟨_, rfl, ⟨(axx_2 + 1), (nI ((axx_2 + 1) - 1)), fval, rfl, (show (axx_2 + 1) ≤ ln by omega), h2, (by rw [nm_b (show axx_2 = sB ftp ln ax by omega) hq_8 (fun q => hq_11 q.1), (nm_1 (show axx_2 = sB ftp ln ax by omega) hq_8 hq_11).1, (show nmV ftp ln ax = ((0 + (ftp (axx_2))) - 48) from (nm_1 (show axx_2 = sB ftp ln ax by omega) hq_8 hq_11).2), if_pos hq_21]), (fun q => absurd q (m1_ne (show axx_2 + 1 - 1 < 2 ^ 31 by omega)))⟩, by rw [htS]; exact hP9, hD9⟩, hS.F htS⟩) hS.2.2 dX4_readNumber_116
      · skip
        have hq_22 : pD ftp ln (axx_2 + 1) := b01_1.mp cb_13
        refine lv_aload_n hx hb dX4_readNumber_68 rfl (lv_at hl 2 rfl) ?_
        refine lv_aload_n hx hb dX4_readNumber_69 rfl (lv_at hl 2 rfl) ?_
        refine va_get (D := D) (ci := 4) (v := .int (nI (axx_2 + 1))) (C := RX4) (T := TX4) (N := 7) hx hb hts iX4 hown hK hP 1 rfl rfl 2 (by decide) f28 (fun _ h9 => h9) rfl dX4_readNumber_70 ?_
        refine va_put (D := D) (ci := 4) (v := .int (nI (axx_2 + 1))) (ty := .int) (C := RX4) (T := TX4) (N := 7) hx hb hts iX4 tyX4 tyX4_ok nmX4 hown hK hP hD hS 1 rfl rfl 3 (by decide) f31 (fun _ h9 => h9) rfl (by decide +kernel) (rfl) (rfl) (Nat.le_of_ble_eq_true rfl) dX4_readNumber_73 (fun H locs hP2 hD2 hS2 => ?_)
        clear hP hD hS
        have hPD : PD D A [(Rv, .inl (g 0, 21, .inl fval)), (Rd, .inr (4, [.ref Tp, .int (nI ln), .int (nI (axx_2 + 1)), .int (nI (axx_2 + 1)), .int (nI ht), .int (nI ct), .ref Rv])), (Tp, .inl (g 0, 160, .inl ftp))] H := ⟨hP2, hD2⟩
        have hS := hS2; clear hP2 hD2 hS2; have hP := hPD.1; have hD := hPD.2; clear hPD
        have hPD9 : PD D A [(Rd, .inr (4, [.ref Tp, .int (nI ln), .int (nI (axx_2 + 1)), .int (nI (axx_2 + 1)), .int (nI ht), .int (nI ct), .ref Rv])), (Tp, .inl (g 0, 160, .inl ftp)), (Rv, .inl (g 0, 21, .inl fval))] H := ⟨hP.sub [1, 2, 0] rfl, hD.sub [1, 2, 0] (by decide) rfl⟩
        have hP9 := hPD9.1; have hD9 := hPD9.2
        subst hQ
        refine W.widen (k := 0) (n := 0) (Nat.le_of_ble_eq_true rfl) (Nat.le_of_ble_eq_true rfl) ?_
        exact W.vret hx hb hr (fun tS htS _ => ⟨⟨_, rfl, ⟨(axx_2 + 1), (nI (axx_2 + 1)), fval, rfl, (show (axx_2 + 1) ≤ ln by omega), h2, (absurd hq_22 hq_11), (absurd hq_22 hq_11)⟩, by rw [htS]; exact hP9, hD9⟩, hS.F htS⟩) hS.2.2 dX4_readNumber_76
    · skip
      have hq_23 : pD ftp ln (axx_2 + 1) := b01_1.mp cb_10
      refine lv_iload_n hx hb dX4_readNumber_22 rfl (lv_at hl 1 rfl) ?_
      refine lv_bipush (v := 10) hx hb dX4_readNumber_23 (by decide) ?_
      refine lv_imul hx hb dX4_readNumber_25 ?_
      refine lv_aload_n hx hb dX4_readNumber_26 rfl (lv_at hl 2 rfl) ?_
      refine va_get (D := D) (ci := 4) (v := .ref Tp) (C := RX4) (T := TX4) (N := 7) hx hb hts iX4 hown hK hP 1 rfl rfl 0 (by decide) f9 (fun _ h9 => h9) rfl dX4_readNumber_27 ?_
      refine lv_aload_n hx hb dX4_readNumber_30 rfl (lv_at hl 2 rfl) ?_
      refine va_get (D := D) (ci := 4) (v := .int (nI (axx_2 + 1))) (C := RX4) (T := TX4) (N := 7) hx hb hts iX4 hown hK hP 1 rfl rfl 2 (by decide) f28 (fun _ h9 => h9) rfl dX4_readNumber_31 ?_
      refine va_iald hx hb hK hP 2 0 rfl rfl (vp_in_nI (show axx_2 + 1 < 160 by omega) (by decide)) dX4_readNumber_34 ?_
      refine lv_eqi (y := (ftp (axx_2 + 1))) (congrArg ftp (nI_clamp (show axx_2 + 1 < 2 ^ 31 by omega))) ?_
      refine lv_iadd hx hb dX4_readNumber_35 ?_
      refine lv_bipush (v := 48) hx hb dX4_readNumber_36 (by decide) ?_
      refine lv_isub hx hb dX4_readNumber_38 ?_
      refine lv_istore_n (lv' := [(3, .int (((((0 + (ftp (axx_2))) - 48) * 10) + (ftp (axx_2 + 1))) - 48)), (4, .int 1), (0, .ref Rd), (1, .int 6), (2, .int 1)]) hx hb dX4_readNumber_39 rfl hl (by decide) rfl (fun ls hl => ?_)
      refine lv_iinc (v := 2) (lv' := [(4, .int 2), (3, .int (((((0 + (ftp (axx_2))) - 48) * 10) + (ftp (axx_2 + 1))) - 48)), (0, .ref Rd), (1, .int 6), (2, .int 1)]) hx hb dX4_readNumber_40 hl (k := 1) rfl (by decide) (by decide) rfl (fun ls hl => ?_)
      refine lv_aload_n hx hb dX4_readNumber_43 rfl (lv_at hl 2 rfl) ?_
      refine lv_dup hx hb dX4_readNumber_44 rfl ?_
      refine va_get (D := D) (ci := 4) (v := .int (nI (axx_2 + 1))) (C := RX4) (T := TX4) (N := 7) hx hb hts iX4 hown hK hP 1 rfl rfl 2 (by decide) f28 (fun _ h9 => h9) rfl dX4_readNumber_45 ?_
      refine lv_iconst (v := 1) hx hb dX4_readNumber_48 (by decide) ?_
      refine lv_iadd hx hb dX4_readNumber_49 ?_
      refine lv_eqi (y := (nI (axx_2 + 1 + 1))) (nI_add (axx_2 + 1) (1)) ?_
      refine va_put (D := D) (ci := 4) (v := .int (nI (axx_2 + 1 + 1))) (ty := .int) (C := RX4) (T := TX4) (N := 7) hx hb hts iX4 tyX4 tyX4_ok nmX4 hown hK hP hD hS 1 rfl rfl 2 (by decide) f28 (fun _ h9 => h9) rfl (by decide +kernel) (rfl) (rfl) (Nat.le_of_ble_eq_true rfl) dX4_readNumber_50 (fun H locs hP2 hD2 hS2 => ?_)
      clear hP hD hS
      have hPD : PD D A [(Rv, .inl (g 0, 21, .inl fval)), (Rd, .inr (4, [.ref Tp, .int (nI ln), .int (nI (axx_2 + 1 + 1)), .int (-1), .int (nI ht), .int (nI ct), .ref Rv])), (Tp, .inl (g 0, 160, .inl ftp))] H := ⟨hP2, hD2⟩
      have hS := hS2; clear hP2 hD2 hS2; have hP := hPD.1; have hD := hPD.2; clear hPD
      refine lv_goto (tgt := 9) hx hb dX4_readNumber_53 (by decide) ?_
      refine lv_iload hx hb dX4_readNumber_9 (lv_at hl 0 rfl) ?_
      refine lv_iconst (v := 2) hx hb dX4_readNumber_11 (by decide) ?_
      refine lv_icmp_ge (tgt := 56) hx hb dX4_readNumber_12 (by decide) (fun _ => ?_) (fun cb => absurd (by decide) cb)
      refine lv_iload hx hb dX4_readNumber_56 (lv_at hl 0 rfl) ?_
      refine lv_if_eq (tgt := 68) hx hb dX4_readNumber_58 (by decide) (fun cb => absurd cb (by decide)) (fun _ => ?_)
      refine lv_aload_n hx hb dX4_readNumber_61 rfl (lv_at hl 2 rfl) ?_
      refine ky_Vi (As := []) (rest := []) ⟨hx, hb, hml, hown, hts⟩ ⟨hK, hN⟩ hZ hP hD hS hA [1, 2] [0] (wc := [(Rd, .inr (4, [.ref Tp, .int (nI ln), .int (nI (axx_2 + 1 + 1)), .int (-1), .int (nI ht), .int (nI ct), .ref Rv])), (Tp, .inl (g 0, 160, .inl ftp))]) (wr := [(Rv, .inl (g 0, 21, .inl fval))]) rfl rfl rfl rfl (by decide) (r_X4_isDigitHere l D g H.size Rd Tp ln (axx_2 + 1 + 1) (-1) ht ct Rv ftp (show ln ≤ 160 by omega) (show (axx_2 + 1 + 1) ≤ ln by omega)) (cwV 0 hts gX4_readNumber_X4_isDigitHere rfl rfl rfl (by decide +kernel) ⟨(Nat.le_of_ble_eq_true rfl), (Nat.le_of_ble_eq_true rfl)⟩) 1 4 rfl rfl rfl rfl hl.1 rfl (Nat.le_of_ble_eq_true rfl) dX4_readNumber_62 ⟨(Nat.le_of_ble_eq_true rfl), (Nat.le_of_ble_eq_true rfl)⟩ (fun r_24 u H locs hw hP2 hD2 hS2 => ?_)
      clear hP hD hS
      obtain ⟨rfl, rfl⟩ := hw
      have hPD : PD D A [(Rv, .inl (g 0, 21, .inl fval)), (Rd, .inr (4, [.ref Tp, .int (nI ln), .int (nI (axx_2 + 1 + 1)), .int (-1), .int (nI ht), .int (nI ct), .ref Rv])), (Tp, .inl (g 0, 160, .inl ftp))] H := ⟨hP2, hD2⟩
      have hS := hS2; clear hP2 hD2 hS2; have hP := hPD.1; have hD := hPD.2; clear hPD
      refine W.widen (k := 0) (n := 0) (Nat.le_of_ble_eq_true rfl) (Nat.le_of_ble_eq_true rfl) ?_
      refine lv_if_eq (tgt := 77) hx hb dX4_readNumber_65 (by decide) (fun cb_25 => ?_) (fun cb_25 => ?_)
      · skip
        have hq_26 : ¬ (pD ftp ln (axx_2 + 1 + 1)) := b01_0.mp cb_25
        refine lv_iload_n hx hb dX4_readNumber_77 rfl (lv_at hl 3 rfl) ?_
        refine ky_Si (As := [.int 6]) (rest := []) ⟨hx, hb, hml, hown, hts⟩ ⟨hK, hN⟩ hZ hP hD hS hA [] [0, 1, 2] (wc := []) (wr := [(Rv, .inl (g 0, 21, .inl fval)), (Rd, .inr (4, [.ref Tp, .int (nI ln), .int (nI (axx_2 + 1 + 1)), .int (-1), .int (nI ht), .int (nI ct), .ref Rv])), (Tp, .inl (g 0, 160, .inl ftp))]) rfl rfl rfl rfl (by decide) (k_X4_kindOf_6 l D g H.size) (va_cwS 1 hts gX4_readNumber_X4_kindOf rfl rfl rfl (by decide +kernel) ⟨(Nat.le_of_ble_eq_true rfl), (Nat.le_of_ble_eq_true rfl)⟩) rfl hl.1 rfl (Nat.le_of_ble_eq_true rfl) dX4_readNumber_78 ⟨(Nat.le_of_ble_eq_true rfl), (Nat.le_of_ble_eq_true rfl)⟩ (fun r_27 u H locs hw hP2 hD2 hS2 => ?_)
        clear hP hD hS
        obtain ⟨rfl, rfl⟩ := hw
        have hPD : PD D A [(Rv, .inl (g 0, 21, .inl fval)), (Rd, .inr (4, [.ref Tp, .int (nI ln), .int (nI (axx_2 + 1 + 1)), .int (-1), .int (nI ht), .int (nI ct), .ref Rv])), (Tp, .inl (g 0, 160, .inl ftp))] H := ⟨hP2, hD2⟩
        have hS := hS2; clear hP2 hD2 hS2; have hP := hPD.1; have hD := hPD.2; clear hPD
        refine W.widen (k := 0) (n := 0) (Nat.le_of_ble_eq_true rfl) (Nat.le_of_ble_eq_true rfl) ?_
        refine lv_iconst (v := 3) hx hb dX4_readNumber_81 (by decide) ?_
        refine lv_imul hx hb dX4_readNumber_82 ?_
        refine lv_eqi (y := 6) (by decide) ?_
        refine lv_iload_n hx hb dX4_readNumber_83 rfl (lv_at hl 4 rfl) ?_
        refine lv_iadd hx hb dX4_readNumber_84 ?_
        refine lv_eqi (y := 7) (by decide) ?_
        refine lv_istore (lv' := [(5, .int 7), (4, .int 2), (3, .int (((((0 + (ftp (axx_2))) - 48) * 10) + (ftp (axx_2 + 1))) - 48)), (0, .ref Rd), (1, .int 6), (2, .int 1)]) hx hb dX4_readNumber_85 hl (by decide) rfl (fun ls hl => ?_)
        refine lv_iload_n hx hb dX4_readNumber_87 rfl (lv_at hl 2 rfl) ?_
        refine va_gets hx hb hZ.2.2.1 hS hown f84 (fun _ h9 => h9) dX4_readNumber_88 ?_
        refine lv_iload hx hb dX4_readNumber_91 (lv_at hl 0 rfl) ?_
        refine va_ti (v := .int 0) hx hb hZ.2.2.2.1 hS (by unfold vp_in; decide) rfl dX4_readNumber_93 ?_
        refine va_gets hx hb hZ.2.2.2.2.1 hS hown f87 (fun _ h9 => h9) dX4_readNumber_94 ?_
        refine lv_iload hx hb dX4_readNumber_97 (lv_at hl 0 rfl) ?_
        refine va_ti (v := .int 20) hx hb hZ.2.2.2.2.2.1 hS (by unfold vp_in; decide) rfl dX4_readNumber_99 ?_
        refine ky_SNi (As := [.int (((((0 + (ftp (axx_2))) - 48) * 10) + (ftp (axx_2 + 1))) - 48), .int 0, .int 20]) (rest := []) ⟨hx, hb, hml, hown, hts⟩ ⟨hK, hN⟩ hZ hP hD hS hA [] [0, 1, 2] (wc := []) (wr := [(Rv, .inl (g 0, 21, .inl fval)), (Rd, .inr (4, [.ref Tp, .int (nI ln), .int (nI (axx_2 + 1 + 1)), .int (-1), .int (nI ht), .int (nI ct), .ref Rv])), (Tp, .inl (g 0, 160, .inl ftp))]) rfl rfl rfl rfl (by decide) (k_X6_outside l D g H.size (((((0 + (ftp (axx_2))) - 48) * 10) + (ftp (axx_2 + 1))) - 48) 0 20) ⟨va_cnB 3 hts ggX4_readNumber_X6_outside rfl rfl rfl hN.2.2.2.2.2.1 iiX6 (by decide +kernel) ⟨(Nat.le_of_ble_eq_true rfl), (Nat.le_of_ble_eq_true rfl)⟩, stX6_outside, trivial⟩ rfl hl.1 rfl (Nat.le_of_ble_eq_true rfl) dX4_readNumber_100 ⟨(Nat.le_of_ble_eq_true rfl), (Nat.le_of_ble_eq_true rfl)⟩ (fun r_28 u H locs hw hP2 hD2 hS2 => ?_)
        clear hP hD hS
        obtain ⟨rfl, rfl⟩ := hw
        have hPD : PD D A [(Rv, .inl (g 0, 21, .inl fval)), (Rd, .inr (4, [.ref Tp, .int (nI ln), .int (nI (axx_2 + 1 + 1)), .int (-1), .int (nI ht), .int (nI ct), .ref Rv])), (Tp, .inl (g 0, 160, .inl ftp))] H := ⟨hP2, hD2⟩
        have hS := hS2; clear hP2 hD2 hS2; have hP := hPD.1; have hD := hPD.2; clear hPD
        refine W.widen (k := 0) (n := 0) (Nat.le_of_ble_eq_true rfl) (Nat.le_of_ble_eq_true rfl) ?_
        refine lv_if_eq (tgt := 117) hx hb dX4_readNumber_103 (by decide) (fun cb_29 => ?_) (fun cb_29 => ?_)
        · skip
          have hq_30 : ¬ ((((((0 + (ftp (axx_2))) - 48) * 10) + (ftp (axx_2 + 1))) - 48) < 0 ∨ 20 < (((((0 + (ftp (axx_2))) - 48) * 10) + (ftp (axx_2 + 1))) - 48)) := b01_0.mp cb_29
          have hq_31 : ¬ (((((0 + (ftp (axx_2))) - 48) * 10) + (ftp (axx_2 + 1))) - 48) < 0 := fun q => hq_30 (Or.inl q); have hq_32 : ¬ (20 < (((((0 + (ftp (axx_2))) - 48) * 10) + (ftp (axx_2 + 1))) - 48)) := fun q => hq_30 (Or.inr q)
          refine lv_aload_n hx hb dX4_readNumber_117 rfl (lv_at hl 3 rfl) ?_
          refine va_get (D := D) (ci := 4) (v := .ref Rv) (C := RX4) (T := TX4) (N := 7) hx hb hts iX4 hown hK hP 1 rfl rfl 6 (by decide) f15 (fun _ h9 => h9) rfl dX4_readNumber_118 ?_
          refine lv_iload_n hx hb dX4_readNumber_121 rfl (lv_at hl 4 rfl) ?_
          refine lv_iconst (v := 3) hx hb dX4_readNumber_122 (by decide) ?_
          refine lv_imul hx hb dX4_readNumber_123 ?_
          refine lv_eqi (y := 18) (by decide) ?_
          refine lv_iload_n hx hb dX4_readNumber_124 rfl (lv_at hl 5 rfl) ?_
          refine lv_iadd hx hb dX4_readNumber_125 ?_
          refine lv_eqi (y := 19) (by decide) ?_
          refine lv_iload_n hx hb dX4_readNumber_126 rfl (lv_at hl 2 rfl) ?_
          refine va_iast hx hb hK hP hD hS 0 0 rfl rfl (by unfold vp_in; decide) dX4_readNumber_127 (fun H locs hP2 hD2 hS2 => ?_)
          clear hP hD hS
          have hPD : PD D A [(Rv, .inl (g 0, 21, .inl (upd fval 19 (((((0 + (ftp (axx_2))) - 48) * 10) + (ftp (axx_2 + 1))) - 48)))), (Rd, .inr (4, [.ref Tp, .int (nI ln), .int (nI (axx_2 + 1 + 1)), .int (-1), .int (nI ht), .int (nI ct), .ref Rv])), (Tp, .inl (g 0, 160, .inl ftp))] H := ⟨hP2, hD2⟩
          have hS := hS2; clear hP2 hD2 hS2; have hP := hPD.1; have hD := hPD.2; clear hPD
          have hPD9 : PD D A [(Rd, .inr (4, [.ref Tp, .int (nI ln), .int (nI (axx_2 + 1 + 1)), .int (-1), .int (nI ht), .int (nI ct), .ref Rv])), (Tp, .inl (g 0, 160, .inl ftp)), (Rv, .inl (g 0, 21, .inl (upd fval 19 (((((0 + (ftp (axx_2))) - 48) * 10) + (ftp (axx_2 + 1))) - 48))))] H := ⟨hP.sub [1, 2, 0] rfl, hD.sub [1, 2, 0] (by decide) rfl⟩
          have hP9 := hPD9.1; have hD9 := hPD9.2
          subst hQ
          refine W.widen (k := 0) (n := 0) (Nat.le_of_ble_eq_true rfl) (Nat.le_of_ble_eq_true rfl) ?_
          exact W.vret hx hb hr (fun tS htS _ => ⟨⟨_, rfl, ⟨(axx_2 + 1 + 1), (-1), (upd fval 19 (((((0 + (ftp (axx_2))) - 48) * 10) + (ftp (axx_2 + 1))) - 48)), rfl, (show (axx_2 + 1 + 1) ≤ ln by omega), (vOK_rng (k := 19) (L := 0) (U := 20) h2 rfl rfl (by decide) (by decide) hq_30 (Nat.le_of_ble_eq_true rfl)), (by rw [nm_b (show axx_2 = sB ftp ln ax by omega) hq_8 (fun q => hq_26 q.2), (nm_2 (show axx_2 = sB ftp ln ax by omega) hq_8 hq_23).1, (show nmV ftp ln ax = (((((0 + (ftp (axx_2))) - 48) * 10) + (ftp (axx_2 + 1))) - 48) from ((nm_2 (show axx_2 = sB ftp ln ax by omega) hq_8 hq_23).2.trans (by rw [Int32.mul_comm]))), if_neg hq_30]), (fun _ => ⟨(nm_2 (show axx_2 = sB ftp ln ax by omega) hq_8 hq_23).1.symm, by rw [(show nmV ftp ln ax = (((((0 + (ftp (axx_2))) - 48) * 10) + (ftp (axx_2 + 1))) - 48) from ((nm_2 (show axx_2 = sB ftp ln ax by omega) hq_8 hq_23).2.trans (by rw [Int32.mul_comm])))]⟩)⟩, by rw [htS]; exact hP9, hD9⟩, hS.F htS⟩) hS.2.2 dX4_readNumber_128
        · skip
          have hq_33 : (((((0 + (ftp (axx_2))) - 48) * 10) + (ftp (axx_2 + 1))) - 48) < 0 ∨ 20 < (((((0 + (ftp (axx_2))) - 48) * 10) + (ftp (axx_2 + 1))) - 48) := b01_1.mp cb_29
          refine lv_aload_n hx hb dX4_readNumber_106 rfl (lv_at hl 3 rfl) ?_
          refine lv_aload_n hx hb dX4_readNumber_107 rfl (lv_at hl 3 rfl) ?_
          refine va_get (D := D) (ci := 4) (v := .int (nI (axx_2 + 1 + 1))) (C := RX4) (T := TX4) (N := 7) hx hb hts iX4 hown hK hP 1 rfl rfl 2 (by decide) f28 (fun _ h9 => h9) rfl dX4_readNumber_108 ?_
          refine lv_iconst (v := 1) hx hb dX4_readNumber_111 (by decide) ?_
          refine lv_isub hx hb dX4_readNumber_112 ?_
          refine lv_eqi (y := (nI ((axx_2 + 1 + 1) - 1))) (pk_sub (show 1 ≤ axx_2 + 1 + 1 by omega)) ?_
          refine va_put (D := D) (ci := 4) (v := .int (nI ((axx_2 + 1 + 1) - 1))) (ty := .int) (C := RX4) (T := TX4) (N := 7) hx hb hts iX4 tyX4 tyX4_ok nmX4 hown hK hP hD hS 1 rfl rfl 3 (by decide) f31 (fun _ h9 => h9) rfl (by decide +kernel) (rfl) (rfl) (Nat.le_of_ble_eq_true rfl) dX4_readNumber_113 (fun H locs hP2 hD2 hS2 => ?_)
          clear hP hD hS
          have hPD : PD D A [(Rv, .inl (g 0, 21, .inl fval)), (Rd, .inr (4, [.ref Tp, .int (nI ln), .int (nI (axx_2 + 1 + 1)), .int (nI ((axx_2 + 1 + 1) - 1)), .int (nI ht), .int (nI ct), .ref Rv])), (Tp, .inl (g 0, 160, .inl ftp))] H := ⟨hP2, hD2⟩
          have hS := hS2; clear hP2 hD2 hS2; have hP := hPD.1; have hD := hPD.2; clear hPD
          have hPD9 : PD D A [(Rd, .inr (4, [.ref Tp, .int (nI ln), .int (nI (axx_2 + 1 + 1)), .int (nI ((axx_2 + 1 + 1) - 1)), .int (nI ht), .int (nI ct), .ref Rv])), (Tp, .inl (g 0, 160, .inl ftp)), (Rv, .inl (g 0, 21, .inl fval))] H := ⟨hP.sub [1, 2, 0] rfl, hD.sub [1, 2, 0] (by decide) rfl⟩
          have hP9 := hPD9.1; have hD9 := hPD9.2
          subst hQ
          refine W.widen (k := 0) (n := 0) (Nat.le_of_ble_eq_true rfl) (Nat.le_of_ble_eq_true rfl) ?_
          exact W.vret hx hb hr (fun tS htS _ => ⟨⟨_, rfl, ⟨(axx_2 + 1 + 1), (nI ((axx_2 + 1 + 1) - 1)), fval, rfl, (show (axx_2 + 1 + 1) ≤ ln by omega), h2, (by rw [nm_b (show axx_2 = sB ftp ln ax by omega) hq_8 (fun q => hq_26 q.2), (nm_2 (show axx_2 = sB ftp ln ax by omega) hq_8 hq_23).1, (show nmV ftp ln ax = (((((0 + (ftp (axx_2))) - 48) * 10) + (ftp (axx_2 + 1))) - 48) from ((nm_2 (show axx_2 = sB ftp ln ax by omega) hq_8 hq_23).2.trans (by rw [Int32.mul_comm]))), if_pos hq_33]), (fun q => absurd q (m1_ne (show axx_2 + 1 + 1 - 1 < 2 ^ 31 by omega)))⟩, by rw [htS]; exact hP9, hD9⟩, hS.F htS⟩) hS.2.2 dX4_readNumber_116
      · skip
        have hq_34 : pD ftp ln (axx_2 + 1 + 1) := b01_1.mp cb_25
        refine lv_aload_n hx hb dX4_readNumber_68 rfl (lv_at hl 2 rfl) ?_
        refine lv_aload_n hx hb dX4_readNumber_69 rfl (lv_at hl 2 rfl) ?_
        refine va_get (D := D) (ci := 4) (v := .int (nI (axx_2 + 1 + 1))) (C := RX4) (T := TX4) (N := 7) hx hb hts iX4 hown hK hP 1 rfl rfl 2 (by decide) f28 (fun _ h9 => h9) rfl dX4_readNumber_70 ?_
        refine va_put (D := D) (ci := 4) (v := .int (nI (axx_2 + 1 + 1))) (ty := .int) (C := RX4) (T := TX4) (N := 7) hx hb hts iX4 tyX4 tyX4_ok nmX4 hown hK hP hD hS 1 rfl rfl 3 (by decide) f31 (fun _ h9 => h9) rfl (by decide +kernel) (rfl) (rfl) (Nat.le_of_ble_eq_true rfl) dX4_readNumber_73 (fun H locs hP2 hD2 hS2 => ?_)
        clear hP hD hS
        have hPD : PD D A [(Rv, .inl (g 0, 21, .inl fval)), (Rd, .inr (4, [.ref Tp, .int (nI ln), .int (nI (axx_2 + 1 + 1)), .int (nI (axx_2 + 1 + 1)), .int (nI ht), .int (nI ct), .ref Rv])), (Tp, .inl (g 0, 160, .inl ftp))] H := ⟨hP2, hD2⟩
        have hS := hS2; clear hP2 hD2 hS2; have hP := hPD.1; have hD := hPD.2; clear hPD
        have hPD9 : PD D A [(Rd, .inr (4, [.ref Tp, .int (nI ln), .int (nI (axx_2 + 1 + 1)), .int (nI (axx_2 + 1 + 1)), .int (nI ht), .int (nI ct), .ref Rv])), (Tp, .inl (g 0, 160, .inl ftp)), (Rv, .inl (g 0, 21, .inl fval))] H := ⟨hP.sub [1, 2, 0] rfl, hD.sub [1, 2, 0] (by decide) rfl⟩
        have hP9 := hPD9.1; have hD9 := hPD9.2
        subst hQ
        refine W.widen (k := 0) (n := 0) (Nat.le_of_ble_eq_true rfl) (Nat.le_of_ble_eq_true rfl) ?_
        exact W.vret hx hb hr (fun tS htS _ => ⟨⟨_, rfl, ⟨(axx_2 + 1 + 1), (nI (axx_2 + 1 + 1)), fval, rfl, (show (axx_2 + 1 + 1) ≤ ln by omega), h2, (nm_3 (show axx_2 = sB ftp ln ax by omega) hq_8 hq_23 hq_34).symm, (fun q => absurd q (m1_ne (show axx_2 + 1 + 1 < 2 ^ 31 by omega)))⟩, by rw [htS]; exact hP9, hD9⟩, hS.F htS⟩) hS.2.2 dX4_readNumber_76

set_option maxHeartbeats 4000000 in
set_option maxRecDepth 100000 in
theorem r_X4_readNumber_62 (l : Launch) (D : va_G) (g : Nat → ClassId) (sz : Nat) (Rd : Nat) (Tp : Nat) (ln : Nat) (ax : Nat) (ht : Nat) (ct : Nat) (Rv : Nat) (ftp : Nat → Int32) (fval : Nat → Int32) (h0 : ln ≤ 160) (h1 : ax ≤ ln) (h2 : vOK fval) : Met l yX4_readNumber wsX4_readNumber ({ frames := 1, cells := 0, slots := 0, locals := 22 }) (va_Pc [.ref Rd, .int 6, .int 2] (pre D g sz [(Rd, .inr (4, [.ref Tp, .int (nI ln), .int (nI ax), .int (-1), .int (nI ht), .int (nI ct), .ref Rv])), (Tp, .inl (g 0, 160, .inl ftp)), (Rv, .inl (g 0, 21, .inl fval))])) (va_Qv (fun (u : va_W) => ∃ (axx : Nat) (zfax : Int32) (fvalx : Nat → Int32), u = [(Rd, .inr (4, [.ref Tp, .int (nI ln), .int (nI axx), .int zfax, .int (nI ht), .int (nI ct), .ref Rv])), (Tp, .inl (g 0, 160, .inl ftp)), (Rv, .inl (g 0, 21, .inl fvalx))] ∧ (axx ≤ ln) ∧ (vOK fvalx) ∧ (zfax = nmF ftp ln ax 0 9) ∧ (zfax = -1 → axx = nmE ftp ln ax ∧ fvalx = upd fval 20 (nmV ftp ln ax))) (wd D (va_A [(Rd, .inr (4, [.ref Tp, .int (nI ln), .int (nI ax), .int (-1), .int (nI ht), .int (nI ct), .ref Rv])), (Tp, .inl (g 0, 160, .inl ftp)), (Rv, .inl (g 0, 21, .inl fval))] sz)) (va_A [(Rd, .inr (4, [.ref Tp, .int (nI ln), .int (nI ax), .int (-1), .int (nI ht), .int (nI ct), .ref Rv])), (Tp, .inl (g 0, 160, .inl ftp)), (Rv, .inl (g 0, 21, .inl fval))] sz)) 0 0 (va_A [(Rd, .inr (4, [.ref Tp, .int (nI ln), .int (nI ax), .int (-1), .int (nI ht), .int (nI ct), .ref Rv])), (Tp, .inl (g 0, 160, .inl ftp)), (Rv, .inl (g 0, 21, .inl fval))] sz) := by
  refine Met.ofW (cc := cX4_readNumber) (maxL := 6) (ret := none) (by decide) rfl ?_
  intro p e s m args below meth c s₁ B hml hv
  obtain ⟨rfl, hsz, hP, ⟨hK, hN⟩, hD0, hZ⟩ := hv
  have hx := B.exec
  have hb := B.bytes
  have hr := B.returns
  have hts := atoms_spec (ws := wsX4_readNumber) B.pre
  have hown : s.vm.findClass RX4 = some m.cls := findClass_of_methodNamed B.named
  have hlocks := B.notSynchronized
  clear B
  subst hsz
  have hD := hD0.self (sz := s.heap.size)
  clear hD0
  generalize hAe : va_A [(Rd, .inr (4, [.ref Tp, .int (nI ln), .int (nI ax), .int (-1), .int (nI ht), .int (nI ct), .ref Rv])), (Tp, .inl (g 0, 160, .inl ftp)), (Rv, .inl (g 0, 21, .inl fval))] s.heap.size = A at hD hZ ⊢
  have hA : ∀ q : Nat, s.heap.size ≤ q → A q := fun q h => by rw [← hAe]; exact Or.inr h
  have hS : va_S A s.heap s.heap [] := va_S.rf
  have f15 := hts (.fieldLink RX4 15 "HopCredits$Reading" "values" "[I") (List.mem_of_getElem? (i := 6) rfl)
  have f28 := hts (.fieldLink RX4 28 "HopCredits$Reading" "at" "I") (List.mem_of_getElem? (i := 2) rfl)
  have f31 := hts (.fieldLink RX4 31 "HopCredits$Reading" "fault" "I") (List.mem_of_getElem? (i := 3) rfl)
  have f84 := hts (.fieldLink RX4 84 "HopCredits$Reading" "LOWS" "[I") (List.mem_of_getElem? (i := 4) rfl)
  have f87 := hts (.fieldLink RX4 87 "HopCredits$Reading" "HIGHS" "[I") (List.mem_of_getElem? (i := 5) rfl)
  have f9 := hts (.fieldLink RX4 9 "HopCredits$Reading" "text" "[I") (List.mem_of_getElem? (i := 1) rfl)
  have iiX6 := hts (.initialized RX6) (List.mem_of_getElem? (i := 21) rfl)
  have stX6_outside := hts (.static yX6_outside) (List.mem_of_getElem? (i := 20) rfl)
  have iX4 : ∀ w ∈ u_ws RX4 TX4 7, w ∈ wsX4_readNumber := fun w h => List.mem_cons_of_mem _ (List.mem_append_right _ (h))
  have hl := lv_entry ([.ref Rd, .int 6, .int 2]) (n := 6) (Nat.le_of_ble_eq_true rfl)
  rw [lg_entry_eq]
  generalize (lg_sl ([.ref Rd, .int 6, .int 2]) ++ List.replicate (6 - (lg_sl ([.ref Rd, .int 6, .int 2])).length) Slot.unset).toArray = ls at hl ⊢
  have hl : lv_has ls 6 [(0, .ref Rd), (1, .int 6), (2, .int 2)] := hl
  generalize hQ : MQ below _ _ s _ _ _ = Q
  generalize hH : s.heap = H at hP ⊢
  have hS : va_S A s.heap H [] := by rw [← hH]; exact hS
  clear hH
  refine lv_aload_n hx hb dX4_readNumber_0 rfl (lv_at hl 0 rfl) ?_
  refine ky_Vv (As := []) (rest := []) ⟨hx, hb, hml, hown, hts⟩ ⟨hK, hN⟩ hZ hP hD hS hA [0, 1] [2] (wc := [(Rd, .inr (4, [.ref Tp, .int (nI ln), .int (nI ax), .int (-1), .int (nI ht), .int (nI ct), .ref Rv])), (Tp, .inl (g 0, 160, .inl ftp))]) (wr := [(Rv, .inl (g 0, 21, .inl fval))]) rfl rfl rfl rfl (by decide) (r_X4_passBlanks l D g H.size Rd Tp ln ax (-1) ht ct Rv ftp (show ln ≤ 160 by omega) (show ax ≤ ln by omega)) (cwV 0 hts gX4_readNumber_X4_passBlanks rfl rfl rfl (by decide +kernel) ⟨(Nat.le_of_ble_eq_true rfl), (Nat.le_of_ble_eq_true rfl)⟩) 0 4 rfl rfl rfl rfl hl.1 rfl (Nat.le_of_ble_eq_true rfl) dX4_readNumber_1 ⟨(Nat.le_of_ble_eq_true rfl), (Nat.le_of_ble_eq_true rfl)⟩ (fun u H locs hw hP2 hD2 hS2 => ?_)
  clear hP hD hS
  obtain ⟨axx_2, rfl, hf_3, hf_4⟩ := hw
  have hPD : PD D A [(Rv, .inl (g 0, 21, .inl fval)), (Rd, .inr (4, [.ref Tp, .int (nI ln), .int (nI axx_2), .int (-1), .int (nI ht), .int (nI ct), .ref Rv])), (Tp, .inl (g 0, 160, .inl ftp))] H := ⟨hP2, hD2⟩
  have hS := hS2; clear hP2 hD2 hS2; have hP := hPD.1; have hD := hPD.2; clear hPD
  refine W.widen (k := 0) (n := 0) (Nat.le_of_ble_eq_true rfl) (Nat.le_of_ble_eq_true rfl) ?_
  refine lv_iconst (v := 0) hx hb dX4_readNumber_4 (by decide) ?_
  refine lv_istore_n (lv' := [(3, .int 0), (0, .ref Rd), (1, .int 6), (2, .int 2)]) hx hb dX4_readNumber_5 rfl hl (by decide) rfl (fun ls hl => ?_)
  refine lv_iconst (v := 0) hx hb dX4_readNumber_6 (by decide) ?_
  refine lv_istore (lv' := [(4, .int 0), (3, .int 0), (0, .ref Rd), (1, .int 6), (2, .int 2)]) hx hb dX4_readNumber_7 hl (by decide) rfl (fun ls hl => ?_)
  refine lv_iload hx hb dX4_readNumber_9 (lv_at hl 0 rfl) ?_
  refine lv_iconst (v := 2) hx hb dX4_readNumber_11 (by decide) ?_
  refine lv_icmp_ge (tgt := 56) hx hb dX4_readNumber_12 (by decide) (fun cb => absurd cb (by decide)) (fun _ => ?_)
  refine lv_aload_n hx hb dX4_readNumber_15 rfl (lv_at hl 2 rfl) ?_
  refine ky_Vi (As := []) (rest := []) ⟨hx, hb, hml, hown, hts⟩ ⟨hK, hN⟩ hZ hP hD hS hA [1, 2] [0] (wc := [(Rd, .inr (4, [.ref Tp, .int (nI ln), .int (nI axx_2), .int (-1), .int (nI ht), .int (nI ct), .ref Rv])), (Tp, .inl (g 0, 160, .inl ftp))]) (wr := [(Rv, .inl (g 0, 21, .inl fval))]) rfl rfl rfl rfl (by decide) (r_X4_isDigitHere l D g H.size Rd Tp ln axx_2 (-1) ht ct Rv ftp (show ln ≤ 160 by omega) (show axx_2 ≤ ln by omega)) (cwV 0 hts gX4_readNumber_X4_isDigitHere rfl rfl rfl (by decide +kernel) ⟨(Nat.le_of_ble_eq_true rfl), (Nat.le_of_ble_eq_true rfl)⟩) 1 4 rfl rfl rfl rfl hl.1 rfl (Nat.le_of_ble_eq_true rfl) dX4_readNumber_16 ⟨(Nat.le_of_ble_eq_true rfl), (Nat.le_of_ble_eq_true rfl)⟩ (fun r_5 u H locs hw hP2 hD2 hS2 => ?_)
  clear hP hD hS
  obtain ⟨rfl, rfl⟩ := hw
  have hPD : PD D A [(Rv, .inl (g 0, 21, .inl fval)), (Rd, .inr (4, [.ref Tp, .int (nI ln), .int (nI axx_2), .int (-1), .int (nI ht), .int (nI ct), .ref Rv])), (Tp, .inl (g 0, 160, .inl ftp))] H := ⟨hP2, hD2⟩
  have hS := hS2; clear hP2 hD2 hS2; have hP := hPD.1; have hD := hPD.2; clear hPD
  refine W.widen (k := 0) (n := 0) (Nat.le_of_ble_eq_true rfl) (Nat.le_of_ble_eq_true rfl) ?_
  refine lv_if_eq (tgt := 56) hx hb dX4_readNumber_19 (by decide) (fun cb_6 => ?_) (fun cb_6 => ?_)
  · skip
    have hq_7 : ¬ (pD ftp ln axx_2) := b01_0.mp cb_6
    refine lv_iload hx hb dX4_readNumber_56 (lv_at hl 0 rfl) ?_
    refine lv_if_eq (tgt := 68) hx hb dX4_readNumber_58 (by decide) (fun _ => ?_) (fun cb => absurd (by decide) cb)
    refine lv_aload_n hx hb dX4_readNumber_68 rfl (lv_at hl 2 rfl) ?_
    refine lv_aload_n hx hb dX4_readNumber_69 rfl (lv_at hl 2 rfl) ?_
    refine va_get (D := D) (ci := 4) (v := .int (nI axx_2)) (C := RX4) (T := TX4) (N := 7) hx hb hts iX4 hown hK hP 1 rfl rfl 2 (by decide) f28 (fun _ h9 => h9) rfl dX4_readNumber_70 ?_
    refine va_put (D := D) (ci := 4) (v := .int (nI axx_2)) (ty := .int) (C := RX4) (T := TX4) (N := 7) hx hb hts iX4 tyX4 tyX4_ok nmX4 hown hK hP hD hS 1 rfl rfl 3 (by decide) f31 (fun _ h9 => h9) rfl (by decide +kernel) (rfl) (rfl) (Nat.le_of_ble_eq_true rfl) dX4_readNumber_73 (fun H locs hP2 hD2 hS2 => ?_)
    clear hP hD hS
    have hPD : PD D A [(Rv, .inl (g 0, 21, .inl fval)), (Rd, .inr (4, [.ref Tp, .int (nI ln), .int (nI axx_2), .int (nI axx_2), .int (nI ht), .int (nI ct), .ref Rv])), (Tp, .inl (g 0, 160, .inl ftp))] H := ⟨hP2, hD2⟩
    have hS := hS2; clear hP2 hD2 hS2; have hP := hPD.1; have hD := hPD.2; clear hPD
    have hPD9 : PD D A [(Rd, .inr (4, [.ref Tp, .int (nI ln), .int (nI axx_2), .int (nI axx_2), .int (nI ht), .int (nI ct), .ref Rv])), (Tp, .inl (g 0, 160, .inl ftp)), (Rv, .inl (g 0, 21, .inl fval))] H := ⟨hP.sub [1, 2, 0] rfl, hD.sub [1, 2, 0] (by decide) rfl⟩
    have hP9 := hPD9.1; have hD9 := hPD9.2
    subst hQ
    refine W.widen (k := 0) (n := 0) (Nat.le_of_ble_eq_true rfl) (Nat.le_of_ble_eq_true rfl) ?_
    exact W.vret hx hb hr (fun tS htS _ => ⟨⟨_, rfl, ⟨axx_2, (nI axx_2), fval, rfl, (show axx_2 ≤ ln by omega), h2, (nm_0 (show axx_2 = sB ftp ln ax by omega) hq_7).symm, (fun q => absurd q (m1_ne (show axx_2 < 2 ^ 31 by omega)))⟩, by rw [htS]; exact hP9, hD9⟩, hS.F htS⟩) hS.2.2 dX4_readNumber_76
  · skip
    have hq_8 : pD ftp ln axx_2 := b01_1.mp cb_6
    refine lv_iload_n hx hb dX4_readNumber_22 rfl (lv_at hl 1 rfl) ?_
    refine lv_bipush (v := 10) hx hb dX4_readNumber_23 (by decide) ?_
    refine lv_imul hx hb dX4_readNumber_25 ?_
    refine lv_eqi (y := 0) (by decide) ?_
    refine lv_aload_n hx hb dX4_readNumber_26 rfl (lv_at hl 2 rfl) ?_
    refine va_get (D := D) (ci := 4) (v := .ref Tp) (C := RX4) (T := TX4) (N := 7) hx hb hts iX4 hown hK hP 1 rfl rfl 0 (by decide) f9 (fun _ h9 => h9) rfl dX4_readNumber_27 ?_
    refine lv_aload_n hx hb dX4_readNumber_30 rfl (lv_at hl 2 rfl) ?_
    refine va_get (D := D) (ci := 4) (v := .int (nI axx_2)) (C := RX4) (T := TX4) (N := 7) hx hb hts iX4 hown hK hP 1 rfl rfl 2 (by decide) f28 (fun _ h9 => h9) rfl dX4_readNumber_31 ?_
    refine va_iald hx hb hK hP 2 0 rfl rfl (vp_in_nI (show axx_2 < 160 by omega) (by decide)) dX4_readNumber_34 ?_
    refine lv_eqi (y := (ftp (axx_2))) (congrArg ftp (nI_clamp (show axx_2 < 2 ^ 31 by omega))) ?_
    refine lv_iadd hx hb dX4_readNumber_35 ?_
    refine lv_bipush (v := 48) hx hb dX4_readNumber_36 (by decide) ?_
    refine lv_isub hx hb dX4_readNumber_38 ?_
    refine lv_istore_n (lv' := [(3, .int ((0 + (ftp (axx_2))) - 48)), (4, .int 0), (0, .ref Rd), (1, .int 6), (2, .int 2)]) hx hb dX4_readNumber_39 rfl hl (by decide) rfl (fun ls hl => ?_)
    refine lv_iinc (v := 1) (lv' := [(4, .int 1), (3, .int ((0 + (ftp (axx_2))) - 48)), (0, .ref Rd), (1, .int 6), (2, .int 2)]) hx hb dX4_readNumber_40 hl (k := 1) rfl (by decide) (by decide) rfl (fun ls hl => ?_)
    refine lv_aload_n hx hb dX4_readNumber_43 rfl (lv_at hl 2 rfl) ?_
    refine lv_dup hx hb dX4_readNumber_44 rfl ?_
    refine va_get (D := D) (ci := 4) (v := .int (nI axx_2)) (C := RX4) (T := TX4) (N := 7) hx hb hts iX4 hown hK hP 1 rfl rfl 2 (by decide) f28 (fun _ h9 => h9) rfl dX4_readNumber_45 ?_
    refine lv_iconst (v := 1) hx hb dX4_readNumber_48 (by decide) ?_
    refine lv_iadd hx hb dX4_readNumber_49 ?_
    refine lv_eqi (y := (nI (axx_2 + 1))) (nI_add (axx_2) (1)) ?_
    refine va_put (D := D) (ci := 4) (v := .int (nI (axx_2 + 1))) (ty := .int) (C := RX4) (T := TX4) (N := 7) hx hb hts iX4 tyX4 tyX4_ok nmX4 hown hK hP hD hS 1 rfl rfl 2 (by decide) f28 (fun _ h9 => h9) rfl (by decide +kernel) (rfl) (rfl) (Nat.le_of_ble_eq_true rfl) dX4_readNumber_50 (fun H locs hP2 hD2 hS2 => ?_)
    clear hP hD hS
    have hPD : PD D A [(Rv, .inl (g 0, 21, .inl fval)), (Rd, .inr (4, [.ref Tp, .int (nI ln), .int (nI (axx_2 + 1)), .int (-1), .int (nI ht), .int (nI ct), .ref Rv])), (Tp, .inl (g 0, 160, .inl ftp))] H := ⟨hP2, hD2⟩
    have hS := hS2; clear hP2 hD2 hS2; have hP := hPD.1; have hD := hPD.2; clear hPD
    refine lv_goto (tgt := 9) hx hb dX4_readNumber_53 (by decide) ?_
    refine lv_iload hx hb dX4_readNumber_9 (lv_at hl 0 rfl) ?_
    refine lv_iconst (v := 2) hx hb dX4_readNumber_11 (by decide) ?_
    refine lv_icmp_ge (tgt := 56) hx hb dX4_readNumber_12 (by decide) (fun cb => absurd cb (by decide)) (fun _ => ?_)
    refine lv_aload_n hx hb dX4_readNumber_15 rfl (lv_at hl 2 rfl) ?_
    refine ky_Vi (As := []) (rest := []) ⟨hx, hb, hml, hown, hts⟩ ⟨hK, hN⟩ hZ hP hD hS hA [1, 2] [0] (wc := [(Rd, .inr (4, [.ref Tp, .int (nI ln), .int (nI (axx_2 + 1)), .int (-1), .int (nI ht), .int (nI ct), .ref Rv])), (Tp, .inl (g 0, 160, .inl ftp))]) (wr := [(Rv, .inl (g 0, 21, .inl fval))]) rfl rfl rfl rfl (by decide) (r_X4_isDigitHere l D g H.size Rd Tp ln (axx_2 + 1) (-1) ht ct Rv ftp (show ln ≤ 160 by omega) (show (axx_2 + 1) ≤ ln by omega)) (cwV 0 hts gX4_readNumber_X4_isDigitHere rfl rfl rfl (by decide +kernel) ⟨(Nat.le_of_ble_eq_true rfl), (Nat.le_of_ble_eq_true rfl)⟩) 1 4 rfl rfl rfl rfl hl.1 rfl (Nat.le_of_ble_eq_true rfl) dX4_readNumber_16 ⟨(Nat.le_of_ble_eq_true rfl), (Nat.le_of_ble_eq_true rfl)⟩ (fun r_9 u H locs hw hP2 hD2 hS2 => ?_)
    clear hP hD hS
    obtain ⟨rfl, rfl⟩ := hw
    have hPD : PD D A [(Rv, .inl (g 0, 21, .inl fval)), (Rd, .inr (4, [.ref Tp, .int (nI ln), .int (nI (axx_2 + 1)), .int (-1), .int (nI ht), .int (nI ct), .ref Rv])), (Tp, .inl (g 0, 160, .inl ftp))] H := ⟨hP2, hD2⟩
    have hS := hS2; clear hP2 hD2 hS2; have hP := hPD.1; have hD := hPD.2; clear hPD
    refine W.widen (k := 0) (n := 0) (Nat.le_of_ble_eq_true rfl) (Nat.le_of_ble_eq_true rfl) ?_
    refine lv_if_eq (tgt := 56) hx hb dX4_readNumber_19 (by decide) (fun cb_10 => ?_) (fun cb_10 => ?_)
    · skip
      have hq_11 : ¬ (pD ftp ln (axx_2 + 1)) := b01_0.mp cb_10
      refine lv_iload hx hb dX4_readNumber_56 (lv_at hl 0 rfl) ?_
      refine lv_if_eq (tgt := 68) hx hb dX4_readNumber_58 (by decide) (fun cb => absurd cb (by decide)) (fun _ => ?_)
      refine lv_aload_n hx hb dX4_readNumber_61 rfl (lv_at hl 2 rfl) ?_
      refine ky_Vi (As := []) (rest := []) ⟨hx, hb, hml, hown, hts⟩ ⟨hK, hN⟩ hZ hP hD hS hA [1, 2] [0] (wc := [(Rd, .inr (4, [.ref Tp, .int (nI ln), .int (nI (axx_2 + 1)), .int (-1), .int (nI ht), .int (nI ct), .ref Rv])), (Tp, .inl (g 0, 160, .inl ftp))]) (wr := [(Rv, .inl (g 0, 21, .inl fval))]) rfl rfl rfl rfl (by decide) (r_X4_isDigitHere l D g H.size Rd Tp ln (axx_2 + 1) (-1) ht ct Rv ftp (show ln ≤ 160 by omega) (show (axx_2 + 1) ≤ ln by omega)) (cwV 0 hts gX4_readNumber_X4_isDigitHere rfl rfl rfl (by decide +kernel) ⟨(Nat.le_of_ble_eq_true rfl), (Nat.le_of_ble_eq_true rfl)⟩) 1 4 rfl rfl rfl rfl hl.1 rfl (Nat.le_of_ble_eq_true rfl) dX4_readNumber_62 ⟨(Nat.le_of_ble_eq_true rfl), (Nat.le_of_ble_eq_true rfl)⟩ (fun r_12 u H locs hw hP2 hD2 hS2 => ?_)
      clear hP hD hS
      obtain ⟨rfl, rfl⟩ := hw
      have hPD : PD D A [(Rv, .inl (g 0, 21, .inl fval)), (Rd, .inr (4, [.ref Tp, .int (nI ln), .int (nI (axx_2 + 1)), .int (-1), .int (nI ht), .int (nI ct), .ref Rv])), (Tp, .inl (g 0, 160, .inl ftp))] H := ⟨hP2, hD2⟩
      have hS := hS2; clear hP2 hD2 hS2; have hP := hPD.1; have hD := hPD.2; clear hPD
      refine W.widen (k := 0) (n := 0) (Nat.le_of_ble_eq_true rfl) (Nat.le_of_ble_eq_true rfl) ?_
      refine lv_if_eq (tgt := 77) hx hb dX4_readNumber_65 (by decide) (fun cb_13 => ?_) (fun cb_13 => ?_)
      · skip
        have hq_14 : ¬ (pD ftp ln (axx_2 + 1)) := b01_0.mp cb_13
        refine lv_iload_n hx hb dX4_readNumber_77 rfl (lv_at hl 3 rfl) ?_
        refine ky_Si (As := [.int 6]) (rest := []) ⟨hx, hb, hml, hown, hts⟩ ⟨hK, hN⟩ hZ hP hD hS hA [] [0, 1, 2] (wc := []) (wr := [(Rv, .inl (g 0, 21, .inl fval)), (Rd, .inr (4, [.ref Tp, .int (nI ln), .int (nI (axx_2 + 1)), .int (-1), .int (nI ht), .int (nI ct), .ref Rv])), (Tp, .inl (g 0, 160, .inl ftp))]) rfl rfl rfl rfl (by decide) (k_X4_kindOf_6 l D g H.size) (va_cwS 1 hts gX4_readNumber_X4_kindOf rfl rfl rfl (by decide +kernel) ⟨(Nat.le_of_ble_eq_true rfl), (Nat.le_of_ble_eq_true rfl)⟩) rfl hl.1 rfl (Nat.le_of_ble_eq_true rfl) dX4_readNumber_78 ⟨(Nat.le_of_ble_eq_true rfl), (Nat.le_of_ble_eq_true rfl)⟩ (fun r_15 u H locs hw hP2 hD2 hS2 => ?_)
        clear hP hD hS
        obtain ⟨rfl, rfl⟩ := hw
        have hPD : PD D A [(Rv, .inl (g 0, 21, .inl fval)), (Rd, .inr (4, [.ref Tp, .int (nI ln), .int (nI (axx_2 + 1)), .int (-1), .int (nI ht), .int (nI ct), .ref Rv])), (Tp, .inl (g 0, 160, .inl ftp))] H := ⟨hP2, hD2⟩
        have hS := hS2; clear hP2 hD2 hS2; have hP := hPD.1; have hD := hPD.2; clear hPD
        refine W.widen (k := 0) (n := 0) (Nat.le_of_ble_eq_true rfl) (Nat.le_of_ble_eq_true rfl) ?_
        refine lv_iconst (v := 3) hx hb dX4_readNumber_81 (by decide) ?_
        refine lv_imul hx hb dX4_readNumber_82 ?_
        refine lv_eqi (y := 6) (by decide) ?_
        refine lv_iload_n hx hb dX4_readNumber_83 rfl (lv_at hl 4 rfl) ?_
        refine lv_iadd hx hb dX4_readNumber_84 ?_
        refine lv_eqi (y := 8) (by decide) ?_
        refine lv_istore (lv' := [(5, .int 8), (4, .int 1), (3, .int ((0 + (ftp (axx_2))) - 48)), (0, .ref Rd), (1, .int 6), (2, .int 2)]) hx hb dX4_readNumber_85 hl (by decide) rfl (fun ls hl => ?_)
        refine lv_iload_n hx hb dX4_readNumber_87 rfl (lv_at hl 2 rfl) ?_
        refine va_gets hx hb hZ.2.2.1 hS hown f84 (fun _ h9 => h9) dX4_readNumber_88 ?_
        refine lv_iload hx hb dX4_readNumber_91 (lv_at hl 0 rfl) ?_
        refine va_ti (v := .int 0) hx hb hZ.2.2.2.1 hS (by unfold vp_in; decide) rfl dX4_readNumber_93 ?_
        refine va_gets hx hb hZ.2.2.2.2.1 hS hown f87 (fun _ h9 => h9) dX4_readNumber_94 ?_
        refine lv_iload hx hb dX4_readNumber_97 (lv_at hl 0 rfl) ?_
        refine va_ti (v := .int 9) hx hb hZ.2.2.2.2.2.1 hS (by unfold vp_in; decide) rfl dX4_readNumber_99 ?_
        refine ky_SNi (As := [.int ((0 + (ftp (axx_2))) - 48), .int 0, .int 9]) (rest := []) ⟨hx, hb, hml, hown, hts⟩ ⟨hK, hN⟩ hZ hP hD hS hA [] [0, 1, 2] (wc := []) (wr := [(Rv, .inl (g 0, 21, .inl fval)), (Rd, .inr (4, [.ref Tp, .int (nI ln), .int (nI (axx_2 + 1)), .int (-1), .int (nI ht), .int (nI ct), .ref Rv])), (Tp, .inl (g 0, 160, .inl ftp))]) rfl rfl rfl rfl (by decide) (k_X6_outside l D g H.size ((0 + (ftp (axx_2))) - 48) 0 9) ⟨va_cnB 3 hts ggX4_readNumber_X6_outside rfl rfl rfl hN.2.2.2.2.2.1 iiX6 (by decide +kernel) ⟨(Nat.le_of_ble_eq_true rfl), (Nat.le_of_ble_eq_true rfl)⟩, stX6_outside, trivial⟩ rfl hl.1 rfl (Nat.le_of_ble_eq_true rfl) dX4_readNumber_100 ⟨(Nat.le_of_ble_eq_true rfl), (Nat.le_of_ble_eq_true rfl)⟩ (fun r_16 u H locs hw hP2 hD2 hS2 => ?_)
        clear hP hD hS
        obtain ⟨rfl, rfl⟩ := hw
        have hPD : PD D A [(Rv, .inl (g 0, 21, .inl fval)), (Rd, .inr (4, [.ref Tp, .int (nI ln), .int (nI (axx_2 + 1)), .int (-1), .int (nI ht), .int (nI ct), .ref Rv])), (Tp, .inl (g 0, 160, .inl ftp))] H := ⟨hP2, hD2⟩
        have hS := hS2; clear hP2 hD2 hS2; have hP := hPD.1; have hD := hPD.2; clear hPD
        refine W.widen (k := 0) (n := 0) (Nat.le_of_ble_eq_true rfl) (Nat.le_of_ble_eq_true rfl) ?_
        refine lv_if_eq (tgt := 117) hx hb dX4_readNumber_103 (by decide) (fun cb_17 => ?_) (fun cb_17 => ?_)
        · skip
          have hq_18 : ¬ (((0 + (ftp (axx_2))) - 48) < 0 ∨ 9 < ((0 + (ftp (axx_2))) - 48)) := b01_0.mp cb_17
          have hq_19 : ¬ ((0 + (ftp (axx_2))) - 48) < 0 := fun q => hq_18 (Or.inl q); have hq_20 : ¬ (9 < ((0 + (ftp (axx_2))) - 48)) := fun q => hq_18 (Or.inr q)
          refine lv_aload_n hx hb dX4_readNumber_117 rfl (lv_at hl 3 rfl) ?_
          refine va_get (D := D) (ci := 4) (v := .ref Rv) (C := RX4) (T := TX4) (N := 7) hx hb hts iX4 hown hK hP 1 rfl rfl 6 (by decide) f15 (fun _ h9 => h9) rfl dX4_readNumber_118 ?_
          refine lv_iload_n hx hb dX4_readNumber_121 rfl (lv_at hl 4 rfl) ?_
          refine lv_iconst (v := 3) hx hb dX4_readNumber_122 (by decide) ?_
          refine lv_imul hx hb dX4_readNumber_123 ?_
          refine lv_eqi (y := 18) (by decide) ?_
          refine lv_iload_n hx hb dX4_readNumber_124 rfl (lv_at hl 5 rfl) ?_
          refine lv_iadd hx hb dX4_readNumber_125 ?_
          refine lv_eqi (y := 20) (by decide) ?_
          refine lv_iload_n hx hb dX4_readNumber_126 rfl (lv_at hl 2 rfl) ?_
          refine va_iast hx hb hK hP hD hS 0 0 rfl rfl (by unfold vp_in; decide) dX4_readNumber_127 (fun H locs hP2 hD2 hS2 => ?_)
          clear hP hD hS
          have hPD : PD D A [(Rv, .inl (g 0, 21, .inl (upd fval 20 ((0 + (ftp (axx_2))) - 48)))), (Rd, .inr (4, [.ref Tp, .int (nI ln), .int (nI (axx_2 + 1)), .int (-1), .int (nI ht), .int (nI ct), .ref Rv])), (Tp, .inl (g 0, 160, .inl ftp))] H := ⟨hP2, hD2⟩
          have hS := hS2; clear hP2 hD2 hS2; have hP := hPD.1; have hD := hPD.2; clear hPD
          have hPD9 : PD D A [(Rd, .inr (4, [.ref Tp, .int (nI ln), .int (nI (axx_2 + 1)), .int (-1), .int (nI ht), .int (nI ct), .ref Rv])), (Tp, .inl (g 0, 160, .inl ftp)), (Rv, .inl (g 0, 21, .inl (upd fval 20 ((0 + (ftp (axx_2))) - 48))))] H := ⟨hP.sub [1, 2, 0] rfl, hD.sub [1, 2, 0] (by decide) rfl⟩
          have hP9 := hPD9.1; have hD9 := hPD9.2
          subst hQ
          refine W.widen (k := 0) (n := 0) (Nat.le_of_ble_eq_true rfl) (Nat.le_of_ble_eq_true rfl) ?_
          exact W.vret hx hb hr (fun tS htS _ => ⟨⟨_, rfl, ⟨(axx_2 + 1), (-1), (upd fval 20 ((0 + (ftp (axx_2))) - 48)), rfl, (show (axx_2 + 1) ≤ ln by omega), (vOK_rng (k := 20) (L := 0) (U := 9) h2 rfl rfl (by decide) (by decide) hq_18 (Nat.le_of_ble_eq_true rfl)), (by rw [nm_b (show axx_2 = sB ftp ln ax by omega) hq_8 (fun q => hq_11 q.1), (nm_1 (show axx_2 = sB ftp ln ax by omega) hq_8 hq_11).1, (show nmV ftp ln ax = ((0 + (ftp (axx_2))) - 48) from (nm_1 (show axx_2 = sB ftp ln ax by omega) hq_8 hq_11).2), if_neg hq_18]), (fun _ => ⟨(nm_1 (show axx_2 = sB ftp ln ax by omega) hq_8 hq_11).1.symm, by rw [(show nmV ftp ln ax = ((0 + (ftp (axx_2))) - 48) from (nm_1 (show axx_2 = sB ftp ln ax by omega) hq_8 hq_11).2)]⟩)⟩, by rw [htS]; exact hP9, hD9⟩, hS.F htS⟩) hS.2.2 dX4_readNumber_128
        · skip
          have hq_21 : ((0 + (ftp (axx_2))) - 48) < 0 ∨ 9 < ((0 + (ftp (axx_2))) - 48) := b01_1.mp cb_17
          refine lv_aload_n hx hb dX4_readNumber_106 rfl (lv_at hl 3 rfl) ?_
          refine lv_aload_n hx hb dX4_readNumber_107 rfl (lv_at hl 3 rfl) ?_
          refine va_get (D := D) (ci := 4) (v := .int (nI (axx_2 + 1))) (C := RX4) (T := TX4) (N := 7) hx hb hts iX4 hown hK hP 1 rfl rfl 2 (by decide) f28 (fun _ h9 => h9) rfl dX4_readNumber_108 ?_
          refine lv_iconst (v := 1) hx hb dX4_readNumber_111 (by decide) ?_
          refine lv_isub hx hb dX4_readNumber_112 ?_
          refine lv_eqi (y := (nI ((axx_2 + 1) - 1))) (pk_sub (show 1 ≤ axx_2 + 1 by omega)) ?_
          refine va_put (D := D) (ci := 4) (v := .int (nI ((axx_2 + 1) - 1))) (ty := .int) (C := RX4) (T := TX4) (N := 7) hx hb hts iX4 tyX4 tyX4_ok nmX4 hown hK hP hD hS 1 rfl rfl 3 (by decide) f31 (fun _ h9 => h9) rfl (by decide +kernel) (rfl) (rfl) (Nat.le_of_ble_eq_true rfl) dX4_readNumber_113 (fun H locs hP2 hD2 hS2 => ?_)
          clear hP hD hS
          have hPD : PD D A [(Rv, .inl (g 0, 21, .inl fval)), (Rd, .inr (4, [.ref Tp, .int (nI ln), .int (nI (axx_2 + 1)), .int (nI ((axx_2 + 1) - 1)), .int (nI ht), .int (nI ct), .ref Rv])), (Tp, .inl (g 0, 160, .inl ftp))] H := ⟨hP2, hD2⟩
          have hS := hS2; clear hP2 hD2 hS2; have hP := hPD.1; have hD := hPD.2; clear hPD
          have hPD9 : PD D A [(Rd, .inr (4, [.ref Tp, .int (nI ln), .int (nI (axx_2 + 1)), .int (nI ((axx_2 + 1) - 1)), .int (nI ht), .int (nI ct), .ref Rv])), (Tp, .inl (g 0, 160, .inl ftp)), (Rv, .inl (g 0, 21, .inl fval))] H := ⟨hP.sub [1, 2, 0] rfl, hD.sub [1, 2, 0] (by decide) rfl⟩
          have hP9 := hPD9.1; have hD9 := hPD9.2
          subst hQ
          refine W.widen (k := 0) (n := 0) (Nat.le_of_ble_eq_true rfl) (Nat.le_of_ble_eq_true rfl) ?_
          exact W.vret hx hb hr (fun tS htS _ => ⟨⟨_, rfl, ⟨(axx_2 + 1), (nI ((axx_2 + 1) - 1)), fval, rfl, (show (axx_2 + 1) ≤ ln by omega), h2, (by rw [nm_b (show axx_2 = sB ftp ln ax by omega) hq_8 (fun q => hq_11 q.1), (nm_1 (show axx_2 = sB ftp ln ax by omega) hq_8 hq_11).1, (show nmV ftp ln ax = ((0 + (ftp (axx_2))) - 48) from (nm_1 (show axx_2 = sB ftp ln ax by omega) hq_8 hq_11).2), if_pos hq_21]), (fun q => absurd q (m1_ne (show axx_2 + 1 - 1 < 2 ^ 31 by omega)))⟩, by rw [htS]; exact hP9, hD9⟩, hS.F htS⟩) hS.2.2 dX4_readNumber_116
      · skip
        have hq_22 : pD ftp ln (axx_2 + 1) := b01_1.mp cb_13
        refine lv_aload_n hx hb dX4_readNumber_68 rfl (lv_at hl 2 rfl) ?_
        refine lv_aload_n hx hb dX4_readNumber_69 rfl (lv_at hl 2 rfl) ?_
        refine va_get (D := D) (ci := 4) (v := .int (nI (axx_2 + 1))) (C := RX4) (T := TX4) (N := 7) hx hb hts iX4 hown hK hP 1 rfl rfl 2 (by decide) f28 (fun _ h9 => h9) rfl dX4_readNumber_70 ?_
        refine va_put (D := D) (ci := 4) (v := .int (nI (axx_2 + 1))) (ty := .int) (C := RX4) (T := TX4) (N := 7) hx hb hts iX4 tyX4 tyX4_ok nmX4 hown hK hP hD hS 1 rfl rfl 3 (by decide) f31 (fun _ h9 => h9) rfl (by decide +kernel) (rfl) (rfl) (Nat.le_of_ble_eq_true rfl) dX4_readNumber_73 (fun H locs hP2 hD2 hS2 => ?_)
        clear hP hD hS
        have hPD : PD D A [(Rv, .inl (g 0, 21, .inl fval)), (Rd, .inr (4, [.ref Tp, .int (nI ln), .int (nI (axx_2 + 1)), .int (nI (axx_2 + 1)), .int (nI ht), .int (nI ct), .ref Rv])), (Tp, .inl (g 0, 160, .inl ftp))] H := ⟨hP2, hD2⟩
        have hS := hS2; clear hP2 hD2 hS2; have hP := hPD.1; have hD := hPD.2; clear hPD
        have hPD9 : PD D A [(Rd, .inr (4, [.ref Tp, .int (nI ln), .int (nI (axx_2 + 1)), .int (nI (axx_2 + 1)), .int (nI ht), .int (nI ct), .ref Rv])), (Tp, .inl (g 0, 160, .inl ftp)), (Rv, .inl (g 0, 21, .inl fval))] H := ⟨hP.sub [1, 2, 0] rfl, hD.sub [1, 2, 0] (by decide) rfl⟩
        have hP9 := hPD9.1; have hD9 := hPD9.2
        subst hQ
        refine W.widen (k := 0) (n := 0) (Nat.le_of_ble_eq_true rfl) (Nat.le_of_ble_eq_true rfl) ?_
        exact W.vret hx hb hr (fun tS htS _ => ⟨⟨_, rfl, ⟨(axx_2 + 1), (nI (axx_2 + 1)), fval, rfl, (show (axx_2 + 1) ≤ ln by omega), h2, (absurd hq_22 hq_11), (absurd hq_22 hq_11)⟩, by rw [htS]; exact hP9, hD9⟩, hS.F htS⟩) hS.2.2 dX4_readNumber_76
    · skip
      have hq_23 : pD ftp ln (axx_2 + 1) := b01_1.mp cb_10
      refine lv_iload_n hx hb dX4_readNumber_22 rfl (lv_at hl 1 rfl) ?_
      refine lv_bipush (v := 10) hx hb dX4_readNumber_23 (by decide) ?_
      refine lv_imul hx hb dX4_readNumber_25 ?_
      refine lv_aload_n hx hb dX4_readNumber_26 rfl (lv_at hl 2 rfl) ?_
      refine va_get (D := D) (ci := 4) (v := .ref Tp) (C := RX4) (T := TX4) (N := 7) hx hb hts iX4 hown hK hP 1 rfl rfl 0 (by decide) f9 (fun _ h9 => h9) rfl dX4_readNumber_27 ?_
      refine lv_aload_n hx hb dX4_readNumber_30 rfl (lv_at hl 2 rfl) ?_
      refine va_get (D := D) (ci := 4) (v := .int (nI (axx_2 + 1))) (C := RX4) (T := TX4) (N := 7) hx hb hts iX4 hown hK hP 1 rfl rfl 2 (by decide) f28 (fun _ h9 => h9) rfl dX4_readNumber_31 ?_
      refine va_iald hx hb hK hP 2 0 rfl rfl (vp_in_nI (show axx_2 + 1 < 160 by omega) (by decide)) dX4_readNumber_34 ?_
      refine lv_eqi (y := (ftp (axx_2 + 1))) (congrArg ftp (nI_clamp (show axx_2 + 1 < 2 ^ 31 by omega))) ?_
      refine lv_iadd hx hb dX4_readNumber_35 ?_
      refine lv_bipush (v := 48) hx hb dX4_readNumber_36 (by decide) ?_
      refine lv_isub hx hb dX4_readNumber_38 ?_
      refine lv_istore_n (lv' := [(3, .int (((((0 + (ftp (axx_2))) - 48) * 10) + (ftp (axx_2 + 1))) - 48)), (4, .int 1), (0, .ref Rd), (1, .int 6), (2, .int 2)]) hx hb dX4_readNumber_39 rfl hl (by decide) rfl (fun ls hl => ?_)
      refine lv_iinc (v := 2) (lv' := [(4, .int 2), (3, .int (((((0 + (ftp (axx_2))) - 48) * 10) + (ftp (axx_2 + 1))) - 48)), (0, .ref Rd), (1, .int 6), (2, .int 2)]) hx hb dX4_readNumber_40 hl (k := 1) rfl (by decide) (by decide) rfl (fun ls hl => ?_)
      refine lv_aload_n hx hb dX4_readNumber_43 rfl (lv_at hl 2 rfl) ?_
      refine lv_dup hx hb dX4_readNumber_44 rfl ?_
      refine va_get (D := D) (ci := 4) (v := .int (nI (axx_2 + 1))) (C := RX4) (T := TX4) (N := 7) hx hb hts iX4 hown hK hP 1 rfl rfl 2 (by decide) f28 (fun _ h9 => h9) rfl dX4_readNumber_45 ?_
      refine lv_iconst (v := 1) hx hb dX4_readNumber_48 (by decide) ?_
      refine lv_iadd hx hb dX4_readNumber_49 ?_
      refine lv_eqi (y := (nI (axx_2 + 1 + 1))) (nI_add (axx_2 + 1) (1)) ?_
      refine va_put (D := D) (ci := 4) (v := .int (nI (axx_2 + 1 + 1))) (ty := .int) (C := RX4) (T := TX4) (N := 7) hx hb hts iX4 tyX4 tyX4_ok nmX4 hown hK hP hD hS 1 rfl rfl 2 (by decide) f28 (fun _ h9 => h9) rfl (by decide +kernel) (rfl) (rfl) (Nat.le_of_ble_eq_true rfl) dX4_readNumber_50 (fun H locs hP2 hD2 hS2 => ?_)
      clear hP hD hS
      have hPD : PD D A [(Rv, .inl (g 0, 21, .inl fval)), (Rd, .inr (4, [.ref Tp, .int (nI ln), .int (nI (axx_2 + 1 + 1)), .int (-1), .int (nI ht), .int (nI ct), .ref Rv])), (Tp, .inl (g 0, 160, .inl ftp))] H := ⟨hP2, hD2⟩
      have hS := hS2; clear hP2 hD2 hS2; have hP := hPD.1; have hD := hPD.2; clear hPD
      refine lv_goto (tgt := 9) hx hb dX4_readNumber_53 (by decide) ?_
      refine lv_iload hx hb dX4_readNumber_9 (lv_at hl 0 rfl) ?_
      refine lv_iconst (v := 2) hx hb dX4_readNumber_11 (by decide) ?_
      refine lv_icmp_ge (tgt := 56) hx hb dX4_readNumber_12 (by decide) (fun _ => ?_) (fun cb => absurd (by decide) cb)
      refine lv_iload hx hb dX4_readNumber_56 (lv_at hl 0 rfl) ?_
      refine lv_if_eq (tgt := 68) hx hb dX4_readNumber_58 (by decide) (fun cb => absurd cb (by decide)) (fun _ => ?_)
      refine lv_aload_n hx hb dX4_readNumber_61 rfl (lv_at hl 2 rfl) ?_
      refine ky_Vi (As := []) (rest := []) ⟨hx, hb, hml, hown, hts⟩ ⟨hK, hN⟩ hZ hP hD hS hA [1, 2] [0] (wc := [(Rd, .inr (4, [.ref Tp, .int (nI ln), .int (nI (axx_2 + 1 + 1)), .int (-1), .int (nI ht), .int (nI ct), .ref Rv])), (Tp, .inl (g 0, 160, .inl ftp))]) (wr := [(Rv, .inl (g 0, 21, .inl fval))]) rfl rfl rfl rfl (by decide) (r_X4_isDigitHere l D g H.size Rd Tp ln (axx_2 + 1 + 1) (-1) ht ct Rv ftp (show ln ≤ 160 by omega) (show (axx_2 + 1 + 1) ≤ ln by omega)) (cwV 0 hts gX4_readNumber_X4_isDigitHere rfl rfl rfl (by decide +kernel) ⟨(Nat.le_of_ble_eq_true rfl), (Nat.le_of_ble_eq_true rfl)⟩) 1 4 rfl rfl rfl rfl hl.1 rfl (Nat.le_of_ble_eq_true rfl) dX4_readNumber_62 ⟨(Nat.le_of_ble_eq_true rfl), (Nat.le_of_ble_eq_true rfl)⟩ (fun r_24 u H locs hw hP2 hD2 hS2 => ?_)
      clear hP hD hS
      obtain ⟨rfl, rfl⟩ := hw
      have hPD : PD D A [(Rv, .inl (g 0, 21, .inl fval)), (Rd, .inr (4, [.ref Tp, .int (nI ln), .int (nI (axx_2 + 1 + 1)), .int (-1), .int (nI ht), .int (nI ct), .ref Rv])), (Tp, .inl (g 0, 160, .inl ftp))] H := ⟨hP2, hD2⟩
      have hS := hS2; clear hP2 hD2 hS2; have hP := hPD.1; have hD := hPD.2; clear hPD
      refine W.widen (k := 0) (n := 0) (Nat.le_of_ble_eq_true rfl) (Nat.le_of_ble_eq_true rfl) ?_
      refine lv_if_eq (tgt := 77) hx hb dX4_readNumber_65 (by decide) (fun cb_25 => ?_) (fun cb_25 => ?_)
      · skip
        have hq_26 : ¬ (pD ftp ln (axx_2 + 1 + 1)) := b01_0.mp cb_25
        refine lv_iload_n hx hb dX4_readNumber_77 rfl (lv_at hl 3 rfl) ?_
        refine ky_Si (As := [.int 6]) (rest := []) ⟨hx, hb, hml, hown, hts⟩ ⟨hK, hN⟩ hZ hP hD hS hA [] [0, 1, 2] (wc := []) (wr := [(Rv, .inl (g 0, 21, .inl fval)), (Rd, .inr (4, [.ref Tp, .int (nI ln), .int (nI (axx_2 + 1 + 1)), .int (-1), .int (nI ht), .int (nI ct), .ref Rv])), (Tp, .inl (g 0, 160, .inl ftp))]) rfl rfl rfl rfl (by decide) (k_X4_kindOf_6 l D g H.size) (va_cwS 1 hts gX4_readNumber_X4_kindOf rfl rfl rfl (by decide +kernel) ⟨(Nat.le_of_ble_eq_true rfl), (Nat.le_of_ble_eq_true rfl)⟩) rfl hl.1 rfl (Nat.le_of_ble_eq_true rfl) dX4_readNumber_78 ⟨(Nat.le_of_ble_eq_true rfl), (Nat.le_of_ble_eq_true rfl)⟩ (fun r_27 u H locs hw hP2 hD2 hS2 => ?_)
        clear hP hD hS
        obtain ⟨rfl, rfl⟩ := hw
        have hPD : PD D A [(Rv, .inl (g 0, 21, .inl fval)), (Rd, .inr (4, [.ref Tp, .int (nI ln), .int (nI (axx_2 + 1 + 1)), .int (-1), .int (nI ht), .int (nI ct), .ref Rv])), (Tp, .inl (g 0, 160, .inl ftp))] H := ⟨hP2, hD2⟩
        have hS := hS2; clear hP2 hD2 hS2; have hP := hPD.1; have hD := hPD.2; clear hPD
        refine W.widen (k := 0) (n := 0) (Nat.le_of_ble_eq_true rfl) (Nat.le_of_ble_eq_true rfl) ?_
        refine lv_iconst (v := 3) hx hb dX4_readNumber_81 (by decide) ?_
        refine lv_imul hx hb dX4_readNumber_82 ?_
        refine lv_eqi (y := 6) (by decide) ?_
        refine lv_iload_n hx hb dX4_readNumber_83 rfl (lv_at hl 4 rfl) ?_
        refine lv_iadd hx hb dX4_readNumber_84 ?_
        refine lv_eqi (y := 8) (by decide) ?_
        refine lv_istore (lv' := [(5, .int 8), (4, .int 2), (3, .int (((((0 + (ftp (axx_2))) - 48) * 10) + (ftp (axx_2 + 1))) - 48)), (0, .ref Rd), (1, .int 6), (2, .int 2)]) hx hb dX4_readNumber_85 hl (by decide) rfl (fun ls hl => ?_)
        refine lv_iload_n hx hb dX4_readNumber_87 rfl (lv_at hl 2 rfl) ?_
        refine va_gets hx hb hZ.2.2.1 hS hown f84 (fun _ h9 => h9) dX4_readNumber_88 ?_
        refine lv_iload hx hb dX4_readNumber_91 (lv_at hl 0 rfl) ?_
        refine va_ti (v := .int 0) hx hb hZ.2.2.2.1 hS (by unfold vp_in; decide) rfl dX4_readNumber_93 ?_
        refine va_gets hx hb hZ.2.2.2.2.1 hS hown f87 (fun _ h9 => h9) dX4_readNumber_94 ?_
        refine lv_iload hx hb dX4_readNumber_97 (lv_at hl 0 rfl) ?_
        refine va_ti (v := .int 9) hx hb hZ.2.2.2.2.2.1 hS (by unfold vp_in; decide) rfl dX4_readNumber_99 ?_
        refine ky_SNi (As := [.int (((((0 + (ftp (axx_2))) - 48) * 10) + (ftp (axx_2 + 1))) - 48), .int 0, .int 9]) (rest := []) ⟨hx, hb, hml, hown, hts⟩ ⟨hK, hN⟩ hZ hP hD hS hA [] [0, 1, 2] (wc := []) (wr := [(Rv, .inl (g 0, 21, .inl fval)), (Rd, .inr (4, [.ref Tp, .int (nI ln), .int (nI (axx_2 + 1 + 1)), .int (-1), .int (nI ht), .int (nI ct), .ref Rv])), (Tp, .inl (g 0, 160, .inl ftp))]) rfl rfl rfl rfl (by decide) (k_X6_outside l D g H.size (((((0 + (ftp (axx_2))) - 48) * 10) + (ftp (axx_2 + 1))) - 48) 0 9) ⟨va_cnB 3 hts ggX4_readNumber_X6_outside rfl rfl rfl hN.2.2.2.2.2.1 iiX6 (by decide +kernel) ⟨(Nat.le_of_ble_eq_true rfl), (Nat.le_of_ble_eq_true rfl)⟩, stX6_outside, trivial⟩ rfl hl.1 rfl (Nat.le_of_ble_eq_true rfl) dX4_readNumber_100 ⟨(Nat.le_of_ble_eq_true rfl), (Nat.le_of_ble_eq_true rfl)⟩ (fun r_28 u H locs hw hP2 hD2 hS2 => ?_)
        clear hP hD hS
        obtain ⟨rfl, rfl⟩ := hw
        have hPD : PD D A [(Rv, .inl (g 0, 21, .inl fval)), (Rd, .inr (4, [.ref Tp, .int (nI ln), .int (nI (axx_2 + 1 + 1)), .int (-1), .int (nI ht), .int (nI ct), .ref Rv])), (Tp, .inl (g 0, 160, .inl ftp))] H := ⟨hP2, hD2⟩
        have hS := hS2; clear hP2 hD2 hS2; have hP := hPD.1; have hD := hPD.2; clear hPD
        refine W.widen (k := 0) (n := 0) (Nat.le_of_ble_eq_true rfl) (Nat.le_of_ble_eq_true rfl) ?_
        refine lv_if_eq (tgt := 117) hx hb dX4_readNumber_103 (by decide) (fun cb_29 => ?_) (fun cb_29 => ?_)
        · skip
          have hq_30 : ¬ ((((((0 + (ftp (axx_2))) - 48) * 10) + (ftp (axx_2 + 1))) - 48) < 0 ∨ 9 < (((((0 + (ftp (axx_2))) - 48) * 10) + (ftp (axx_2 + 1))) - 48)) := b01_0.mp cb_29
          have hq_31 : ¬ (((((0 + (ftp (axx_2))) - 48) * 10) + (ftp (axx_2 + 1))) - 48) < 0 := fun q => hq_30 (Or.inl q); have hq_32 : ¬ (9 < (((((0 + (ftp (axx_2))) - 48) * 10) + (ftp (axx_2 + 1))) - 48)) := fun q => hq_30 (Or.inr q)
          refine lv_aload_n hx hb dX4_readNumber_117 rfl (lv_at hl 3 rfl) ?_
          refine va_get (D := D) (ci := 4) (v := .ref Rv) (C := RX4) (T := TX4) (N := 7) hx hb hts iX4 hown hK hP 1 rfl rfl 6 (by decide) f15 (fun _ h9 => h9) rfl dX4_readNumber_118 ?_
          refine lv_iload_n hx hb dX4_readNumber_121 rfl (lv_at hl 4 rfl) ?_
          refine lv_iconst (v := 3) hx hb dX4_readNumber_122 (by decide) ?_
          refine lv_imul hx hb dX4_readNumber_123 ?_
          refine lv_eqi (y := 18) (by decide) ?_
          refine lv_iload_n hx hb dX4_readNumber_124 rfl (lv_at hl 5 rfl) ?_
          refine lv_iadd hx hb dX4_readNumber_125 ?_
          refine lv_eqi (y := 20) (by decide) ?_
          refine lv_iload_n hx hb dX4_readNumber_126 rfl (lv_at hl 2 rfl) ?_
          refine va_iast hx hb hK hP hD hS 0 0 rfl rfl (by unfold vp_in; decide) dX4_readNumber_127 (fun H locs hP2 hD2 hS2 => ?_)
          clear hP hD hS
          have hPD : PD D A [(Rv, .inl (g 0, 21, .inl (upd fval 20 (((((0 + (ftp (axx_2))) - 48) * 10) + (ftp (axx_2 + 1))) - 48)))), (Rd, .inr (4, [.ref Tp, .int (nI ln), .int (nI (axx_2 + 1 + 1)), .int (-1), .int (nI ht), .int (nI ct), .ref Rv])), (Tp, .inl (g 0, 160, .inl ftp))] H := ⟨hP2, hD2⟩
          have hS := hS2; clear hP2 hD2 hS2; have hP := hPD.1; have hD := hPD.2; clear hPD
          have hPD9 : PD D A [(Rd, .inr (4, [.ref Tp, .int (nI ln), .int (nI (axx_2 + 1 + 1)), .int (-1), .int (nI ht), .int (nI ct), .ref Rv])), (Tp, .inl (g 0, 160, .inl ftp)), (Rv, .inl (g 0, 21, .inl (upd fval 20 (((((0 + (ftp (axx_2))) - 48) * 10) + (ftp (axx_2 + 1))) - 48))))] H := ⟨hP.sub [1, 2, 0] rfl, hD.sub [1, 2, 0] (by decide) rfl⟩
          have hP9 := hPD9.1; have hD9 := hPD9.2
          subst hQ
          refine W.widen (k := 0) (n := 0) (Nat.le_of_ble_eq_true rfl) (Nat.le_of_ble_eq_true rfl) ?_
          exact W.vret hx hb hr (fun tS htS _ => ⟨⟨_, rfl, ⟨(axx_2 + 1 + 1), (-1), (upd fval 20 (((((0 + (ftp (axx_2))) - 48) * 10) + (ftp (axx_2 + 1))) - 48)), rfl, (show (axx_2 + 1 + 1) ≤ ln by omega), (vOK_rng (k := 20) (L := 0) (U := 9) h2 rfl rfl (by decide) (by decide) hq_30 (Nat.le_of_ble_eq_true rfl)), (by rw [nm_b (show axx_2 = sB ftp ln ax by omega) hq_8 (fun q => hq_26 q.2), (nm_2 (show axx_2 = sB ftp ln ax by omega) hq_8 hq_23).1, (show nmV ftp ln ax = (((((0 + (ftp (axx_2))) - 48) * 10) + (ftp (axx_2 + 1))) - 48) from ((nm_2 (show axx_2 = sB ftp ln ax by omega) hq_8 hq_23).2.trans (by rw [Int32.mul_comm]))), if_neg hq_30]), (fun _ => ⟨(nm_2 (show axx_2 = sB ftp ln ax by omega) hq_8 hq_23).1.symm, by rw [(show nmV ftp ln ax = (((((0 + (ftp (axx_2))) - 48) * 10) + (ftp (axx_2 + 1))) - 48) from ((nm_2 (show axx_2 = sB ftp ln ax by omega) hq_8 hq_23).2.trans (by rw [Int32.mul_comm])))]⟩)⟩, by rw [htS]; exact hP9, hD9⟩, hS.F htS⟩) hS.2.2 dX4_readNumber_128
        · skip
          have hq_33 : (((((0 + (ftp (axx_2))) - 48) * 10) + (ftp (axx_2 + 1))) - 48) < 0 ∨ 9 < (((((0 + (ftp (axx_2))) - 48) * 10) + (ftp (axx_2 + 1))) - 48) := b01_1.mp cb_29
          refine lv_aload_n hx hb dX4_readNumber_106 rfl (lv_at hl 3 rfl) ?_
          refine lv_aload_n hx hb dX4_readNumber_107 rfl (lv_at hl 3 rfl) ?_
          refine va_get (D := D) (ci := 4) (v := .int (nI (axx_2 + 1 + 1))) (C := RX4) (T := TX4) (N := 7) hx hb hts iX4 hown hK hP 1 rfl rfl 2 (by decide) f28 (fun _ h9 => h9) rfl dX4_readNumber_108 ?_
          refine lv_iconst (v := 1) hx hb dX4_readNumber_111 (by decide) ?_
          refine lv_isub hx hb dX4_readNumber_112 ?_
          refine lv_eqi (y := (nI ((axx_2 + 1 + 1) - 1))) (pk_sub (show 1 ≤ axx_2 + 1 + 1 by omega)) ?_
          refine va_put (D := D) (ci := 4) (v := .int (nI ((axx_2 + 1 + 1) - 1))) (ty := .int) (C := RX4) (T := TX4) (N := 7) hx hb hts iX4 tyX4 tyX4_ok nmX4 hown hK hP hD hS 1 rfl rfl 3 (by decide) f31 (fun _ h9 => h9) rfl (by decide +kernel) (rfl) (rfl) (Nat.le_of_ble_eq_true rfl) dX4_readNumber_113 (fun H locs hP2 hD2 hS2 => ?_)
          clear hP hD hS
          have hPD : PD D A [(Rv, .inl (g 0, 21, .inl fval)), (Rd, .inr (4, [.ref Tp, .int (nI ln), .int (nI (axx_2 + 1 + 1)), .int (nI ((axx_2 + 1 + 1) - 1)), .int (nI ht), .int (nI ct), .ref Rv])), (Tp, .inl (g 0, 160, .inl ftp))] H := ⟨hP2, hD2⟩
          have hS := hS2; clear hP2 hD2 hS2; have hP := hPD.1; have hD := hPD.2; clear hPD
          have hPD9 : PD D A [(Rd, .inr (4, [.ref Tp, .int (nI ln), .int (nI (axx_2 + 1 + 1)), .int (nI ((axx_2 + 1 + 1) - 1)), .int (nI ht), .int (nI ct), .ref Rv])), (Tp, .inl (g 0, 160, .inl ftp)), (Rv, .inl (g 0, 21, .inl fval))] H := ⟨hP.sub [1, 2, 0] rfl, hD.sub [1, 2, 0] (by decide) rfl⟩
          have hP9 := hPD9.1; have hD9 := hPD9.2
          subst hQ
          refine W.widen (k := 0) (n := 0) (Nat.le_of_ble_eq_true rfl) (Nat.le_of_ble_eq_true rfl) ?_
          exact W.vret hx hb hr (fun tS htS _ => ⟨⟨_, rfl, ⟨(axx_2 + 1 + 1), (nI ((axx_2 + 1 + 1) - 1)), fval, rfl, (show (axx_2 + 1 + 1) ≤ ln by omega), h2, (by rw [nm_b (show axx_2 = sB ftp ln ax by omega) hq_8 (fun q => hq_26 q.2), (nm_2 (show axx_2 = sB ftp ln ax by omega) hq_8 hq_23).1, (show nmV ftp ln ax = (((((0 + (ftp (axx_2))) - 48) * 10) + (ftp (axx_2 + 1))) - 48) from ((nm_2 (show axx_2 = sB ftp ln ax by omega) hq_8 hq_23).2.trans (by rw [Int32.mul_comm]))), if_pos hq_33]), (fun q => absurd q (m1_ne (show axx_2 + 1 + 1 - 1 < 2 ^ 31 by omega)))⟩, by rw [htS]; exact hP9, hD9⟩, hS.F htS⟩) hS.2.2 dX4_readNumber_116
      · skip
        have hq_34 : pD ftp ln (axx_2 + 1 + 1) := b01_1.mp cb_25
        refine lv_aload_n hx hb dX4_readNumber_68 rfl (lv_at hl 2 rfl) ?_
        refine lv_aload_n hx hb dX4_readNumber_69 rfl (lv_at hl 2 rfl) ?_
        refine va_get (D := D) (ci := 4) (v := .int (nI (axx_2 + 1 + 1))) (C := RX4) (T := TX4) (N := 7) hx hb hts iX4 hown hK hP 1 rfl rfl 2 (by decide) f28 (fun _ h9 => h9) rfl dX4_readNumber_70 ?_
        refine va_put (D := D) (ci := 4) (v := .int (nI (axx_2 + 1 + 1))) (ty := .int) (C := RX4) (T := TX4) (N := 7) hx hb hts iX4 tyX4 tyX4_ok nmX4 hown hK hP hD hS 1 rfl rfl 3 (by decide) f31 (fun _ h9 => h9) rfl (by decide +kernel) (rfl) (rfl) (Nat.le_of_ble_eq_true rfl) dX4_readNumber_73 (fun H locs hP2 hD2 hS2 => ?_)
        clear hP hD hS
        have hPD : PD D A [(Rv, .inl (g 0, 21, .inl fval)), (Rd, .inr (4, [.ref Tp, .int (nI ln), .int (nI (axx_2 + 1 + 1)), .int (nI (axx_2 + 1 + 1)), .int (nI ht), .int (nI ct), .ref Rv])), (Tp, .inl (g 0, 160, .inl ftp))] H := ⟨hP2, hD2⟩
        have hS := hS2; clear hP2 hD2 hS2; have hP := hPD.1; have hD := hPD.2; clear hPD
        have hPD9 : PD D A [(Rd, .inr (4, [.ref Tp, .int (nI ln), .int (nI (axx_2 + 1 + 1)), .int (nI (axx_2 + 1 + 1)), .int (nI ht), .int (nI ct), .ref Rv])), (Tp, .inl (g 0, 160, .inl ftp)), (Rv, .inl (g 0, 21, .inl fval))] H := ⟨hP.sub [1, 2, 0] rfl, hD.sub [1, 2, 0] (by decide) rfl⟩
        have hP9 := hPD9.1; have hD9 := hPD9.2
        subst hQ
        refine W.widen (k := 0) (n := 0) (Nat.le_of_ble_eq_true rfl) (Nat.le_of_ble_eq_true rfl) ?_
        exact W.vret hx hb hr (fun tS htS _ => ⟨⟨_, rfl, ⟨(axx_2 + 1 + 1), (nI (axx_2 + 1 + 1)), fval, rfl, (show (axx_2 + 1 + 1) ≤ ln by omega), h2, (nm_3 (show axx_2 = sB ftp ln ax by omega) hq_8 hq_23 hq_34).symm, (fun q => absurd q (m1_ne (show axx_2 + 1 + 1 < 2 ^ 31 by omega)))⟩, by rw [htS]; exact hP9, hD9⟩, hS.F htS⟩) hS.2.2 dX4_readNumber_76

set_option maxHeartbeats 4000000 in
set_option maxRecDepth 100000 in
theorem r_X4_clauseOf (l : Launch) (D : va_G) (g : Nat → ClassId) (sz : Nat) (Rd : Nat) (zs : Int32) (zf : Int32) (Tp : Nat) (ln : Nat) (ax : Nat) (zfa : Int32) (ht : Nat) (ct : Nat) (Rv : Nat) (h0 : ht ≤ 3) (h1 : ct ≤ 3) : Met l yX4_clauseOf wsX4_clauseOf ({ frames := 0, cells := 0, slots := 0, locals := 0 }) (va_Pc [.ref Rd, .int zs, .int zf] (pre D g sz [(Rd, .inr (4, [.ref Tp, .int (nI ln), .int (nI ax), .int zfa, .int (nI ht), .int (nI ct), .ref Rv]))])) (va_Qi (fun (r : Int32) (u : va_W) => ∃ (htx : Nat) (ctx : Nat) (zr : Int32), u = [(Rd, .inr (4, [.ref Tp, .int (nI ln), .int (nI ax), .int zfa, .int (nI htx), .int (nI ctx), .ref Rv]))] ∧ r = zr ∧ (htx ≤ 3) ∧ (ctx ≤ 3) ∧ ((zr, htx, ctx) = clO zs zf ht ct)) (wd D (va_A [(Rd, .inr (4, [.ref Tp, .int (nI ln), .int (nI ax), .int zfa, .int (nI ht), .int (nI ct), .ref Rv]))] sz)) (va_A [(Rd, .inr (4, [.ref Tp, .int (nI ln), .int (nI ax), .int zfa, .int (nI ht), .int (nI ct), .ref Rv]))] sz)) 0 0 (va_A [(Rd, .inr (4, [.ref Tp, .int (nI ln), .int (nI ax), .int zfa, .int (nI ht), .int (nI ct), .ref Rv]))] sz) := by
  refine Met.ofW (cc := cX4_clauseOf) (maxL := 3) (ret := (some .int)) (by decide) rfl ?_
  intro p e s m args below meth c s₁ B hml hv
  obtain ⟨rfl, hsz, hP, ⟨hK, hN⟩, hD0, hZ⟩ := hv
  have hx := B.exec
  have hb := B.bytes
  have hr := B.returns
  have hts := atoms_spec (ws := wsX4_clauseOf) B.pre
  have hown : s.vm.findClass RX4 = some m.cls := findClass_of_methodNamed B.named
  have hlocks := B.notSynchronized
  clear B
  subst hsz
  have hD := hD0.self (sz := s.heap.size)
  clear hD0
  generalize hAe : va_A [(Rd, .inr (4, [.ref Tp, .int (nI ln), .int (nI ax), .int zfa, .int (nI ht), .int (nI ct), .ref Rv]))] s.heap.size = A at hD hZ ⊢
  have hA : ∀ q : Nat, s.heap.size ≤ q → A q := fun q h => by rw [← hAe]; exact Or.inr h
  have hS : va_S A s.heap s.heap [] := va_S.rf
  have f34 := hts (.fieldLink RX4 34 "HopCredits$Reading" "hopsTold" "I") (List.mem_of_getElem? (i := 1) rfl)
  have f37 := hts (.fieldLink RX4 37 "HopCredits$Reading" "circuitsTold" "I") (List.mem_of_getElem? (i := 2) rfl)
  have iX4 : ∀ w ∈ u_ws RX4 TX4 7, w ∈ wsX4_clauseOf := fun w h => List.mem_cons_of_mem _ (List.mem_append_right _ (h))
  have hl := lv_entry ([.ref Rd, .int zs, .int zf]) (n := 3) (Nat.le_of_ble_eq_true rfl)
  rw [lg_entry_eq]
  generalize (lg_sl ([.ref Rd, .int zs, .int zf]) ++ List.replicate (3 - (lg_sl ([.ref Rd, .int zs, .int zf])).length) Slot.unset).toArray = ls at hl ⊢
  have hl : lv_has ls 3 [(0, .ref Rd), (1, .int zs), (2, .int zf)] := hl
  generalize hQ : MQ below _ _ s _ _ _ = Q
  generalize hH : s.heap = H at hP ⊢
  have hS : va_S A s.heap H [] := by rw [← hH]; exact hS
  clear hH
  refine lv_iload_n hx hb dX4_clauseOf_0 rfl (lv_at hl 1 rfl) ?_
  refine lv_bipush (v := 110) hx hb dX4_clauseOf_1 (by decide) ?_
  refine lv_icmp_ne (tgt := 12) hx hb dX4_clauseOf_3 (by decide) (fun cb_1 => ?_) (fun cb_1 => ?_)
  · skip
    refine lv_iload_n hx hb dX4_clauseOf_12 rfl (lv_at hl 1 rfl) ?_
    refine lv_bipush (v := 104) hx hb dX4_clauseOf_13 (by decide) ?_
    refine lv_icmp_ne (tgt := 41) hx hb dX4_clauseOf_15 (by decide) (fun cb_2 => ?_) (fun cb_2 => ?_)
    · skip
      refine lv_iload_n hx hb dX4_clauseOf_41 rfl (lv_at hl 1 rfl) ?_
      refine lv_bipush (v := 99) hx hb dX4_clauseOf_42 (by decide) ?_
      refine lv_icmp_ne (tgt := 72) hx hb dX4_clauseOf_44 (by decide) (fun cb_3 => ?_) (fun cb_3 => ?_)
      · skip
        refine lv_iconst (v := (-1)) hx hb dX4_clauseOf_72 (by decide) ?_
        have hP9 := hP; have hD9 := hD
        subst hQ
        refine W.widen (k := 0) (n := 0) (Nat.le_of_ble_eq_true rfl) (Nat.le_of_ble_eq_true rfl) ?_
        exact W.iret (v := (-1)) hx hb hr (fun tS htS _ => ⟨⟨_, _, rfl, ⟨ht, ct, (-1), rfl, rfl, (show ht ≤ 3 by omega), (show ct ≤ 3 by omega), (by unfold clO; rw [if_neg (fun q => cb_1 q.1), if_neg (fun q => cb_2 q.1), if_neg (fun q => cb_3 q.1)])⟩, by rw [htS]; exact hP9, hD9⟩, hS.F htS⟩) hS.2.2 dX4_clauseOf_73
      · skip
        refine lv_aload_n hx hb dX4_clauseOf_47 rfl (lv_at hl 0 rfl) ?_
        refine va_get (D := D) (ci := 4) (v := .int (nI ct)) (C := RX4) (T := TX4) (N := 7) hx hb hts iX4 hown hK hP 0 rfl rfl 5 (by decide) f37 (fun _ h9 => h9) rfl dX4_clauseOf_48 ?_
        refine lv_iconst (v := 3) hx hb dX4_clauseOf_51 (by decide) ?_
        refine lv_icmp_ge (tgt := 72) hx hb dX4_clauseOf_52 (by decide) (fun cb_4 => ?_) (fun cb_4 => ?_)
        · skip
          have cn_5 : 3 ≤ ct := (nI_leI (show 3 < 2 ^ 31 by omega) (show ct < 2 ^ 31 by omega)).mp cb_4
          refine lv_iconst (v := (-1)) hx hb dX4_clauseOf_72 (by decide) ?_
          have hP9 := hP; have hD9 := hD
          subst hQ
          refine W.widen (k := 0) (n := 0) (Nat.le_of_ble_eq_true rfl) (Nat.le_of_ble_eq_true rfl) ?_
          exact W.iret (v := (-1)) hx hb hr (fun tS htS _ => ⟨⟨_, _, rfl, ⟨ht, ct, (-1), rfl, rfl, (show ht ≤ 3 by omega), (show ct ≤ 3 by omega), (by unfold clO; rw [if_neg (fun q => cb_1 q.1), if_neg (fun q => cb_2 q.1), if_neg (fun q => absurd q.2 (show ¬ ct < 3 by omega))])⟩, by rw [htS]; exact hP9, hD9⟩, hS.F htS⟩) hS.2.2 dX4_clauseOf_73
        · skip
          have cn_6 : ct < 3 := Nat.lt_of_not_le (fun q9 => cb_4 ((nI_leI (show 3 < 2 ^ 31 by omega) (show ct < 2 ^ 31 by omega)).mpr q9))
          refine lv_aload_n hx hb dX4_clauseOf_55 rfl (lv_at hl 0 rfl) ?_
          refine lv_dup hx hb dX4_clauseOf_56 rfl ?_
          refine va_get (D := D) (ci := 4) (v := .int (nI ct)) (C := RX4) (T := TX4) (N := 7) hx hb hts iX4 hown hK hP 0 rfl rfl 5 (by decide) f37 (fun _ h9 => h9) rfl dX4_clauseOf_57 ?_
          refine lv_iconst (v := 1) hx hb dX4_clauseOf_60 (by decide) ?_
          refine lv_iadd hx hb dX4_clauseOf_61 ?_
          refine lv_eqi (y := (nI (ct + 1))) (nI_add (ct) (1)) ?_
          refine va_put (D := D) (ci := 4) (v := .int (nI (ct + 1))) (ty := .int) (C := RX4) (T := TX4) (N := 7) hx hb hts iX4 tyX4 tyX4_ok nmX4 hown hK hP hD hS 0 rfl rfl 5 (by decide) f37 (fun _ h9 => h9) rfl (by decide +kernel) (rfl) (rfl) (Nat.le_of_ble_eq_true rfl) dX4_clauseOf_62 (fun H locs hP2 hD2 hS2 => ?_)
          clear hP hD hS
          have hPD : PD D A [(Rd, .inr (4, [.ref Tp, .int (nI ln), .int (nI ax), .int zfa, .int (nI ht), .int (nI (ct + 1)), .ref Rv]))] H := ⟨hP2, hD2⟩
          have hS := hS2; clear hP2 hD2 hS2; have hP := hPD.1; have hD := hPD.2; clear hPD
          refine lv_iconst (v := 3) hx hb dX4_clauseOf_65 (by decide) ?_
          refine lv_aload_n hx hb dX4_clauseOf_66 rfl (lv_at hl 0 rfl) ?_
          refine va_get (D := D) (ci := 4) (v := .int (nI (ct + 1))) (C := RX4) (T := TX4) (N := 7) hx hb hts iX4 hown hK hP 0 rfl rfl 5 (by decide) f37 (fun _ h9 => h9) rfl dX4_clauseOf_67 ?_
          refine lv_iadd hx hb dX4_clauseOf_70 ?_
          refine lv_eqi (y := (nI (3 + (ct + 1)))) (nI_add (3) (ct + 1)) ?_
          have hP9 := hP; have hD9 := hD
          subst hQ
          refine W.widen (k := 0) (n := 0) (Nat.le_of_ble_eq_true rfl) (Nat.le_of_ble_eq_true rfl) ?_
          exact W.iret (v := (nI (3 + (ct + 1)))) hx hb hr (fun tS htS _ => ⟨⟨_, _, rfl, ⟨ht, (ct + 1), (nI (3 + (ct + 1))), rfl, rfl, (show ht ≤ 3 by omega), (show (ct + 1) ≤ 3 by omega), (by unfold clO; rw [if_neg (fun q => cb_1 q.1), if_neg (fun q => cb_2 q.1), if_pos ⟨cb_3, show ct < 3 by omega⟩])⟩, by rw [htS]; exact hP9, hD9⟩, hS.F htS⟩) hS.2.2 dX4_clauseOf_71
    · skip
      refine lv_aload_n hx hb dX4_clauseOf_18 rfl (lv_at hl 0 rfl) ?_
      refine va_get (D := D) (ci := 4) (v := .int (nI ht)) (C := RX4) (T := TX4) (N := 7) hx hb hts iX4 hown hK hP 0 rfl rfl 4 (by decide) f34 (fun _ h9 => h9) rfl dX4_clauseOf_19 ?_
      refine lv_iconst (v := 3) hx hb dX4_clauseOf_22 (by decide) ?_
      refine lv_icmp_ge (tgt := 41) hx hb dX4_clauseOf_23 (by decide) (fun cb_7 => ?_) (fun cb_7 => ?_)
      · skip
        have cn_8 : 3 ≤ ht := (nI_leI (show 3 < 2 ^ 31 by omega) (show ht < 2 ^ 31 by omega)).mp cb_7
        refine lv_iload_n hx hb dX4_clauseOf_41 rfl (lv_at hl 1 rfl) ?_
        refine lv_bipush (v := 99) hx hb dX4_clauseOf_42 (by decide) ?_
        refine lv_icmp_ne (tgt := 72) hx hb dX4_clauseOf_44 (by decide) (fun cb_9 => ?_) (fun cb_9 => ?_)
        · skip
          refine lv_iconst (v := (-1)) hx hb dX4_clauseOf_72 (by decide) ?_
          have hP9 := hP; have hD9 := hD
          subst hQ
          refine W.widen (k := 0) (n := 0) (Nat.le_of_ble_eq_true rfl) (Nat.le_of_ble_eq_true rfl) ?_
          exact W.iret (v := (-1)) hx hb hr (fun tS htS _ => ⟨⟨_, _, rfl, ⟨ht, ct, (-1), rfl, rfl, (show ht ≤ 3 by omega), (show ct ≤ 3 by omega), (by unfold clO; rw [if_neg (fun q => cb_1 q.1), if_neg (fun q => absurd q.2 (show ¬ ht < 3 by omega)), if_neg (fun q => cb_9 q.1)])⟩, by rw [htS]; exact hP9, hD9⟩, hS.F htS⟩) hS.2.2 dX4_clauseOf_73
        · skip
          refine lv_aload_n hx hb dX4_clauseOf_47 rfl (lv_at hl 0 rfl) ?_
          refine va_get (D := D) (ci := 4) (v := .int (nI ct)) (C := RX4) (T := TX4) (N := 7) hx hb hts iX4 hown hK hP 0 rfl rfl 5 (by decide) f37 (fun _ h9 => h9) rfl dX4_clauseOf_48 ?_
          refine lv_iconst (v := 3) hx hb dX4_clauseOf_51 (by decide) ?_
          refine lv_icmp_ge (tgt := 72) hx hb dX4_clauseOf_52 (by decide) (fun cb_10 => ?_) (fun cb_10 => ?_)
          · skip
            have cn_11 : 3 ≤ ct := (nI_leI (show 3 < 2 ^ 31 by omega) (show ct < 2 ^ 31 by omega)).mp cb_10
            refine lv_iconst (v := (-1)) hx hb dX4_clauseOf_72 (by decide) ?_
            have hP9 := hP; have hD9 := hD
            subst hQ
            refine W.widen (k := 0) (n := 0) (Nat.le_of_ble_eq_true rfl) (Nat.le_of_ble_eq_true rfl) ?_
            exact W.iret (v := (-1)) hx hb hr (fun tS htS _ => ⟨⟨_, _, rfl, ⟨ht, ct, (-1), rfl, rfl, (show ht ≤ 3 by omega), (show ct ≤ 3 by omega), (by unfold clO; rw [if_neg (fun q => cb_1 q.1), if_neg (fun q => absurd q.2 (show ¬ ht < 3 by omega)), if_neg (fun q => absurd q.2 (show ¬ ct < 3 by omega))])⟩, by rw [htS]; exact hP9, hD9⟩, hS.F htS⟩) hS.2.2 dX4_clauseOf_73
          · skip
            have cn_12 : ct < 3 := Nat.lt_of_not_le (fun q9 => cb_10 ((nI_leI (show 3 < 2 ^ 31 by omega) (show ct < 2 ^ 31 by omega)).mpr q9))
            refine lv_aload_n hx hb dX4_clauseOf_55 rfl (lv_at hl 0 rfl) ?_
            refine lv_dup hx hb dX4_clauseOf_56 rfl ?_
            refine va_get (D := D) (ci := 4) (v := .int (nI ct)) (C := RX4) (T := TX4) (N := 7) hx hb hts iX4 hown hK hP 0 rfl rfl 5 (by decide) f37 (fun _ h9 => h9) rfl dX4_clauseOf_57 ?_
            refine lv_iconst (v := 1) hx hb dX4_clauseOf_60 (by decide) ?_
            refine lv_iadd hx hb dX4_clauseOf_61 ?_
            refine lv_eqi (y := (nI (ct + 1))) (nI_add (ct) (1)) ?_
            refine va_put (D := D) (ci := 4) (v := .int (nI (ct + 1))) (ty := .int) (C := RX4) (T := TX4) (N := 7) hx hb hts iX4 tyX4 tyX4_ok nmX4 hown hK hP hD hS 0 rfl rfl 5 (by decide) f37 (fun _ h9 => h9) rfl (by decide +kernel) (rfl) (rfl) (Nat.le_of_ble_eq_true rfl) dX4_clauseOf_62 (fun H locs hP2 hD2 hS2 => ?_)
            clear hP hD hS
            have hPD : PD D A [(Rd, .inr (4, [.ref Tp, .int (nI ln), .int (nI ax), .int zfa, .int (nI ht), .int (nI (ct + 1)), .ref Rv]))] H := ⟨hP2, hD2⟩
            have hS := hS2; clear hP2 hD2 hS2; have hP := hPD.1; have hD := hPD.2; clear hPD
            refine lv_iconst (v := 3) hx hb dX4_clauseOf_65 (by decide) ?_
            refine lv_aload_n hx hb dX4_clauseOf_66 rfl (lv_at hl 0 rfl) ?_
            refine va_get (D := D) (ci := 4) (v := .int (nI (ct + 1))) (C := RX4) (T := TX4) (N := 7) hx hb hts iX4 hown hK hP 0 rfl rfl 5 (by decide) f37 (fun _ h9 => h9) rfl dX4_clauseOf_67 ?_
            refine lv_iadd hx hb dX4_clauseOf_70 ?_
            refine lv_eqi (y := (nI (3 + (ct + 1)))) (nI_add (3) (ct + 1)) ?_
            have hP9 := hP; have hD9 := hD
            subst hQ
            refine W.widen (k := 0) (n := 0) (Nat.le_of_ble_eq_true rfl) (Nat.le_of_ble_eq_true rfl) ?_
            exact W.iret (v := (nI (3 + (ct + 1)))) hx hb hr (fun tS htS _ => ⟨⟨_, _, rfl, ⟨ht, (ct + 1), (nI (3 + (ct + 1))), rfl, rfl, (show ht ≤ 3 by omega), (show (ct + 1) ≤ 3 by omega), (by unfold clO; rw [if_neg (fun q => cb_1 q.1), if_neg (fun q => absurd q.2 (show ¬ ht < 3 by omega)), if_pos ⟨cb_9, show ct < 3 by omega⟩])⟩, by rw [htS]; exact hP9, hD9⟩, hS.F htS⟩) hS.2.2 dX4_clauseOf_71
      · skip
        have cn_13 : ht < 3 := Nat.lt_of_not_le (fun q9 => cb_7 ((nI_leI (show 3 < 2 ^ 31 by omega) (show ht < 2 ^ 31 by omega)).mpr q9))
        refine lv_aload_n hx hb dX4_clauseOf_26 rfl (lv_at hl 0 rfl) ?_
        refine lv_dup hx hb dX4_clauseOf_27 rfl ?_
        refine va_get (D := D) (ci := 4) (v := .int (nI ht)) (C := RX4) (T := TX4) (N := 7) hx hb hts iX4 hown hK hP 0 rfl rfl 4 (by decide) f34 (fun _ h9 => h9) rfl dX4_clauseOf_28 ?_
        refine lv_iconst (v := 1) hx hb dX4_clauseOf_31 (by decide) ?_
        refine lv_iadd hx hb dX4_clauseOf_32 ?_
        refine lv_eqi (y := (nI (ht + 1))) (nI_add (ht) (1)) ?_
        refine va_put (D := D) (ci := 4) (v := .int (nI (ht + 1))) (ty := .int) (C := RX4) (T := TX4) (N := 7) hx hb hts iX4 tyX4 tyX4_ok nmX4 hown hK hP hD hS 0 rfl rfl 4 (by decide) f34 (fun _ h9 => h9) rfl (by decide +kernel) (rfl) (rfl) (Nat.le_of_ble_eq_true rfl) dX4_clauseOf_33 (fun H locs hP2 hD2 hS2 => ?_)
        clear hP hD hS
        have hPD : PD D A [(Rd, .inr (4, [.ref Tp, .int (nI ln), .int (nI ax), .int zfa, .int (nI (ht + 1)), .int (nI ct), .ref Rv]))] H := ⟨hP2, hD2⟩
        have hS := hS2; clear hP2 hD2 hS2; have hP := hPD.1; have hD := hPD.2; clear hPD
        refine lv_aload_n hx hb dX4_clauseOf_36 rfl (lv_at hl 0 rfl) ?_
        refine va_get (D := D) (ci := 4) (v := .int (nI (ht + 1))) (C := RX4) (T := TX4) (N := 7) hx hb hts iX4 hown hK hP 0 rfl rfl 4 (by decide) f34 (fun _ h9 => h9) rfl dX4_clauseOf_37 ?_
        have hP9 := hP; have hD9 := hD
        subst hQ
        refine W.widen (k := 0) (n := 0) (Nat.le_of_ble_eq_true rfl) (Nat.le_of_ble_eq_true rfl) ?_
        exact W.iret (v := (nI (ht + 1))) hx hb hr (fun tS htS _ => ⟨⟨_, _, rfl, ⟨(ht + 1), ct, (nI (ht + 1)), rfl, rfl, (show (ht + 1) ≤ 3 by omega), (show ct ≤ 3 by omega), (by unfold clO; rw [if_neg (fun q => cb_1 q.1), if_pos ⟨cb_2, show ht < 3 by omega⟩])⟩, by rw [htS]; exact hP9, hD9⟩, hS.F htS⟩) hS.2.2 dX4_clauseOf_40
  · skip
    refine lv_iload_n hx hb dX4_clauseOf_6 rfl (lv_at hl 2 rfl) ?_
    refine lv_if_eq (tgt := 12) hx hb dX4_clauseOf_7 (by decide) (fun cb_14 => ?_) (fun cb_14 => ?_)
    · skip
      refine lv_iload_n hx hb dX4_clauseOf_12 rfl (lv_at hl 1 rfl) ?_
      refine lv_bipush (v := 104) hx hb dX4_clauseOf_13 (by decide) ?_
      refine lv_icmp_ne (tgt := 41) hx hb dX4_clauseOf_15 (by decide) (fun cb_15 => ?_) (fun cb_15 => ?_)
      · skip
        refine lv_iload_n hx hb dX4_clauseOf_41 rfl (lv_at hl 1 rfl) ?_
        refine lv_bipush (v := 99) hx hb dX4_clauseOf_42 (by decide) ?_
        refine lv_icmp_ne (tgt := 72) hx hb dX4_clauseOf_44 (by decide) (fun cb_16 => ?_) (fun cb_16 => ?_)
        · skip
          refine lv_iconst (v := (-1)) hx hb dX4_clauseOf_72 (by decide) ?_
          have hP9 := hP; have hD9 := hD
          subst hQ
          refine W.widen (k := 0) (n := 0) (Nat.le_of_ble_eq_true rfl) (Nat.le_of_ble_eq_true rfl) ?_
          exact W.iret (v := (-1)) hx hb hr (fun tS htS _ => ⟨⟨_, _, rfl, ⟨ht, ct, (-1), rfl, rfl, (show ht ≤ 3 by omega), (show ct ≤ 3 by omega), (by unfold clO; rw [if_neg (fun q => q.2 cb_14), if_neg (fun q => cb_15 q.1), if_neg (fun q => cb_16 q.1)])⟩, by rw [htS]; exact hP9, hD9⟩, hS.F htS⟩) hS.2.2 dX4_clauseOf_73
        · skip
          refine lv_aload_n hx hb dX4_clauseOf_47 rfl (lv_at hl 0 rfl) ?_
          refine va_get (D := D) (ci := 4) (v := .int (nI ct)) (C := RX4) (T := TX4) (N := 7) hx hb hts iX4 hown hK hP 0 rfl rfl 5 (by decide) f37 (fun _ h9 => h9) rfl dX4_clauseOf_48 ?_
          refine lv_iconst (v := 3) hx hb dX4_clauseOf_51 (by decide) ?_
          refine lv_icmp_ge (tgt := 72) hx hb dX4_clauseOf_52 (by decide) (fun cb_17 => ?_) (fun cb_17 => ?_)
          · skip
            have cn_18 : 3 ≤ ct := (nI_leI (show 3 < 2 ^ 31 by omega) (show ct < 2 ^ 31 by omega)).mp cb_17
            refine lv_iconst (v := (-1)) hx hb dX4_clauseOf_72 (by decide) ?_
            have hP9 := hP; have hD9 := hD
            subst hQ
            refine W.widen (k := 0) (n := 0) (Nat.le_of_ble_eq_true rfl) (Nat.le_of_ble_eq_true rfl) ?_
            exact W.iret (v := (-1)) hx hb hr (fun tS htS _ => ⟨⟨_, _, rfl, ⟨ht, ct, (-1), rfl, rfl, (show ht ≤ 3 by omega), (show ct ≤ 3 by omega), (by unfold clO; rw [if_neg (fun q => q.2 cb_14), if_neg (fun q => cb_15 q.1), if_neg (fun q => absurd q.2 (show ¬ ct < 3 by omega))])⟩, by rw [htS]; exact hP9, hD9⟩, hS.F htS⟩) hS.2.2 dX4_clauseOf_73
          · skip
            have cn_19 : ct < 3 := Nat.lt_of_not_le (fun q9 => cb_17 ((nI_leI (show 3 < 2 ^ 31 by omega) (show ct < 2 ^ 31 by omega)).mpr q9))
            refine lv_aload_n hx hb dX4_clauseOf_55 rfl (lv_at hl 0 rfl) ?_
            refine lv_dup hx hb dX4_clauseOf_56 rfl ?_
            refine va_get (D := D) (ci := 4) (v := .int (nI ct)) (C := RX4) (T := TX4) (N := 7) hx hb hts iX4 hown hK hP 0 rfl rfl 5 (by decide) f37 (fun _ h9 => h9) rfl dX4_clauseOf_57 ?_
            refine lv_iconst (v := 1) hx hb dX4_clauseOf_60 (by decide) ?_
            refine lv_iadd hx hb dX4_clauseOf_61 ?_
            refine lv_eqi (y := (nI (ct + 1))) (nI_add (ct) (1)) ?_
            refine va_put (D := D) (ci := 4) (v := .int (nI (ct + 1))) (ty := .int) (C := RX4) (T := TX4) (N := 7) hx hb hts iX4 tyX4 tyX4_ok nmX4 hown hK hP hD hS 0 rfl rfl 5 (by decide) f37 (fun _ h9 => h9) rfl (by decide +kernel) (rfl) (rfl) (Nat.le_of_ble_eq_true rfl) dX4_clauseOf_62 (fun H locs hP2 hD2 hS2 => ?_)
            clear hP hD hS
            have hPD : PD D A [(Rd, .inr (4, [.ref Tp, .int (nI ln), .int (nI ax), .int zfa, .int (nI ht), .int (nI (ct + 1)), .ref Rv]))] H := ⟨hP2, hD2⟩
            have hS := hS2; clear hP2 hD2 hS2; have hP := hPD.1; have hD := hPD.2; clear hPD
            refine lv_iconst (v := 3) hx hb dX4_clauseOf_65 (by decide) ?_
            refine lv_aload_n hx hb dX4_clauseOf_66 rfl (lv_at hl 0 rfl) ?_
            refine va_get (D := D) (ci := 4) (v := .int (nI (ct + 1))) (C := RX4) (T := TX4) (N := 7) hx hb hts iX4 hown hK hP 0 rfl rfl 5 (by decide) f37 (fun _ h9 => h9) rfl dX4_clauseOf_67 ?_
            refine lv_iadd hx hb dX4_clauseOf_70 ?_
            refine lv_eqi (y := (nI (3 + (ct + 1)))) (nI_add (3) (ct + 1)) ?_
            have hP9 := hP; have hD9 := hD
            subst hQ
            refine W.widen (k := 0) (n := 0) (Nat.le_of_ble_eq_true rfl) (Nat.le_of_ble_eq_true rfl) ?_
            exact W.iret (v := (nI (3 + (ct + 1)))) hx hb hr (fun tS htS _ => ⟨⟨_, _, rfl, ⟨ht, (ct + 1), (nI (3 + (ct + 1))), rfl, rfl, (show ht ≤ 3 by omega), (show (ct + 1) ≤ 3 by omega), (by unfold clO; rw [if_neg (fun q => q.2 cb_14), if_neg (fun q => cb_15 q.1), if_pos ⟨cb_16, show ct < 3 by omega⟩])⟩, by rw [htS]; exact hP9, hD9⟩, hS.F htS⟩) hS.2.2 dX4_clauseOf_71
      · skip
        refine lv_aload_n hx hb dX4_clauseOf_18 rfl (lv_at hl 0 rfl) ?_
        refine va_get (D := D) (ci := 4) (v := .int (nI ht)) (C := RX4) (T := TX4) (N := 7) hx hb hts iX4 hown hK hP 0 rfl rfl 4 (by decide) f34 (fun _ h9 => h9) rfl dX4_clauseOf_19 ?_
        refine lv_iconst (v := 3) hx hb dX4_clauseOf_22 (by decide) ?_
        refine lv_icmp_ge (tgt := 41) hx hb dX4_clauseOf_23 (by decide) (fun cb_20 => ?_) (fun cb_20 => ?_)
        · skip
          have cn_21 : 3 ≤ ht := (nI_leI (show 3 < 2 ^ 31 by omega) (show ht < 2 ^ 31 by omega)).mp cb_20
          refine lv_iload_n hx hb dX4_clauseOf_41 rfl (lv_at hl 1 rfl) ?_
          refine lv_bipush (v := 99) hx hb dX4_clauseOf_42 (by decide) ?_
          refine lv_icmp_ne (tgt := 72) hx hb dX4_clauseOf_44 (by decide) (fun cb_22 => ?_) (fun cb_22 => ?_)
          · skip
            refine lv_iconst (v := (-1)) hx hb dX4_clauseOf_72 (by decide) ?_
            have hP9 := hP; have hD9 := hD
            subst hQ
            refine W.widen (k := 0) (n := 0) (Nat.le_of_ble_eq_true rfl) (Nat.le_of_ble_eq_true rfl) ?_
            exact W.iret (v := (-1)) hx hb hr (fun tS htS _ => ⟨⟨_, _, rfl, ⟨ht, ct, (-1), rfl, rfl, (show ht ≤ 3 by omega), (show ct ≤ 3 by omega), (by unfold clO; rw [if_neg (fun q => q.2 cb_14), if_neg (fun q => absurd q.2 (show ¬ ht < 3 by omega)), if_neg (fun q => cb_22 q.1)])⟩, by rw [htS]; exact hP9, hD9⟩, hS.F htS⟩) hS.2.2 dX4_clauseOf_73
          · skip
            refine lv_aload_n hx hb dX4_clauseOf_47 rfl (lv_at hl 0 rfl) ?_
            refine va_get (D := D) (ci := 4) (v := .int (nI ct)) (C := RX4) (T := TX4) (N := 7) hx hb hts iX4 hown hK hP 0 rfl rfl 5 (by decide) f37 (fun _ h9 => h9) rfl dX4_clauseOf_48 ?_
            refine lv_iconst (v := 3) hx hb dX4_clauseOf_51 (by decide) ?_
            refine lv_icmp_ge (tgt := 72) hx hb dX4_clauseOf_52 (by decide) (fun cb_23 => ?_) (fun cb_23 => ?_)
            · skip
              have cn_24 : 3 ≤ ct := (nI_leI (show 3 < 2 ^ 31 by omega) (show ct < 2 ^ 31 by omega)).mp cb_23
              refine lv_iconst (v := (-1)) hx hb dX4_clauseOf_72 (by decide) ?_
              have hP9 := hP; have hD9 := hD
              subst hQ
              refine W.widen (k := 0) (n := 0) (Nat.le_of_ble_eq_true rfl) (Nat.le_of_ble_eq_true rfl) ?_
              exact W.iret (v := (-1)) hx hb hr (fun tS htS _ => ⟨⟨_, _, rfl, ⟨ht, ct, (-1), rfl, rfl, (show ht ≤ 3 by omega), (show ct ≤ 3 by omega), (by unfold clO; rw [if_neg (fun q => q.2 cb_14), if_neg (fun q => absurd q.2 (show ¬ ht < 3 by omega)), if_neg (fun q => absurd q.2 (show ¬ ct < 3 by omega))])⟩, by rw [htS]; exact hP9, hD9⟩, hS.F htS⟩) hS.2.2 dX4_clauseOf_73
            · skip
              have cn_25 : ct < 3 := Nat.lt_of_not_le (fun q9 => cb_23 ((nI_leI (show 3 < 2 ^ 31 by omega) (show ct < 2 ^ 31 by omega)).mpr q9))
              refine lv_aload_n hx hb dX4_clauseOf_55 rfl (lv_at hl 0 rfl) ?_
              refine lv_dup hx hb dX4_clauseOf_56 rfl ?_
              refine va_get (D := D) (ci := 4) (v := .int (nI ct)) (C := RX4) (T := TX4) (N := 7) hx hb hts iX4 hown hK hP 0 rfl rfl 5 (by decide) f37 (fun _ h9 => h9) rfl dX4_clauseOf_57 ?_
              refine lv_iconst (v := 1) hx hb dX4_clauseOf_60 (by decide) ?_
              refine lv_iadd hx hb dX4_clauseOf_61 ?_
              refine lv_eqi (y := (nI (ct + 1))) (nI_add (ct) (1)) ?_
              refine va_put (D := D) (ci := 4) (v := .int (nI (ct + 1))) (ty := .int) (C := RX4) (T := TX4) (N := 7) hx hb hts iX4 tyX4 tyX4_ok nmX4 hown hK hP hD hS 0 rfl rfl 5 (by decide) f37 (fun _ h9 => h9) rfl (by decide +kernel) (rfl) (rfl) (Nat.le_of_ble_eq_true rfl) dX4_clauseOf_62 (fun H locs hP2 hD2 hS2 => ?_)
              clear hP hD hS
              have hPD : PD D A [(Rd, .inr (4, [.ref Tp, .int (nI ln), .int (nI ax), .int zfa, .int (nI ht), .int (nI (ct + 1)), .ref Rv]))] H := ⟨hP2, hD2⟩
              have hS := hS2; clear hP2 hD2 hS2; have hP := hPD.1; have hD := hPD.2; clear hPD
              refine lv_iconst (v := 3) hx hb dX4_clauseOf_65 (by decide) ?_
              refine lv_aload_n hx hb dX4_clauseOf_66 rfl (lv_at hl 0 rfl) ?_
              refine va_get (D := D) (ci := 4) (v := .int (nI (ct + 1))) (C := RX4) (T := TX4) (N := 7) hx hb hts iX4 hown hK hP 0 rfl rfl 5 (by decide) f37 (fun _ h9 => h9) rfl dX4_clauseOf_67 ?_
              refine lv_iadd hx hb dX4_clauseOf_70 ?_
              refine lv_eqi (y := (nI (3 + (ct + 1)))) (nI_add (3) (ct + 1)) ?_
              have hP9 := hP; have hD9 := hD
              subst hQ
              refine W.widen (k := 0) (n := 0) (Nat.le_of_ble_eq_true rfl) (Nat.le_of_ble_eq_true rfl) ?_
              exact W.iret (v := (nI (3 + (ct + 1)))) hx hb hr (fun tS htS _ => ⟨⟨_, _, rfl, ⟨ht, (ct + 1), (nI (3 + (ct + 1))), rfl, rfl, (show ht ≤ 3 by omega), (show (ct + 1) ≤ 3 by omega), (by unfold clO; rw [if_neg (fun q => q.2 cb_14), if_neg (fun q => absurd q.2 (show ¬ ht < 3 by omega)), if_pos ⟨cb_22, show ct < 3 by omega⟩])⟩, by rw [htS]; exact hP9, hD9⟩, hS.F htS⟩) hS.2.2 dX4_clauseOf_71
        · skip
          have cn_26 : ht < 3 := Nat.lt_of_not_le (fun q9 => cb_20 ((nI_leI (show 3 < 2 ^ 31 by omega) (show ht < 2 ^ 31 by omega)).mpr q9))
          refine lv_aload_n hx hb dX4_clauseOf_26 rfl (lv_at hl 0 rfl) ?_
          refine lv_dup hx hb dX4_clauseOf_27 rfl ?_
          refine va_get (D := D) (ci := 4) (v := .int (nI ht)) (C := RX4) (T := TX4) (N := 7) hx hb hts iX4 hown hK hP 0 rfl rfl 4 (by decide) f34 (fun _ h9 => h9) rfl dX4_clauseOf_28 ?_
          refine lv_iconst (v := 1) hx hb dX4_clauseOf_31 (by decide) ?_
          refine lv_iadd hx hb dX4_clauseOf_32 ?_
          refine lv_eqi (y := (nI (ht + 1))) (nI_add (ht) (1)) ?_
          refine va_put (D := D) (ci := 4) (v := .int (nI (ht + 1))) (ty := .int) (C := RX4) (T := TX4) (N := 7) hx hb hts iX4 tyX4 tyX4_ok nmX4 hown hK hP hD hS 0 rfl rfl 4 (by decide) f34 (fun _ h9 => h9) rfl (by decide +kernel) (rfl) (rfl) (Nat.le_of_ble_eq_true rfl) dX4_clauseOf_33 (fun H locs hP2 hD2 hS2 => ?_)
          clear hP hD hS
          have hPD : PD D A [(Rd, .inr (4, [.ref Tp, .int (nI ln), .int (nI ax), .int zfa, .int (nI (ht + 1)), .int (nI ct), .ref Rv]))] H := ⟨hP2, hD2⟩
          have hS := hS2; clear hP2 hD2 hS2; have hP := hPD.1; have hD := hPD.2; clear hPD
          refine lv_aload_n hx hb dX4_clauseOf_36 rfl (lv_at hl 0 rfl) ?_
          refine va_get (D := D) (ci := 4) (v := .int (nI (ht + 1))) (C := RX4) (T := TX4) (N := 7) hx hb hts iX4 hown hK hP 0 rfl rfl 4 (by decide) f34 (fun _ h9 => h9) rfl dX4_clauseOf_37 ?_
          have hP9 := hP; have hD9 := hD
          subst hQ
          refine W.widen (k := 0) (n := 0) (Nat.le_of_ble_eq_true rfl) (Nat.le_of_ble_eq_true rfl) ?_
          exact W.iret (v := (nI (ht + 1))) hx hb hr (fun tS htS _ => ⟨⟨_, _, rfl, ⟨(ht + 1), ct, (nI (ht + 1)), rfl, rfl, (show (ht + 1) ≤ 3 by omega), (show ct ≤ 3 by omega), (by unfold clO; rw [if_neg (fun q => q.2 cb_14), if_pos ⟨cb_15, show ht < 3 by omega⟩])⟩, by rw [htS]; exact hP9, hD9⟩, hS.F htS⟩) hS.2.2 dX4_clauseOf_40
    · skip
      refine lv_iconst (v := 0) hx hb dX4_clauseOf_10 (by decide) ?_
      have hP9 := hP; have hD9 := hD
      subst hQ
      refine W.widen (k := 0) (n := 0) (Nat.le_of_ble_eq_true rfl) (Nat.le_of_ble_eq_true rfl) ?_
      exact W.iret (v := 0) hx hb hr (fun tS htS _ => ⟨⟨_, _, rfl, ⟨ht, ct, 0, rfl, rfl, (show ht ≤ 3 by omega), (show ct ≤ 3 by omega), (if_pos ⟨cb_1, cb_14⟩).symm⟩, by rw [htS]; exact hP9, hD9⟩, hS.F htS⟩) hS.2.2 dX4_clauseOf_11

set_option maxHeartbeats 4000000 in
set_option maxRecDepth 100000 in
theorem r_X4_readHead (l : Launch) (D : va_G) (g : Nat → ClassId) (sz : Nat) (Rd : Nat) (zf : Int32) (Tp : Nat) (ln : Nat) (ax : Nat) (ht : Nat) (ct : Nat) (Rv : Nat) (ftp : Nat → Int32) (h0 : ln ≤ 160) (h1 : ax ≤ ln) (h2 : ht ≤ 3) (h3 : ct ≤ 3) : Met l yX4_readHead wsX4_readHead ({ frames := 1, cells := 0, slots := 0, locals := 22 }) (va_Pc [.ref Rd, .int zf] (pre D g sz [(Rd, .inr (4, [.ref Tp, .int (nI ln), .int (nI ax), .int (-1), .int (nI ht), .int (nI ct), .ref Rv])), (Tp, .inl (g 0, 160, .inl ftp))])) (va_Qi (fun (r : Int32) (u : va_W) => ∃ (axx : Nat) (zfax : Int32) (htx : Nat) (ctx : Nat) (zr : Int32), u = [(Rd, .inr (4, [.ref Tp, .int (nI ln), .int (nI axx), .int zfax, .int (nI htx), .int (nI ctx), .ref Rv])), (Tp, .inl (g 0, 160, .inl ftp))] ∧ r = zr ∧ ((axx ≤ ln) ∧ (htx ≤ 3) ∧ (ctx ≤ 3) ∧ ((zr, htx, ctx) = hdR ftp ln ax zf ht ct) ∧ ((zr = -1 ∧ zfax = nI (sB ftp ln ax)) ∨ (¬ zr = -1 ∧ zfax = -1 ∧ axx = sB ftp ln ax + 1)))) (wd D (va_A [(Rd, .inr (4, [.ref Tp, .int (nI ln), .int (nI ax), .int (-1), .int (nI ht), .int (nI ct), .ref Rv])), (Tp, .inl (g 0, 160, .inl ftp))] sz)) (va_A [(Rd, .inr (4, [.ref Tp, .int (nI ln), .int (nI ax), .int (-1), .int (nI ht), .int (nI ct), .ref Rv])), (Tp, .inl (g 0, 160, .inl ftp))] sz)) 0 0 (va_A [(Rd, .inr (4, [.ref Tp, .int (nI ln), .int (nI ax), .int (-1), .int (nI ht), .int (nI ct), .ref Rv])), (Tp, .inl (g 0, 160, .inl ftp))] sz) := by
  refine Met.ofW (cc := cX4_readHead) (maxL := 3) (ret := (some .int)) (by decide) rfl ?_
  intro p e s m args below meth c s₁ B hml hv
  obtain ⟨rfl, hsz, hP, ⟨hK, hN⟩, hD0, hZ⟩ := hv
  have hx := B.exec
  have hb := B.bytes
  have hr := B.returns
  have hts := atoms_spec (ws := wsX4_readHead) B.pre
  have hown : s.vm.findClass RX4 = some m.cls := findClass_of_methodNamed B.named
  have hlocks := B.notSynchronized
  clear B
  subst hsz
  have hD := hD0.self (sz := s.heap.size)
  clear hD0
  generalize hAe : va_A [(Rd, .inr (4, [.ref Tp, .int (nI ln), .int (nI ax), .int (-1), .int (nI ht), .int (nI ct), .ref Rv])), (Tp, .inl (g 0, 160, .inl ftp))] s.heap.size = A at hD hZ ⊢
  have hA : ∀ q : Nat, s.heap.size ≤ q → A q := fun q h => by rw [← hAe]; exact Or.inr h
  have hS : va_S A s.heap s.heap [] := va_S.rf
  have f24 := hts (.fieldLink RX4 24 "HopCredits$Reading" "length" "I") (List.mem_of_getElem? (i := 2) rfl)
  have f28 := hts (.fieldLink RX4 28 "HopCredits$Reading" "at" "I") (List.mem_of_getElem? (i := 1) rfl)
  have f31 := hts (.fieldLink RX4 31 "HopCredits$Reading" "fault" "I") (List.mem_of_getElem? (i := 4) rfl)
  have f9 := hts (.fieldLink RX4 9 "HopCredits$Reading" "text" "[I") (List.mem_of_getElem? (i := 3) rfl)
  have iX4 : ∀ w ∈ u_ws RX4 TX4 7, w ∈ wsX4_readHead := fun w h => List.mem_cons_of_mem _ (List.mem_append_right _ (h))
  have hl := lv_entry ([.ref Rd, .int zf]) (n := 3) (Nat.le_of_ble_eq_true rfl)
  rw [lg_entry_eq]
  generalize (lg_sl ([.ref Rd, .int zf]) ++ List.replicate (3 - (lg_sl ([.ref Rd, .int zf])).length) Slot.unset).toArray = ls at hl ⊢
  have hl : lv_has ls 3 [(0, .ref Rd), (1, .int zf)] := hl
  generalize hQ : MQ below _ _ s _ _ _ = Q
  generalize hH : s.heap = H at hP ⊢
  have hS : va_S A s.heap H [] := by rw [← hH]; exact hS
  clear hH
  refine lv_aload_n hx hb dX4_readHead_0 rfl (lv_at hl 0 rfl) ?_
  refine ky_Vv (As := []) (rest := []) ⟨hx, hb, hml, hown, hts⟩ ⟨hK, hN⟩ hZ hP hD hS hA [0, 1] [] (wc := [(Rd, .inr (4, [.ref Tp, .int (nI ln), .int (nI ax), .int (-1), .int (nI ht), .int (nI ct), .ref Rv])), (Tp, .inl (g 0, 160, .inl ftp))]) (wr := []) rfl rfl rfl rfl (by decide) (r_X4_passBlanks l D g H.size Rd Tp ln ax (-1) ht ct Rv ftp (show ln ≤ 160 by omega) (show ax ≤ ln by omega)) (cwV 0 hts gX4_readHead_X4_passBlanks rfl rfl rfl (by decide +kernel) ⟨(Nat.le_of_ble_eq_true rfl), (Nat.le_of_ble_eq_true rfl)⟩) 0 4 rfl rfl rfl rfl hl.1 rfl (Nat.le_of_ble_eq_true rfl) dX4_readHead_1 ⟨(Nat.le_of_ble_eq_true rfl), (Nat.le_of_ble_eq_true rfl)⟩ (fun u H locs hw hP2 hD2 hS2 => ?_)
  clear hP hD hS
  obtain ⟨axx_2, rfl, hf_3, hf_4⟩ := hw
  have hPD : PD D A [(Rd, .inr (4, [.ref Tp, .int (nI ln), .int (nI axx_2), .int (-1), .int (nI ht), .int (nI ct), .ref Rv])), (Tp, .inl (g 0, 160, .inl ftp))] H := ⟨hP2, hD2⟩
  have hS := hS2; clear hP2 hD2 hS2; have hP := hPD.1; have hD := hPD.2; clear hPD
  refine W.widen (k := 0) (n := 0) (Nat.le_of_ble_eq_true rfl) (Nat.le_of_ble_eq_true rfl) ?_
  refine lv_iconst (v := (-1)) hx hb dX4_readHead_4 (by decide) ?_
  refine lv_istore_n (lv' := [(2, .int (-1)), (0, .ref Rd), (1, .int zf)]) hx hb dX4_readHead_5 rfl hl (by decide) rfl (fun ls hl => ?_)
  refine lv_aload_n hx hb dX4_readHead_6 rfl (lv_at hl 1 rfl) ?_
  refine va_get (D := D) (ci := 4) (v := .int (nI axx_2)) (C := RX4) (T := TX4) (N := 7) hx hb hts iX4 hown hK hP 0 rfl rfl 2 (by decide) f28 (fun _ h9 => h9) rfl dX4_readHead_7 ?_
  refine lv_aload_n hx hb dX4_readHead_10 rfl (lv_at hl 1 rfl) ?_
  refine va_get (D := D) (ci := 4) (v := .int (nI ln)) (C := RX4) (T := TX4) (N := 7) hx hb hts iX4 hown hK hP 0 rfl rfl 1 (by decide) f24 (fun _ h9 => h9) rfl dX4_readHead_11 ?_
  refine lv_icmp_ge (tgt := 32) hx hb dX4_readHead_14 (by decide) (fun cb_5 => ?_) (fun cb_5 => ?_)
  · skip
    have cn_6 : ln ≤ axx_2 := (nI_leI (show ln < 2 ^ 31 by omega) (show axx_2 < 2 ^ 31 by omega)).mp cb_5
    refine lv_iload_n hx hb dX4_readHead_32 rfl (lv_at hl 0 rfl) ?_
    refine lv_iconst (v := (-1)) hx hb dX4_readHead_33 (by decide) ?_
    refine lv_icmp_ne (tgt := 47) hx hb dX4_readHead_34 (by decide) (fun cb => absurd (by decide) cb) (fun _ => ?_)
    refine lv_aload_n hx hb dX4_readHead_37 rfl (lv_at hl 1 rfl) ?_
    refine lv_aload_n hx hb dX4_readHead_38 rfl (lv_at hl 1 rfl) ?_
    refine va_get (D := D) (ci := 4) (v := .int (nI axx_2)) (C := RX4) (T := TX4) (N := 7) hx hb hts iX4 hown hK hP 0 rfl rfl 2 (by decide) f28 (fun _ h9 => h9) rfl dX4_readHead_39 ?_
    refine va_put (D := D) (ci := 4) (v := .int (nI axx_2)) (ty := .int) (C := RX4) (T := TX4) (N := 7) hx hb hts iX4 tyX4 tyX4_ok nmX4 hown hK hP hD hS 0 rfl rfl 3 (by decide) f31 (fun _ h9 => h9) rfl (by decide +kernel) (rfl) (rfl) (Nat.le_of_ble_eq_true rfl) dX4_readHead_42 (fun H locs hP2 hD2 hS2 => ?_)
    clear hP hD hS
    have hPD : PD D A [(Rd, .inr (4, [.ref Tp, .int (nI ln), .int (nI axx_2), .int (nI axx_2), .int (nI ht), .int (nI ct), .ref Rv])), (Tp, .inl (g 0, 160, .inl ftp))] H := ⟨hP2, hD2⟩
    have hS := hS2; clear hP2 hD2 hS2; have hP := hPD.1; have hD := hPD.2; clear hPD
    refine lv_iconst (v := (-1)) hx hb dX4_readHead_45 (by decide) ?_
    have hP9 := hP; have hD9 := hD
    subst hQ
    refine W.widen (k := 0) (n := 0) (Nat.le_of_ble_eq_true rfl) (Nat.le_of_ble_eq_true rfl) ?_
    exact W.iret (v := (-1)) hx hb hr (fun tS htS _ => ⟨⟨_, _, rfl, ⟨axx_2, (nI axx_2), ht, ct, (-1), rfl, rfl, ⟨(show axx_2 ≤ ln by omega), (show ht ≤ 3 by omega), (show ct ≤ 3 by omega), (hdR_0 (show axx_2 = sB ftp ln ax by omega) (show ¬ axx_2 < ln by omega)).symm, (Or.inl ⟨rfl, congrArg nI (show axx_2 = sB ftp ln ax by omega)⟩)⟩⟩, by rw [htS]; exact hP9, hD9⟩, hS.F htS⟩) hS.2.2 dX4_readHead_46
  · skip
    have cn_7 : axx_2 < ln := Nat.lt_of_not_le (fun q9 => cb_5 ((nI_leI (show ln < 2 ^ 31 by omega) (show axx_2 < 2 ^ 31 by omega)).mpr q9))
    refine lv_aload_n hx hb dX4_readHead_17 rfl (lv_at hl 1 rfl) ?_
    refine lv_aload_n hx hb dX4_readHead_18 rfl (lv_at hl 1 rfl) ?_
    refine va_get (D := D) (ci := 4) (v := .ref Tp) (C := RX4) (T := TX4) (N := 7) hx hb hts iX4 hown hK hP 0 rfl rfl 0 (by decide) f9 (fun _ h9 => h9) rfl dX4_readHead_19 ?_
    refine lv_aload_n hx hb dX4_readHead_22 rfl (lv_at hl 1 rfl) ?_
    refine va_get (D := D) (ci := 4) (v := .int (nI axx_2)) (C := RX4) (T := TX4) (N := 7) hx hb hts iX4 hown hK hP 0 rfl rfl 2 (by decide) f28 (fun _ h9 => h9) rfl dX4_readHead_23 ?_
    refine va_iald hx hb hK hP 1 0 rfl rfl (vp_in_nI (show axx_2 < 160 by omega) (by decide)) dX4_readHead_26 ?_
    refine lv_eqi (y := (ftp (axx_2))) (congrArg ftp (nI_clamp (show axx_2 < 2 ^ 31 by omega))) ?_
    refine lv_iload_n hx hb dX4_readHead_27 rfl (lv_at hl 2 rfl) ?_
    refine ky_Vi (As := [.int (ftp (axx_2)), .int zf]) (rest := []) ⟨hx, hb, hml, hown, hts⟩ ⟨hK, hN⟩ hZ hP hD hS hA [0] [1] (wc := [(Rd, .inr (4, [.ref Tp, .int (nI ln), .int (nI axx_2), .int (-1), .int (nI ht), .int (nI ct), .ref Rv]))]) (wr := [(Tp, .inl (g 0, 160, .inl ftp))]) rfl rfl rfl rfl (by decide) (r_X4_clauseOf l D g H.size Rd (ftp (axx_2)) zf Tp ln axx_2 (-1) ht ct Rv (show ht ≤ 3 by omega) (show ct ≤ 3 by omega)) (cwV 2 hts gX4_readHead_X4_clauseOf rfl rfl rfl (by decide +kernel) ⟨(Nat.le_of_ble_eq_true rfl), (Nat.le_of_ble_eq_true rfl)⟩) 0 4 rfl rfl rfl rfl hl.1 rfl (Nat.le_of_ble_eq_true rfl) dX4_readHead_28 ⟨(Nat.le_of_ble_eq_true rfl), (Nat.le_of_ble_eq_true rfl)⟩ (fun r_8 u H locs hw hP2 hD2 hS2 => ?_)
    clear hP hD hS
    obtain ⟨htx_9, ctx_10, zr_11, rfl, rfl, hf_12, hf_13, hf_14⟩ := hw
    have hPD : PD D A [(Tp, .inl (g 0, 160, .inl ftp)), (Rd, .inr (4, [.ref Tp, .int (nI ln), .int (nI axx_2), .int (-1), .int (nI htx_9), .int (nI ctx_10), .ref Rv]))] H := ⟨hP2, hD2⟩
    have hS := hS2; clear hP2 hD2 hS2; have hP := hPD.1; have hD := hPD.2; clear hPD
    refine W.widen (k := 0) (n := 0) (Nat.le_of_ble_eq_true rfl) (Nat.le_of_ble_eq_true rfl) ?_
    refine lv_istore_n (lv' := [(2, .int r_8), (0, .ref Rd), (1, .int zf)]) hx hb dX4_readHead_31 rfl hl (by decide) rfl (fun ls hl => ?_)
    refine lv_iload_n hx hb dX4_readHead_32 rfl (lv_at hl 0 rfl) ?_
    refine lv_iconst (v := (-1)) hx hb dX4_readHead_33 (by decide) ?_
    refine lv_icmp_ne (tgt := 47) hx hb dX4_readHead_34 (by decide) (fun cb_15 => ?_) (fun cb_15 => ?_)
    · skip
      refine lv_aload_n hx hb dX4_readHead_47 rfl (lv_at hl 1 rfl) ?_
      refine lv_dup hx hb dX4_readHead_48 rfl ?_
      refine va_get (D := D) (ci := 4) (v := .int (nI axx_2)) (C := RX4) (T := TX4) (N := 7) hx hb hts iX4 hown hK hP 1 rfl rfl 2 (by decide) f28 (fun _ h9 => h9) rfl dX4_readHead_49 ?_
      refine lv_iconst (v := 1) hx hb dX4_readHead_52 (by decide) ?_
      refine lv_iadd hx hb dX4_readHead_53 ?_
      refine lv_eqi (y := (nI (axx_2 + 1))) (nI_add (axx_2) (1)) ?_
      refine va_put (D := D) (ci := 4) (v := .int (nI (axx_2 + 1))) (ty := .int) (C := RX4) (T := TX4) (N := 7) hx hb hts iX4 tyX4 tyX4_ok nmX4 hown hK hP hD hS 1 rfl rfl 2 (by decide) f28 (fun _ h9 => h9) rfl (by decide +kernel) (rfl) (rfl) (Nat.le_of_ble_eq_true rfl) dX4_readHead_54 (fun H locs hP2 hD2 hS2 => ?_)
      clear hP hD hS
      have hPD : PD D A [(Tp, .inl (g 0, 160, .inl ftp)), (Rd, .inr (4, [.ref Tp, .int (nI ln), .int (nI (axx_2 + 1)), .int (-1), .int (nI htx_9), .int (nI ctx_10), .ref Rv]))] H := ⟨hP2, hD2⟩
      have hS := hS2; clear hP2 hD2 hS2; have hP := hPD.1; have hD := hPD.2; clear hPD
      refine lv_iload_n hx hb dX4_readHead_57 rfl (lv_at hl 0 rfl) ?_
      have hPD9 : PD D A [(Rd, .inr (4, [.ref Tp, .int (nI ln), .int (nI (axx_2 + 1)), .int (-1), .int (nI htx_9), .int (nI ctx_10), .ref Rv])), (Tp, .inl (g 0, 160, .inl ftp))] H := ⟨hP.sub [1, 0] rfl, hD.sub [1, 0] (by decide) rfl⟩
      have hP9 := hPD9.1; have hD9 := hPD9.2
      subst hQ
      refine W.widen (k := 0) (n := 0) (Nat.le_of_ble_eq_true rfl) (Nat.le_of_ble_eq_true rfl) ?_
      exact W.iret (v := r_8) hx hb hr (fun tS htS _ => ⟨⟨_, _, rfl, ⟨(axx_2 + 1), (-1), htx_9, ctx_10, r_8, rfl, rfl, ⟨(show (axx_2 + 1) ≤ ln by omega), (show htx_9 ≤ 3 by omega), (show ctx_10 ≤ 3 by omega), (hf_14.trans (hdR_1 (show axx_2 = sB ftp ln ax by omega) (show axx_2 < ln by omega)).symm), (Or.inr ⟨cb_15, rfl, show axx_2 + 1 = sB ftp ln ax + 1 by omega⟩)⟩⟩, by rw [htS]; exact hP9, hD9⟩, hS.F htS⟩) hS.2.2 dX4_readHead_58
    · skip
      refine lv_aload_n hx hb dX4_readHead_37 rfl (lv_at hl 1 rfl) ?_
      refine lv_aload_n hx hb dX4_readHead_38 rfl (lv_at hl 1 rfl) ?_
      refine va_get (D := D) (ci := 4) (v := .int (nI axx_2)) (C := RX4) (T := TX4) (N := 7) hx hb hts iX4 hown hK hP 1 rfl rfl 2 (by decide) f28 (fun _ h9 => h9) rfl dX4_readHead_39 ?_
      refine va_put (D := D) (ci := 4) (v := .int (nI axx_2)) (ty := .int) (C := RX4) (T := TX4) (N := 7) hx hb hts iX4 tyX4 tyX4_ok nmX4 hown hK hP hD hS 1 rfl rfl 3 (by decide) f31 (fun _ h9 => h9) rfl (by decide +kernel) (rfl) (rfl) (Nat.le_of_ble_eq_true rfl) dX4_readHead_42 (fun H locs hP2 hD2 hS2 => ?_)
      clear hP hD hS
      have hPD : PD D A [(Tp, .inl (g 0, 160, .inl ftp)), (Rd, .inr (4, [.ref Tp, .int (nI ln), .int (nI axx_2), .int (nI axx_2), .int (nI htx_9), .int (nI ctx_10), .ref Rv]))] H := ⟨hP2, hD2⟩
      have hS := hS2; clear hP2 hD2 hS2; have hP := hPD.1; have hD := hPD.2; clear hPD
      refine lv_iconst (v := (-1)) hx hb dX4_readHead_45 (by decide) ?_
      have hPD9 : PD D A [(Rd, .inr (4, [.ref Tp, .int (nI ln), .int (nI axx_2), .int (nI axx_2), .int (nI htx_9), .int (nI ctx_10), .ref Rv])), (Tp, .inl (g 0, 160, .inl ftp))] H := ⟨hP.sub [1, 0] rfl, hD.sub [1, 0] (by decide) rfl⟩
      have hP9 := hPD9.1; have hD9 := hPD9.2
      subst hQ
      refine W.widen (k := 0) (n := 0) (Nat.le_of_ble_eq_true rfl) (Nat.le_of_ble_eq_true rfl) ?_
      exact W.iret (v := (-1)) hx hb hr (fun tS htS _ => ⟨⟨_, _, rfl, ⟨axx_2, (nI axx_2), htx_9, ctx_10, (-1), rfl, rfl, ⟨(show axx_2 ≤ ln by omega), (show htx_9 ≤ 3 by omega), (show ctx_10 ≤ 3 by omega), (by rw [hdR_1 (show axx_2 = sB ftp ln ax by omega) (show axx_2 < ln by omega), ← hf_14, cb_15]), (Or.inl ⟨rfl, congrArg nI (show axx_2 = sB ftp ln ax by omega)⟩)⟩⟩, by rw [htS]; exact hP9, hD9⟩, hS.F htS⟩) hS.2.2 dX4_readHead_46
