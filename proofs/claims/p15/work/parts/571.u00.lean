set_option maxHeartbeats 4000000 in
set_option maxRecDepth 100000 in
theorem w_X4_setUsual (l : Launch) (D : va_G) (g : Nat → ClassId) (sz : Nat) (Rd : Nat) (Rq : Nat) (fr : Nat → Int32) (Rv : Nat) (fval : Nat → Int32) (h0 : vOK fval) : Met l yX4_setUsual wsX4_setUsual ({ frames := 1, cells := 0, slots := 0, locals := 20 }) (va_Pc [.ref Rd] (pre D g sz [(Rd, .inr (4, [.ref Rq, .int (fr 1), .int (fr 2), .int (fr 3), .int (fr 4), .int (fr 5), .ref Rv])), (Rv, .inl (g 0, 21, .inl fval))])) (va_Qv (fun (u : va_W) => ∃ (fvalx : Nat → Int32), u = [(Rd, .inr (4, [.ref Rq, .int (fr 1), .int (fr 2), .int (fr 3), .int (fr 4), .int (fr 5), .ref Rv])), (Rv, .inl (g 0, 21, .inl fvalx))] ∧ (vOK fvalx) ∧ (V21 fvalx us21)) (wd D (va_A [(Rd, .inr (4, [.ref Rq, .int (fr 1), .int (fr 2), .int (fr 3), .int (fr 4), .int (fr 5), .ref Rv])), (Rv, .inl (g 0, 21, .inl fval))] sz)) (va_A [(Rd, .inr (4, [.ref Rq, .int (fr 1), .int (fr 2), .int (fr 3), .int (fr 4), .int (fr 5), .ref Rv])), (Rv, .inl (g 0, 21, .inl fval))] sz)) 0 0 (va_A [(Rd, .inr (4, [.ref Rq, .int (fr 1), .int (fr 2), .int (fr 3), .int (fr 4), .int (fr 5), .ref Rv])), (Rv, .inl (g 0, 21, .inl fval))] sz) := by
  refine Met.ofW (cc := cX4_setUsual) (maxL := 3) (ret := none) (by decide) rfl ?_
  intro p e s m args below meth c s₁ B hml hv
  obtain ⟨rfl, hsz, hP, ⟨hK, hN⟩, hD0, hZ⟩ := hv
  have hx := B.exec
  have hb := B.bytes
  have hr := B.returns
  have hts := atoms_spec (ws := wsX4_setUsual) B.pre
  have hown : s.vm.findClass RX4 = some m.cls := findClass_of_methodNamed B.named
  have hlocks := B.notSynchronized
  clear B
  subst hsz
  have hD := hD0.self (sz := s.heap.size)
  clear hD0
  generalize hAe : va_A [(Rd, .inr (4, [.ref Rq, .int (fr 1), .int (fr 2), .int (fr 3), .int (fr 4), .int (fr 5), .ref Rv])), (Rv, .inl (g 0, 21, .inl fval))] s.heap.size = A at hD hZ ⊢
  have hA : ∀ q : Nat, s.heap.size ≤ q → A q := fun q h => by rw [← hAe]; exact Or.inr h
  have hS : va_S A s.heap s.heap [] := va_S.rf
  have f15 := hts (.fieldLink RX4 15 "HopCredits$Reading" "values" "[I") (List.mem_of_getElem? (i := 1) rfl)
  have f47 := hts (.fieldLink RX4 47 "HopCredits$Reading" "USUAL" "[I") (List.mem_of_getElem? (i := 2) rfl)
  have iX4 : ∀ w ∈ u_ws RX4 TX4 7, w ∈ wsX4_setUsual := fun w h => List.mem_cons_of_mem _ (List.mem_append_right _ (h))
  have hl := lv_entry ([.ref Rd]) (n := 3) (Nat.le_of_ble_eq_true rfl)
  rw [lg_entry_eq]
  generalize (lg_sl ([.ref Rd]) ++ List.replicate (3 - (lg_sl ([.ref Rd])).length) Slot.unset).toArray = ls at hl ⊢
  have hl : lv_has ls 3 [(0, .ref Rd)] := hl
  generalize hQ : MQ below _ _ s _ _ _ = Q
  generalize hH : s.heap = H at hP ⊢
  have hS : va_S A s.heap H [] := by rw [← hH]; exact hS
  clear hH
  refine lv_iconst (v := 0) hx hb dX4_setUsual_0 (by decide) ?_
  refine lv_istore_n (lv' := [(1, .int 0), (0, .ref Rd)]) hx hb dX4_setUsual_1 rfl hl (by decide) rfl (fun ls hl => ?_)
  refine lv_iload_n hx hb dX4_setUsual_2 rfl (lv_at hl 0 rfl) ?_
  refine lv_bipush (v := 7) hx hb dX4_setUsual_3 (by decide) ?_
  refine lv_icmp_ge (tgt := 49) hx hb dX4_setUsual_5 (by decide) (fun cb => absurd cb (by decide)) (fun _ => ?_)
  refine lv_iconst (v := 0) hx hb dX4_setUsual_8 (by decide) ?_
  refine lv_istore_n (lv' := [(2, .int 0), (1, .int 0), (0, .ref Rd)]) hx hb dX4_setUsual_9 rfl hl (by decide) rfl (fun ls hl => ?_)
  refine lv_iload_n hx hb dX4_setUsual_10 rfl (lv_at hl 0 rfl) ?_
  refine lv_iconst (v := 3) hx hb dX4_setUsual_11 (by decide) ?_
  refine lv_icmp_ge (tgt := 43) hx hb dX4_setUsual_12 (by decide) (fun cb => absurd cb (by decide)) (fun _ => ?_)
  refine lv_aload_n hx hb dX4_setUsual_15 rfl (lv_at hl 2 rfl) ?_
  refine va_get (D := D) (ci := 4) (v := .ref Rv) (C := RX4) (T := TX4) (N := 7) hx hb hts iX4 hown hK hP 0 rfl rfl 6 (by decide) f15 (fun _ h9 => h9) rfl dX4_setUsual_16 ?_
  refine lv_iload_n hx hb dX4_setUsual_19 rfl (lv_at hl 1 rfl) ?_
  refine lv_iconst (v := 3) hx hb dX4_setUsual_20 (by decide) ?_
  refine lv_imul hx hb dX4_setUsual_21 ?_
  refine lv_eqi (y := 0) (by decide) ?_
  refine lv_iload_n hx hb dX4_setUsual_22 rfl (lv_at hl 0 rfl) ?_
  refine lv_iadd hx hb dX4_setUsual_23 ?_
  refine lv_eqi (y := 0) (by decide) ?_
  refine va_gets hx hb hZ.1 hS hown f47 (fun _ h9 => h9) dX4_setUsual_24 ?_
  refine lv_iload_n hx hb dX4_setUsual_27 rfl (lv_at hl 1 rfl) ?_
  refine ky_Si (As := [.int 0]) (rest := [.ref (g 10), .int 0, .ref Rv]) ⟨hx, hb, hml, hown, hts⟩ ⟨hK, hN⟩ hZ hP hD hS hA [] [0, 1] (wc := []) (wr := [(Rd, .inr (4, [.ref Rq, .int (fr 1), .int (fr 2), .int (fr 3), .int (fr 4), .int (fr 5), .ref Rv])), (Rv, .inl (g 0, 21, .inl fval))]) rfl rfl rfl rfl (by decide) (k_X4_kindOf_0 l D g H.size) (va_cwS 1 hts gX4_setUsual_X4_kindOf rfl rfl rfl (by decide +kernel) ⟨(Nat.le_of_ble_eq_true rfl), (Nat.le_of_ble_eq_true rfl)⟩) rfl hl.1 rfl (Nat.le_of_ble_eq_true rfl) dX4_setUsual_28 ⟨(Nat.le_of_ble_eq_true rfl), (Nat.le_of_ble_eq_true rfl)⟩ (fun r_1 u H locs hw hP2 hD2 hS2 => ?_)
  clear hP hD hS
  obtain ⟨rfl, rfl⟩ := hw
  have hPD : PD D A [(Rd, .inr (4, [.ref Rq, .int (fr 1), .int (fr 2), .int (fr 3), .int (fr 4), .int (fr 5), .ref Rv])), (Rv, .inl (g 0, 21, .inl fval))] H := ⟨hP2, hD2⟩
  have hS := hS2; clear hP2 hD2 hS2; have hP := hPD.1; have hD := hPD.2; clear hPD
  refine W.widen (k := 0) (n := 0) (Nat.le_of_ble_eq_true rfl) (Nat.le_of_ble_eq_true rfl) ?_
  refine lv_iconst (v := 3) hx hb dX4_setUsual_31 (by decide) ?_
  refine lv_imul hx hb dX4_setUsual_32 ?_
  refine lv_eqi (y := 0) (by decide) ?_
  refine lv_iload_n hx hb dX4_setUsual_33 rfl (lv_at hl 0 rfl) ?_
  refine lv_iadd hx hb dX4_setUsual_34 ?_
  refine lv_eqi (y := 0) (by decide) ?_
  refine va_ti (v := .int 1) hx hb hZ.2.1 hS (by unfold vp_in; decide) rfl dX4_setUsual_35 ?_
  refine va_iast hx hb hK hP hD hS 1 0 rfl rfl (by unfold vp_in; decide) dX4_setUsual_36 (fun H locs hP2 hD2 hS2 => ?_)
  clear hP hD hS
  have hPD : PD D A [(Rd, .inr (4, [.ref Rq, .int (fr 1), .int (fr 2), .int (fr 3), .int (fr 4), .int (fr 5), .ref Rv])), (Rv, .inl (g 0, 21, .inl (upd fval 0 1)))] H := ⟨hP2, hD2⟩
  have hS := hS2; clear hP2 hD2 hS2; have hP := hPD.1; have hD := hPD.2; clear hPD
  refine lv_iinc (v := 1) (lv' := [(2, .int 1), (1, .int 0), (0, .ref Rd)]) hx hb dX4_setUsual_37 hl (k := 0) rfl (by decide) (by decide) rfl (fun ls hl => ?_)
  refine lv_goto (tgt := 10) hx hb dX4_setUsual_40 (by decide) ?_
  refine lv_iload_n hx hb dX4_setUsual_10 rfl (lv_at hl 0 rfl) ?_
  refine lv_iconst (v := 3) hx hb dX4_setUsual_11 (by decide) ?_
  refine lv_icmp_ge (tgt := 43) hx hb dX4_setUsual_12 (by decide) (fun cb => absurd cb (by decide)) (fun _ => ?_)
  refine lv_aload_n hx hb dX4_setUsual_15 rfl (lv_at hl 2 rfl) ?_
  refine va_get (D := D) (ci := 4) (v := .ref Rv) (C := RX4) (T := TX4) (N := 7) hx hb hts iX4 hown hK hP 0 rfl rfl 6 (by decide) f15 (fun _ h9 => h9) rfl dX4_setUsual_16 ?_
  refine lv_iload_n hx hb dX4_setUsual_19 rfl (lv_at hl 1 rfl) ?_
  refine lv_iconst (v := 3) hx hb dX4_setUsual_20 (by decide) ?_
  refine lv_imul hx hb dX4_setUsual_21 ?_
  refine lv_eqi (y := 0) (by decide) ?_
  refine lv_iload_n hx hb dX4_setUsual_22 rfl (lv_at hl 0 rfl) ?_
  refine lv_iadd hx hb dX4_setUsual_23 ?_
  refine lv_eqi (y := 1) (by decide) ?_
  refine va_gets hx hb hZ.1 hS hown f47 (fun _ h9 => h9) dX4_setUsual_24 ?_
  refine lv_iload_n hx hb dX4_setUsual_27 rfl (lv_at hl 1 rfl) ?_
  refine ky_Si (As := [.int 0]) (rest := [.ref (g 10), .int 1, .ref Rv]) ⟨hx, hb, hml, hown, hts⟩ ⟨hK, hN⟩ hZ hP hD hS hA [] [0, 1] (wc := []) (wr := [(Rd, .inr (4, [.ref Rq, .int (fr 1), .int (fr 2), .int (fr 3), .int (fr 4), .int (fr 5), .ref Rv])), (Rv, .inl (g 0, 21, .inl (upd fval 0 1)))]) rfl rfl rfl rfl (by decide) (k_X4_kindOf_0 l D g H.size) (va_cwS 1 hts gX4_setUsual_X4_kindOf rfl rfl rfl (by decide +kernel) ⟨(Nat.le_of_ble_eq_true rfl), (Nat.le_of_ble_eq_true rfl)⟩) rfl hl.1 rfl (Nat.le_of_ble_eq_true rfl) dX4_setUsual_28 ⟨(Nat.le_of_ble_eq_true rfl), (Nat.le_of_ble_eq_true rfl)⟩ (fun r_2 u H locs hw hP2 hD2 hS2 => ?_)
  clear hP hD hS
  obtain ⟨rfl, rfl⟩ := hw
  have hPD : PD D A [(Rd, .inr (4, [.ref Rq, .int (fr 1), .int (fr 2), .int (fr 3), .int (fr 4), .int (fr 5), .ref Rv])), (Rv, .inl (g 0, 21, .inl (upd fval 0 1)))] H := ⟨hP2, hD2⟩
  have hS := hS2; clear hP2 hD2 hS2; have hP := hPD.1; have hD := hPD.2; clear hPD
  refine W.widen (k := 0) (n := 0) (Nat.le_of_ble_eq_true rfl) (Nat.le_of_ble_eq_true rfl) ?_
  refine lv_iconst (v := 3) hx hb dX4_setUsual_31 (by decide) ?_
  refine lv_imul hx hb dX4_setUsual_32 ?_
  refine lv_eqi (y := 0) (by decide) ?_
  refine lv_iload_n hx hb dX4_setUsual_33 rfl (lv_at hl 0 rfl) ?_
  refine lv_iadd hx hb dX4_setUsual_34 ?_
  refine lv_eqi (y := 1) (by decide) ?_
  refine va_ti (v := .int 0) hx hb hZ.2.1 hS (by unfold vp_in; decide) rfl dX4_setUsual_35 ?_
  refine va_iast hx hb hK hP hD hS 1 0 rfl rfl (by unfold vp_in; decide) dX4_setUsual_36 (fun H locs hP2 hD2 hS2 => ?_)
  clear hP hD hS
  have hPD : PD D A [(Rd, .inr (4, [.ref Rq, .int (fr 1), .int (fr 2), .int (fr 3), .int (fr 4), .int (fr 5), .ref Rv])), (Rv, .inl (g 0, 21, .inl (upd (upd fval 0 1) 1 0)))] H := ⟨hP2, hD2⟩
  have hS := hS2; clear hP2 hD2 hS2; have hP := hPD.1; have hD := hPD.2; clear hPD
  refine lv_iinc (v := 2) (lv' := [(2, .int 2), (1, .int 0), (0, .ref Rd)]) hx hb dX4_setUsual_37 hl (k := 0) rfl (by decide) (by decide) rfl (fun ls hl => ?_)
  refine lv_goto (tgt := 10) hx hb dX4_setUsual_40 (by decide) ?_
  refine lv_iload_n hx hb dX4_setUsual_10 rfl (lv_at hl 0 rfl) ?_
  refine lv_iconst (v := 3) hx hb dX4_setUsual_11 (by decide) ?_
  refine lv_icmp_ge (tgt := 43) hx hb dX4_setUsual_12 (by decide) (fun cb => absurd cb (by decide)) (fun _ => ?_)
  refine lv_aload_n hx hb dX4_setUsual_15 rfl (lv_at hl 2 rfl) ?_
  refine va_get (D := D) (ci := 4) (v := .ref Rv) (C := RX4) (T := TX4) (N := 7) hx hb hts iX4 hown hK hP 0 rfl rfl 6 (by decide) f15 (fun _ h9 => h9) rfl dX4_setUsual_16 ?_
  refine lv_iload_n hx hb dX4_setUsual_19 rfl (lv_at hl 1 rfl) ?_
  refine lv_iconst (v := 3) hx hb dX4_setUsual_20 (by decide) ?_
  refine lv_imul hx hb dX4_setUsual_21 ?_
  refine lv_eqi (y := 0) (by decide) ?_
  refine lv_iload_n hx hb dX4_setUsual_22 rfl (lv_at hl 0 rfl) ?_
  refine lv_iadd hx hb dX4_setUsual_23 ?_
  refine lv_eqi (y := 2) (by decide) ?_
  refine va_gets hx hb hZ.1 hS hown f47 (fun _ h9 => h9) dX4_setUsual_24 ?_
  refine lv_iload_n hx hb dX4_setUsual_27 rfl (lv_at hl 1 rfl) ?_
  refine ky_Si (As := [.int 0]) (rest := [.ref (g 10), .int 2, .ref Rv]) ⟨hx, hb, hml, hown, hts⟩ ⟨hK, hN⟩ hZ hP hD hS hA [] [0, 1] (wc := []) (wr := [(Rd, .inr (4, [.ref Rq, .int (fr 1), .int (fr 2), .int (fr 3), .int (fr 4), .int (fr 5), .ref Rv])), (Rv, .inl (g 0, 21, .inl (upd (upd fval 0 1) 1 0)))]) rfl rfl rfl rfl (by decide) (k_X4_kindOf_0 l D g H.size) (va_cwS 1 hts gX4_setUsual_X4_kindOf rfl rfl rfl (by decide +kernel) ⟨(Nat.le_of_ble_eq_true rfl), (Nat.le_of_ble_eq_true rfl)⟩) rfl hl.1 rfl (Nat.le_of_ble_eq_true rfl) dX4_setUsual_28 ⟨(Nat.le_of_ble_eq_true rfl), (Nat.le_of_ble_eq_true rfl)⟩ (fun r_3 u H locs hw hP2 hD2 hS2 => ?_)
  clear hP hD hS
  obtain ⟨rfl, rfl⟩ := hw
  have hPD : PD D A [(Rd, .inr (4, [.ref Rq, .int (fr 1), .int (fr 2), .int (fr 3), .int (fr 4), .int (fr 5), .ref Rv])), (Rv, .inl (g 0, 21, .inl (upd (upd fval 0 1) 1 0)))] H := ⟨hP2, hD2⟩
  have hS := hS2; clear hP2 hD2 hS2; have hP := hPD.1; have hD := hPD.2; clear hPD
  refine W.widen (k := 0) (n := 0) (Nat.le_of_ble_eq_true rfl) (Nat.le_of_ble_eq_true rfl) ?_
  refine lv_iconst (v := 3) hx hb dX4_setUsual_31 (by decide) ?_
  refine lv_imul hx hb dX4_setUsual_32 ?_
  refine lv_eqi (y := 0) (by decide) ?_
  refine lv_iload_n hx hb dX4_setUsual_33 rfl (lv_at hl 0 rfl) ?_
  refine lv_iadd hx hb dX4_setUsual_34 ?_
  refine lv_eqi (y := 2) (by decide) ?_
  refine va_ti (v := .int 0) hx hb hZ.2.1 hS (by unfold vp_in; decide) rfl dX4_setUsual_35 ?_
  refine va_iast hx hb hK hP hD hS 1 0 rfl rfl (by unfold vp_in; decide) dX4_setUsual_36 (fun H locs hP2 hD2 hS2 => ?_)
  clear hP hD hS
  have hPD : PD D A [(Rd, .inr (4, [.ref Rq, .int (fr 1), .int (fr 2), .int (fr 3), .int (fr 4), .int (fr 5), .ref Rv])), (Rv, .inl (g 0, 21, .inl (upd (upd (upd fval 0 1) 1 0) 2 0)))] H := ⟨hP2, hD2⟩
  have hS := hS2; clear hP2 hD2 hS2; have hP := hPD.1; have hD := hPD.2; clear hPD
  refine lv_iinc (v := 3) (lv' := [(2, .int 3), (1, .int 0), (0, .ref Rd)]) hx hb dX4_setUsual_37 hl (k := 0) rfl (by decide) (by decide) rfl (fun ls hl => ?_)
  refine lv_goto (tgt := 10) hx hb dX4_setUsual_40 (by decide) ?_
  refine lv_iload_n hx hb dX4_setUsual_10 rfl (lv_at hl 0 rfl) ?_
  refine lv_iconst (v := 3) hx hb dX4_setUsual_11 (by decide) ?_
  refine lv_icmp_ge (tgt := 43) hx hb dX4_setUsual_12 (by decide) (fun _ => ?_) (fun cb => absurd (by decide) cb)
  refine lv_iinc (v := 1) (lv' := [(1, .int 1), (2, .int 3), (0, .ref Rd)]) hx hb dX4_setUsual_43 hl (k := 1) rfl (by decide) (by decide) rfl (fun ls hl => ?_)
  refine lv_goto (tgt := 2) hx hb dX4_setUsual_46 (by decide) ?_
  refine lv_iload_n hx hb dX4_setUsual_2 rfl (lv_at hl 0 rfl) ?_
  refine lv_bipush (v := 7) hx hb dX4_setUsual_3 (by decide) ?_
  refine lv_icmp_ge (tgt := 49) hx hb dX4_setUsual_5 (by decide) (fun cb => absurd cb (by decide)) (fun _ => ?_)
  refine lv_iconst (v := 0) hx hb dX4_setUsual_8 (by decide) ?_
  refine lv_istore_n (lv' := [(2, .int 0), (1, .int 1), (0, .ref Rd)]) hx hb dX4_setUsual_9 rfl hl (by decide) rfl (fun ls hl => ?_)
  refine lv_iload_n hx hb dX4_setUsual_10 rfl (lv_at hl 0 rfl) ?_
  refine lv_iconst (v := 3) hx hb dX4_setUsual_11 (by decide) ?_
  refine lv_icmp_ge (tgt := 43) hx hb dX4_setUsual_12 (by decide) (fun cb => absurd cb (by decide)) (fun _ => ?_)
  refine lv_aload_n hx hb dX4_setUsual_15 rfl (lv_at hl 2 rfl) ?_
  refine va_get (D := D) (ci := 4) (v := .ref Rv) (C := RX4) (T := TX4) (N := 7) hx hb hts iX4 hown hK hP 0 rfl rfl 6 (by decide) f15 (fun _ h9 => h9) rfl dX4_setUsual_16 ?_
  refine lv_iload_n hx hb dX4_setUsual_19 rfl (lv_at hl 1 rfl) ?_
  refine lv_iconst (v := 3) hx hb dX4_setUsual_20 (by decide) ?_
  refine lv_imul hx hb dX4_setUsual_21 ?_
  refine lv_eqi (y := 3) (by decide) ?_
  refine lv_iload_n hx hb dX4_setUsual_22 rfl (lv_at hl 0 rfl) ?_
  refine lv_iadd hx hb dX4_setUsual_23 ?_
  refine lv_eqi (y := 3) (by decide) ?_
  refine va_gets hx hb hZ.1 hS hown f47 (fun _ h9 => h9) dX4_setUsual_24 ?_
  refine lv_iload_n hx hb dX4_setUsual_27 rfl (lv_at hl 1 rfl) ?_
  refine ky_Si (As := [.int 1]) (rest := [.ref (g 10), .int 3, .ref Rv]) ⟨hx, hb, hml, hown, hts⟩ ⟨hK, hN⟩ hZ hP hD hS hA [] [0, 1] (wc := []) (wr := [(Rd, .inr (4, [.ref Rq, .int (fr 1), .int (fr 2), .int (fr 3), .int (fr 4), .int (fr 5), .ref Rv])), (Rv, .inl (g 0, 21, .inl (upd (upd (upd fval 0 1) 1 0) 2 0)))]) rfl rfl rfl rfl (by decide) (k_X4_kindOf_1 l D g H.size) (va_cwS 1 hts gX4_setUsual_X4_kindOf rfl rfl rfl (by decide +kernel) ⟨(Nat.le_of_ble_eq_true rfl), (Nat.le_of_ble_eq_true rfl)⟩) rfl hl.1 rfl (Nat.le_of_ble_eq_true rfl) dX4_setUsual_28 ⟨(Nat.le_of_ble_eq_true rfl), (Nat.le_of_ble_eq_true rfl)⟩ (fun r_4 u H locs hw hP2 hD2 hS2 => ?_)
  clear hP hD hS
  obtain ⟨rfl, rfl⟩ := hw
  have hPD : PD D A [(Rd, .inr (4, [.ref Rq, .int (fr 1), .int (fr 2), .int (fr 3), .int (fr 4), .int (fr 5), .ref Rv])), (Rv, .inl (g 0, 21, .inl (upd (upd (upd fval 0 1) 1 0) 2 0)))] H := ⟨hP2, hD2⟩
  have hS := hS2; clear hP2 hD2 hS2; have hP := hPD.1; have hD := hPD.2; clear hPD
  refine W.widen (k := 0) (n := 0) (Nat.le_of_ble_eq_true rfl) (Nat.le_of_ble_eq_true rfl) ?_
  refine lv_iconst (v := 3) hx hb dX4_setUsual_31 (by decide) ?_
  refine lv_imul hx hb dX4_setUsual_32 ?_
  refine lv_eqi (y := 3) (by decide) ?_
  refine lv_iload_n hx hb dX4_setUsual_33 rfl (lv_at hl 0 rfl) ?_
  refine lv_iadd hx hb dX4_setUsual_34 ?_
  refine lv_eqi (y := 3) (by decide) ?_
  refine va_ti (v := .int 1) hx hb hZ.2.1 hS (by unfold vp_in; decide) rfl dX4_setUsual_35 ?_
  refine va_iast hx hb hK hP hD hS 1 0 rfl rfl (by unfold vp_in; decide) dX4_setUsual_36 (fun H locs hP2 hD2 hS2 => ?_)
  clear hP hD hS
  have hPD : PD D A [(Rd, .inr (4, [.ref Rq, .int (fr 1), .int (fr 2), .int (fr 3), .int (fr 4), .int (fr 5), .ref Rv])), (Rv, .inl (g 0, 21, .inl (upd (upd (upd (upd fval 0 1) 1 0) 2 0) 3 1)))] H := ⟨hP2, hD2⟩
  have hS := hS2; clear hP2 hD2 hS2; have hP := hPD.1; have hD := hPD.2; clear hPD
  refine lv_iinc (v := 1) (lv' := [(2, .int 1), (1, .int 1), (0, .ref Rd)]) hx hb dX4_setUsual_37 hl (k := 0) rfl (by decide) (by decide) rfl (fun ls hl => ?_)
  refine lv_goto (tgt := 10) hx hb dX4_setUsual_40 (by decide) ?_
  refine lv_iload_n hx hb dX4_setUsual_10 rfl (lv_at hl 0 rfl) ?_
  refine lv_iconst (v := 3) hx hb dX4_setUsual_11 (by decide) ?_
  refine lv_icmp_ge (tgt := 43) hx hb dX4_setUsual_12 (by decide) (fun cb => absurd cb (by decide)) (fun _ => ?_)
  refine lv_aload_n hx hb dX4_setUsual_15 rfl (lv_at hl 2 rfl) ?_
  refine va_get (D := D) (ci := 4) (v := .ref Rv) (C := RX4) (T := TX4) (N := 7) hx hb hts iX4 hown hK hP 0 rfl rfl 6 (by decide) f15 (fun _ h9 => h9) rfl dX4_setUsual_16 ?_
  refine lv_iload_n hx hb dX4_setUsual_19 rfl (lv_at hl 1 rfl) ?_
  refine lv_iconst (v := 3) hx hb dX4_setUsual_20 (by decide) ?_
  refine lv_imul hx hb dX4_setUsual_21 ?_
  refine lv_eqi (y := 3) (by decide) ?_
  refine lv_iload_n hx hb dX4_setUsual_22 rfl (lv_at hl 0 rfl) ?_
  refine lv_iadd hx hb dX4_setUsual_23 ?_
  refine lv_eqi (y := 4) (by decide) ?_
  refine va_gets hx hb hZ.1 hS hown f47 (fun _ h9 => h9) dX4_setUsual_24 ?_
  refine lv_iload_n hx hb dX4_setUsual_27 rfl (lv_at hl 1 rfl) ?_
  refine ky_Si (As := [.int 1]) (rest := [.ref (g 10), .int 4, .ref Rv]) ⟨hx, hb, hml, hown, hts⟩ ⟨hK, hN⟩ hZ hP hD hS hA [] [0, 1] (wc := []) (wr := [(Rd, .inr (4, [.ref Rq, .int (fr 1), .int (fr 2), .int (fr 3), .int (fr 4), .int (fr 5), .ref Rv])), (Rv, .inl (g 0, 21, .inl (upd (upd (upd (upd fval 0 1) 1 0) 2 0) 3 1)))]) rfl rfl rfl rfl (by decide) (k_X4_kindOf_1 l D g H.size) (va_cwS 1 hts gX4_setUsual_X4_kindOf rfl rfl rfl (by decide +kernel) ⟨(Nat.le_of_ble_eq_true rfl), (Nat.le_of_ble_eq_true rfl)⟩) rfl hl.1 rfl (Nat.le_of_ble_eq_true rfl) dX4_setUsual_28 ⟨(Nat.le_of_ble_eq_true rfl), (Nat.le_of_ble_eq_true rfl)⟩ (fun r_5 u H locs hw hP2 hD2 hS2 => ?_)
  clear hP hD hS
  obtain ⟨rfl, rfl⟩ := hw
  have hPD : PD D A [(Rd, .inr (4, [.ref Rq, .int (fr 1), .int (fr 2), .int (fr 3), .int (fr 4), .int (fr 5), .ref Rv])), (Rv, .inl (g 0, 21, .inl (upd (upd (upd (upd fval 0 1) 1 0) 2 0) 3 1)))] H := ⟨hP2, hD2⟩
  have hS := hS2; clear hP2 hD2 hS2; have hP := hPD.1; have hD := hPD.2; clear hPD
  refine W.widen (k := 0) (n := 0) (Nat.le_of_ble_eq_true rfl) (Nat.le_of_ble_eq_true rfl) ?_
  refine lv_iconst (v := 3) hx hb dX4_setUsual_31 (by decide) ?_
  refine lv_imul hx hb dX4_setUsual_32 ?_
  refine lv_eqi (y := 3) (by decide) ?_
  refine lv_iload_n hx hb dX4_setUsual_33 rfl (lv_at hl 0 rfl) ?_
  refine lv_iadd hx hb dX4_setUsual_34 ?_
  refine lv_eqi (y := 4) (by decide) ?_
  refine va_ti (v := .int 12) hx hb hZ.2.1 hS (by unfold vp_in; decide) rfl dX4_setUsual_35 ?_
  refine va_iast hx hb hK hP hD hS 1 0 rfl rfl (by unfold vp_in; decide) dX4_setUsual_36 (fun H locs hP2 hD2 hS2 => ?_)
  clear hP hD hS
  have hPD : PD D A [(Rd, .inr (4, [.ref Rq, .int (fr 1), .int (fr 2), .int (fr 3), .int (fr 4), .int (fr 5), .ref Rv])), (Rv, .inl (g 0, 21, .inl (upd (upd (upd (upd (upd fval 0 1) 1 0) 2 0) 3 1) 4 12)))] H := ⟨hP2, hD2⟩
  have hS := hS2; clear hP2 hD2 hS2; have hP := hPD.1; have hD := hPD.2; clear hPD
  refine lv_iinc (v := 2) (lv' := [(2, .int 2), (1, .int 1), (0, .ref Rd)]) hx hb dX4_setUsual_37 hl (k := 0) rfl (by decide) (by decide) rfl (fun ls hl => ?_)
  refine lv_goto (tgt := 10) hx hb dX4_setUsual_40 (by decide) ?_
  refine lv_iload_n hx hb dX4_setUsual_10 rfl (lv_at hl 0 rfl) ?_
  refine lv_iconst (v := 3) hx hb dX4_setUsual_11 (by decide) ?_
  refine lv_icmp_ge (tgt := 43) hx hb dX4_setUsual_12 (by decide) (fun cb => absurd cb (by decide)) (fun _ => ?_)
  refine lv_aload_n hx hb dX4_setUsual_15 rfl (lv_at hl 2 rfl) ?_
  refine va_get (D := D) (ci := 4) (v := .ref Rv) (C := RX4) (T := TX4) (N := 7) hx hb hts iX4 hown hK hP 0 rfl rfl 6 (by decide) f15 (fun _ h9 => h9) rfl dX4_setUsual_16 ?_
  refine lv_iload_n hx hb dX4_setUsual_19 rfl (lv_at hl 1 rfl) ?_
  refine lv_iconst (v := 3) hx hb dX4_setUsual_20 (by decide) ?_
  refine lv_imul hx hb dX4_setUsual_21 ?_
  refine lv_eqi (y := 3) (by decide) ?_
  refine lv_iload_n hx hb dX4_setUsual_22 rfl (lv_at hl 0 rfl) ?_
  refine lv_iadd hx hb dX4_setUsual_23 ?_
  refine lv_eqi (y := 5) (by decide) ?_
  refine va_gets hx hb hZ.1 hS hown f47 (fun _ h9 => h9) dX4_setUsual_24 ?_
  refine lv_iload_n hx hb dX4_setUsual_27 rfl (lv_at hl 1 rfl) ?_
  refine ky_Si (As := [.int 1]) (rest := [.ref (g 10), .int 5, .ref Rv]) ⟨hx, hb, hml, hown, hts⟩ ⟨hK, hN⟩ hZ hP hD hS hA [] [0, 1] (wc := []) (wr := [(Rd, .inr (4, [.ref Rq, .int (fr 1), .int (fr 2), .int (fr 3), .int (fr 4), .int (fr 5), .ref Rv])), (Rv, .inl (g 0, 21, .inl (upd (upd (upd (upd (upd fval 0 1) 1 0) 2 0) 3 1) 4 12)))]) rfl rfl rfl rfl (by decide) (k_X4_kindOf_1 l D g H.size) (va_cwS 1 hts gX4_setUsual_X4_kindOf rfl rfl rfl (by decide +kernel) ⟨(Nat.le_of_ble_eq_true rfl), (Nat.le_of_ble_eq_true rfl)⟩) rfl hl.1 rfl (Nat.le_of_ble_eq_true rfl) dX4_setUsual_28 ⟨(Nat.le_of_ble_eq_true rfl), (Nat.le_of_ble_eq_true rfl)⟩ (fun r_6 u H locs hw hP2 hD2 hS2 => ?_)
  clear hP hD hS
  obtain ⟨rfl, rfl⟩ := hw
  have hPD : PD D A [(Rd, .inr (4, [.ref Rq, .int (fr 1), .int (fr 2), .int (fr 3), .int (fr 4), .int (fr 5), .ref Rv])), (Rv, .inl (g 0, 21, .inl (upd (upd (upd (upd (upd fval 0 1) 1 0) 2 0) 3 1) 4 12)))] H := ⟨hP2, hD2⟩
  have hS := hS2; clear hP2 hD2 hS2; have hP := hPD.1; have hD := hPD.2; clear hPD
  refine W.widen (k := 0) (n := 0) (Nat.le_of_ble_eq_true rfl) (Nat.le_of_ble_eq_true rfl) ?_
  refine lv_iconst (v := 3) hx hb dX4_setUsual_31 (by decide) ?_
  refine lv_imul hx hb dX4_setUsual_32 ?_
  refine lv_eqi (y := 3) (by decide) ?_
  refine lv_iload_n hx hb dX4_setUsual_33 rfl (lv_at hl 0 rfl) ?_
  refine lv_iadd hx hb dX4_setUsual_34 ?_
  refine lv_eqi (y := 5) (by decide) ?_
  refine va_ti (v := .int 1) hx hb hZ.2.1 hS (by unfold vp_in; decide) rfl dX4_setUsual_35 ?_
  refine va_iast hx hb hK hP hD hS 1 0 rfl rfl (by unfold vp_in; decide) dX4_setUsual_36 (fun H locs hP2 hD2 hS2 => ?_)
  clear hP hD hS
  have hPD : PD D A [(Rd, .inr (4, [.ref Rq, .int (fr 1), .int (fr 2), .int (fr 3), .int (fr 4), .int (fr 5), .ref Rv])), (Rv, .inl (g 0, 21, .inl (upd (upd (upd (upd (upd (upd fval 0 1) 1 0) 2 0) 3 1) 4 12) 5 1)))] H := ⟨hP2, hD2⟩
  have hS := hS2; clear hP2 hD2 hS2; have hP := hPD.1; have hD := hPD.2; clear hPD
  refine lv_iinc (v := 3) (lv' := [(2, .int 3), (1, .int 1), (0, .ref Rd)]) hx hb dX4_setUsual_37 hl (k := 0) rfl (by decide) (by decide) rfl (fun ls hl => ?_)
  refine lv_goto (tgt := 10) hx hb dX4_setUsual_40 (by decide) ?_
  refine lv_iload_n hx hb dX4_setUsual_10 rfl (lv_at hl 0 rfl) ?_
  refine lv_iconst (v := 3) hx hb dX4_setUsual_11 (by decide) ?_
  refine lv_icmp_ge (tgt := 43) hx hb dX4_setUsual_12 (by decide) (fun _ => ?_) (fun cb => absurd (by decide) cb)
  refine lv_iinc (v := 2) (lv' := [(1, .int 2), (2, .int 3), (0, .ref Rd)]) hx hb dX4_setUsual_43 hl (k := 1) rfl (by decide) (by decide) rfl (fun ls hl => ?_)
  refine lv_goto (tgt := 2) hx hb dX4_setUsual_46 (by decide) ?_
  refine lv_iload_n hx hb dX4_setUsual_2 rfl (lv_at hl 0 rfl) ?_
  refine lv_bipush (v := 7) hx hb dX4_setUsual_3 (by decide) ?_
  refine lv_icmp_ge (tgt := 49) hx hb dX4_setUsual_5 (by decide) (fun cb => absurd cb (by decide)) (fun _ => ?_)
  refine lv_iconst (v := 0) hx hb dX4_setUsual_8 (by decide) ?_
  refine lv_istore_n (lv' := [(2, .int 0), (1, .int 2), (0, .ref Rd)]) hx hb dX4_setUsual_9 rfl hl (by decide) rfl (fun ls hl => ?_)
  refine lv_iload_n hx hb dX4_setUsual_10 rfl (lv_at hl 0 rfl) ?_
  refine lv_iconst (v := 3) hx hb dX4_setUsual_11 (by decide) ?_
  refine lv_icmp_ge (tgt := 43) hx hb dX4_setUsual_12 (by decide) (fun cb => absurd cb (by decide)) (fun _ => ?_)
  refine lv_aload_n hx hb dX4_setUsual_15 rfl (lv_at hl 2 rfl) ?_
  refine va_get (D := D) (ci := 4) (v := .ref Rv) (C := RX4) (T := TX4) (N := 7) hx hb hts iX4 hown hK hP 0 rfl rfl 6 (by decide) f15 (fun _ h9 => h9) rfl dX4_setUsual_16 ?_
  refine lv_iload_n hx hb dX4_setUsual_19 rfl (lv_at hl 1 rfl) ?_
  refine lv_iconst (v := 3) hx hb dX4_setUsual_20 (by decide) ?_
  refine lv_imul hx hb dX4_setUsual_21 ?_
  refine lv_eqi (y := 6) (by decide) ?_
  refine lv_iload_n hx hb dX4_setUsual_22 rfl (lv_at hl 0 rfl) ?_
  refine lv_iadd hx hb dX4_setUsual_23 ?_
  refine lv_eqi (y := 6) (by decide) ?_
  refine va_gets hx hb hZ.1 hS hown f47 (fun _ h9 => h9) dX4_setUsual_24 ?_
  refine lv_iload_n hx hb dX4_setUsual_27 rfl (lv_at hl 1 rfl) ?_
  refine ky_Si (As := [.int 2]) (rest := [.ref (g 10), .int 6, .ref Rv]) ⟨hx, hb, hml, hown, hts⟩ ⟨hK, hN⟩ hZ hP hD hS hA [] [0, 1] (wc := []) (wr := [(Rd, .inr (4, [.ref Rq, .int (fr 1), .int (fr 2), .int (fr 3), .int (fr 4), .int (fr 5), .ref Rv])), (Rv, .inl (g 0, 21, .inl (upd (upd (upd (upd (upd (upd fval 0 1) 1 0) 2 0) 3 1) 4 12) 5 1)))]) rfl rfl rfl rfl (by decide) (k_X4_kindOf_2 l D g H.size) (va_cwS 1 hts gX4_setUsual_X4_kindOf rfl rfl rfl (by decide +kernel) ⟨(Nat.le_of_ble_eq_true rfl), (Nat.le_of_ble_eq_true rfl)⟩) rfl hl.1 rfl (Nat.le_of_ble_eq_true rfl) dX4_setUsual_28 ⟨(Nat.le_of_ble_eq_true rfl), (Nat.le_of_ble_eq_true rfl)⟩ (fun r_7 u H locs hw hP2 hD2 hS2 => ?_)
  clear hP hD hS
  obtain ⟨rfl, rfl⟩ := hw
  have hPD : PD D A [(Rd, .inr (4, [.ref Rq, .int (fr 1), .int (fr 2), .int (fr 3), .int (fr 4), .int (fr 5), .ref Rv])), (Rv, .inl (g 0, 21, .inl (upd (upd (upd (upd (upd (upd fval 0 1) 1 0) 2 0) 3 1) 4 12) 5 1)))] H := ⟨hP2, hD2⟩
  have hS := hS2; clear hP2 hD2 hS2; have hP := hPD.1; have hD := hPD.2; clear hPD
  refine W.widen (k := 0) (n := 0) (Nat.le_of_ble_eq_true rfl) (Nat.le_of_ble_eq_true rfl) ?_
  refine lv_iconst (v := 3) hx hb dX4_setUsual_31 (by decide) ?_
  refine lv_imul hx hb dX4_setUsual_32 ?_
  refine lv_eqi (y := 3) (by decide) ?_
  refine lv_iload_n hx hb dX4_setUsual_33 rfl (lv_at hl 0 rfl) ?_
  refine lv_iadd hx hb dX4_setUsual_34 ?_
  refine lv_eqi (y := 3) (by decide) ?_
  refine va_ti (v := .int 1) hx hb hZ.2.1 hS (by unfold vp_in; decide) rfl dX4_setUsual_35 ?_
  refine va_iast hx hb hK hP hD hS 1 0 rfl rfl (by unfold vp_in; decide) dX4_setUsual_36 (fun H locs hP2 hD2 hS2 => ?_)
  clear hP hD hS
  have hPD : PD D A [(Rd, .inr (4, [.ref Rq, .int (fr 1), .int (fr 2), .int (fr 3), .int (fr 4), .int (fr 5), .ref Rv])), (Rv, .inl (g 0, 21, .inl (upd (upd (upd (upd (upd (upd (upd fval 0 1) 1 0) 2 0) 3 1) 4 12) 5 1) 6 1)))] H := ⟨hP2, hD2⟩
  have hS := hS2; clear hP2 hD2 hS2; have hP := hPD.1; have hD := hPD.2; clear hPD
  refine lv_iinc (v := 1) (lv' := [(2, .int 1), (1, .int 2), (0, .ref Rd)]) hx hb dX4_setUsual_37 hl (k := 0) rfl (by decide) (by decide) rfl (fun ls hl => ?_)
  refine lv_goto (tgt := 10) hx hb dX4_setUsual_40 (by decide) ?_
  refine lv_iload_n hx hb dX4_setUsual_10 rfl (lv_at hl 0 rfl) ?_
  refine lv_iconst (v := 3) hx hb dX4_setUsual_11 (by decide) ?_
  refine lv_icmp_ge (tgt := 43) hx hb dX4_setUsual_12 (by decide) (fun cb => absurd cb (by decide)) (fun _ => ?_)
  refine lv_aload_n hx hb dX4_setUsual_15 rfl (lv_at hl 2 rfl) ?_
  refine va_get (D := D) (ci := 4) (v := .ref Rv) (C := RX4) (T := TX4) (N := 7) hx hb hts iX4 hown hK hP 0 rfl rfl 6 (by decide) f15 (fun _ h9 => h9) rfl dX4_setUsual_16 ?_
  refine lv_iload_n hx hb dX4_setUsual_19 rfl (lv_at hl 1 rfl) ?_
  refine lv_iconst (v := 3) hx hb dX4_setUsual_20 (by decide) ?_
  refine lv_imul hx hb dX4_setUsual_21 ?_
  refine lv_eqi (y := 6) (by decide) ?_
  refine lv_iload_n hx hb dX4_setUsual_22 rfl (lv_at hl 0 rfl) ?_
  refine lv_iadd hx hb dX4_setUsual_23 ?_
  refine lv_eqi (y := 7) (by decide) ?_
  refine va_gets hx hb hZ.1 hS hown f47 (fun _ h9 => h9) dX4_setUsual_24 ?_
  refine lv_iload_n hx hb dX4_setUsual_27 rfl (lv_at hl 1 rfl) ?_
  refine ky_Si (As := [.int 2]) (rest := [.ref (g 10), .int 7, .ref Rv]) ⟨hx, hb, hml, hown, hts⟩ ⟨hK, hN⟩ hZ hP hD hS hA [] [0, 1] (wc := []) (wr := [(Rd, .inr (4, [.ref Rq, .int (fr 1), .int (fr 2), .int (fr 3), .int (fr 4), .int (fr 5), .ref Rv])), (Rv, .inl (g 0, 21, .inl (upd (upd (upd (upd (upd (upd (upd fval 0 1) 1 0) 2 0) 3 1) 4 12) 5 1) 6 1)))]) rfl rfl rfl rfl (by decide) (k_X4_kindOf_2 l D g H.size) (va_cwS 1 hts gX4_setUsual_X4_kindOf rfl rfl rfl (by decide +kernel) ⟨(Nat.le_of_ble_eq_true rfl), (Nat.le_of_ble_eq_true rfl)⟩) rfl hl.1 rfl (Nat.le_of_ble_eq_true rfl) dX4_setUsual_28 ⟨(Nat.le_of_ble_eq_true rfl), (Nat.le_of_ble_eq_true rfl)⟩ (fun r_8 u H locs hw hP2 hD2 hS2 => ?_)
  clear hP hD hS
  obtain ⟨rfl, rfl⟩ := hw
  have hPD : PD D A [(Rd, .inr (4, [.ref Rq, .int (fr 1), .int (fr 2), .int (fr 3), .int (fr 4), .int (fr 5), .ref Rv])), (Rv, .inl (g 0, 21, .inl (upd (upd (upd (upd (upd (upd (upd fval 0 1) 1 0) 2 0) 3 1) 4 12) 5 1) 6 1)))] H := ⟨hP2, hD2⟩
  have hS := hS2; clear hP2 hD2 hS2; have hP := hPD.1; have hD := hPD.2; clear hPD
  refine W.widen (k := 0) (n := 0) (Nat.le_of_ble_eq_true rfl) (Nat.le_of_ble_eq_true rfl) ?_
  refine lv_iconst (v := 3) hx hb dX4_setUsual_31 (by decide) ?_
  refine lv_imul hx hb dX4_setUsual_32 ?_
  refine lv_eqi (y := 3) (by decide) ?_
  refine lv_iload_n hx hb dX4_setUsual_33 rfl (lv_at hl 0 rfl) ?_
  refine lv_iadd hx hb dX4_setUsual_34 ?_
  refine lv_eqi (y := 4) (by decide) ?_
  refine va_ti (v := .int 12) hx hb hZ.2.1 hS (by unfold vp_in; decide) rfl dX4_setUsual_35 ?_
  refine va_iast hx hb hK hP hD hS 1 0 rfl rfl (by unfold vp_in; decide) dX4_setUsual_36 (fun H locs hP2 hD2 hS2 => ?_)
  clear hP hD hS
  have hPD : PD D A [(Rd, .inr (4, [.ref Rq, .int (fr 1), .int (fr 2), .int (fr 3), .int (fr 4), .int (fr 5), .ref Rv])), (Rv, .inl (g 0, 21, .inl (upd (upd (upd (upd (upd (upd (upd (upd fval 0 1) 1 0) 2 0) 3 1) 4 12) 5 1) 6 1) 7 12)))] H := ⟨hP2, hD2⟩
  have hS := hS2; clear hP2 hD2 hS2; have hP := hPD.1; have hD := hPD.2; clear hPD
  refine lv_iinc (v := 2) (lv' := [(2, .int 2), (1, .int 2), (0, .ref Rd)]) hx hb dX4_setUsual_37 hl (k := 0) rfl (by decide) (by decide) rfl (fun ls hl => ?_)
  refine lv_goto (tgt := 10) hx hb dX4_setUsual_40 (by decide) ?_
  refine lv_iload_n hx hb dX4_setUsual_10 rfl (lv_at hl 0 rfl) ?_
  refine lv_iconst (v := 3) hx hb dX4_setUsual_11 (by decide) ?_
  refine lv_icmp_ge (tgt := 43) hx hb dX4_setUsual_12 (by decide) (fun cb => absurd cb (by decide)) (fun _ => ?_)
  refine lv_aload_n hx hb dX4_setUsual_15 rfl (lv_at hl 2 rfl) ?_
  refine va_get (D := D) (ci := 4) (v := .ref Rv) (C := RX4) (T := TX4) (N := 7) hx hb hts iX4 hown hK hP 0 rfl rfl 6 (by decide) f15 (fun _ h9 => h9) rfl dX4_setUsual_16 ?_
  refine lv_iload_n hx hb dX4_setUsual_19 rfl (lv_at hl 1 rfl) ?_
  refine lv_iconst (v := 3) hx hb dX4_setUsual_20 (by decide) ?_
  refine lv_imul hx hb dX4_setUsual_21 ?_
  refine lv_eqi (y := 6) (by decide) ?_
  refine lv_iload_n hx hb dX4_setUsual_22 rfl (lv_at hl 0 rfl) ?_
  refine lv_iadd hx hb dX4_setUsual_23 ?_
  refine lv_eqi (y := 8) (by decide) ?_
  refine va_gets hx hb hZ.1 hS hown f47 (fun _ h9 => h9) dX4_setUsual_24 ?_
  refine lv_iload_n hx hb dX4_setUsual_27 rfl (lv_at hl 1 rfl) ?_
  refine ky_Si (As := [.int 2]) (rest := [.ref (g 10), .int 8, .ref Rv]) ⟨hx, hb, hml, hown, hts⟩ ⟨hK, hN⟩ hZ hP hD hS hA [] [0, 1] (wc := []) (wr := [(Rd, .inr (4, [.ref Rq, .int (fr 1), .int (fr 2), .int (fr 3), .int (fr 4), .int (fr 5), .ref Rv])), (Rv, .inl (g 0, 21, .inl (upd (upd (upd (upd (upd (upd (upd (upd fval 0 1) 1 0) 2 0) 3 1) 4 12) 5 1) 6 1) 7 12)))]) rfl rfl rfl rfl (by decide) (k_X4_kindOf_2 l D g H.size) (va_cwS 1 hts gX4_setUsual_X4_kindOf rfl rfl rfl (by decide +kernel) ⟨(Nat.le_of_ble_eq_true rfl), (Nat.le_of_ble_eq_true rfl)⟩) rfl hl.1 rfl (Nat.le_of_ble_eq_true rfl) dX4_setUsual_28 ⟨(Nat.le_of_ble_eq_true rfl), (Nat.le_of_ble_eq_true rfl)⟩ (fun r_9 u H locs hw hP2 hD2 hS2 => ?_)
  clear hP hD hS
  obtain ⟨rfl, rfl⟩ := hw
  have hPD : PD D A [(Rd, .inr (4, [.ref Rq, .int (fr 1), .int (fr 2), .int (fr 3), .int (fr 4), .int (fr 5), .ref Rv])), (Rv, .inl (g 0, 21, .inl (upd (upd (upd (upd (upd (upd (upd (upd fval 0 1) 1 0) 2 0) 3 1) 4 12) 5 1) 6 1) 7 12)))] H := ⟨hP2, hD2⟩
  have hS := hS2; clear hP2 hD2 hS2; have hP := hPD.1; have hD := hPD.2; clear hPD
  refine W.widen (k := 0) (n := 0) (Nat.le_of_ble_eq_true rfl) (Nat.le_of_ble_eq_true rfl) ?_
  refine lv_iconst (v := 3) hx hb dX4_setUsual_31 (by decide) ?_
  refine lv_imul hx hb dX4_setUsual_32 ?_
  refine lv_eqi (y := 3) (by decide) ?_
  refine lv_iload_n hx hb dX4_setUsual_33 rfl (lv_at hl 0 rfl) ?_
  refine lv_iadd hx hb dX4_setUsual_34 ?_
  refine lv_eqi (y := 5) (by decide) ?_
  refine va_ti (v := .int 1) hx hb hZ.2.1 hS (by unfold vp_in; decide) rfl dX4_setUsual_35 ?_
  refine va_iast hx hb hK hP hD hS 1 0 rfl rfl (by unfold vp_in; decide) dX4_setUsual_36 (fun H locs hP2 hD2 hS2 => ?_)
  clear hP hD hS
  have hPD : PD D A [(Rd, .inr (4, [.ref Rq, .int (fr 1), .int (fr 2), .int (fr 3), .int (fr 4), .int (fr 5), .ref Rv])), (Rv, .inl (g 0, 21, .inl (upd (upd (upd (upd (upd (upd (upd (upd (upd fval 0 1) 1 0) 2 0) 3 1) 4 12) 5 1) 6 1) 7 12) 8 1)))] H := ⟨hP2, hD2⟩
  have hS := hS2; clear hP2 hD2 hS2; have hP := hPD.1; have hD := hPD.2; clear hPD
  refine lv_iinc (v := 3) (lv' := [(2, .int 3), (1, .int 2), (0, .ref Rd)]) hx hb dX4_setUsual_37 hl (k := 0) rfl (by decide) (by decide) rfl (fun ls hl => ?_)
  refine lv_goto (tgt := 10) hx hb dX4_setUsual_40 (by decide) ?_
  refine lv_iload_n hx hb dX4_setUsual_10 rfl (lv_at hl 0 rfl) ?_
  refine lv_iconst (v := 3) hx hb dX4_setUsual_11 (by decide) ?_
  refine lv_icmp_ge (tgt := 43) hx hb dX4_setUsual_12 (by decide) (fun _ => ?_) (fun cb => absurd (by decide) cb)
  refine lv_iinc (v := 3) (lv' := [(1, .int 3), (2, .int 3), (0, .ref Rd)]) hx hb dX4_setUsual_43 hl (k := 1) rfl (by decide) (by decide) rfl (fun ls hl => ?_)
  refine lv_goto (tgt := 2) hx hb dX4_setUsual_46 (by decide) ?_
  refine lv_iload_n hx hb dX4_setUsual_2 rfl (lv_at hl 0 rfl) ?_
  refine lv_bipush (v := 7) hx hb dX4_setUsual_3 (by decide) ?_
  refine lv_icmp_ge (tgt := 49) hx hb dX4_setUsual_5 (by decide) (fun cb => absurd cb (by decide)) (fun _ => ?_)
  refine lv_iconst (v := 0) hx hb dX4_setUsual_8 (by decide) ?_
  refine lv_istore_n (lv' := [(2, .int 0), (1, .int 3), (0, .ref Rd)]) hx hb dX4_setUsual_9 rfl hl (by decide) rfl (fun ls hl => ?_)
  refine lv_iload_n hx hb dX4_setUsual_10 rfl (lv_at hl 0 rfl) ?_
  refine lv_iconst (v := 3) hx hb dX4_setUsual_11 (by decide) ?_
  refine lv_icmp_ge (tgt := 43) hx hb dX4_setUsual_12 (by decide) (fun cb => absurd cb (by decide)) (fun _ => ?_)
  refine lv_aload_n hx hb dX4_setUsual_15 rfl (lv_at hl 2 rfl) ?_
  refine va_get (D := D) (ci := 4) (v := .ref Rv) (C := RX4) (T := TX4) (N := 7) hx hb hts iX4 hown hK hP 0 rfl rfl 6 (by decide) f15 (fun _ h9 => h9) rfl dX4_setUsual_16 ?_
  refine lv_iload_n hx hb dX4_setUsual_19 rfl (lv_at hl 1 rfl) ?_
  refine lv_iconst (v := 3) hx hb dX4_setUsual_20 (by decide) ?_
  refine lv_imul hx hb dX4_setUsual_21 ?_
  refine lv_eqi (y := 9) (by decide) ?_
  refine lv_iload_n hx hb dX4_setUsual_22 rfl (lv_at hl 0 rfl) ?_
  refine lv_iadd hx hb dX4_setUsual_23 ?_
  refine lv_eqi (y := 9) (by decide) ?_
  refine va_gets hx hb hZ.1 hS hown f47 (fun _ h9 => h9) dX4_setUsual_24 ?_
  refine lv_iload_n hx hb dX4_setUsual_27 rfl (lv_at hl 1 rfl) ?_
  refine ky_Si (As := [.int 3]) (rest := [.ref (g 10), .int 9, .ref Rv]) ⟨hx, hb, hml, hown, hts⟩ ⟨hK, hN⟩ hZ hP hD hS hA [] [0, 1] (wc := []) (wr := [(Rd, .inr (4, [.ref Rq, .int (fr 1), .int (fr 2), .int (fr 3), .int (fr 4), .int (fr 5), .ref Rv])), (Rv, .inl (g 0, 21, .inl (upd (upd (upd (upd (upd (upd (upd (upd (upd fval 0 1) 1 0) 2 0) 3 1) 4 12) 5 1) 6 1) 7 12) 8 1)))]) rfl rfl rfl rfl (by decide) (k_X4_kindOf_3 l D g H.size) (va_cwS 1 hts gX4_setUsual_X4_kindOf rfl rfl rfl (by decide +kernel) ⟨(Nat.le_of_ble_eq_true rfl), (Nat.le_of_ble_eq_true rfl)⟩) rfl hl.1 rfl (Nat.le_of_ble_eq_true rfl) dX4_setUsual_28 ⟨(Nat.le_of_ble_eq_true rfl), (Nat.le_of_ble_eq_true rfl)⟩ (fun r_10 u H locs hw hP2 hD2 hS2 => ?_)
  clear hP hD hS
  obtain ⟨rfl, rfl⟩ := hw
  have hPD : PD D A [(Rd, .inr (4, [.ref Rq, .int (fr 1), .int (fr 2), .int (fr 3), .int (fr 4), .int (fr 5), .ref Rv])), (Rv, .inl (g 0, 21, .inl (upd (upd (upd (upd (upd (upd (upd (upd (upd fval 0 1) 1 0) 2 0) 3 1) 4 12) 5 1) 6 1) 7 12) 8 1)))] H := ⟨hP2, hD2⟩
  have hS := hS2; clear hP2 hD2 hS2; have hP := hPD.1; have hD := hPD.2; clear hPD
  refine W.widen (k := 0) (n := 0) (Nat.le_of_ble_eq_true rfl) (Nat.le_of_ble_eq_true rfl) ?_
  refine lv_iconst (v := 3) hx hb dX4_setUsual_31 (by decide) ?_
  refine lv_imul hx hb dX4_setUsual_32 ?_
  refine lv_eqi (y := 3) (by decide) ?_
  refine lv_iload_n hx hb dX4_setUsual_33 rfl (lv_at hl 0 rfl) ?_
  refine lv_iadd hx hb dX4_setUsual_34 ?_
  refine lv_eqi (y := 3) (by decide) ?_
  refine va_ti (v := .int 1) hx hb hZ.2.1 hS (by unfold vp_in; decide) rfl dX4_setUsual_35 ?_
  refine va_iast hx hb hK hP hD hS 1 0 rfl rfl (by unfold vp_in; decide) dX4_setUsual_36 (fun H locs hP2 hD2 hS2 => ?_)
  clear hP hD hS
  have hPD : PD D A [(Rd, .inr (4, [.ref Rq, .int (fr 1), .int (fr 2), .int (fr 3), .int (fr 4), .int (fr 5), .ref Rv])), (Rv, .inl (g 0, 21, .inl (upd (upd (upd (upd (upd (upd (upd (upd (upd (upd fval 0 1) 1 0) 2 0) 3 1) 4 12) 5 1) 6 1) 7 12) 8 1) 9 1)))] H := ⟨hP2, hD2⟩
  have hS := hS2; clear hP2 hD2 hS2; have hP := hPD.1; have hD := hPD.2; clear hPD
  refine lv_iinc (v := 1) (lv' := [(2, .int 1), (1, .int 3), (0, .ref Rd)]) hx hb dX4_setUsual_37 hl (k := 0) rfl (by decide) (by decide) rfl (fun ls hl => ?_)
  refine lv_goto (tgt := 10) hx hb dX4_setUsual_40 (by decide) ?_
  refine lv_iload_n hx hb dX4_setUsual_10 rfl (lv_at hl 0 rfl) ?_
  refine lv_iconst (v := 3) hx hb dX4_setUsual_11 (by decide) ?_
  refine lv_icmp_ge (tgt := 43) hx hb dX4_setUsual_12 (by decide) (fun cb => absurd cb (by decide)) (fun _ => ?_)
  refine lv_aload_n hx hb dX4_setUsual_15 rfl (lv_at hl 2 rfl) ?_
  refine va_get (D := D) (ci := 4) (v := .ref Rv) (C := RX4) (T := TX4) (N := 7) hx hb hts iX4 hown hK hP 0 rfl rfl 6 (by decide) f15 (fun _ h9 => h9) rfl dX4_setUsual_16 ?_
  refine lv_iload_n hx hb dX4_setUsual_19 rfl (lv_at hl 1 rfl) ?_
  refine lv_iconst (v := 3) hx hb dX4_setUsual_20 (by decide) ?_
  refine lv_imul hx hb dX4_setUsual_21 ?_
  refine lv_eqi (y := 9) (by decide) ?_
  refine lv_iload_n hx hb dX4_setUsual_22 rfl (lv_at hl 0 rfl) ?_
  refine lv_iadd hx hb dX4_setUsual_23 ?_
  refine lv_eqi (y := 10) (by decide) ?_
  refine va_gets hx hb hZ.1 hS hown f47 (fun _ h9 => h9) dX4_setUsual_24 ?_
  refine lv_iload_n hx hb dX4_setUsual_27 rfl (lv_at hl 1 rfl) ?_
  refine ky_Si (As := [.int 3]) (rest := [.ref (g 10), .int 10, .ref Rv]) ⟨hx, hb, hml, hown, hts⟩ ⟨hK, hN⟩ hZ hP hD hS hA [] [0, 1] (wc := []) (wr := [(Rd, .inr (4, [.ref Rq, .int (fr 1), .int (fr 2), .int (fr 3), .int (fr 4), .int (fr 5), .ref Rv])), (Rv, .inl (g 0, 21, .inl (upd (upd (upd (upd (upd (upd (upd (upd (upd (upd fval 0 1) 1 0) 2 0) 3 1) 4 12) 5 1) 6 1) 7 12) 8 1) 9 1)))]) rfl rfl rfl rfl (by decide) (k_X4_kindOf_3 l D g H.size) (va_cwS 1 hts gX4_setUsual_X4_kindOf rfl rfl rfl (by decide +kernel) ⟨(Nat.le_of_ble_eq_true rfl), (Nat.le_of_ble_eq_true rfl)⟩) rfl hl.1 rfl (Nat.le_of_ble_eq_true rfl) dX4_setUsual_28 ⟨(Nat.le_of_ble_eq_true rfl), (Nat.le_of_ble_eq_true rfl)⟩ (fun r_11 u H locs hw hP2 hD2 hS2 => ?_)
  clear hP hD hS
  obtain ⟨rfl, rfl⟩ := hw
  have hPD : PD D A [(Rd, .inr (4, [.ref Rq, .int (fr 1), .int (fr 2), .int (fr 3), .int (fr 4), .int (fr 5), .ref Rv])), (Rv, .inl (g 0, 21, .inl (upd (upd (upd (upd (upd (upd (upd (upd (upd (upd fval 0 1) 1 0) 2 0) 3 1) 4 12) 5 1) 6 1) 7 12) 8 1) 9 1)))] H := ⟨hP2, hD2⟩
  have hS := hS2; clear hP2 hD2 hS2; have hP := hPD.1; have hD := hPD.2; clear hPD
  refine W.widen (k := 0) (n := 0) (Nat.le_of_ble_eq_true rfl) (Nat.le_of_ble_eq_true rfl) ?_
  refine lv_iconst (v := 3) hx hb dX4_setUsual_31 (by decide) ?_
  refine lv_imul hx hb dX4_setUsual_32 ?_
  refine lv_eqi (y := 3) (by decide) ?_
  refine lv_iload_n hx hb dX4_setUsual_33 rfl (lv_at hl 0 rfl) ?_
  refine lv_iadd hx hb dX4_setUsual_34 ?_
  refine lv_eqi (y := 4) (by decide) ?_
  refine va_ti (v := .int 12) hx hb hZ.2.1 hS (by unfold vp_in; decide) rfl dX4_setUsual_35 ?_
  refine va_iast hx hb hK hP hD hS 1 0 rfl rfl (by unfold vp_in; decide) dX4_setUsual_36 (fun H locs hP2 hD2 hS2 => ?_)
  clear hP hD hS
  have hPD : PD D A [(Rd, .inr (4, [.ref Rq, .int (fr 1), .int (fr 2), .int (fr 3), .int (fr 4), .int (fr 5), .ref Rv])), (Rv, .inl (g 0, 21, .inl (upd (upd (upd (upd (upd (upd (upd (upd (upd (upd (upd fval 0 1) 1 0) 2 0) 3 1) 4 12) 5 1) 6 1) 7 12) 8 1) 9 1) 10 12)))] H := ⟨hP2, hD2⟩
  have hS := hS2; clear hP2 hD2 hS2; have hP := hPD.1; have hD := hPD.2; clear hPD
  refine lv_iinc (v := 2) (lv' := [(2, .int 2), (1, .int 3), (0, .ref Rd)]) hx hb dX4_setUsual_37 hl (k := 0) rfl (by decide) (by decide) rfl (fun ls hl => ?_)
  refine lv_goto (tgt := 10) hx hb dX4_setUsual_40 (by decide) ?_
  refine lv_iload_n hx hb dX4_setUsual_10 rfl (lv_at hl 0 rfl) ?_
  refine lv_iconst (v := 3) hx hb dX4_setUsual_11 (by decide) ?_
  refine lv_icmp_ge (tgt := 43) hx hb dX4_setUsual_12 (by decide) (fun cb => absurd cb (by decide)) (fun _ => ?_)
  refine lv_aload_n hx hb dX4_setUsual_15 rfl (lv_at hl 2 rfl) ?_
  refine va_get (D := D) (ci := 4) (v := .ref Rv) (C := RX4) (T := TX4) (N := 7) hx hb hts iX4 hown hK hP 0 rfl rfl 6 (by decide) f15 (fun _ h9 => h9) rfl dX4_setUsual_16 ?_
  refine lv_iload_n hx hb dX4_setUsual_19 rfl (lv_at hl 1 rfl) ?_
  refine lv_iconst (v := 3) hx hb dX4_setUsual_20 (by decide) ?_
  refine lv_imul hx hb dX4_setUsual_21 ?_
  refine lv_eqi (y := 9) (by decide) ?_
  refine lv_iload_n hx hb dX4_setUsual_22 rfl (lv_at hl 0 rfl) ?_
  refine lv_iadd hx hb dX4_setUsual_23 ?_
  refine lv_eqi (y := 11) (by decide) ?_
  refine va_gets hx hb hZ.1 hS hown f47 (fun _ h9 => h9) dX4_setUsual_24 ?_
  refine lv_iload_n hx hb dX4_setUsual_27 rfl (lv_at hl 1 rfl) ?_
  refine ky_Si (As := [.int 3]) (rest := [.ref (g 10), .int 11, .ref Rv]) ⟨hx, hb, hml, hown, hts⟩ ⟨hK, hN⟩ hZ hP hD hS hA [] [0, 1] (wc := []) (wr := [(Rd, .inr (4, [.ref Rq, .int (fr 1), .int (fr 2), .int (fr 3), .int (fr 4), .int (fr 5), .ref Rv])), (Rv, .inl (g 0, 21, .inl (upd (upd (upd (upd (upd (upd (upd (upd (upd (upd (upd fval 0 1) 1 0) 2 0) 3 1) 4 12) 5 1) 6 1) 7 12) 8 1) 9 1) 10 12)))]) rfl rfl rfl rfl (by decide) (k_X4_kindOf_3 l D g H.size) (va_cwS 1 hts gX4_setUsual_X4_kindOf rfl rfl rfl (by decide +kernel) ⟨(Nat.le_of_ble_eq_true rfl), (Nat.le_of_ble_eq_true rfl)⟩) rfl hl.1 rfl (Nat.le_of_ble_eq_true rfl) dX4_setUsual_28 ⟨(Nat.le_of_ble_eq_true rfl), (Nat.le_of_ble_eq_true rfl)⟩ (fun r_12 u H locs hw hP2 hD2 hS2 => ?_)
  clear hP hD hS
  obtain ⟨rfl, rfl⟩ := hw
  have hPD : PD D A [(Rd, .inr (4, [.ref Rq, .int (fr 1), .int (fr 2), .int (fr 3), .int (fr 4), .int (fr 5), .ref Rv])), (Rv, .inl (g 0, 21, .inl (upd (upd (upd (upd (upd (upd (upd (upd (upd (upd (upd fval 0 1) 1 0) 2 0) 3 1) 4 12) 5 1) 6 1) 7 12) 8 1) 9 1) 10 12)))] H := ⟨hP2, hD2⟩
  have hS := hS2; clear hP2 hD2 hS2; have hP := hPD.1; have hD := hPD.2; clear hPD
  refine W.widen (k := 0) (n := 0) (Nat.le_of_ble_eq_true rfl) (Nat.le_of_ble_eq_true rfl) ?_
  refine lv_iconst (v := 3) hx hb dX4_setUsual_31 (by decide) ?_
  refine lv_imul hx hb dX4_setUsual_32 ?_
  refine lv_eqi (y := 3) (by decide) ?_
  refine lv_iload_n hx hb dX4_setUsual_33 rfl (lv_at hl 0 rfl) ?_
  refine lv_iadd hx hb dX4_setUsual_34 ?_
  refine lv_eqi (y := 5) (by decide) ?_
  refine va_ti (v := .int 1) hx hb hZ.2.1 hS (by unfold vp_in; decide) rfl dX4_setUsual_35 ?_
  refine va_iast hx hb hK hP hD hS 1 0 rfl rfl (by unfold vp_in; decide) dX4_setUsual_36 (fun H locs hP2 hD2 hS2 => ?_)
  clear hP hD hS
  have hPD : PD D A [(Rd, .inr (4, [.ref Rq, .int (fr 1), .int (fr 2), .int (fr 3), .int (fr 4), .int (fr 5), .ref Rv])), (Rv, .inl (g 0, 21, .inl (upd (upd (upd (upd (upd (upd (upd (upd (upd (upd (upd (upd fval 0 1) 1 0) 2 0) 3 1) 4 12) 5 1) 6 1) 7 12) 8 1) 9 1) 10 12) 11 1)))] H := ⟨hP2, hD2⟩
  have hS := hS2; clear hP2 hD2 hS2; have hP := hPD.1; have hD := hPD.2; clear hPD
  refine lv_iinc (v := 3) (lv' := [(2, .int 3), (1, .int 3), (0, .ref Rd)]) hx hb dX4_setUsual_37 hl (k := 0) rfl (by decide) (by decide) rfl (fun ls hl => ?_)
  refine lv_goto (tgt := 10) hx hb dX4_setUsual_40 (by decide) ?_
  refine lv_iload_n hx hb dX4_setUsual_10 rfl (lv_at hl 0 rfl) ?_
  refine lv_iconst (v := 3) hx hb dX4_setUsual_11 (by decide) ?_
  refine lv_icmp_ge (tgt := 43) hx hb dX4_setUsual_12 (by decide) (fun _ => ?_) (fun cb => absurd (by decide) cb)
  refine lv_iinc (v := 4) (lv' := [(1, .int 4), (2, .int 3), (0, .ref Rd)]) hx hb dX4_setUsual_43 hl (k := 1) rfl (by decide) (by decide) rfl (fun ls hl => ?_)
  refine lv_goto (tgt := 2) hx hb dX4_setUsual_46 (by decide) ?_
  refine lv_iload_n hx hb dX4_setUsual_2 rfl (lv_at hl 0 rfl) ?_
  refine lv_bipush (v := 7) hx hb dX4_setUsual_3 (by decide) ?_
  refine lv_icmp_ge (tgt := 49) hx hb dX4_setUsual_5 (by decide) (fun cb => absurd cb (by decide)) (fun _ => ?_)
  refine lv_iconst (v := 0) hx hb dX4_setUsual_8 (by decide) ?_
  refine lv_istore_n (lv' := [(2, .int 0), (1, .int 4), (0, .ref Rd)]) hx hb dX4_setUsual_9 rfl hl (by decide) rfl (fun ls hl => ?_)
  refine lv_iload_n hx hb dX4_setUsual_10 rfl (lv_at hl 0 rfl) ?_
  refine lv_iconst (v := 3) hx hb dX4_setUsual_11 (by decide) ?_
  refine lv_icmp_ge (tgt := 43) hx hb dX4_setUsual_12 (by decide) (fun cb => absurd cb (by decide)) (fun _ => ?_)
  refine lv_aload_n hx hb dX4_setUsual_15 rfl (lv_at hl 2 rfl) ?_
  refine va_get (D := D) (ci := 4) (v := .ref Rv) (C := RX4) (T := TX4) (N := 7) hx hb hts iX4 hown hK hP 0 rfl rfl 6 (by decide) f15 (fun _ h9 => h9) rfl dX4_setUsual_16 ?_
  refine lv_iload_n hx hb dX4_setUsual_19 rfl (lv_at hl 1 rfl) ?_
  refine lv_iconst (v := 3) hx hb dX4_setUsual_20 (by decide) ?_
  refine lv_imul hx hb dX4_setUsual_21 ?_
  refine lv_eqi (y := 12) (by decide) ?_
  refine lv_iload_n hx hb dX4_setUsual_22 rfl (lv_at hl 0 rfl) ?_
  refine lv_iadd hx hb dX4_setUsual_23 ?_
  refine lv_eqi (y := 12) (by decide) ?_
  refine va_gets hx hb hZ.1 hS hown f47 (fun _ h9 => h9) dX4_setUsual_24 ?_
  refine lv_iload_n hx hb dX4_setUsual_27 rfl (lv_at hl 1 rfl) ?_
  refine ky_Si (As := [.int 4]) (rest := [.ref (g 10), .int 12, .ref Rv]) ⟨hx, hb, hml, hown, hts⟩ ⟨hK, hN⟩ hZ hP hD hS hA [] [0, 1] (wc := []) (wr := [(Rd, .inr (4, [.ref Rq, .int (fr 1), .int (fr 2), .int (fr 3), .int (fr 4), .int (fr 5), .ref Rv])), (Rv, .inl (g 0, 21, .inl (upd (upd (upd (upd (upd (upd (upd (upd (upd (upd (upd (upd fval 0 1) 1 0) 2 0) 3 1) 4 12) 5 1) 6 1) 7 12) 8 1) 9 1) 10 12) 11 1)))]) rfl rfl rfl rfl (by decide) (k_X4_kindOf_4 l D g H.size) (va_cwS 1 hts gX4_setUsual_X4_kindOf rfl rfl rfl (by decide +kernel) ⟨(Nat.le_of_ble_eq_true rfl), (Nat.le_of_ble_eq_true rfl)⟩) rfl hl.1 rfl (Nat.le_of_ble_eq_true rfl) dX4_setUsual_28 ⟨(Nat.le_of_ble_eq_true rfl), (Nat.le_of_ble_eq_true rfl)⟩ (fun r_13 u H locs hw hP2 hD2 hS2 => ?_)
  clear hP hD hS
  obtain ⟨rfl, rfl⟩ := hw
  have hPD : PD D A [(Rd, .inr (4, [.ref Rq, .int (fr 1), .int (fr 2), .int (fr 3), .int (fr 4), .int (fr 5), .ref Rv])), (Rv, .inl (g 0, 21, .inl (upd (upd (upd (upd (upd (upd (upd (upd (upd (upd (upd (upd fval 0 1) 1 0) 2 0) 3 1) 4 12) 5 1) 6 1) 7 12) 8 1) 9 1) 10 12) 11 1)))] H := ⟨hP2, hD2⟩
  have hS := hS2; clear hP2 hD2 hS2; have hP := hPD.1; have hD := hPD.2; clear hPD
  refine W.widen (k := 0) (n := 0) (Nat.le_of_ble_eq_true rfl) (Nat.le_of_ble_eq_true rfl) ?_
  refine lv_iconst (v := 3) hx hb dX4_setUsual_31 (by decide) ?_
  refine lv_imul hx hb dX4_setUsual_32 ?_
  refine lv_eqi (y := 6) (by decide) ?_
  refine lv_iload_n hx hb dX4_setUsual_33 rfl (lv_at hl 0 rfl) ?_
  refine lv_iadd hx hb dX4_setUsual_34 ?_
  refine lv_eqi (y := 6) (by decide) ?_
  refine va_ti (v := .int 1) hx hb hZ.2.1 hS (by unfold vp_in; decide) rfl dX4_setUsual_35 ?_
  refine va_iast hx hb hK hP hD hS 1 0 rfl rfl (by unfold vp_in; decide) dX4_setUsual_36 (fun H locs hP2 hD2 hS2 => ?_)
  clear hP hD hS
  have hPD : PD D A [(Rd, .inr (4, [.ref Rq, .int (fr 1), .int (fr 2), .int (fr 3), .int (fr 4), .int (fr 5), .ref Rv])), (Rv, .inl (g 0, 21, .inl (upd (upd (upd (upd (upd (upd (upd (upd (upd (upd (upd (upd (upd fval 0 1) 1 0) 2 0) 3 1) 4 12) 5 1) 6 1) 7 12) 8 1) 9 1) 10 12) 11 1) 12 1)))] H := ⟨hP2, hD2⟩
  have hS := hS2; clear hP2 hD2 hS2; have hP := hPD.1; have hD := hPD.2; clear hPD
  refine lv_iinc (v := 1) (lv' := [(2, .int 1), (1, .int 4), (0, .ref Rd)]) hx hb dX4_setUsual_37 hl (k := 0) rfl (by decide) (by decide) rfl (fun ls hl => ?_)
  refine lv_goto (tgt := 10) hx hb dX4_setUsual_40 (by decide) ?_
  refine lv_iload_n hx hb dX4_setUsual_10 rfl (lv_at hl 0 rfl) ?_
  refine lv_iconst (v := 3) hx hb dX4_setUsual_11 (by decide) ?_
  refine lv_icmp_ge (tgt := 43) hx hb dX4_setUsual_12 (by decide) (fun cb => absurd cb (by decide)) (fun _ => ?_)
  refine lv_aload_n hx hb dX4_setUsual_15 rfl (lv_at hl 2 rfl) ?_
  refine va_get (D := D) (ci := 4) (v := .ref Rv) (C := RX4) (T := TX4) (N := 7) hx hb hts iX4 hown hK hP 0 rfl rfl 6 (by decide) f15 (fun _ h9 => h9) rfl dX4_setUsual_16 ?_
  refine lv_iload_n hx hb dX4_setUsual_19 rfl (lv_at hl 1 rfl) ?_
  refine lv_iconst (v := 3) hx hb dX4_setUsual_20 (by decide) ?_
  refine lv_imul hx hb dX4_setUsual_21 ?_
  refine lv_eqi (y := 12) (by decide) ?_
  refine lv_iload_n hx hb dX4_setUsual_22 rfl (lv_at hl 0 rfl) ?_
  refine lv_iadd hx hb dX4_setUsual_23 ?_
  refine lv_eqi (y := 13) (by decide) ?_
  refine va_gets hx hb hZ.1 hS hown f47 (fun _ h9 => h9) dX4_setUsual_24 ?_
  refine lv_iload_n hx hb dX4_setUsual_27 rfl (lv_at hl 1 rfl) ?_
  refine ky_Si (As := [.int 4]) (rest := [.ref (g 10), .int 13, .ref Rv]) ⟨hx, hb, hml, hown, hts⟩ ⟨hK, hN⟩ hZ hP hD hS hA [] [0, 1] (wc := []) (wr := [(Rd, .inr (4, [.ref Rq, .int (fr 1), .int (fr 2), .int (fr 3), .int (fr 4), .int (fr 5), .ref Rv])), (Rv, .inl (g 0, 21, .inl (upd (upd (upd (upd (upd (upd (upd (upd (upd (upd (upd (upd (upd fval 0 1) 1 0) 2 0) 3 1) 4 12) 5 1) 6 1) 7 12) 8 1) 9 1) 10 12) 11 1) 12 1)))]) rfl rfl rfl rfl (by decide) (k_X4_kindOf_4 l D g H.size) (va_cwS 1 hts gX4_setUsual_X4_kindOf rfl rfl rfl (by decide +kernel) ⟨(Nat.le_of_ble_eq_true rfl), (Nat.le_of_ble_eq_true rfl)⟩) rfl hl.1 rfl (Nat.le_of_ble_eq_true rfl) dX4_setUsual_28 ⟨(Nat.le_of_ble_eq_true rfl), (Nat.le_of_ble_eq_true rfl)⟩ (fun r_14 u H locs hw hP2 hD2 hS2 => ?_)
  clear hP hD hS
  obtain ⟨rfl, rfl⟩ := hw
  have hPD : PD D A [(Rd, .inr (4, [.ref Rq, .int (fr 1), .int (fr 2), .int (fr 3), .int (fr 4), .int (fr 5), .ref Rv])), (Rv, .inl (g 0, 21, .inl (upd (upd (upd (upd (upd (upd (upd (upd (upd (upd (upd (upd (upd fval 0 1) 1 0) 2 0) 3 1) 4 12) 5 1) 6 1) 7 12) 8 1) 9 1) 10 12) 11 1) 12 1)))] H := ⟨hP2, hD2⟩
  have hS := hS2; clear hP2 hD2 hS2; have hP := hPD.1; have hD := hPD.2; clear hPD
  refine W.widen (k := 0) (n := 0) (Nat.le_of_ble_eq_true rfl) (Nat.le_of_ble_eq_true rfl) ?_
  refine lv_iconst (v := 3) hx hb dX4_setUsual_31 (by decide) ?_
  refine lv_imul hx hb dX4_setUsual_32 ?_
  refine lv_eqi (y := 6) (by decide) ?_
  refine lv_iload_n hx hb dX4_setUsual_33 rfl (lv_at hl 0 rfl) ?_
  refine lv_iadd hx hb dX4_setUsual_34 ?_
  refine lv_eqi (y := 7) (by decide) ?_
  refine va_ti (v := .int 0) hx hb hZ.2.1 hS (by unfold vp_in; decide) rfl dX4_setUsual_35 ?_
  refine va_iast hx hb hK hP hD hS 1 0 rfl rfl (by unfold vp_in; decide) dX4_setUsual_36 (fun H locs hP2 hD2 hS2 => ?_)
  clear hP hD hS
  have hPD : PD D A [(Rd, .inr (4, [.ref Rq, .int (fr 1), .int (fr 2), .int (fr 3), .int (fr 4), .int (fr 5), .ref Rv])), (Rv, .inl (g 0, 21, .inl (upd (upd (upd (upd (upd (upd (upd (upd (upd (upd (upd (upd (upd (upd fval 0 1) 1 0) 2 0) 3 1) 4 12) 5 1) 6 1) 7 12) 8 1) 9 1) 10 12) 11 1) 12 1) 13 0)))] H := ⟨hP2, hD2⟩
  have hS := hS2; clear hP2 hD2 hS2; have hP := hPD.1; have hD := hPD.2; clear hPD
  refine lv_iinc (v := 2) (lv' := [(2, .int 2), (1, .int 4), (0, .ref Rd)]) hx hb dX4_setUsual_37 hl (k := 0) rfl (by decide) (by decide) rfl (fun ls hl => ?_)
  refine lv_goto (tgt := 10) hx hb dX4_setUsual_40 (by decide) ?_
  refine lv_iload_n hx hb dX4_setUsual_10 rfl (lv_at hl 0 rfl) ?_
  refine lv_iconst (v := 3) hx hb dX4_setUsual_11 (by decide) ?_
  refine lv_icmp_ge (tgt := 43) hx hb dX4_setUsual_12 (by decide) (fun cb => absurd cb (by decide)) (fun _ => ?_)
  refine lv_aload_n hx hb dX4_setUsual_15 rfl (lv_at hl 2 rfl) ?_
  refine va_get (D := D) (ci := 4) (v := .ref Rv) (C := RX4) (T := TX4) (N := 7) hx hb hts iX4 hown hK hP 0 rfl rfl 6 (by decide) f15 (fun _ h9 => h9) rfl dX4_setUsual_16 ?_
  refine lv_iload_n hx hb dX4_setUsual_19 rfl (lv_at hl 1 rfl) ?_
  refine lv_iconst (v := 3) hx hb dX4_setUsual_20 (by decide) ?_
  refine lv_imul hx hb dX4_setUsual_21 ?_
  refine lv_eqi (y := 12) (by decide) ?_
  refine lv_iload_n hx hb dX4_setUsual_22 rfl (lv_at hl 0 rfl) ?_
  refine lv_iadd hx hb dX4_setUsual_23 ?_
  refine lv_eqi (y := 14) (by decide) ?_
  refine va_gets hx hb hZ.1 hS hown f47 (fun _ h9 => h9) dX4_setUsual_24 ?_
  refine lv_iload_n hx hb dX4_setUsual_27 rfl (lv_at hl 1 rfl) ?_
  refine ky_Si (As := [.int 4]) (rest := [.ref (g 10), .int 14, .ref Rv]) ⟨hx, hb, hml, hown, hts⟩ ⟨hK, hN⟩ hZ hP hD hS hA [] [0, 1] (wc := []) (wr := [(Rd, .inr (4, [.ref Rq, .int (fr 1), .int (fr 2), .int (fr 3), .int (fr 4), .int (fr 5), .ref Rv])), (Rv, .inl (g 0, 21, .inl (upd (upd (upd (upd (upd (upd (upd (upd (upd (upd (upd (upd (upd (upd fval 0 1) 1 0) 2 0) 3 1) 4 12) 5 1) 6 1) 7 12) 8 1) 9 1) 10 12) 11 1) 12 1) 13 0)))]) rfl rfl rfl rfl (by decide) (k_X4_kindOf_4 l D g H.size) (va_cwS 1 hts gX4_setUsual_X4_kindOf rfl rfl rfl (by decide +kernel) ⟨(Nat.le_of_ble_eq_true rfl), (Nat.le_of_ble_eq_true rfl)⟩) rfl hl.1 rfl (Nat.le_of_ble_eq_true rfl) dX4_setUsual_28 ⟨(Nat.le_of_ble_eq_true rfl), (Nat.le_of_ble_eq_true rfl)⟩ (fun r_15 u H locs hw hP2 hD2 hS2 => ?_)
  clear hP hD hS
  obtain ⟨rfl, rfl⟩ := hw
  have hPD : PD D A [(Rd, .inr (4, [.ref Rq, .int (fr 1), .int (fr 2), .int (fr 3), .int (fr 4), .int (fr 5), .ref Rv])), (Rv, .inl (g 0, 21, .inl (upd (upd (upd (upd (upd (upd (upd (upd (upd (upd (upd (upd (upd (upd fval 0 1) 1 0) 2 0) 3 1) 4 12) 5 1) 6 1) 7 12) 8 1) 9 1) 10 12) 11 1) 12 1) 13 0)))] H := ⟨hP2, hD2⟩
  have hS := hS2; clear hP2 hD2 hS2; have hP := hPD.1; have hD := hPD.2; clear hPD
  refine W.widen (k := 0) (n := 0) (Nat.le_of_ble_eq_true rfl) (Nat.le_of_ble_eq_true rfl) ?_
  refine lv_iconst (v := 3) hx hb dX4_setUsual_31 (by decide) ?_
  refine lv_imul hx hb dX4_setUsual_32 ?_
  refine lv_eqi (y := 6) (by decide) ?_
  refine lv_iload_n hx hb dX4_setUsual_33 rfl (lv_at hl 0 rfl) ?_
  refine lv_iadd hx hb dX4_setUsual_34 ?_
  refine lv_eqi (y := 8) (by decide) ?_
  refine va_ti (v := .int 1) hx hb hZ.2.1 hS (by unfold vp_in; decide) rfl dX4_setUsual_35 ?_
  refine va_iast hx hb hK hP hD hS 1 0 rfl rfl (by unfold vp_in; decide) dX4_setUsual_36 (fun H locs hP2 hD2 hS2 => ?_)
  clear hP hD hS
  have hPD : PD D A [(Rd, .inr (4, [.ref Rq, .int (fr 1), .int (fr 2), .int (fr 3), .int (fr 4), .int (fr 5), .ref Rv])), (Rv, .inl (g 0, 21, .inl (upd (upd (upd (upd (upd (upd (upd (upd (upd (upd (upd (upd (upd (upd (upd fval 0 1) 1 0) 2 0) 3 1) 4 12) 5 1) 6 1) 7 12) 8 1) 9 1) 10 12) 11 1) 12 1) 13 0) 14 1)))] H := ⟨hP2, hD2⟩
  have hS := hS2; clear hP2 hD2 hS2; have hP := hPD.1; have hD := hPD.2; clear hPD
  refine lv_iinc (v := 3) (lv' := [(2, .int 3), (1, .int 4), (0, .ref Rd)]) hx hb dX4_setUsual_37 hl (k := 0) rfl (by decide) (by decide) rfl (fun ls hl => ?_)
  refine lv_goto (tgt := 10) hx hb dX4_setUsual_40 (by decide) ?_
  refine lv_iload_n hx hb dX4_setUsual_10 rfl (lv_at hl 0 rfl) ?_
  refine lv_iconst (v := 3) hx hb dX4_setUsual_11 (by decide) ?_
  refine lv_icmp_ge (tgt := 43) hx hb dX4_setUsual_12 (by decide) (fun _ => ?_) (fun cb => absurd (by decide) cb)
  refine lv_iinc (v := 5) (lv' := [(1, .int 5), (2, .int 3), (0, .ref Rd)]) hx hb dX4_setUsual_43 hl (k := 1) rfl (by decide) (by decide) rfl (fun ls hl => ?_)
  refine lv_goto (tgt := 2) hx hb dX4_setUsual_46 (by decide) ?_
  refine lv_iload_n hx hb dX4_setUsual_2 rfl (lv_at hl 0 rfl) ?_
  refine lv_bipush (v := 7) hx hb dX4_setUsual_3 (by decide) ?_
  refine lv_icmp_ge (tgt := 49) hx hb dX4_setUsual_5 (by decide) (fun cb => absurd cb (by decide)) (fun _ => ?_)
  refine lv_iconst (v := 0) hx hb dX4_setUsual_8 (by decide) ?_
  refine lv_istore_n (lv' := [(2, .int 0), (1, .int 5), (0, .ref Rd)]) hx hb dX4_setUsual_9 rfl hl (by decide) rfl (fun ls hl => ?_)
  refine lv_iload_n hx hb dX4_setUsual_10 rfl (lv_at hl 0 rfl) ?_
  refine lv_iconst (v := 3) hx hb dX4_setUsual_11 (by decide) ?_
  refine lv_icmp_ge (tgt := 43) hx hb dX4_setUsual_12 (by decide) (fun cb => absurd cb (by decide)) (fun _ => ?_)
  refine lv_aload_n hx hb dX4_setUsual_15 rfl (lv_at hl 2 rfl) ?_
  refine va_get (D := D) (ci := 4) (v := .ref Rv) (C := RX4) (T := TX4) (N := 7) hx hb hts iX4 hown hK hP 0 rfl rfl 6 (by decide) f15 (fun _ h9 => h9) rfl dX4_setUsual_16 ?_
  refine lv_iload_n hx hb dX4_setUsual_19 rfl (lv_at hl 1 rfl) ?_
  refine lv_iconst (v := 3) hx hb dX4_setUsual_20 (by decide) ?_
  refine lv_imul hx hb dX4_setUsual_21 ?_
  refine lv_eqi (y := 15) (by decide) ?_
  refine lv_iload_n hx hb dX4_setUsual_22 rfl (lv_at hl 0 rfl) ?_
  refine lv_iadd hx hb dX4_setUsual_23 ?_
  refine lv_eqi (y := 15) (by decide) ?_
  refine va_gets hx hb hZ.1 hS hown f47 (fun _ h9 => h9) dX4_setUsual_24 ?_
  refine lv_iload_n hx hb dX4_setUsual_27 rfl (lv_at hl 1 rfl) ?_
  refine ky_Si (As := [.int 5]) (rest := [.ref (g 10), .int 15, .ref Rv]) ⟨hx, hb, hml, hown, hts⟩ ⟨hK, hN⟩ hZ hP hD hS hA [] [0, 1] (wc := []) (wr := [(Rd, .inr (4, [.ref Rq, .int (fr 1), .int (fr 2), .int (fr 3), .int (fr 4), .int (fr 5), .ref Rv])), (Rv, .inl (g 0, 21, .inl (upd (upd (upd (upd (upd (upd (upd (upd (upd (upd (upd (upd (upd (upd (upd fval 0 1) 1 0) 2 0) 3 1) 4 12) 5 1) 6 1) 7 12) 8 1) 9 1) 10 12) 11 1) 12 1) 13 0) 14 1)))]) rfl rfl rfl rfl (by decide) (k_X4_kindOf_5 l D g H.size) (va_cwS 1 hts gX4_setUsual_X4_kindOf rfl rfl rfl (by decide +kernel) ⟨(Nat.le_of_ble_eq_true rfl), (Nat.le_of_ble_eq_true rfl)⟩) rfl hl.1 rfl (Nat.le_of_ble_eq_true rfl) dX4_setUsual_28 ⟨(Nat.le_of_ble_eq_true rfl), (Nat.le_of_ble_eq_true rfl)⟩ (fun r_16 u H locs hw hP2 hD2 hS2 => ?_)
  clear hP hD hS
  obtain ⟨rfl, rfl⟩ := hw
  have hPD : PD D A [(Rd, .inr (4, [.ref Rq, .int (fr 1), .int (fr 2), .int (fr 3), .int (fr 4), .int (fr 5), .ref Rv])), (Rv, .inl (g 0, 21, .inl (upd (upd (upd (upd (upd (upd (upd (upd (upd (upd (upd (upd (upd (upd (upd fval 0 1) 1 0) 2 0) 3 1) 4 12) 5 1) 6 1) 7 12) 8 1) 9 1) 10 12) 11 1) 12 1) 13 0) 14 1)))] H := ⟨hP2, hD2⟩
  have hS := hS2; clear hP2 hD2 hS2; have hP := hPD.1; have hD := hPD.2; clear hPD
  refine W.widen (k := 0) (n := 0) (Nat.le_of_ble_eq_true rfl) (Nat.le_of_ble_eq_true rfl) ?_
  refine lv_iconst (v := 3) hx hb dX4_setUsual_31 (by decide) ?_
  refine lv_imul hx hb dX4_setUsual_32 ?_
  refine lv_eqi (y := 6) (by decide) ?_
  refine lv_iload_n hx hb dX4_setUsual_33 rfl (lv_at hl 0 rfl) ?_
  refine lv_iadd hx hb dX4_setUsual_34 ?_
  refine lv_eqi (y := 6) (by decide) ?_
  refine va_ti (v := .int 1) hx hb hZ.2.1 hS (by unfold vp_in; decide) rfl dX4_setUsual_35 ?_
  refine va_iast hx hb hK hP hD hS 1 0 rfl rfl (by unfold vp_in; decide) dX4_setUsual_36 (fun H locs hP2 hD2 hS2 => ?_)
  clear hP hD hS
  have hPD : PD D A [(Rd, .inr (4, [.ref Rq, .int (fr 1), .int (fr 2), .int (fr 3), .int (fr 4), .int (fr 5), .ref Rv])), (Rv, .inl (g 0, 21, .inl (upd (upd (upd (upd (upd (upd (upd (upd (upd (upd (upd (upd (upd (upd (upd (upd fval 0 1) 1 0) 2 0) 3 1) 4 12) 5 1) 6 1) 7 12) 8 1) 9 1) 10 12) 11 1) 12 1) 13 0) 14 1) 15 1)))] H := ⟨hP2, hD2⟩
  have hS := hS2; clear hP2 hD2 hS2; have hP := hPD.1; have hD := hPD.2; clear hPD
  refine lv_iinc (v := 1) (lv' := [(2, .int 1), (1, .int 5), (0, .ref Rd)]) hx hb dX4_setUsual_37 hl (k := 0) rfl (by decide) (by decide) rfl (fun ls hl => ?_)
  refine lv_goto (tgt := 10) hx hb dX4_setUsual_40 (by decide) ?_
  refine lv_iload_n hx hb dX4_setUsual_10 rfl (lv_at hl 0 rfl) ?_
  refine lv_iconst (v := 3) hx hb dX4_setUsual_11 (by decide) ?_
  refine lv_icmp_ge (tgt := 43) hx hb dX4_setUsual_12 (by decide) (fun cb => absurd cb (by decide)) (fun _ => ?_)
  refine lv_aload_n hx hb dX4_setUsual_15 rfl (lv_at hl 2 rfl) ?_
  refine va_get (D := D) (ci := 4) (v := .ref Rv) (C := RX4) (T := TX4) (N := 7) hx hb hts iX4 hown hK hP 0 rfl rfl 6 (by decide) f15 (fun _ h9 => h9) rfl dX4_setUsual_16 ?_
  refine lv_iload_n hx hb dX4_setUsual_19 rfl (lv_at hl 1 rfl) ?_
  refine lv_iconst (v := 3) hx hb dX4_setUsual_20 (by decide) ?_
  refine lv_imul hx hb dX4_setUsual_21 ?_
  refine lv_eqi (y := 15) (by decide) ?_
  refine lv_iload_n hx hb dX4_setUsual_22 rfl (lv_at hl 0 rfl) ?_
  refine lv_iadd hx hb dX4_setUsual_23 ?_
  refine lv_eqi (y := 16) (by decide) ?_
  refine va_gets hx hb hZ.1 hS hown f47 (fun _ h9 => h9) dX4_setUsual_24 ?_
  refine lv_iload_n hx hb dX4_setUsual_27 rfl (lv_at hl 1 rfl) ?_
  refine ky_Si (As := [.int 5]) (rest := [.ref (g 10), .int 16, .ref Rv]) ⟨hx, hb, hml, hown, hts⟩ ⟨hK, hN⟩ hZ hP hD hS hA [] [0, 1] (wc := []) (wr := [(Rd, .inr (4, [.ref Rq, .int (fr 1), .int (fr 2), .int (fr 3), .int (fr 4), .int (fr 5), .ref Rv])), (Rv, .inl (g 0, 21, .inl (upd (upd (upd (upd (upd (upd (upd (upd (upd (upd (upd (upd (upd (upd (upd (upd fval 0 1) 1 0) 2 0) 3 1) 4 12) 5 1) 6 1) 7 12) 8 1) 9 1) 10 12) 11 1) 12 1) 13 0) 14 1) 15 1)))]) rfl rfl rfl rfl (by decide) (k_X4_kindOf_5 l D g H.size) (va_cwS 1 hts gX4_setUsual_X4_kindOf rfl rfl rfl (by decide +kernel) ⟨(Nat.le_of_ble_eq_true rfl), (Nat.le_of_ble_eq_true rfl)⟩) rfl hl.1 rfl (Nat.le_of_ble_eq_true rfl) dX4_setUsual_28 ⟨(Nat.le_of_ble_eq_true rfl), (Nat.le_of_ble_eq_true rfl)⟩ (fun r_17 u H locs hw hP2 hD2 hS2 => ?_)
  clear hP hD hS
  obtain ⟨rfl, rfl⟩ := hw
  have hPD : PD D A [(Rd, .inr (4, [.ref Rq, .int (fr 1), .int (fr 2), .int (fr 3), .int (fr 4), .int (fr 5), .ref Rv])), (Rv, .inl (g 0, 21, .inl (upd (upd (upd (upd (upd (upd (upd (upd (upd (upd (upd (upd (upd (upd (upd (upd fval 0 1) 1 0) 2 0) 3 1) 4 12) 5 1) 6 1) 7 12) 8 1) 9 1) 10 12) 11 1) 12 1) 13 0) 14 1) 15 1)))] H := ⟨hP2, hD2⟩
  have hS := hS2; clear hP2 hD2 hS2; have hP := hPD.1; have hD := hPD.2; clear hPD
  refine W.widen (k := 0) (n := 0) (Nat.le_of_ble_eq_true rfl) (Nat.le_of_ble_eq_true rfl) ?_
  refine lv_iconst (v := 3) hx hb dX4_setUsual_31 (by decide) ?_
  refine lv_imul hx hb dX4_setUsual_32 ?_
  refine lv_eqi (y := 6) (by decide) ?_
  refine lv_iload_n hx hb dX4_setUsual_33 rfl (lv_at hl 0 rfl) ?_
  refine lv_iadd hx hb dX4_setUsual_34 ?_
  refine lv_eqi (y := 7) (by decide) ?_
  refine va_ti (v := .int 0) hx hb hZ.2.1 hS (by unfold vp_in; decide) rfl dX4_setUsual_35 ?_
  refine va_iast hx hb hK hP hD hS 1 0 rfl rfl (by unfold vp_in; decide) dX4_setUsual_36 (fun H locs hP2 hD2 hS2 => ?_)
  clear hP hD hS
  have hPD : PD D A [(Rd, .inr (4, [.ref Rq, .int (fr 1), .int (fr 2), .int (fr 3), .int (fr 4), .int (fr 5), .ref Rv])), (Rv, .inl (g 0, 21, .inl (upd (upd (upd (upd (upd (upd (upd (upd (upd (upd (upd (upd (upd (upd (upd (upd (upd fval 0 1) 1 0) 2 0) 3 1) 4 12) 5 1) 6 1) 7 12) 8 1) 9 1) 10 12) 11 1) 12 1) 13 0) 14 1) 15 1) 16 0)))] H := ⟨hP2, hD2⟩
  have hS := hS2; clear hP2 hD2 hS2; have hP := hPD.1; have hD := hPD.2; clear hPD
  refine lv_iinc (v := 2) (lv' := [(2, .int 2), (1, .int 5), (0, .ref Rd)]) hx hb dX4_setUsual_37 hl (k := 0) rfl (by decide) (by decide) rfl (fun ls hl => ?_)
  refine lv_goto (tgt := 10) hx hb dX4_setUsual_40 (by decide) ?_
  refine lv_iload_n hx hb dX4_setUsual_10 rfl (lv_at hl 0 rfl) ?_
  refine lv_iconst (v := 3) hx hb dX4_setUsual_11 (by decide) ?_
  refine lv_icmp_ge (tgt := 43) hx hb dX4_setUsual_12 (by decide) (fun cb => absurd cb (by decide)) (fun _ => ?_)
  refine lv_aload_n hx hb dX4_setUsual_15 rfl (lv_at hl 2 rfl) ?_
  refine va_get (D := D) (ci := 4) (v := .ref Rv) (C := RX4) (T := TX4) (N := 7) hx hb hts iX4 hown hK hP 0 rfl rfl 6 (by decide) f15 (fun _ h9 => h9) rfl dX4_setUsual_16 ?_
  refine lv_iload_n hx hb dX4_setUsual_19 rfl (lv_at hl 1 rfl) ?_
  refine lv_iconst (v := 3) hx hb dX4_setUsual_20 (by decide) ?_
  refine lv_imul hx hb dX4_setUsual_21 ?_
  refine lv_eqi (y := 15) (by decide) ?_
  refine lv_iload_n hx hb dX4_setUsual_22 rfl (lv_at hl 0 rfl) ?_
  refine lv_iadd hx hb dX4_setUsual_23 ?_
  refine lv_eqi (y := 17) (by decide) ?_
  refine va_gets hx hb hZ.1 hS hown f47 (fun _ h9 => h9) dX4_setUsual_24 ?_
  refine lv_iload_n hx hb dX4_setUsual_27 rfl (lv_at hl 1 rfl) ?_
  refine ky_Si (As := [.int 5]) (rest := [.ref (g 10), .int 17, .ref Rv]) ⟨hx, hb, hml, hown, hts⟩ ⟨hK, hN⟩ hZ hP hD hS hA [] [0, 1] (wc := []) (wr := [(Rd, .inr (4, [.ref Rq, .int (fr 1), .int (fr 2), .int (fr 3), .int (fr 4), .int (fr 5), .ref Rv])), (Rv, .inl (g 0, 21, .inl (upd (upd (upd (upd (upd (upd (upd (upd (upd (upd (upd (upd (upd (upd (upd (upd (upd fval 0 1) 1 0) 2 0) 3 1) 4 12) 5 1) 6 1) 7 12) 8 1) 9 1) 10 12) 11 1) 12 1) 13 0) 14 1) 15 1) 16 0)))]) rfl rfl rfl rfl (by decide) (k_X4_kindOf_5 l D g H.size) (va_cwS 1 hts gX4_setUsual_X4_kindOf rfl rfl rfl (by decide +kernel) ⟨(Nat.le_of_ble_eq_true rfl), (Nat.le_of_ble_eq_true rfl)⟩) rfl hl.1 rfl (Nat.le_of_ble_eq_true rfl) dX4_setUsual_28 ⟨(Nat.le_of_ble_eq_true rfl), (Nat.le_of_ble_eq_true rfl)⟩ (fun r_18 u H locs hw hP2 hD2 hS2 => ?_)
  clear hP hD hS
  obtain ⟨rfl, rfl⟩ := hw
  have hPD : PD D A [(Rd, .inr (4, [.ref Rq, .int (fr 1), .int (fr 2), .int (fr 3), .int (fr 4), .int (fr 5), .ref Rv])), (Rv, .inl (g 0, 21, .inl (upd (upd (upd (upd (upd (upd (upd (upd (upd (upd (upd (upd (upd (upd (upd (upd (upd fval 0 1) 1 0) 2 0) 3 1) 4 12) 5 1) 6 1) 7 12) 8 1) 9 1) 10 12) 11 1) 12 1) 13 0) 14 1) 15 1) 16 0)))] H := ⟨hP2, hD2⟩
  have hS := hS2; clear hP2 hD2 hS2; have hP := hPD.1; have hD := hPD.2; clear hPD
  refine W.widen (k := 0) (n := 0) (Nat.le_of_ble_eq_true rfl) (Nat.le_of_ble_eq_true rfl) ?_
  refine lv_iconst (v := 3) hx hb dX4_setUsual_31 (by decide) ?_
  refine lv_imul hx hb dX4_setUsual_32 ?_
  refine lv_eqi (y := 6) (by decide) ?_
  refine lv_iload_n hx hb dX4_setUsual_33 rfl (lv_at hl 0 rfl) ?_
  refine lv_iadd hx hb dX4_setUsual_34 ?_
  refine lv_eqi (y := 8) (by decide) ?_
  refine va_ti (v := .int 1) hx hb hZ.2.1 hS (by unfold vp_in; decide) rfl dX4_setUsual_35 ?_
  refine va_iast hx hb hK hP hD hS 1 0 rfl rfl (by unfold vp_in; decide) dX4_setUsual_36 (fun H locs hP2 hD2 hS2 => ?_)
  clear hP hD hS
  have hPD : PD D A [(Rd, .inr (4, [.ref Rq, .int (fr 1), .int (fr 2), .int (fr 3), .int (fr 4), .int (fr 5), .ref Rv])), (Rv, .inl (g 0, 21, .inl (upd (upd (upd (upd (upd (upd (upd (upd (upd (upd (upd (upd (upd (upd (upd (upd (upd (upd fval 0 1) 1 0) 2 0) 3 1) 4 12) 5 1) 6 1) 7 12) 8 1) 9 1) 10 12) 11 1) 12 1) 13 0) 14 1) 15 1) 16 0) 17 1)))] H := ⟨hP2, hD2⟩
  have hS := hS2; clear hP2 hD2 hS2; have hP := hPD.1; have hD := hPD.2; clear hPD
  refine lv_iinc (v := 3) (lv' := [(2, .int 3), (1, .int 5), (0, .ref Rd)]) hx hb dX4_setUsual_37 hl (k := 0) rfl (by decide) (by decide) rfl (fun ls hl => ?_)
  refine lv_goto (tgt := 10) hx hb dX4_setUsual_40 (by decide) ?_
  refine lv_iload_n hx hb dX4_setUsual_10 rfl (lv_at hl 0 rfl) ?_
  refine lv_iconst (v := 3) hx hb dX4_setUsual_11 (by decide) ?_
  refine lv_icmp_ge (tgt := 43) hx hb dX4_setUsual_12 (by decide) (fun _ => ?_) (fun cb => absurd (by decide) cb)
  refine lv_iinc (v := 6) (lv' := [(1, .int 6), (2, .int 3), (0, .ref Rd)]) hx hb dX4_setUsual_43 hl (k := 1) rfl (by decide) (by decide) rfl (fun ls hl => ?_)
  refine lv_goto (tgt := 2) hx hb dX4_setUsual_46 (by decide) ?_
  refine lv_iload_n hx hb dX4_setUsual_2 rfl (lv_at hl 0 rfl) ?_
  refine lv_bipush (v := 7) hx hb dX4_setUsual_3 (by decide) ?_
  refine lv_icmp_ge (tgt := 49) hx hb dX4_setUsual_5 (by decide) (fun cb => absurd cb (by decide)) (fun _ => ?_)
  refine lv_iconst (v := 0) hx hb dX4_setUsual_8 (by decide) ?_
  refine lv_istore_n (lv' := [(2, .int 0), (1, .int 6), (0, .ref Rd)]) hx hb dX4_setUsual_9 rfl hl (by decide) rfl (fun ls hl => ?_)
  refine lv_iload_n hx hb dX4_setUsual_10 rfl (lv_at hl 0 rfl) ?_
  refine lv_iconst (v := 3) hx hb dX4_setUsual_11 (by decide) ?_
  refine lv_icmp_ge (tgt := 43) hx hb dX4_setUsual_12 (by decide) (fun cb => absurd cb (by decide)) (fun _ => ?_)
  refine lv_aload_n hx hb dX4_setUsual_15 rfl (lv_at hl 2 rfl) ?_
  refine va_get (D := D) (ci := 4) (v := .ref Rv) (C := RX4) (T := TX4) (N := 7) hx hb hts iX4 hown hK hP 0 rfl rfl 6 (by decide) f15 (fun _ h9 => h9) rfl dX4_setUsual_16 ?_
  refine lv_iload_n hx hb dX4_setUsual_19 rfl (lv_at hl 1 rfl) ?_
  refine lv_iconst (v := 3) hx hb dX4_setUsual_20 (by decide) ?_
  refine lv_imul hx hb dX4_setUsual_21 ?_
  refine lv_eqi (y := 18) (by decide) ?_
  refine lv_iload_n hx hb dX4_setUsual_22 rfl (lv_at hl 0 rfl) ?_
  refine lv_iadd hx hb dX4_setUsual_23 ?_
  refine lv_eqi (y := 18) (by decide) ?_
  refine va_gets hx hb hZ.1 hS hown f47 (fun _ h9 => h9) dX4_setUsual_24 ?_
  refine lv_iload_n hx hb dX4_setUsual_27 rfl (lv_at hl 1 rfl) ?_
  refine ky_Si (As := [.int 6]) (rest := [.ref (g 10), .int 18, .ref Rv]) ⟨hx, hb, hml, hown, hts⟩ ⟨hK, hN⟩ hZ hP hD hS hA [] [0, 1] (wc := []) (wr := [(Rd, .inr (4, [.ref Rq, .int (fr 1), .int (fr 2), .int (fr 3), .int (fr 4), .int (fr 5), .ref Rv])), (Rv, .inl (g 0, 21, .inl (upd (upd (upd (upd (upd (upd (upd (upd (upd (upd (upd (upd (upd (upd (upd (upd (upd (upd fval 0 1) 1 0) 2 0) 3 1) 4 12) 5 1) 6 1) 7 12) 8 1) 9 1) 10 12) 11 1) 12 1) 13 0) 14 1) 15 1) 16 0) 17 1)))]) rfl rfl rfl rfl (by decide) (k_X4_kindOf_6 l D g H.size) (va_cwS 1 hts gX4_setUsual_X4_kindOf rfl rfl rfl (by decide +kernel) ⟨(Nat.le_of_ble_eq_true rfl), (Nat.le_of_ble_eq_true rfl)⟩) rfl hl.1 rfl (Nat.le_of_ble_eq_true rfl) dX4_setUsual_28 ⟨(Nat.le_of_ble_eq_true rfl), (Nat.le_of_ble_eq_true rfl)⟩ (fun r_19 u H locs hw hP2 hD2 hS2 => ?_)
  clear hP hD hS
  obtain ⟨rfl, rfl⟩ := hw
  have hPD : PD D A [(Rd, .inr (4, [.ref Rq, .int (fr 1), .int (fr 2), .int (fr 3), .int (fr 4), .int (fr 5), .ref Rv])), (Rv, .inl (g 0, 21, .inl (upd (upd (upd (upd (upd (upd (upd (upd (upd (upd (upd (upd (upd (upd (upd (upd (upd (upd fval 0 1) 1 0) 2 0) 3 1) 4 12) 5 1) 6 1) 7 12) 8 1) 9 1) 10 12) 11 1) 12 1) 13 0) 14 1) 15 1) 16 0) 17 1)))] H := ⟨hP2, hD2⟩
  have hS := hS2; clear hP2 hD2 hS2; have hP := hPD.1; have hD := hPD.2; clear hPD
  refine W.widen (k := 0) (n := 0) (Nat.le_of_ble_eq_true rfl) (Nat.le_of_ble_eq_true rfl) ?_
  refine lv_iconst (v := 3) hx hb dX4_setUsual_31 (by decide) ?_
  refine lv_imul hx hb dX4_setUsual_32 ?_
  refine lv_eqi (y := 6) (by decide) ?_
  refine lv_iload_n hx hb dX4_setUsual_33 rfl (lv_at hl 0 rfl) ?_
  refine lv_iadd hx hb dX4_setUsual_34 ?_
  refine lv_eqi (y := 6) (by decide) ?_
  refine va_ti (v := .int 1) hx hb hZ.2.1 hS (by unfold vp_in; decide) rfl dX4_setUsual_35 ?_
  refine va_iast hx hb hK hP hD hS 1 0 rfl rfl (by unfold vp_in; decide) dX4_setUsual_36 (fun H locs hP2 hD2 hS2 => ?_)
  clear hP hD hS
  have hPD : PD D A [(Rd, .inr (4, [.ref Rq, .int (fr 1), .int (fr 2), .int (fr 3), .int (fr 4), .int (fr 5), .ref Rv])), (Rv, .inl (g 0, 21, .inl (upd (upd (upd (upd (upd (upd (upd (upd (upd (upd (upd (upd (upd (upd (upd (upd (upd (upd (upd fval 0 1) 1 0) 2 0) 3 1) 4 12) 5 1) 6 1) 7 12) 8 1) 9 1) 10 12) 11 1) 12 1) 13 0) 14 1) 15 1) 16 0) 17 1) 18 1)))] H := ⟨hP2, hD2⟩
  have hS := hS2; clear hP2 hD2 hS2; have hP := hPD.1; have hD := hPD.2; clear hPD
  refine lv_iinc (v := 1) (lv' := [(2, .int 1), (1, .int 6), (0, .ref Rd)]) hx hb dX4_setUsual_37 hl (k := 0) rfl (by decide) (by decide) rfl (fun ls hl => ?_)
  refine lv_goto (tgt := 10) hx hb dX4_setUsual_40 (by decide) ?_
  refine lv_iload_n hx hb dX4_setUsual_10 rfl (lv_at hl 0 rfl) ?_
  refine lv_iconst (v := 3) hx hb dX4_setUsual_11 (by decide) ?_
  refine lv_icmp_ge (tgt := 43) hx hb dX4_setUsual_12 (by decide) (fun cb => absurd cb (by decide)) (fun _ => ?_)
  refine lv_aload_n hx hb dX4_setUsual_15 rfl (lv_at hl 2 rfl) ?_
  refine va_get (D := D) (ci := 4) (v := .ref Rv) (C := RX4) (T := TX4) (N := 7) hx hb hts iX4 hown hK hP 0 rfl rfl 6 (by decide) f15 (fun _ h9 => h9) rfl dX4_setUsual_16 ?_
  refine lv_iload_n hx hb dX4_setUsual_19 rfl (lv_at hl 1 rfl) ?_
  refine lv_iconst (v := 3) hx hb dX4_setUsual_20 (by decide) ?_
  refine lv_imul hx hb dX4_setUsual_21 ?_
  refine lv_eqi (y := 18) (by decide) ?_
  refine lv_iload_n hx hb dX4_setUsual_22 rfl (lv_at hl 0 rfl) ?_
  refine lv_iadd hx hb dX4_setUsual_23 ?_
  refine lv_eqi (y := 19) (by decide) ?_
  refine va_gets hx hb hZ.1 hS hown f47 (fun _ h9 => h9) dX4_setUsual_24 ?_
  refine lv_iload_n hx hb dX4_setUsual_27 rfl (lv_at hl 1 rfl) ?_
  refine ky_Si (As := [.int 6]) (rest := [.ref (g 10), .int 19, .ref Rv]) ⟨hx, hb, hml, hown, hts⟩ ⟨hK, hN⟩ hZ hP hD hS hA [] [0, 1] (wc := []) (wr := [(Rd, .inr (4, [.ref Rq, .int (fr 1), .int (fr 2), .int (fr 3), .int (fr 4), .int (fr 5), .ref Rv])), (Rv, .inl (g 0, 21, .inl (upd (upd (upd (upd (upd (upd (upd (upd (upd (upd (upd (upd (upd (upd (upd (upd (upd (upd (upd fval 0 1) 1 0) 2 0) 3 1) 4 12) 5 1) 6 1) 7 12) 8 1) 9 1) 10 12) 11 1) 12 1) 13 0) 14 1) 15 1) 16 0) 17 1) 18 1)))]) rfl rfl rfl rfl (by decide) (k_X4_kindOf_6 l D g H.size) (va_cwS 1 hts gX4_setUsual_X4_kindOf rfl rfl rfl (by decide +kernel) ⟨(Nat.le_of_ble_eq_true rfl), (Nat.le_of_ble_eq_true rfl)⟩) rfl hl.1 rfl (Nat.le_of_ble_eq_true rfl) dX4_setUsual_28 ⟨(Nat.le_of_ble_eq_true rfl), (Nat.le_of_ble_eq_true rfl)⟩ (fun r_20 u H locs hw hP2 hD2 hS2 => ?_)
  clear hP hD hS
  obtain ⟨rfl, rfl⟩ := hw
  have hPD : PD D A [(Rd, .inr (4, [.ref Rq, .int (fr 1), .int (fr 2), .int (fr 3), .int (fr 4), .int (fr 5), .ref Rv])), (Rv, .inl (g 0, 21, .inl (upd (upd (upd (upd (upd (upd (upd (upd (upd (upd (upd (upd (upd (upd (upd (upd (upd (upd (upd fval 0 1) 1 0) 2 0) 3 1) 4 12) 5 1) 6 1) 7 12) 8 1) 9 1) 10 12) 11 1) 12 1) 13 0) 14 1) 15 1) 16 0) 17 1) 18 1)))] H := ⟨hP2, hD2⟩
  have hS := hS2; clear hP2 hD2 hS2; have hP := hPD.1; have hD := hPD.2; clear hPD
  refine W.widen (k := 0) (n := 0) (Nat.le_of_ble_eq_true rfl) (Nat.le_of_ble_eq_true rfl) ?_
  refine lv_iconst (v := 3) hx hb dX4_setUsual_31 (by decide) ?_
  refine lv_imul hx hb dX4_setUsual_32 ?_
  refine lv_eqi (y := 6) (by decide) ?_
  refine lv_iload_n hx hb dX4_setUsual_33 rfl (lv_at hl 0 rfl) ?_
  refine lv_iadd hx hb dX4_setUsual_34 ?_
  refine lv_eqi (y := 7) (by decide) ?_
  refine va_ti (v := .int 0) hx hb hZ.2.1 hS (by unfold vp_in; decide) rfl dX4_setUsual_35 ?_
  refine va_iast hx hb hK hP hD hS 1 0 rfl rfl (by unfold vp_in; decide) dX4_setUsual_36 (fun H locs hP2 hD2 hS2 => ?_)
  clear hP hD hS
  have hPD : PD D A [(Rd, .inr (4, [.ref Rq, .int (fr 1), .int (fr 2), .int (fr 3), .int (fr 4), .int (fr 5), .ref Rv])), (Rv, .inl (g 0, 21, .inl (upd (upd (upd (upd (upd (upd (upd (upd (upd (upd (upd (upd (upd (upd (upd (upd (upd (upd (upd (upd fval 0 1) 1 0) 2 0) 3 1) 4 12) 5 1) 6 1) 7 12) 8 1) 9 1) 10 12) 11 1) 12 1) 13 0) 14 1) 15 1) 16 0) 17 1) 18 1) 19 0)))] H := ⟨hP2, hD2⟩
  have hS := hS2; clear hP2 hD2 hS2; have hP := hPD.1; have hD := hPD.2; clear hPD
  refine lv_iinc (v := 2) (lv' := [(2, .int 2), (1, .int 6), (0, .ref Rd)]) hx hb dX4_setUsual_37 hl (k := 0) rfl (by decide) (by decide) rfl (fun ls hl => ?_)
  refine lv_goto (tgt := 10) hx hb dX4_setUsual_40 (by decide) ?_
  refine lv_iload_n hx hb dX4_setUsual_10 rfl (lv_at hl 0 rfl) ?_
  refine lv_iconst (v := 3) hx hb dX4_setUsual_11 (by decide) ?_
  refine lv_icmp_ge (tgt := 43) hx hb dX4_setUsual_12 (by decide) (fun cb => absurd cb (by decide)) (fun _ => ?_)
  refine lv_aload_n hx hb dX4_setUsual_15 rfl (lv_at hl 2 rfl) ?_
  refine va_get (D := D) (ci := 4) (v := .ref Rv) (C := RX4) (T := TX4) (N := 7) hx hb hts iX4 hown hK hP 0 rfl rfl 6 (by decide) f15 (fun _ h9 => h9) rfl dX4_setUsual_16 ?_
  refine lv_iload_n hx hb dX4_setUsual_19 rfl (lv_at hl 1 rfl) ?_
  refine lv_iconst (v := 3) hx hb dX4_setUsual_20 (by decide) ?_
  refine lv_imul hx hb dX4_setUsual_21 ?_
  refine lv_eqi (y := 18) (by decide) ?_
  refine lv_iload_n hx hb dX4_setUsual_22 rfl (lv_at hl 0 rfl) ?_
  refine lv_iadd hx hb dX4_setUsual_23 ?_
  refine lv_eqi (y := 20) (by decide) ?_
  refine va_gets hx hb hZ.1 hS hown f47 (fun _ h9 => h9) dX4_setUsual_24 ?_
  refine lv_iload_n hx hb dX4_setUsual_27 rfl (lv_at hl 1 rfl) ?_
  refine ky_Si (As := [.int 6]) (rest := [.ref (g 10), .int 20, .ref Rv]) ⟨hx, hb, hml, hown, hts⟩ ⟨hK, hN⟩ hZ hP hD hS hA [] [0, 1] (wc := []) (wr := [(Rd, .inr (4, [.ref Rq, .int (fr 1), .int (fr 2), .int (fr 3), .int (fr 4), .int (fr 5), .ref Rv])), (Rv, .inl (g 0, 21, .inl (upd (upd (upd (upd (upd (upd (upd (upd (upd (upd (upd (upd (upd (upd (upd (upd (upd (upd (upd (upd fval 0 1) 1 0) 2 0) 3 1) 4 12) 5 1) 6 1) 7 12) 8 1) 9 1) 10 12) 11 1) 12 1) 13 0) 14 1) 15 1) 16 0) 17 1) 18 1) 19 0)))]) rfl rfl rfl rfl (by decide) (k_X4_kindOf_6 l D g H.size) (va_cwS 1 hts gX4_setUsual_X4_kindOf rfl rfl rfl (by decide +kernel) ⟨(Nat.le_of_ble_eq_true rfl), (Nat.le_of_ble_eq_true rfl)⟩) rfl hl.1 rfl (Nat.le_of_ble_eq_true rfl) dX4_setUsual_28 ⟨(Nat.le_of_ble_eq_true rfl), (Nat.le_of_ble_eq_true rfl)⟩ (fun r_21 u H locs hw hP2 hD2 hS2 => ?_)
  clear hP hD hS
  obtain ⟨rfl, rfl⟩ := hw
  have hPD : PD D A [(Rd, .inr (4, [.ref Rq, .int (fr 1), .int (fr 2), .int (fr 3), .int (fr 4), .int (fr 5), .ref Rv])), (Rv, .inl (g 0, 21, .inl (upd (upd (upd (upd (upd (upd (upd (upd (upd (upd (upd (upd (upd (upd (upd (upd (upd (upd (upd (upd fval 0 1) 1 0) 2 0) 3 1) 4 12) 5 1) 6 1) 7 12) 8 1) 9 1) 10 12) 11 1) 12 1) 13 0) 14 1) 15 1) 16 0) 17 1) 18 1) 19 0)))] H := ⟨hP2, hD2⟩
  have hS := hS2; clear hP2 hD2 hS2; have hP := hPD.1; have hD := hPD.2; clear hPD
  refine W.widen (k := 0) (n := 0) (Nat.le_of_ble_eq_true rfl) (Nat.le_of_ble_eq_true rfl) ?_
  refine lv_iconst (v := 3) hx hb dX4_setUsual_31 (by decide) ?_
  refine lv_imul hx hb dX4_setUsual_32 ?_
  refine lv_eqi (y := 6) (by decide) ?_
  refine lv_iload_n hx hb dX4_setUsual_33 rfl (lv_at hl 0 rfl) ?_
  refine lv_iadd hx hb dX4_setUsual_34 ?_
  refine lv_eqi (y := 8) (by decide) ?_
  refine va_ti (v := .int 1) hx hb hZ.2.1 hS (by unfold vp_in; decide) rfl dX4_setUsual_35 ?_
  refine va_iast hx hb hK hP hD hS 1 0 rfl rfl (by unfold vp_in; decide) dX4_setUsual_36 (fun H locs hP2 hD2 hS2 => ?_)
  clear hP hD hS
  have hPD : PD D A [(Rd, .inr (4, [.ref Rq, .int (fr 1), .int (fr 2), .int (fr 3), .int (fr 4), .int (fr 5), .ref Rv])), (Rv, .inl (g 0, 21, .inl (upd (upd (upd (upd (upd (upd (upd (upd (upd (upd (upd (upd (upd (upd (upd (upd (upd (upd (upd (upd (upd fval 0 1) 1 0) 2 0) 3 1) 4 12) 5 1) 6 1) 7 12) 8 1) 9 1) 10 12) 11 1) 12 1) 13 0) 14 1) 15 1) 16 0) 17 1) 18 1) 19 0) 20 1)))] H := ⟨hP2, hD2⟩
  have hS := hS2; clear hP2 hD2 hS2; have hP := hPD.1; have hD := hPD.2; clear hPD
  refine lv_iinc (v := 3) (lv' := [(2, .int 3), (1, .int 6), (0, .ref Rd)]) hx hb dX4_setUsual_37 hl (k := 0) rfl (by decide) (by decide) rfl (fun ls hl => ?_)
  refine lv_goto (tgt := 10) hx hb dX4_setUsual_40 (by decide) ?_
  refine lv_iload_n hx hb dX4_setUsual_10 rfl (lv_at hl 0 rfl) ?_
  refine lv_iconst (v := 3) hx hb dX4_setUsual_11 (by decide) ?_
  refine lv_icmp_ge (tgt := 43) hx hb dX4_setUsual_12 (by decide) (fun _ => ?_) (fun cb => absurd (by decide) cb)
  refine lv_iinc (v := 7) (lv' := [(1, .int 7), (2, .int 3), (0, .ref Rd)]) hx hb dX4_setUsual_43 hl (k := 1) rfl (by decide) (by decide) rfl (fun ls hl => ?_)
  refine lv_goto (tgt := 2) hx hb dX4_setUsual_46 (by decide) ?_
  refine lv_iload_n hx hb dX4_setUsual_2 rfl (lv_at hl 0 rfl) ?_
  refine lv_bipush (v := 7) hx hb dX4_setUsual_3 (by decide) ?_
  refine lv_icmp_ge (tgt := 49) hx hb dX4_setUsual_5 (by decide) (fun _ => ?_) (fun cb => absurd (by decide) cb)
  have hP9 := hP; have hD9 := hD
  subst hQ
  refine W.widen (k := 0) (n := 0) (Nat.le_of_ble_eq_true rfl) (Nat.le_of_ble_eq_true rfl) ?_
  exact W.vret hx hb hr (fun tS htS _ => ⟨⟨_, rfl, ⟨(upd (upd (upd (upd (upd (upd (upd (upd (upd (upd (upd (upd (upd (upd (upd (upd (upd (upd (upd (upd (upd fval 0 1) 1 0) 2 0) 3 1) 4 12) 5 1) 6 1) 7 12) 8 1) 9 1) 10 12) 11 1) 12 1) 13 0) 14 1) 15 1) 16 0) 17 1) 18 1) 19 0) 20 1), rfl, (vOK_upd (vOK_upd (vOK_upd (vOK_upd (vOK_upd (vOK_upd (vOK_upd (vOK_upd (vOK_upd (vOK_upd (vOK_upd (vOK_upd (vOK_upd (vOK_upd (vOK_upd (vOK_upd (vOK_upd (vOK_upd (vOK_upd (vOK_upd (vOK_upd (h0) (k := 0) (n := 1) (Nat.le_trans (show 1 ≤ 4 by omega) (Nat.le_of_ble_eq_true rfl))) (k := 1) (n := 0) (Nat.le_trans (show 0 ≤ 20 by omega) (Nat.le_of_ble_eq_true rfl))) (k := 2) (n := 0) (Nat.le_trans (show 0 ≤ 9 by omega) (Nat.le_of_ble_eq_true rfl))) (k := 3) (n := 1) (Nat.le_trans (show 1 ≤ 4 by omega) (Nat.le_of_ble_eq_true rfl))) (k := 4) (n := 12) (Nat.le_trans (show 12 ≤ 30 by omega) (Nat.le_of_ble_eq_true rfl))) (k := 5) (n := 1) (Nat.le_trans (show 1 ≤ 4 by omega) (Nat.le_of_ble_eq_true rfl))) (k := 6) (n := 1) (Nat.le_trans (show 1 ≤ 4 by omega) (Nat.le_of_ble_eq_true rfl))) (k := 7) (n := 12) (Nat.le_trans (show 12 ≤ 30 by omega) (Nat.le_of_ble_eq_true rfl))) (k := 8) (n := 1) (Nat.le_trans (show 1 ≤ 4 by omega) (Nat.le_of_ble_eq_true rfl))) (k := 9) (n := 1) (Nat.le_trans (show 1 ≤ 4 by omega) (Nat.le_of_ble_eq_true rfl))) (k := 10) (n := 12) (Nat.le_trans (show 12 ≤ 30 by omega) (Nat.le_of_ble_eq_true rfl))) (k := 11) (n := 1) (Nat.le_trans (show 1 ≤ 4 by omega) (Nat.le_of_ble_eq_true rfl))) (k := 12) (n := 1) (Nat.le_trans (show 1 ≤ 9 by omega) (Nat.le_of_ble_eq_true rfl))) (k := 13) (n := 0) (Nat.le_trans (show 0 ≤ 20 by omega) (Nat.le_of_ble_eq_true rfl))) (k := 14) (n := 1) (Nat.le_trans (show 1 ≤ 9 by omega) (Nat.le_of_ble_eq_true rfl))) (k := 15) (n := 1) (Nat.le_trans (show 1 ≤ 9 by omega) (Nat.le_of_ble_eq_true rfl))) (k := 16) (n := 0) (Nat.le_trans (show 0 ≤ 20 by omega) (Nat.le_of_ble_eq_true rfl))) (k := 17) (n := 1) (Nat.le_trans (show 1 ≤ 9 by omega) (Nat.le_of_ble_eq_true rfl))) (k := 18) (n := 1) (Nat.le_trans (show 1 ≤ 9 by omega) (Nat.le_of_ble_eq_true rfl))) (k := 19) (n := 0) (Nat.le_trans (show 0 ≤ 20 by omega) (Nat.le_of_ble_eq_true rfl))) (k := 20) (n := 1) (Nat.le_trans (show 1 ≤ 9 by omega) (Nat.le_of_ble_eq_true rfl))), (v21_of rfl rfl rfl rfl rfl rfl rfl rfl rfl rfl rfl rfl rfl rfl rfl rfl rfl rfl rfl rfl rfl)⟩, by rw [htS]; exact hP9, hD9⟩, hS.F htS⟩) hS.2.2 dX4_setUsual_49
