set_option maxHeartbeats 4000000 in
set_option maxRecDepth 100000 in
theorem k_X1_out (l : Launch) (D : va_G) (g : Nat → ClassId) (sz : Nat) (Aa : Nat) (fw : Nat → Int32) : Met l yX1_out wsX1_out ({ frames := 0, cells := 0, slots := 0, locals := 0 }) (va_Pc [.ref Aa] (pre D g sz [(Aa, .inr (1, [.int (fw 0), .int (fw 1), .int (fw 2), .int (fw 3), .int (fw 4), .int (fw 5), .int (fw 6)]))])) (va_Qi (fun (r : Int32) (u : va_W) => ∃ (zr : Int32), u = [(Aa, .inr (1, [.int (fw 0), .int (fw 1), .int (fw 2), .int (fw 3), .int (fw 4), .int (fw 5), .int (fw 6)]))] ∧ r = zr ∧ (o64 zr)) (wd D (va_A [(Aa, .inr (1, [.int (fw 0), .int (fw 1), .int (fw 2), .int (fw 3), .int (fw 4), .int (fw 5), .int (fw 6)]))] sz)) (va_A [(Aa, .inr (1, [.int (fw 0), .int (fw 1), .int (fw 2), .int (fw 3), .int (fw 4), .int (fw 5), .int (fw 6)]))] sz)) 0 0 (va_A [(Aa, .inr (1, [.int (fw 0), .int (fw 1), .int (fw 2), .int (fw 3), .int (fw 4), .int (fw 5), .int (fw 6)]))] sz) := by
  refine Met.ofW (cc := cX1_out) (maxL := 1) (ret := (some .int)) (by decide) rfl ?_
  intro p e s m args below meth c s₁ B hml hv
  obtain ⟨rfl, hsz, hP, ⟨hK, hN⟩, hD0, hZ⟩ := hv
  have hx := B.exec
  have hb := B.bytes
  have hr := B.returns
  have hts := atoms_spec (ws := wsX1_out) B.pre
  have hown : s.vm.findClass RX1 = some m.cls := findClass_of_methodNamed B.named
  have hlocks := B.notSynchronized
  clear B
  subst hsz
  have hD := hD0.self (sz := s.heap.size)
  clear hD0
  generalize hAe : va_A [(Aa, .inr (1, [.int (fw 0), .int (fw 1), .int (fw 2), .int (fw 3), .int (fw 4), .int (fw 5), .int (fw 6)]))] s.heap.size = A at hD hZ ⊢
  have hA : ∀ q : Nat, s.heap.size ≤ q → A q := fun q h => by rw [← hAe]; exact Or.inr h
  have hS : va_S A s.heap s.heap [] := va_S.rf
  have f18 := hts (.fieldLink RX1 18 "HopCredits$Lane" "known" "I") (List.mem_of_getElem? (i := 2) rfl)
  have f9 := hts (.fieldLink RX1 9 "HopCredits$Lane" "sent" "I") (List.mem_of_getElem? (i := 1) rfl)
  have iX1 : ∀ w ∈ u_ws RX1 TX1 7, w ∈ wsX1_out := fun w h => List.mem_cons_of_mem _ (List.mem_append_right _ (h))
  have hl := lv_entry ([.ref Aa]) (n := 1) (Nat.le_of_ble_eq_true rfl)
  rw [lg_entry_eq]
  generalize (lg_sl ([.ref Aa]) ++ List.replicate (1 - (lg_sl ([.ref Aa])).length) Slot.unset).toArray = ls at hl ⊢
  have hl : lv_has ls 1 [(0, .ref Aa)] := hl
  generalize hQ : MQ below _ _ s _ _ _ = Q
  generalize hH : s.heap = H at hP ⊢
  have hS : va_S A s.heap H [] := by rw [← hH]; exact hS
  clear hH
  refine lv_aload_n hx hb dX1_out_0 rfl (lv_at hl 0 rfl) ?_
  refine va_get (D := D) (ci := 1) (v := .int (fw 0)) (C := RX1) (T := TX1) (N := 7) hx hb hts iX1 hown hK hP 0 rfl rfl 0 (by decide) f9 (fun _ h9 => h9) rfl dX1_out_1 ?_
  refine lv_aload_n hx hb dX1_out_4 rfl (lv_at hl 0 rfl) ?_
  refine va_get (D := D) (ci := 1) (v := .int (fw 2)) (C := RX1) (T := TX1) (N := 7) hx hb hts iX1 hown hK hP 0 rfl rfl 2 (by decide) f18 (fun _ h9 => h9) rfl dX1_out_5 ?_
  refine lv_isub hx hb dX1_out_8 ?_
  refine lv_topi (fun y_1 _ => ?_)
  refine lv_bipush (v := 63) hx hb dX1_out_9 (by decide) ?_
  refine lv_iand hx hb dX1_out_11 ?_
  refine lv_topP (P := o64) (o64_and y_1) (fun y_2 hy_3 => ?_)
  have hP9 := hP; have hD9 := hD
  subst hQ
  refine W.widen (k := 0) (n := 0) (Nat.le_of_ble_eq_true rfl) (Nat.le_of_ble_eq_true rfl) ?_
  exact W.iret (v := y_2) hx hb hr (fun tS htS _ => ⟨⟨_, _, rfl, ⟨y_2, rfl, rfl, (hy_3)⟩, by rw [htS]; exact hP9, hD9⟩, hS.F htS⟩) hS.2.2 dX1_out_12

set_option maxHeartbeats 4000000 in
set_option maxRecDepth 100000 in
theorem k_X1_credit (l : Launch) (D : va_G) (g : Nat → ClassId) (sz : Nat) (Aa : Nat) (fw : Nat → Int32) : Met l yX1_credit wsX1_credit ({ frames := 1, cells := 0, slots := 0, locals := 24 }) (va_Pc [.ref Aa] (pre D g sz [(Aa, .inr (1, [.int (fw 0), .int (fw 1), .int (fw 2), .int (fw 3), .int (fw 4), .int (fw 5), .int (fw 6)]))])) (va_Qi (fun (r : Int32) (u : va_W) => u = [(Aa, .inr (1, [.int (fw 0), .int (fw 1), .int (fw 2), .int (fw 3), .int (fw 4), .int (fw 5), .int (fw 6)]))]) (wd D (va_A [(Aa, .inr (1, [.int (fw 0), .int (fw 1), .int (fw 2), .int (fw 3), .int (fw 4), .int (fw 5), .int (fw 6)]))] sz)) (va_A [(Aa, .inr (1, [.int (fw 0), .int (fw 1), .int (fw 2), .int (fw 3), .int (fw 4), .int (fw 5), .int (fw 6)]))] sz)) 0 0 (va_A [(Aa, .inr (1, [.int (fw 0), .int (fw 1), .int (fw 2), .int (fw 3), .int (fw 4), .int (fw 5), .int (fw 6)]))] sz) := by
  refine Met.ofW (cc := cX1_credit) (maxL := 1) (ret := (some .int)) (by decide) rfl ?_
  intro p e s m args below meth c s₁ B hml hv
  obtain ⟨rfl, hsz, hP, ⟨hK, hN⟩, hD0, hZ⟩ := hv
  have hx := B.exec
  have hb := B.bytes
  have hr := B.returns
  have hts := atoms_spec (ws := wsX1_credit) B.pre
  have hown : s.vm.findClass RX1 = some m.cls := findClass_of_methodNamed B.named
  have hlocks := B.notSynchronized
  clear B
  subst hsz
  have hD := hD0.self (sz := s.heap.size)
  clear hD0
  generalize hAe : va_A [(Aa, .inr (1, [.int (fw 0), .int (fw 1), .int (fw 2), .int (fw 3), .int (fw 4), .int (fw 5), .int (fw 6)]))] s.heap.size = A at hD hZ ⊢
  have hA : ∀ q : Nat, s.heap.size ≤ q → A q := fun q h => by rw [← hAe]; exact Or.inr h
  have hS : va_S A s.heap s.heap [] := va_S.rf
  have f21 := hts (.fieldLink RX1 21 "HopCredits$Lane" "zone" "I") (List.mem_of_getElem? (i := 1) rfl)
  have mcmax := hts (.code Lib.Math.max.name Lib.Math.max.code 2 (some .int)) (List.mem_of_getElem? (i := 5) rfl)
  have mi := hts (.initialized "java/lang/Math") (List.mem_of_getElem? (i := 4) rfl)
  have mmmax := hts (.methodLink RX1 37 Lib.Math.max.name) (List.mem_of_getElem? (i := 2) rfl)
  have mtmax := hts (.static Lib.Math.max.name) (List.mem_of_getElem? (i := 3) rfl)
  have iX1 : ∀ w ∈ u_ws RX1 TX1 7, w ∈ wsX1_credit := fun w h => List.mem_cons_of_mem _ (List.mem_append_right _ (h))
  have hl := lv_entry ([.ref Aa]) (n := 1) (Nat.le_of_ble_eq_true rfl)
  rw [lg_entry_eq]
  generalize (lg_sl ([.ref Aa]) ++ List.replicate (1 - (lg_sl ([.ref Aa])).length) Slot.unset).toArray = ls at hl ⊢
  have hl : lv_has ls 1 [(0, .ref Aa)] := hl
  generalize hQ : MQ below _ _ s _ _ _ = Q
  generalize hH : s.heap = H at hP ⊢
  have hS : va_S A s.heap H [] := by rw [← hH]; exact hS
  clear hH
  refine lv_iconst (v := 0) hx hb dX1_credit_0 (by decide) ?_
  refine lv_aload_n hx hb dX1_credit_1 rfl (lv_at hl 0 rfl) ?_
  refine va_get (D := D) (ci := 1) (v := .int (fw 3)) (C := RX1) (T := TX1) (N := 7) hx hb hts iX1 hown hK hP 0 rfl rfl 3 (by decide) f21 (fun _ h9 => h9) rfl dX1_credit_2 ?_
  refine lv_aload_n hx hb dX1_credit_5 rfl (lv_at hl 0 rfl) ?_
  refine ky_Vi (As := []) (rest := [.int (fw 3), .int 0]) ⟨hx, hb, hml, hown, hts⟩ ⟨hK, hN⟩ hZ hP hD hS hA [0] [] (wc := [(Aa, .inr (1, [.int (fw 0), .int (fw 1), .int (fw 2), .int (fw 3), .int (fw 4), .int (fw 5), .int (fw 6)]))]) (wr := []) rfl rfl rfl rfl (by decide) (k_X1_out l D g H.size Aa fw) (cwV 0 hts gX1_credit_X1_out rfl rfl rfl (by decide +kernel) ⟨(Nat.le_of_ble_eq_true rfl), (Nat.le_of_ble_eq_true rfl)⟩) 0 1 rfl rfl rfl rfl hl.1 rfl (Nat.le_of_ble_eq_true rfl) dX1_credit_6 ⟨(Nat.le_of_ble_eq_true rfl), (Nat.le_of_ble_eq_true rfl)⟩ (fun r_1 u H locs hw hP2 hD2 hS2 => ?_)
  clear hP hD hS
  obtain ⟨zr_2, rfl, rfl, hf_3⟩ := hw
  have hPD : PD D A [(Aa, .inr (1, [.int (fw 0), .int (fw 1), .int (fw 2), .int (fw 3), .int (fw 4), .int (fw 5), .int (fw 6)]))] H := ⟨hP2, hD2⟩
  have hS := hS2; clear hP2 hD2 hS2; have hP := hPD.1; have hD := hPD.2; clear hPD
  refine W.widen (k := 0) (n := 0) (Nat.le_of_ble_eq_true rfl) (Nat.le_of_ble_eq_true rfl) ?_
  refine lv_isub hx hb dX1_credit_9 ?_
  refine lv_topi (fun y_4 _ => ?_)
  refine va_mmax hx hb (hml.trans hl.1.symm) hown mmmax mtmax mi mcmax (Nat.le_of_ble_eq_true rfl) (Nat.le_of_ble_eq_true rfl) (Nat.le_of_ble_eq_true rfl) (Nat.le_of_ble_eq_true rfl) dX1_credit_10 ?_
  refine lv_topi (fun y_5 _ => ?_)
  have hP9 := hP; have hD9 := hD
  subst hQ
  refine W.widen (k := 0) (n := 0) (Nat.le_of_ble_eq_true rfl) (Nat.le_of_ble_eq_true rfl) ?_
  exact W.iret (v := y_5) hx hb hr (fun tS htS _ => ⟨⟨_, _, rfl, rfl, by rw [htS]; exact hP9, hD9⟩, hS.F htS⟩) hS.2.2 dX1_credit_13

set_option maxHeartbeats 4000000 in
set_option maxRecDepth 100000 in
theorem k_X1_lay (l : Launch) (D : va_G) (g : Nat → ClassId) (sz : Nat) (Aa : Nat) (zz : Int32) (fw : Nat → Int32) : Met l yX1_lay wsX1_lay ({ frames := 0, cells := 0, slots := 0, locals := 0 }) (va_Pc [.ref Aa, .int zz] (pre D g sz [(Aa, .inr (1, [.int (fw 0), .int (fw 1), .int (fw 2), .int (fw 3), .int (fw 4), .int (fw 5), .int (fw 6)]))])) (va_Qv (fun (u : va_W) => u = [(Aa, .inr (1, [.int 0, .int 0, .int 0, .int zz, .int 0, .int 0, .int 0]))]) (wd D (va_A [(Aa, .inr (1, [.int (fw 0), .int (fw 1), .int (fw 2), .int (fw 3), .int (fw 4), .int (fw 5), .int (fw 6)]))] sz)) (va_A [(Aa, .inr (1, [.int (fw 0), .int (fw 1), .int (fw 2), .int (fw 3), .int (fw 4), .int (fw 5), .int (fw 6)]))] sz)) 0 0 (va_A [(Aa, .inr (1, [.int (fw 0), .int (fw 1), .int (fw 2), .int (fw 3), .int (fw 4), .int (fw 5), .int (fw 6)]))] sz) := by
  refine Met.ofW (cc := cX1_lay) (maxL := 2) (ret := none) (by decide) rfl ?_
  intro p e s m args below meth c s₁ B hml hv
  obtain ⟨rfl, hsz, hP, ⟨hK, hN⟩, hD0, hZ⟩ := hv
  have hx := B.exec
  have hb := B.bytes
  have hr := B.returns
  have hts := atoms_spec (ws := wsX1_lay) B.pre
  have hown : s.vm.findClass RX1 = some m.cls := findClass_of_methodNamed B.named
  have hlocks := B.notSynchronized
  clear B
  subst hsz
  have hD := hD0.self (sz := s.heap.size)
  clear hD0
  generalize hAe : va_A [(Aa, .inr (1, [.int (fw 0), .int (fw 1), .int (fw 2), .int (fw 3), .int (fw 4), .int (fw 5), .int (fw 6)]))] s.heap.size = A at hD hZ ⊢
  have hA : ∀ q : Nat, s.heap.size ≤ q → A q := fun q h => by rw [← hAe]; exact Or.inr h
  have hS : va_S A s.heap s.heap [] := va_S.rf
  have f15 := hts (.fieldLink RX1 15 "HopCredits$Lane" "gone" "I") (List.mem_of_getElem? (i := 2) rfl)
  have f18 := hts (.fieldLink RX1 18 "HopCredits$Lane" "known" "I") (List.mem_of_getElem? (i := 3) rfl)
  have f21 := hts (.fieldLink RX1 21 "HopCredits$Lane" "zone" "I") (List.mem_of_getElem? (i := 4) rfl)
  have f24 := hts (.fieldLink RX1 24 "HopCredits$Lane" "waited" "I") (List.mem_of_getElem? (i := 5) rfl)
  have f27 := hts (.fieldLink RX1 27 "HopCredits$Lane" "sinceUpdate" "I") (List.mem_of_getElem? (i := 6) rfl)
  have f30 := hts (.fieldLink RX1 30 "HopCredits$Lane" "sinceAdapt" "I") (List.mem_of_getElem? (i := 7) rfl)
  have f9 := hts (.fieldLink RX1 9 "HopCredits$Lane" "sent" "I") (List.mem_of_getElem? (i := 1) rfl)
  have iX1 : ∀ w ∈ u_ws RX1 TX1 7, w ∈ wsX1_lay := fun w h => List.mem_cons_of_mem _ (List.mem_append_right _ (h))
  have hl := lv_entry ([.ref Aa, .int zz]) (n := 2) (Nat.le_of_ble_eq_true rfl)
  rw [lg_entry_eq]
  generalize (lg_sl ([.ref Aa, .int zz]) ++ List.replicate (2 - (lg_sl ([.ref Aa, .int zz])).length) Slot.unset).toArray = ls at hl ⊢
  have hl : lv_has ls 2 [(0, .ref Aa), (1, .int zz)] := hl
  generalize hQ : MQ below _ _ s _ _ _ = Q
  generalize hH : s.heap = H at hP ⊢
  have hS : va_S A s.heap H [] := by rw [← hH]; exact hS
  clear hH
  refine lv_aload_n hx hb dX1_lay_0 rfl (lv_at hl 0 rfl) ?_
  refine lv_iconst (v := 0) hx hb dX1_lay_1 (by decide) ?_
  refine va_put (D := D) (ci := 1) (v := .int 0) (ty := .int) (C := RX1) (T := TX1) (N := 7) hx hb hts iX1 tyX1 tyX1_ok nmX1 hown hK hP hD hS 0 rfl rfl 0 (by decide) f9 (fun _ h9 => h9) rfl (by decide +kernel) (rfl) (rfl) (Nat.le_of_ble_eq_true rfl) dX1_lay_2 (fun H locs hP2 hD2 hS2 => ?_)
  clear hP hD hS
  have hPD : PD D A [(Aa, .inr (1, [.int 0, .int (fw 1), .int (fw 2), .int (fw 3), .int (fw 4), .int (fw 5), .int (fw 6)]))] H := ⟨hP2, hD2⟩
  have hS := hS2; clear hP2 hD2 hS2; have hP := hPD.1; have hD := hPD.2; clear hPD
  refine lv_aload_n hx hb dX1_lay_5 rfl (lv_at hl 0 rfl) ?_
  refine lv_iconst (v := 0) hx hb dX1_lay_6 (by decide) ?_
  refine va_put (D := D) (ci := 1) (v := .int 0) (ty := .int) (C := RX1) (T := TX1) (N := 7) hx hb hts iX1 tyX1 tyX1_ok nmX1 hown hK hP hD hS 0 rfl rfl 1 (by decide) f15 (fun _ h9 => h9) rfl (by decide +kernel) (rfl) (rfl) (Nat.le_of_ble_eq_true rfl) dX1_lay_7 (fun H locs hP2 hD2 hS2 => ?_)
  clear hP hD hS
  have hPD : PD D A [(Aa, .inr (1, [.int 0, .int 0, .int (fw 2), .int (fw 3), .int (fw 4), .int (fw 5), .int (fw 6)]))] H := ⟨hP2, hD2⟩
  have hS := hS2; clear hP2 hD2 hS2; have hP := hPD.1; have hD := hPD.2; clear hPD
  refine lv_aload_n hx hb dX1_lay_10 rfl (lv_at hl 0 rfl) ?_
  refine lv_iconst (v := 0) hx hb dX1_lay_11 (by decide) ?_
  refine va_put (D := D) (ci := 1) (v := .int 0) (ty := .int) (C := RX1) (T := TX1) (N := 7) hx hb hts iX1 tyX1 tyX1_ok nmX1 hown hK hP hD hS 0 rfl rfl 2 (by decide) f18 (fun _ h9 => h9) rfl (by decide +kernel) (rfl) (rfl) (Nat.le_of_ble_eq_true rfl) dX1_lay_12 (fun H locs hP2 hD2 hS2 => ?_)
  clear hP hD hS
  have hPD : PD D A [(Aa, .inr (1, [.int 0, .int 0, .int 0, .int (fw 3), .int (fw 4), .int (fw 5), .int (fw 6)]))] H := ⟨hP2, hD2⟩
  have hS := hS2; clear hP2 hD2 hS2; have hP := hPD.1; have hD := hPD.2; clear hPD
  refine lv_aload_n hx hb dX1_lay_15 rfl (lv_at hl 0 rfl) ?_
  refine lv_iload_n hx hb dX1_lay_16 rfl (lv_at hl 1 rfl) ?_
  refine va_put (D := D) (ci := 1) (v := .int zz) (ty := .int) (C := RX1) (T := TX1) (N := 7) hx hb hts iX1 tyX1 tyX1_ok nmX1 hown hK hP hD hS 0 rfl rfl 3 (by decide) f21 (fun _ h9 => h9) rfl (by decide +kernel) (rfl) (rfl) (Nat.le_of_ble_eq_true rfl) dX1_lay_17 (fun H locs hP2 hD2 hS2 => ?_)
  clear hP hD hS
  have hPD : PD D A [(Aa, .inr (1, [.int 0, .int 0, .int 0, .int zz, .int (fw 4), .int (fw 5), .int (fw 6)]))] H := ⟨hP2, hD2⟩
  have hS := hS2; clear hP2 hD2 hS2; have hP := hPD.1; have hD := hPD.2; clear hPD
  refine lv_aload_n hx hb dX1_lay_20 rfl (lv_at hl 0 rfl) ?_
  refine lv_iconst (v := 0) hx hb dX1_lay_21 (by decide) ?_
  refine va_put (D := D) (ci := 1) (v := .int 0) (ty := .int) (C := RX1) (T := TX1) (N := 7) hx hb hts iX1 tyX1 tyX1_ok nmX1 hown hK hP hD hS 0 rfl rfl 4 (by decide) f24 (fun _ h9 => h9) rfl (by decide +kernel) (rfl) (rfl) (Nat.le_of_ble_eq_true rfl) dX1_lay_22 (fun H locs hP2 hD2 hS2 => ?_)
  clear hP hD hS
  have hPD : PD D A [(Aa, .inr (1, [.int 0, .int 0, .int 0, .int zz, .int 0, .int (fw 5), .int (fw 6)]))] H := ⟨hP2, hD2⟩
  have hS := hS2; clear hP2 hD2 hS2; have hP := hPD.1; have hD := hPD.2; clear hPD
  refine lv_aload_n hx hb dX1_lay_25 rfl (lv_at hl 0 rfl) ?_
  refine lv_iconst (v := 0) hx hb dX1_lay_26 (by decide) ?_
  refine va_put (D := D) (ci := 1) (v := .int 0) (ty := .int) (C := RX1) (T := TX1) (N := 7) hx hb hts iX1 tyX1 tyX1_ok nmX1 hown hK hP hD hS 0 rfl rfl 5 (by decide) f27 (fun _ h9 => h9) rfl (by decide +kernel) (rfl) (rfl) (Nat.le_of_ble_eq_true rfl) dX1_lay_27 (fun H locs hP2 hD2 hS2 => ?_)
  clear hP hD hS
  have hPD : PD D A [(Aa, .inr (1, [.int 0, .int 0, .int 0, .int zz, .int 0, .int 0, .int (fw 6)]))] H := ⟨hP2, hD2⟩
  have hS := hS2; clear hP2 hD2 hS2; have hP := hPD.1; have hD := hPD.2; clear hPD
  refine lv_aload_n hx hb dX1_lay_30 rfl (lv_at hl 0 rfl) ?_
  refine lv_iconst (v := 0) hx hb dX1_lay_31 (by decide) ?_
  refine va_put (D := D) (ci := 1) (v := .int 0) (ty := .int) (C := RX1) (T := TX1) (N := 7) hx hb hts iX1 tyX1 tyX1_ok nmX1 hown hK hP hD hS 0 rfl rfl 6 (by decide) f30 (fun _ h9 => h9) rfl (by decide +kernel) (rfl) (rfl) (Nat.le_of_ble_eq_true rfl) dX1_lay_32 (fun H locs hP2 hD2 hS2 => ?_)
  clear hP hD hS
  have hPD : PD D A [(Aa, .inr (1, [.int 0, .int 0, .int 0, .int zz, .int 0, .int 0, .int 0]))] H := ⟨hP2, hD2⟩
  have hS := hS2; clear hP2 hD2 hS2; have hP := hPD.1; have hD := hPD.2; clear hPD
  have hP9 := hP; have hD9 := hD
  subst hQ
  refine W.widen (k := 0) (n := 0) (Nat.le_of_ble_eq_true rfl) (Nat.le_of_ble_eq_true rfl) ?_
  exact W.vret hx hb hr (fun tS htS _ => ⟨⟨_, rfl, rfl, by rw [htS]; exact hP9, hD9⟩, hS.F htS⟩) hS.2.2 dX1_lay_35

set_option maxHeartbeats 4000000 in
set_option maxRecDepth 100000 in
theorem k_X1_copy (l : Launch) (D : va_G) (g : Nat → ClassId) (sz : Nat) (Aa : Nat) (Ab : Nat) (fw : Nat → Int32) (fx : Nat → Int32) : Met l yX1_copy wsX1_copy ({ frames := 0, cells := 0, slots := 0, locals := 0 }) (va_Pc [.ref Aa, .ref Ab] (pre D g sz [(Aa, .inr (1, [.int (fw 0), .int (fw 1), .int (fw 2), .int (fw 3), .int (fw 4), .int (fw 5), .int (fw 6)])), (Ab, .inr (1, [.int (fx 0), .int (fx 1), .int (fx 2), .int (fx 3), .int (fx 4), .int (fx 5), .int (fx 6)]))])) (va_Qv (fun (u : va_W) => u = [(Aa, .inr (1, [.int (fx 0), .int (fx 1), .int (fx 2), .int (fx 3), .int (fx 4), .int (fx 5), .int (fx 6)])), (Ab, .inr (1, [.int (fx 0), .int (fx 1), .int (fx 2), .int (fx 3), .int (fx 4), .int (fx 5), .int (fx 6)]))]) (wd D (va_A [(Aa, .inr (1, [.int (fw 0), .int (fw 1), .int (fw 2), .int (fw 3), .int (fw 4), .int (fw 5), .int (fw 6)])), (Ab, .inr (1, [.int (fx 0), .int (fx 1), .int (fx 2), .int (fx 3), .int (fx 4), .int (fx 5), .int (fx 6)]))] sz)) (va_A [(Aa, .inr (1, [.int (fw 0), .int (fw 1), .int (fw 2), .int (fw 3), .int (fw 4), .int (fw 5), .int (fw 6)])), (Ab, .inr (1, [.int (fx 0), .int (fx 1), .int (fx 2), .int (fx 3), .int (fx 4), .int (fx 5), .int (fx 6)]))] sz)) 0 0 (va_A [(Aa, .inr (1, [.int (fw 0), .int (fw 1), .int (fw 2), .int (fw 3), .int (fw 4), .int (fw 5), .int (fw 6)])), (Ab, .inr (1, [.int (fx 0), .int (fx 1), .int (fx 2), .int (fx 3), .int (fx 4), .int (fx 5), .int (fx 6)]))] sz) := by
  refine Met.ofW (cc := cX1_copy) (maxL := 2) (ret := none) (by decide) rfl ?_
  intro p e s m args below meth c s₁ B hml hv
  obtain ⟨rfl, hsz, hP, ⟨hK, hN⟩, hD0, hZ⟩ := hv
  have hx := B.exec
  have hb := B.bytes
  have hr := B.returns
  have hts := atoms_spec (ws := wsX1_copy) B.pre
  have hown : s.vm.findClass RX1 = some m.cls := findClass_of_methodNamed B.named
  have hlocks := B.notSynchronized
  clear B
  subst hsz
  have hD := hD0.self (sz := s.heap.size)
  clear hD0
  generalize hAe : va_A [(Aa, .inr (1, [.int (fw 0), .int (fw 1), .int (fw 2), .int (fw 3), .int (fw 4), .int (fw 5), .int (fw 6)])), (Ab, .inr (1, [.int (fx 0), .int (fx 1), .int (fx 2), .int (fx 3), .int (fx 4), .int (fx 5), .int (fx 6)]))] s.heap.size = A at hD hZ ⊢
  have hA : ∀ q : Nat, s.heap.size ≤ q → A q := fun q h => by rw [← hAe]; exact Or.inr h
  have hS : va_S A s.heap s.heap [] := va_S.rf
  have f15 := hts (.fieldLink RX1 15 "HopCredits$Lane" "gone" "I") (List.mem_of_getElem? (i := 2) rfl)
  have f18 := hts (.fieldLink RX1 18 "HopCredits$Lane" "known" "I") (List.mem_of_getElem? (i := 3) rfl)
  have f21 := hts (.fieldLink RX1 21 "HopCredits$Lane" "zone" "I") (List.mem_of_getElem? (i := 4) rfl)
  have f24 := hts (.fieldLink RX1 24 "HopCredits$Lane" "waited" "I") (List.mem_of_getElem? (i := 5) rfl)
  have f27 := hts (.fieldLink RX1 27 "HopCredits$Lane" "sinceUpdate" "I") (List.mem_of_getElem? (i := 6) rfl)
  have f30 := hts (.fieldLink RX1 30 "HopCredits$Lane" "sinceAdapt" "I") (List.mem_of_getElem? (i := 7) rfl)
  have f9 := hts (.fieldLink RX1 9 "HopCredits$Lane" "sent" "I") (List.mem_of_getElem? (i := 1) rfl)
  have iX1 : ∀ w ∈ u_ws RX1 TX1 7, w ∈ wsX1_copy := fun w h => List.mem_cons_of_mem _ (List.mem_append_right _ (h))
  have hl := lv_entry ([.ref Aa, .ref Ab]) (n := 2) (Nat.le_of_ble_eq_true rfl)
  rw [lg_entry_eq]
  generalize (lg_sl ([.ref Aa, .ref Ab]) ++ List.replicate (2 - (lg_sl ([.ref Aa, .ref Ab])).length) Slot.unset).toArray = ls at hl ⊢
  have hl : lv_has ls 2 [(0, .ref Aa), (1, .ref Ab)] := hl
  generalize hQ : MQ below _ _ s _ _ _ = Q
  generalize hH : s.heap = H at hP ⊢
  have hS : va_S A s.heap H [] := by rw [← hH]; exact hS
  clear hH
  refine lv_aload_n hx hb dX1_copy_0 rfl (lv_at hl 0 rfl) ?_
  refine lv_aload_n hx hb dX1_copy_1 rfl (lv_at hl 1 rfl) ?_
  refine va_get (D := D) (ci := 1) (v := .int (fx 0)) (C := RX1) (T := TX1) (N := 7) hx hb hts iX1 hown hK hP 1 rfl rfl 0 (by decide) f9 (fun _ h9 => h9) rfl dX1_copy_2 ?_
  refine va_put (D := D) (ci := 1) (v := .int (fx 0)) (ty := .int) (C := RX1) (T := TX1) (N := 7) hx hb hts iX1 tyX1 tyX1_ok nmX1 hown hK hP hD hS 0 rfl rfl 0 (by decide) f9 (fun _ h9 => h9) rfl (by decide +kernel) (rfl) (rfl) (Nat.le_of_ble_eq_true rfl) dX1_copy_5 (fun H locs hP2 hD2 hS2 => ?_)
  clear hP hD hS
  have hPD : PD D A [(Aa, .inr (1, [.int (fx 0), .int (fw 1), .int (fw 2), .int (fw 3), .int (fw 4), .int (fw 5), .int (fw 6)])), (Ab, .inr (1, [.int (fx 0), .int (fx 1), .int (fx 2), .int (fx 3), .int (fx 4), .int (fx 5), .int (fx 6)]))] H := ⟨hP2, hD2⟩
  have hS := hS2; clear hP2 hD2 hS2; have hP := hPD.1; have hD := hPD.2; clear hPD
  refine lv_aload_n hx hb dX1_copy_8 rfl (lv_at hl 0 rfl) ?_
  refine lv_aload_n hx hb dX1_copy_9 rfl (lv_at hl 1 rfl) ?_
  refine va_get (D := D) (ci := 1) (v := .int (fx 1)) (C := RX1) (T := TX1) (N := 7) hx hb hts iX1 hown hK hP 1 rfl rfl 1 (by decide) f15 (fun _ h9 => h9) rfl dX1_copy_10 ?_
  refine va_put (D := D) (ci := 1) (v := .int (fx 1)) (ty := .int) (C := RX1) (T := TX1) (N := 7) hx hb hts iX1 tyX1 tyX1_ok nmX1 hown hK hP hD hS 0 rfl rfl 1 (by decide) f15 (fun _ h9 => h9) rfl (by decide +kernel) (rfl) (rfl) (Nat.le_of_ble_eq_true rfl) dX1_copy_13 (fun H locs hP2 hD2 hS2 => ?_)
  clear hP hD hS
  have hPD : PD D A [(Aa, .inr (1, [.int (fx 0), .int (fx 1), .int (fw 2), .int (fw 3), .int (fw 4), .int (fw 5), .int (fw 6)])), (Ab, .inr (1, [.int (fx 0), .int (fx 1), .int (fx 2), .int (fx 3), .int (fx 4), .int (fx 5), .int (fx 6)]))] H := ⟨hP2, hD2⟩
  have hS := hS2; clear hP2 hD2 hS2; have hP := hPD.1; have hD := hPD.2; clear hPD
  refine lv_aload_n hx hb dX1_copy_16 rfl (lv_at hl 0 rfl) ?_
  refine lv_aload_n hx hb dX1_copy_17 rfl (lv_at hl 1 rfl) ?_
  refine va_get (D := D) (ci := 1) (v := .int (fx 2)) (C := RX1) (T := TX1) (N := 7) hx hb hts iX1 hown hK hP 1 rfl rfl 2 (by decide) f18 (fun _ h9 => h9) rfl dX1_copy_18 ?_
  refine va_put (D := D) (ci := 1) (v := .int (fx 2)) (ty := .int) (C := RX1) (T := TX1) (N := 7) hx hb hts iX1 tyX1 tyX1_ok nmX1 hown hK hP hD hS 0 rfl rfl 2 (by decide) f18 (fun _ h9 => h9) rfl (by decide +kernel) (rfl) (rfl) (Nat.le_of_ble_eq_true rfl) dX1_copy_21 (fun H locs hP2 hD2 hS2 => ?_)
  clear hP hD hS
  have hPD : PD D A [(Aa, .inr (1, [.int (fx 0), .int (fx 1), .int (fx 2), .int (fw 3), .int (fw 4), .int (fw 5), .int (fw 6)])), (Ab, .inr (1, [.int (fx 0), .int (fx 1), .int (fx 2), .int (fx 3), .int (fx 4), .int (fx 5), .int (fx 6)]))] H := ⟨hP2, hD2⟩
  have hS := hS2; clear hP2 hD2 hS2; have hP := hPD.1; have hD := hPD.2; clear hPD
  refine lv_aload_n hx hb dX1_copy_24 rfl (lv_at hl 0 rfl) ?_
  refine lv_aload_n hx hb dX1_copy_25 rfl (lv_at hl 1 rfl) ?_
  refine va_get (D := D) (ci := 1) (v := .int (fx 3)) (C := RX1) (T := TX1) (N := 7) hx hb hts iX1 hown hK hP 1 rfl rfl 3 (by decide) f21 (fun _ h9 => h9) rfl dX1_copy_26 ?_
  refine va_put (D := D) (ci := 1) (v := .int (fx 3)) (ty := .int) (C := RX1) (T := TX1) (N := 7) hx hb hts iX1 tyX1 tyX1_ok nmX1 hown hK hP hD hS 0 rfl rfl 3 (by decide) f21 (fun _ h9 => h9) rfl (by decide +kernel) (rfl) (rfl) (Nat.le_of_ble_eq_true rfl) dX1_copy_29 (fun H locs hP2 hD2 hS2 => ?_)
  clear hP hD hS
  have hPD : PD D A [(Aa, .inr (1, [.int (fx 0), .int (fx 1), .int (fx 2), .int (fx 3), .int (fw 4), .int (fw 5), .int (fw 6)])), (Ab, .inr (1, [.int (fx 0), .int (fx 1), .int (fx 2), .int (fx 3), .int (fx 4), .int (fx 5), .int (fx 6)]))] H := ⟨hP2, hD2⟩
  have hS := hS2; clear hP2 hD2 hS2; have hP := hPD.1; have hD := hPD.2; clear hPD
  refine lv_aload_n hx hb dX1_copy_32 rfl (lv_at hl 0 rfl) ?_
  refine lv_aload_n hx hb dX1_copy_33 rfl (lv_at hl 1 rfl) ?_
  refine va_get (D := D) (ci := 1) (v := .int (fx 4)) (C := RX1) (T := TX1) (N := 7) hx hb hts iX1 hown hK hP 1 rfl rfl 4 (by decide) f24 (fun _ h9 => h9) rfl dX1_copy_34 ?_
  refine va_put (D := D) (ci := 1) (v := .int (fx 4)) (ty := .int) (C := RX1) (T := TX1) (N := 7) hx hb hts iX1 tyX1 tyX1_ok nmX1 hown hK hP hD hS 0 rfl rfl 4 (by decide) f24 (fun _ h9 => h9) rfl (by decide +kernel) (rfl) (rfl) (Nat.le_of_ble_eq_true rfl) dX1_copy_37 (fun H locs hP2 hD2 hS2 => ?_)
  clear hP hD hS
  have hPD : PD D A [(Aa, .inr (1, [.int (fx 0), .int (fx 1), .int (fx 2), .int (fx 3), .int (fx 4), .int (fw 5), .int (fw 6)])), (Ab, .inr (1, [.int (fx 0), .int (fx 1), .int (fx 2), .int (fx 3), .int (fx 4), .int (fx 5), .int (fx 6)]))] H := ⟨hP2, hD2⟩
  have hS := hS2; clear hP2 hD2 hS2; have hP := hPD.1; have hD := hPD.2; clear hPD
  refine lv_aload_n hx hb dX1_copy_40 rfl (lv_at hl 0 rfl) ?_
  refine lv_aload_n hx hb dX1_copy_41 rfl (lv_at hl 1 rfl) ?_
  refine va_get (D := D) (ci := 1) (v := .int (fx 5)) (C := RX1) (T := TX1) (N := 7) hx hb hts iX1 hown hK hP 1 rfl rfl 5 (by decide) f27 (fun _ h9 => h9) rfl dX1_copy_42 ?_
  refine va_put (D := D) (ci := 1) (v := .int (fx 5)) (ty := .int) (C := RX1) (T := TX1) (N := 7) hx hb hts iX1 tyX1 tyX1_ok nmX1 hown hK hP hD hS 0 rfl rfl 5 (by decide) f27 (fun _ h9 => h9) rfl (by decide +kernel) (rfl) (rfl) (Nat.le_of_ble_eq_true rfl) dX1_copy_45 (fun H locs hP2 hD2 hS2 => ?_)
  clear hP hD hS
  have hPD : PD D A [(Aa, .inr (1, [.int (fx 0), .int (fx 1), .int (fx 2), .int (fx 3), .int (fx 4), .int (fx 5), .int (fw 6)])), (Ab, .inr (1, [.int (fx 0), .int (fx 1), .int (fx 2), .int (fx 3), .int (fx 4), .int (fx 5), .int (fx 6)]))] H := ⟨hP2, hD2⟩
  have hS := hS2; clear hP2 hD2 hS2; have hP := hPD.1; have hD := hPD.2; clear hPD
  refine lv_aload_n hx hb dX1_copy_48 rfl (lv_at hl 0 rfl) ?_
  refine lv_aload_n hx hb dX1_copy_49 rfl (lv_at hl 1 rfl) ?_
  refine va_get (D := D) (ci := 1) (v := .int (fx 6)) (C := RX1) (T := TX1) (N := 7) hx hb hts iX1 hown hK hP 1 rfl rfl 6 (by decide) f30 (fun _ h9 => h9) rfl dX1_copy_50 ?_
  refine va_put (D := D) (ci := 1) (v := .int (fx 6)) (ty := .int) (C := RX1) (T := TX1) (N := 7) hx hb hts iX1 tyX1 tyX1_ok nmX1 hown hK hP hD hS 0 rfl rfl 6 (by decide) f30 (fun _ h9 => h9) rfl (by decide +kernel) (rfl) (rfl) (Nat.le_of_ble_eq_true rfl) dX1_copy_53 (fun H locs hP2 hD2 hS2 => ?_)
  clear hP hD hS
  have hPD : PD D A [(Aa, .inr (1, [.int (fx 0), .int (fx 1), .int (fx 2), .int (fx 3), .int (fx 4), .int (fx 5), .int (fx 6)])), (Ab, .inr (1, [.int (fx 0), .int (fx 1), .int (fx 2), .int (fx 3), .int (fx 4), .int (fx 5), .int (fx 6)]))] H := ⟨hP2, hD2⟩
  have hS := hS2; clear hP2 hD2 hS2; have hP := hPD.1; have hD := hPD.2; clear hPD
  have hP9 := hP; have hD9 := hD
  subst hQ
  refine W.widen (k := 0) (n := 0) (Nat.le_of_ble_eq_true rfl) (Nat.le_of_ble_eq_true rfl) ?_
  exact W.vret hx hb hr (fun tS htS _ => ⟨⟨_, rfl, rfl, by rw [htS]; exact hP9, hD9⟩, hS.F htS⟩) hS.2.2 dX1_copy_56

set_option maxHeartbeats 4000000 in
set_option maxRecDepth 100000 in
theorem k_X6_reaches (l : Launch) (D : va_G) (g : Nat → ClassId) (sz : Nat) (zc : Int32) (za : Int32) : Met l yX6_reaches wsX6_reaches ({ frames := 0, cells := 0, slots := 0, locals := 0 }) (va_Pc [.int zc, .int za] (pre D g sz [])) (va_Qi (fun (r : Int32) (u : va_W) => u = []) (wd D (va_A [] sz)) (va_A [] sz)) 0 0 (va_A [] sz) := by
  refine Met.ofW (cc := cX6_reaches) (maxL := 2) (ret := (some .boolean)) (by decide) rfl ?_
  intro p e s m args below meth c s₁ B hml hv
  obtain ⟨rfl, hsz, hP, ⟨hK, hN⟩, hD0, hZ⟩ := hv
  have hx := B.exec
  have hb := B.bytes
  have hr := B.returns
  have hts := atoms_spec (ws := wsX6_reaches) B.pre
  have hown : s.vm.findClass RX6 = some m.cls := findClass_of_methodNamed B.named
  have hlocks := B.notSynchronized
  clear B
  subst hsz
  have hD := hD0.self (sz := s.heap.size)
  clear hD0
  generalize hAe : va_A [] s.heap.size = A at hD hZ ⊢
  have hA : ∀ q : Nat, s.heap.size ≤ q → A q := fun q h => by rw [← hAe]; exact Or.inr h
  have hS : va_S A s.heap s.heap [] := va_S.rf
  have hl := lv_entry ([.int zc, .int za]) (n := 2) (Nat.le_of_ble_eq_true rfl)
  rw [lg_entry_eq]
  generalize (lg_sl ([.int zc, .int za]) ++ List.replicate (2 - (lg_sl ([.int zc, .int za])).length) Slot.unset).toArray = ls at hl ⊢
  have hl : lv_has ls 2 [(0, .int zc), (1, .int za)] := hl
  generalize hQ : MQ below _ _ s _ _ _ = Q
  generalize hH : s.heap = H at hP ⊢
  have hS : va_S A s.heap H [] := by rw [← hH]; exact hS
  clear hH
  refine lv_iload_n hx hb dX6_reaches_0 rfl (lv_at hl 0 rfl) ?_
  refine lv_iload_n hx hb dX6_reaches_1 rfl (lv_at hl 1 rfl) ?_
  refine lv_isub hx hb dX6_reaches_2 ?_
  refine lv_topi (fun y_1 _ => ?_)
  refine lv_bipush (v := 63) hx hb dX6_reaches_3 (by decide) ?_
  refine lv_iand hx hb dX6_reaches_5 ?_
  refine lv_topi (fun y_2 _ => ?_)
  refine lv_bipush (v := 32) hx hb dX6_reaches_6 (by decide) ?_
  refine lv_icmp_ge (tgt := 15) hx hb dX6_reaches_8 (by decide) (fun cb_3 => ?_) (fun cb_3 => ?_)
  · skip
    refine lv_iconst (v := 0) hx hb dX6_reaches_15 (by decide) ?_
    have hP9 := hP; have hD9 := hD
    subst hQ
    refine W.widen (k := 0) (n := 0) (Nat.le_of_ble_eq_true rfl) (Nat.le_of_ble_eq_true rfl) ?_
    exact W.zret (v := 0) (ty := .boolean) hx hb hr (rfl) (fun tS htS _ => ⟨⟨_, _, rfl, rfl, by rw [htS]; exact hP9, hD9⟩, hS.F htS⟩) hS.2.2 dX6_reaches_16
  · skip
    refine lv_iconst (v := 1) hx hb dX6_reaches_11 (by decide) ?_
    refine lv_goto (tgt := 16) hx hb dX6_reaches_12 (by decide) ?_
    have hP9 := hP; have hD9 := hD
    subst hQ
    refine W.widen (k := 0) (n := 0) (Nat.le_of_ble_eq_true rfl) (Nat.le_of_ble_eq_true rfl) ?_
    exact W.zret (v := 1) (ty := .boolean) hx hb hr (rfl) (fun tS htS _ => ⟨⟨_, _, rfl, rfl, by rw [htS]; exact hP9, hD9⟩, hS.F htS⟩) hS.2.2 dX6_reaches_16

set_option maxHeartbeats 4000000 in
set_option maxRecDepth 100000 in
theorem k_X1_hear (l : Launch) (D : va_G) (g : Nat → ClassId) (sz : Nat) (Aa : Nat) (zt : Int32) (fw : Nat → Int32) : Met l yX1_hear wsX1_hear ({ frames := 1, cells := 0, slots := 0, locals := 21 }) (va_Pc [.ref Aa, .int zt] (pre D g sz [(Aa, .inr (1, [.int (fw 0), .int (fw 1), .int (fw 2), .int (fw 3), .int (fw 4), .int (fw 5), .int (fw 6)]))])) (va_Qv (fun (u : va_W) => ∃ (fwx : Nat → Int32), u = [(Aa, .inr (1, [.int (fwx 0), .int (fwx 1), .int (fwx 2), .int (fw 3), .int (fwx 4), .int (fwx 5), .int (fwx 6)]))]) (wd D (va_A [(Aa, .inr (1, [.int (fw 0), .int (fw 1), .int (fw 2), .int (fw 3), .int (fw 4), .int (fw 5), .int (fw 6)]))] sz)) (va_A [(Aa, .inr (1, [.int (fw 0), .int (fw 1), .int (fw 2), .int (fw 3), .int (fw 4), .int (fw 5), .int (fw 6)]))] sz)) 0 0 (va_A [(Aa, .inr (1, [.int (fw 0), .int (fw 1), .int (fw 2), .int (fw 3), .int (fw 4), .int (fw 5), .int (fw 6)]))] sz) := by
  refine Met.ofW (cc := cX1_hear) (maxL := 2) (ret := none) (by decide) rfl ?_
  intro p e s m args below meth c s₁ B hml hv
  obtain ⟨rfl, hsz, hP, ⟨hK, hN⟩, hD0, hZ⟩ := hv
  have hx := B.exec
  have hb := B.bytes
  have hr := B.returns
  have hts := atoms_spec (ws := wsX1_hear) B.pre
  have hown : s.vm.findClass RX1 = some m.cls := findClass_of_methodNamed B.named
  have hlocks := B.notSynchronized
  clear B
  subst hsz
  have hD := hD0.self (sz := s.heap.size)
  clear hD0
  generalize hAe : va_A [(Aa, .inr (1, [.int (fw 0), .int (fw 1), .int (fw 2), .int (fw 3), .int (fw 4), .int (fw 5), .int (fw 6)]))] s.heap.size = A at hD hZ ⊢
  have hA : ∀ q : Nat, s.heap.size ≤ q → A q := fun q h => by rw [← hAe]; exact Or.inr h
  have hS : va_S A s.heap s.heap [] := va_S.rf
  have f18 := hts (.fieldLink RX1 18 "HopCredits$Lane" "known" "I") (List.mem_of_getElem? (i := 1) rfl)
  have iiX6 := hts (.initialized RX6) (List.mem_of_getElem? (i := 3) rfl)
  have stX6_reaches := hts (.static yX6_reaches) (List.mem_of_getElem? (i := 2) rfl)
  have iX1 : ∀ w ∈ u_ws RX1 TX1 7, w ∈ wsX1_hear := fun w h => List.mem_cons_of_mem _ (List.mem_append_right _ (h))
  have hl := lv_entry ([.ref Aa, .int zt]) (n := 2) (Nat.le_of_ble_eq_true rfl)
  rw [lg_entry_eq]
  generalize (lg_sl ([.ref Aa, .int zt]) ++ List.replicate (2 - (lg_sl ([.ref Aa, .int zt])).length) Slot.unset).toArray = ls at hl ⊢
  have hl : lv_has ls 2 [(0, .ref Aa), (1, .int zt)] := hl
  generalize hQ : MQ below _ _ s _ _ _ = Q
  generalize hH : s.heap = H at hP ⊢
  have hS : va_S A s.heap H [] := by rw [← hH]; exact hS
  clear hH
  refine lv_iload_n hx hb dX1_hear_0 rfl (lv_at hl 1 rfl) ?_
  refine lv_aload_n hx hb dX1_hear_1 rfl (lv_at hl 0 rfl) ?_
  refine va_get (D := D) (ci := 1) (v := .int (fw 2)) (C := RX1) (T := TX1) (N := 7) hx hb hts iX1 hown hK hP 0 rfl rfl 2 (by decide) f18 (fun _ h9 => h9) rfl dX1_hear_2 ?_
  refine ky_SNi (As := [.int zt, .int (fw 2)]) (rest := []) ⟨hx, hb, hml, hown, hts⟩ ⟨hK, hN⟩ hZ hP hD hS hA [] [0] (wc := []) (wr := [(Aa, .inr (1, [.int (fw 0), .int (fw 1), .int (fw 2), .int (fw 3), .int (fw 4), .int (fw 5), .int (fw 6)]))]) rfl rfl rfl rfl (by decide) (k_X6_reaches l D g H.size zt (fw 2)) ⟨va_cnB 2 hts ggX1_hear_X6_reaches rfl rfl rfl hN.2.2.1 iiX6 (by decide +kernel) ⟨(Nat.le_of_ble_eq_true rfl), (Nat.le_of_ble_eq_true rfl)⟩, stX6_reaches, trivial⟩ rfl hl.1 rfl (Nat.le_of_ble_eq_true rfl) dX1_hear_5 ⟨(Nat.le_of_ble_eq_true rfl), (Nat.le_of_ble_eq_true rfl)⟩ (fun r_1 u H locs hw hP2 hD2 hS2 => ?_)
  clear hP hD hS
  obtain rfl := hw
  have hPD : PD D A [(Aa, .inr (1, [.int (fw 0), .int (fw 1), .int (fw 2), .int (fw 3), .int (fw 4), .int (fw 5), .int (fw 6)]))] H := ⟨hP2, hD2⟩
  have hS := hS2; clear hP2 hD2 hS2; have hP := hPD.1; have hD := hPD.2; clear hPD
  refine W.widen (k := 0) (n := 0) (Nat.le_of_ble_eq_true rfl) (Nat.le_of_ble_eq_true rfl) ?_
  refine lv_if_eq (tgt := 16) hx hb dX1_hear_8 (by decide) (fun cb_2 => ?_) (fun cb_2 => ?_)
  · skip
    have hPq_3 := hP; have hDq_3 := hD; have hSq_3 := hS; have hlq_3 := hl; clear hP hD hS hl
    subst cb_2
    have hP := hPq_3; have hD := hDq_3; have hS := hSq_3; have hl := hlq_3; clear hPq_3 hDq_3 hSq_3 hlq_3
    have hP9 := hP; have hD9 := hD
    subst hQ
    refine W.widen (k := 0) (n := 0) (Nat.le_of_ble_eq_true rfl) (Nat.le_of_ble_eq_true rfl) ?_
    exact W.vret hx hb hr (fun tS htS _ => ⟨⟨_, rfl, ⟨fw, rfl⟩, by rw [htS]; exact hP9, hD9⟩, hS.F htS⟩) hS.2.2 dX1_hear_16
  · skip
    refine lv_aload_n hx hb dX1_hear_11 rfl (lv_at hl 0 rfl) ?_
    refine lv_iload_n hx hb dX1_hear_12 rfl (lv_at hl 1 rfl) ?_
    refine va_put (D := D) (ci := 1) (v := .int zt) (ty := .int) (C := RX1) (T := TX1) (N := 7) hx hb hts iX1 tyX1 tyX1_ok nmX1 hown hK hP hD hS 0 rfl rfl 2 (by decide) f18 (fun _ h9 => h9) rfl (by decide +kernel) (rfl) (rfl) (Nat.le_of_ble_eq_true rfl) dX1_hear_13 (fun H locs hP2 hD2 hS2 => ?_)
    clear hP hD hS
    have hPD : PD D A [(Aa, .inr (1, [.int (fw 0), .int (fw 1), .int zt, .int (fw 3), .int (fw 4), .int (fw 5), .int (fw 6)]))] H := ⟨hP2, hD2⟩
    have hS := hS2; clear hP2 hD2 hS2; have hP := hPD.1; have hD := hPD.2; clear hPD
    have hP9 := hP; have hD9 := hD
    subst hQ
    refine W.widen (k := 0) (n := 0) (Nat.le_of_ble_eq_true rfl) (Nat.le_of_ble_eq_true rfl) ?_
    exact W.vret hx hb hr (fun tS htS _ => ⟨⟨_, rfl, ⟨(lf [fw 0, fw 1, zt, 0, fw 4, fw 5, fw 6]), rfl⟩, by rw [htS]; exact hP9, hD9⟩, hS.F htS⟩) hS.2.2 dX1_hear_16

set_option maxHeartbeats 4000000 in
set_option maxRecDepth 100000 in
theorem k_X0_lay (l : Launch) (D : va_G) (g : Nat → ClassId) (sz : Nat) (Aw : Nat) (za : Int32) (zb : Int32) (zc : Int32) (fq : Nat → Int32) (fy : Nat → Int32) : Met l yX0_lay wsX0_lay ({ frames := 0, cells := 0, slots := 0, locals := 0 }) (va_Pc [.ref Aw, .int za, .int zb, .int zc] (pre D g sz [(Aw, .inr (0, [.int (fq 0), .int (fq 1), .int (fq 2), .int (fy 3), .int (fy 4), .int (fy 5), .int (fy 6), .int (fy 7)]))])) (va_Qv (fun (u : va_W) => u = [(Aw, .inr (0, [.int za, .int zb, .int zc, .int 0, .int 0, .int 0, .int 0, .int 0]))]) (wd D (va_A [(Aw, .inr (0, [.int (fq 0), .int (fq 1), .int (fq 2), .int (fy 3), .int (fy 4), .int (fy 5), .int (fy 6), .int (fy 7)]))] sz)) (va_A [(Aw, .inr (0, [.int (fq 0), .int (fq 1), .int (fq 2), .int (fy 3), .int (fy 4), .int (fy 5), .int (fy 6), .int (fy 7)]))] sz)) 0 0 (va_A [(Aw, .inr (0, [.int (fq 0), .int (fq 1), .int (fq 2), .int (fy 3), .int (fy 4), .int (fy 5), .int (fy 6), .int (fy 7)]))] sz) := by
  refine Met.ofW (cc := cX0_lay) (maxL := 4) (ret := none) (by decide) rfl ?_
  intro p e s m args below meth c s₁ B hml hv
  obtain ⟨rfl, hsz, hP, ⟨hK, hN⟩, hD0, hZ⟩ := hv
  have hx := B.exec
  have hb := B.bytes
  have hr := B.returns
  have hts := atoms_spec (ws := wsX0_lay) B.pre
  have hown : s.vm.findClass RX0 = some m.cls := findClass_of_methodNamed B.named
  have hlocks := B.notSynchronized
  clear B
  subst hsz
  have hD := hD0.self (sz := s.heap.size)
  clear hD0
  generalize hAe : va_A [(Aw, .inr (0, [.int (fq 0), .int (fq 1), .int (fq 2), .int (fy 3), .int (fy 4), .int (fy 5), .int (fy 6), .int (fy 7)]))] s.heap.size = A at hD hZ ⊢
  have hA : ∀ q : Nat, s.heap.size ≤ q → A q := fun q h => by rw [← hAe]; exact Or.inr h
  have hS : va_S A s.heap s.heap [] := va_S.rf
  have f13 := hts (.fieldLink RX0 13 "HopCredits$Flow" "start" "I") (List.mem_of_getElem? (i := 2) rfl)
  have f16 := hts (.fieldLink RX0 16 "HopCredits$Flow" "takes" "I") (List.mem_of_getElem? (i := 3) rfl)
  have f19 := hts (.fieldLink RX0 19 "HopCredits$Flow" "came" "I") (List.mem_of_getElem? (i := 4) rfl)
  have f22 := hts (.fieldLink RX0 22 "HopCredits$Flow" "spilt" "I") (List.mem_of_getElem? (i := 5) rfl)
  have f25 := hts (.fieldLink RX0 25 "HopCredits$Flow" "delivered" "I") (List.mem_of_getElem? (i := 6) rfl)
  have f28 := hts (.fieldLink RX0 28 "HopCredits$Flow" "cameNow" "Z") (List.mem_of_getElem? (i := 7) rfl)
  have f32 := hts (.fieldLink RX0 32 "HopCredits$Flow" "deliveredNow" "Z") (List.mem_of_getElem? (i := 8) rfl)
  have f7 := hts (.fieldLink RX0 7 "HopCredits$Flow" "gap" "I") (List.mem_of_getElem? (i := 1) rfl)
  have iX0 : ∀ w ∈ u_ws RX0 TX0 8, w ∈ wsX0_lay := fun w h => List.mem_cons_of_mem _ (List.mem_append_right _ (h))
  have hl := lv_entry ([.ref Aw, .int za, .int zb, .int zc]) (n := 4) (Nat.le_of_ble_eq_true rfl)
  rw [lg_entry_eq]
  generalize (lg_sl ([.ref Aw, .int za, .int zb, .int zc]) ++ List.replicate (4 - (lg_sl ([.ref Aw, .int za, .int zb, .int zc])).length) Slot.unset).toArray = ls at hl ⊢
  have hl : lv_has ls 4 [(0, .ref Aw), (1, .int za), (2, .int zb), (3, .int zc)] := hl
  generalize hQ : MQ below _ _ s _ _ _ = Q
  generalize hH : s.heap = H at hP ⊢
  have hS : va_S A s.heap H [] := by rw [← hH]; exact hS
  clear hH
  refine lv_aload_n hx hb dX0_lay_0 rfl (lv_at hl 0 rfl) ?_
  refine lv_iload_n hx hb dX0_lay_1 rfl (lv_at hl 1 rfl) ?_
  refine va_put (D := D) (ci := 0) (v := .int za) (ty := .int) (C := RX0) (T := TX0) (N := 8) hx hb hts iX0 tyX0 tyX0_ok nmX0 hown hK hP hD hS 0 rfl rfl 0 (by decide) f7 (fun _ h9 => h9) rfl (by decide +kernel) (rfl) (rfl) (Nat.le_of_ble_eq_true rfl) dX0_lay_2 (fun H locs hP2 hD2 hS2 => ?_)
  clear hP hD hS
  have hPD : PD D A [(Aw, .inr (0, [.int za, .int (fq 1), .int (fq 2), .int (fy 3), .int (fy 4), .int (fy 5), .int (fy 6), .int (fy 7)]))] H := ⟨hP2, hD2⟩
  have hS := hS2; clear hP2 hD2 hS2; have hP := hPD.1; have hD := hPD.2; clear hPD
  refine lv_aload_n hx hb dX0_lay_5 rfl (lv_at hl 0 rfl) ?_
  refine lv_iload_n hx hb dX0_lay_6 rfl (lv_at hl 2 rfl) ?_
  refine va_put (D := D) (ci := 0) (v := .int zb) (ty := .int) (C := RX0) (T := TX0) (N := 8) hx hb hts iX0 tyX0 tyX0_ok nmX0 hown hK hP hD hS 0 rfl rfl 1 (by decide) f13 (fun _ h9 => h9) rfl (by decide +kernel) (rfl) (rfl) (Nat.le_of_ble_eq_true rfl) dX0_lay_7 (fun H locs hP2 hD2 hS2 => ?_)
  clear hP hD hS
  have hPD : PD D A [(Aw, .inr (0, [.int za, .int zb, .int (fq 2), .int (fy 3), .int (fy 4), .int (fy 5), .int (fy 6), .int (fy 7)]))] H := ⟨hP2, hD2⟩
  have hS := hS2; clear hP2 hD2 hS2; have hP := hPD.1; have hD := hPD.2; clear hPD
  refine lv_aload_n hx hb dX0_lay_10 rfl (lv_at hl 0 rfl) ?_
  refine lv_iload_n hx hb dX0_lay_11 rfl (lv_at hl 3 rfl) ?_
  refine va_put (D := D) (ci := 0) (v := .int zc) (ty := .int) (C := RX0) (T := TX0) (N := 8) hx hb hts iX0 tyX0 tyX0_ok nmX0 hown hK hP hD hS 0 rfl rfl 2 (by decide) f16 (fun _ h9 => h9) rfl (by decide +kernel) (rfl) (rfl) (Nat.le_of_ble_eq_true rfl) dX0_lay_12 (fun H locs hP2 hD2 hS2 => ?_)
  clear hP hD hS
  have hPD : PD D A [(Aw, .inr (0, [.int za, .int zb, .int zc, .int (fy 3), .int (fy 4), .int (fy 5), .int (fy 6), .int (fy 7)]))] H := ⟨hP2, hD2⟩
  have hS := hS2; clear hP2 hD2 hS2; have hP := hPD.1; have hD := hPD.2; clear hPD
  refine lv_aload_n hx hb dX0_lay_15 rfl (lv_at hl 0 rfl) ?_
  refine lv_iconst (v := 0) hx hb dX0_lay_16 (by decide) ?_
  refine va_put (D := D) (ci := 0) (v := .int 0) (ty := .int) (C := RX0) (T := TX0) (N := 8) hx hb hts iX0 tyX0 tyX0_ok nmX0 hown hK hP hD hS 0 rfl rfl 3 (by decide) f19 (fun _ h9 => h9) rfl (by decide +kernel) (rfl) (rfl) (Nat.le_of_ble_eq_true rfl) dX0_lay_17 (fun H locs hP2 hD2 hS2 => ?_)
  clear hP hD hS
  have hPD : PD D A [(Aw, .inr (0, [.int za, .int zb, .int zc, .int 0, .int (fy 4), .int (fy 5), .int (fy 6), .int (fy 7)]))] H := ⟨hP2, hD2⟩
  have hS := hS2; clear hP2 hD2 hS2; have hP := hPD.1; have hD := hPD.2; clear hPD
  refine lv_aload_n hx hb dX0_lay_20 rfl (lv_at hl 0 rfl) ?_
  refine lv_iconst (v := 0) hx hb dX0_lay_21 (by decide) ?_
  refine va_put (D := D) (ci := 0) (v := .int 0) (ty := .int) (C := RX0) (T := TX0) (N := 8) hx hb hts iX0 tyX0 tyX0_ok nmX0 hown hK hP hD hS 0 rfl rfl 4 (by decide) f22 (fun _ h9 => h9) rfl (by decide +kernel) (rfl) (rfl) (Nat.le_of_ble_eq_true rfl) dX0_lay_22 (fun H locs hP2 hD2 hS2 => ?_)
  clear hP hD hS
  have hPD : PD D A [(Aw, .inr (0, [.int za, .int zb, .int zc, .int 0, .int 0, .int (fy 5), .int (fy 6), .int (fy 7)]))] H := ⟨hP2, hD2⟩
  have hS := hS2; clear hP2 hD2 hS2; have hP := hPD.1; have hD := hPD.2; clear hPD
  refine lv_aload_n hx hb dX0_lay_25 rfl (lv_at hl 0 rfl) ?_
  refine lv_iconst (v := 0) hx hb dX0_lay_26 (by decide) ?_
  refine va_put (D := D) (ci := 0) (v := .int 0) (ty := .int) (C := RX0) (T := TX0) (N := 8) hx hb hts iX0 tyX0 tyX0_ok nmX0 hown hK hP hD hS 0 rfl rfl 5 (by decide) f25 (fun _ h9 => h9) rfl (by decide +kernel) (rfl) (rfl) (Nat.le_of_ble_eq_true rfl) dX0_lay_27 (fun H locs hP2 hD2 hS2 => ?_)
  clear hP hD hS
  have hPD : PD D A [(Aw, .inr (0, [.int za, .int zb, .int zc, .int 0, .int 0, .int 0, .int (fy 6), .int (fy 7)]))] H := ⟨hP2, hD2⟩
  have hS := hS2; clear hP2 hD2 hS2; have hP := hPD.1; have hD := hPD.2; clear hPD
  refine lv_aload_n hx hb dX0_lay_30 rfl (lv_at hl 0 rfl) ?_
  refine lv_iconst (v := 0) hx hb dX0_lay_31 (by decide) ?_
  refine va_put (D := D) (ci := 0) (v := .int 0) (ty := .boolean) (C := RX0) (T := TX0) (N := 8) hx hb hts iX0 tyX0 tyX0_ok nmX0 hown hK hP hD hS 0 rfl rfl 6 (by decide) f28 (fun _ h9 => h9) rfl (by decide +kernel) (rfl) (rfl) (Nat.le_of_ble_eq_true rfl) dX0_lay_32 (fun H locs hP2 hD2 hS2 => ?_)
  clear hP hD hS
  have hPD : PD D A [(Aw, .inr (0, [.int za, .int zb, .int zc, .int 0, .int 0, .int 0, .int 0, .int (fy 7)]))] H := ⟨hP2, hD2⟩
  have hS := hS2; clear hP2 hD2 hS2; have hP := hPD.1; have hD := hPD.2; clear hPD
  refine lv_aload_n hx hb dX0_lay_35 rfl (lv_at hl 0 rfl) ?_
  refine lv_iconst (v := 0) hx hb dX0_lay_36 (by decide) ?_
  refine va_put (D := D) (ci := 0) (v := .int 0) (ty := .boolean) (C := RX0) (T := TX0) (N := 8) hx hb hts iX0 tyX0 tyX0_ok nmX0 hown hK hP hD hS 0 rfl rfl 7 (by decide) f32 (fun _ h9 => h9) rfl (by decide +kernel) (rfl) (rfl) (Nat.le_of_ble_eq_true rfl) dX0_lay_37 (fun H locs hP2 hD2 hS2 => ?_)
  clear hP hD hS
  have hPD : PD D A [(Aw, .inr (0, [.int za, .int zb, .int zc, .int 0, .int 0, .int 0, .int 0, .int 0]))] H := ⟨hP2, hD2⟩
  have hS := hS2; clear hP2 hD2 hS2; have hP := hPD.1; have hD := hPD.2; clear hPD
  have hP9 := hP; have hD9 := hD
  subst hQ
  refine W.widen (k := 0) (n := 0) (Nat.le_of_ble_eq_true rfl) (Nat.le_of_ble_eq_true rfl) ?_
  exact W.vret hx hb hr (fun tS htS _ => ⟨⟨_, rfl, rfl, by rw [htS]; exact hP9, hD9⟩, hS.F htS⟩) hS.2.2 dX0_lay_40

set_option maxHeartbeats 4000000 in
set_option maxRecDepth 100000 in
theorem k_X0_copy (l : Launch) (D : va_G) (g : Nat → ClassId) (sz : Nat) (Aw : Nat) (Av : Nat) (fq : Nat → Int32) (fy : Nat → Int32) (fr : Nat → Int32) (fs : Nat → Int32) (h0 : zb (fs 6)) (h1 : zb (fs 7)) : Met l yX0_copy wsX0_copy ({ frames := 0, cells := 0, slots := 0, locals := 0 }) (va_Pc [.ref Aw, .ref Av] (pre D g sz [(Aw, .inr (0, [.int (fq 0), .int (fq 1), .int (fq 2), .int (fy 3), .int (fy 4), .int (fy 5), .int (fy 6), .int (fy 7)])), (Av, .inr (0, [.int (fr 0), .int (fr 1), .int (fr 2), .int (fs 3), .int (fs 4), .int (fs 5), .int (fs 6), .int (fs 7)]))])) (va_Qv (fun (u : va_W) => u = [(Aw, .inr (0, [.int (fr 0), .int (fr 1), .int (fr 2), .int (fs 3), .int (fs 4), .int (fs 5), .int (fs 6), .int (fs 7)])), (Av, .inr (0, [.int (fr 0), .int (fr 1), .int (fr 2), .int (fs 3), .int (fs 4), .int (fs 5), .int (fs 6), .int (fs 7)]))]) (wd D (va_A [(Aw, .inr (0, [.int (fq 0), .int (fq 1), .int (fq 2), .int (fy 3), .int (fy 4), .int (fy 5), .int (fy 6), .int (fy 7)])), (Av, .inr (0, [.int (fr 0), .int (fr 1), .int (fr 2), .int (fs 3), .int (fs 4), .int (fs 5), .int (fs 6), .int (fs 7)]))] sz)) (va_A [(Aw, .inr (0, [.int (fq 0), .int (fq 1), .int (fq 2), .int (fy 3), .int (fy 4), .int (fy 5), .int (fy 6), .int (fy 7)])), (Av, .inr (0, [.int (fr 0), .int (fr 1), .int (fr 2), .int (fs 3), .int (fs 4), .int (fs 5), .int (fs 6), .int (fs 7)]))] sz)) 0 0 (va_A [(Aw, .inr (0, [.int (fq 0), .int (fq 1), .int (fq 2), .int (fy 3), .int (fy 4), .int (fy 5), .int (fy 6), .int (fy 7)])), (Av, .inr (0, [.int (fr 0), .int (fr 1), .int (fr 2), .int (fs 3), .int (fs 4), .int (fs 5), .int (fs 6), .int (fs 7)]))] sz) := by
  refine Met.ofW (cc := cX0_copy) (maxL := 2) (ret := none) (by decide) rfl ?_
  intro p e s m args below meth c s₁ B hml hv
  obtain ⟨rfl, hsz, hP, ⟨hK, hN⟩, hD0, hZ⟩ := hv
  have hx := B.exec
  have hb := B.bytes
  have hr := B.returns
  have hts := atoms_spec (ws := wsX0_copy) B.pre
  have hown : s.vm.findClass RX0 = some m.cls := findClass_of_methodNamed B.named
  have hlocks := B.notSynchronized
  clear B
  subst hsz
  have hD := hD0.self (sz := s.heap.size)
  clear hD0
  generalize hAe : va_A [(Aw, .inr (0, [.int (fq 0), .int (fq 1), .int (fq 2), .int (fy 3), .int (fy 4), .int (fy 5), .int (fy 6), .int (fy 7)])), (Av, .inr (0, [.int (fr 0), .int (fr 1), .int (fr 2), .int (fs 3), .int (fs 4), .int (fs 5), .int (fs 6), .int (fs 7)]))] s.heap.size = A at hD hZ ⊢
  have hA : ∀ q : Nat, s.heap.size ≤ q → A q := fun q h => by rw [← hAe]; exact Or.inr h
  have hS : va_S A s.heap s.heap [] := va_S.rf
  have f13 := hts (.fieldLink RX0 13 "HopCredits$Flow" "start" "I") (List.mem_of_getElem? (i := 2) rfl)
  have f16 := hts (.fieldLink RX0 16 "HopCredits$Flow" "takes" "I") (List.mem_of_getElem? (i := 3) rfl)
  have f19 := hts (.fieldLink RX0 19 "HopCredits$Flow" "came" "I") (List.mem_of_getElem? (i := 4) rfl)
  have f22 := hts (.fieldLink RX0 22 "HopCredits$Flow" "spilt" "I") (List.mem_of_getElem? (i := 5) rfl)
  have f25 := hts (.fieldLink RX0 25 "HopCredits$Flow" "delivered" "I") (List.mem_of_getElem? (i := 6) rfl)
  have f28 := hts (.fieldLink RX0 28 "HopCredits$Flow" "cameNow" "Z") (List.mem_of_getElem? (i := 7) rfl)
  have f32 := hts (.fieldLink RX0 32 "HopCredits$Flow" "deliveredNow" "Z") (List.mem_of_getElem? (i := 8) rfl)
  have f7 := hts (.fieldLink RX0 7 "HopCredits$Flow" "gap" "I") (List.mem_of_getElem? (i := 1) rfl)
  have iX0 : ∀ w ∈ u_ws RX0 TX0 8, w ∈ wsX0_copy := fun w h => List.mem_cons_of_mem _ (List.mem_append_right _ (h))
  have hl := lv_entry ([.ref Aw, .ref Av]) (n := 2) (Nat.le_of_ble_eq_true rfl)
  rw [lg_entry_eq]
  generalize (lg_sl ([.ref Aw, .ref Av]) ++ List.replicate (2 - (lg_sl ([.ref Aw, .ref Av])).length) Slot.unset).toArray = ls at hl ⊢
  have hl : lv_has ls 2 [(0, .ref Aw), (1, .ref Av)] := hl
  generalize hQ : MQ below _ _ s _ _ _ = Q
  generalize hH : s.heap = H at hP ⊢
  have hS : va_S A s.heap H [] := by rw [← hH]; exact hS
  clear hH
  refine lv_aload_n hx hb dX0_copy_0 rfl (lv_at hl 0 rfl) ?_
  refine lv_aload_n hx hb dX0_copy_1 rfl (lv_at hl 1 rfl) ?_
  refine va_get (D := D) (ci := 0) (v := .int (fr 0)) (C := RX0) (T := TX0) (N := 8) hx hb hts iX0 hown hK hP 1 rfl rfl 0 (by decide) f7 (fun _ h9 => h9) rfl dX0_copy_2 ?_
  refine va_put (D := D) (ci := 0) (v := .int (fr 0)) (ty := .int) (C := RX0) (T := TX0) (N := 8) hx hb hts iX0 tyX0 tyX0_ok nmX0 hown hK hP hD hS 0 rfl rfl 0 (by decide) f7 (fun _ h9 => h9) rfl (by decide +kernel) (rfl) (rfl) (Nat.le_of_ble_eq_true rfl) dX0_copy_5 (fun H locs hP2 hD2 hS2 => ?_)
  clear hP hD hS
  have hPD : PD D A [(Aw, .inr (0, [.int (fr 0), .int (fq 1), .int (fq 2), .int (fy 3), .int (fy 4), .int (fy 5), .int (fy 6), .int (fy 7)])), (Av, .inr (0, [.int (fr 0), .int (fr 1), .int (fr 2), .int (fs 3), .int (fs 4), .int (fs 5), .int (fs 6), .int (fs 7)]))] H := ⟨hP2, hD2⟩
  have hS := hS2; clear hP2 hD2 hS2; have hP := hPD.1; have hD := hPD.2; clear hPD
  refine lv_aload_n hx hb dX0_copy_8 rfl (lv_at hl 0 rfl) ?_
  refine lv_aload_n hx hb dX0_copy_9 rfl (lv_at hl 1 rfl) ?_
  refine va_get (D := D) (ci := 0) (v := .int (fr 1)) (C := RX0) (T := TX0) (N := 8) hx hb hts iX0 hown hK hP 1 rfl rfl 1 (by decide) f13 (fun _ h9 => h9) rfl dX0_copy_10 ?_
  refine va_put (D := D) (ci := 0) (v := .int (fr 1)) (ty := .int) (C := RX0) (T := TX0) (N := 8) hx hb hts iX0 tyX0 tyX0_ok nmX0 hown hK hP hD hS 0 rfl rfl 1 (by decide) f13 (fun _ h9 => h9) rfl (by decide +kernel) (rfl) (rfl) (Nat.le_of_ble_eq_true rfl) dX0_copy_13 (fun H locs hP2 hD2 hS2 => ?_)
  clear hP hD hS
  have hPD : PD D A [(Aw, .inr (0, [.int (fr 0), .int (fr 1), .int (fq 2), .int (fy 3), .int (fy 4), .int (fy 5), .int (fy 6), .int (fy 7)])), (Av, .inr (0, [.int (fr 0), .int (fr 1), .int (fr 2), .int (fs 3), .int (fs 4), .int (fs 5), .int (fs 6), .int (fs 7)]))] H := ⟨hP2, hD2⟩
  have hS := hS2; clear hP2 hD2 hS2; have hP := hPD.1; have hD := hPD.2; clear hPD
  refine lv_aload_n hx hb dX0_copy_16 rfl (lv_at hl 0 rfl) ?_
  refine lv_aload_n hx hb dX0_copy_17 rfl (lv_at hl 1 rfl) ?_
  refine va_get (D := D) (ci := 0) (v := .int (fr 2)) (C := RX0) (T := TX0) (N := 8) hx hb hts iX0 hown hK hP 1 rfl rfl 2 (by decide) f16 (fun _ h9 => h9) rfl dX0_copy_18 ?_
  refine va_put (D := D) (ci := 0) (v := .int (fr 2)) (ty := .int) (C := RX0) (T := TX0) (N := 8) hx hb hts iX0 tyX0 tyX0_ok nmX0 hown hK hP hD hS 0 rfl rfl 2 (by decide) f16 (fun _ h9 => h9) rfl (by decide +kernel) (rfl) (rfl) (Nat.le_of_ble_eq_true rfl) dX0_copy_21 (fun H locs hP2 hD2 hS2 => ?_)
  clear hP hD hS
  have hPD : PD D A [(Aw, .inr (0, [.int (fr 0), .int (fr 1), .int (fr 2), .int (fy 3), .int (fy 4), .int (fy 5), .int (fy 6), .int (fy 7)])), (Av, .inr (0, [.int (fr 0), .int (fr 1), .int (fr 2), .int (fs 3), .int (fs 4), .int (fs 5), .int (fs 6), .int (fs 7)]))] H := ⟨hP2, hD2⟩
  have hS := hS2; clear hP2 hD2 hS2; have hP := hPD.1; have hD := hPD.2; clear hPD
  refine lv_aload_n hx hb dX0_copy_24 rfl (lv_at hl 0 rfl) ?_
  refine lv_aload_n hx hb dX0_copy_25 rfl (lv_at hl 1 rfl) ?_
  refine va_get (D := D) (ci := 0) (v := .int (fs 3)) (C := RX0) (T := TX0) (N := 8) hx hb hts iX0 hown hK hP 1 rfl rfl 3 (by decide) f19 (fun _ h9 => h9) rfl dX0_copy_26 ?_
  refine va_put (D := D) (ci := 0) (v := .int (fs 3)) (ty := .int) (C := RX0) (T := TX0) (N := 8) hx hb hts iX0 tyX0 tyX0_ok nmX0 hown hK hP hD hS 0 rfl rfl 3 (by decide) f19 (fun _ h9 => h9) rfl (by decide +kernel) (rfl) (rfl) (Nat.le_of_ble_eq_true rfl) dX0_copy_29 (fun H locs hP2 hD2 hS2 => ?_)
  clear hP hD hS
  have hPD : PD D A [(Aw, .inr (0, [.int (fr 0), .int (fr 1), .int (fr 2), .int (fs 3), .int (fy 4), .int (fy 5), .int (fy 6), .int (fy 7)])), (Av, .inr (0, [.int (fr 0), .int (fr 1), .int (fr 2), .int (fs 3), .int (fs 4), .int (fs 5), .int (fs 6), .int (fs 7)]))] H := ⟨hP2, hD2⟩
  have hS := hS2; clear hP2 hD2 hS2; have hP := hPD.1; have hD := hPD.2; clear hPD
  refine lv_aload_n hx hb dX0_copy_32 rfl (lv_at hl 0 rfl) ?_
  refine lv_aload_n hx hb dX0_copy_33 rfl (lv_at hl 1 rfl) ?_
  refine va_get (D := D) (ci := 0) (v := .int (fs 4)) (C := RX0) (T := TX0) (N := 8) hx hb hts iX0 hown hK hP 1 rfl rfl 4 (by decide) f22 (fun _ h9 => h9) rfl dX0_copy_34 ?_
  refine va_put (D := D) (ci := 0) (v := .int (fs 4)) (ty := .int) (C := RX0) (T := TX0) (N := 8) hx hb hts iX0 tyX0 tyX0_ok nmX0 hown hK hP hD hS 0 rfl rfl 4 (by decide) f22 (fun _ h9 => h9) rfl (by decide +kernel) (rfl) (rfl) (Nat.le_of_ble_eq_true rfl) dX0_copy_37 (fun H locs hP2 hD2 hS2 => ?_)
  clear hP hD hS
  have hPD : PD D A [(Aw, .inr (0, [.int (fr 0), .int (fr 1), .int (fr 2), .int (fs 3), .int (fs 4), .int (fy 5), .int (fy 6), .int (fy 7)])), (Av, .inr (0, [.int (fr 0), .int (fr 1), .int (fr 2), .int (fs 3), .int (fs 4), .int (fs 5), .int (fs 6), .int (fs 7)]))] H := ⟨hP2, hD2⟩
  have hS := hS2; clear hP2 hD2 hS2; have hP := hPD.1; have hD := hPD.2; clear hPD
  refine lv_aload_n hx hb dX0_copy_40 rfl (lv_at hl 0 rfl) ?_
  refine lv_aload_n hx hb dX0_copy_41 rfl (lv_at hl 1 rfl) ?_
  refine va_get (D := D) (ci := 0) (v := .int (fs 5)) (C := RX0) (T := TX0) (N := 8) hx hb hts iX0 hown hK hP 1 rfl rfl 5 (by decide) f25 (fun _ h9 => h9) rfl dX0_copy_42 ?_
  refine va_put (D := D) (ci := 0) (v := .int (fs 5)) (ty := .int) (C := RX0) (T := TX0) (N := 8) hx hb hts iX0 tyX0 tyX0_ok nmX0 hown hK hP hD hS 0 rfl rfl 5 (by decide) f25 (fun _ h9 => h9) rfl (by decide +kernel) (rfl) (rfl) (Nat.le_of_ble_eq_true rfl) dX0_copy_45 (fun H locs hP2 hD2 hS2 => ?_)
  clear hP hD hS
  have hPD : PD D A [(Aw, .inr (0, [.int (fr 0), .int (fr 1), .int (fr 2), .int (fs 3), .int (fs 4), .int (fs 5), .int (fy 6), .int (fy 7)])), (Av, .inr (0, [.int (fr 0), .int (fr 1), .int (fr 2), .int (fs 3), .int (fs 4), .int (fs 5), .int (fs 6), .int (fs 7)]))] H := ⟨hP2, hD2⟩
  have hS := hS2; clear hP2 hD2 hS2; have hP := hPD.1; have hD := hPD.2; clear hPD
  refine lv_aload_n hx hb dX0_copy_48 rfl (lv_at hl 0 rfl) ?_
  refine lv_aload_n hx hb dX0_copy_49 rfl (lv_at hl 1 rfl) ?_
  refine va_get (D := D) (ci := 0) (v := .int (fs 6)) (C := RX0) (T := TX0) (N := 8) hx hb hts iX0 hown hK hP 1 rfl rfl 6 (by decide) f28 (fun _ h9 => h9) rfl dX0_copy_50 ?_
  refine va_put (D := D) (ci := 0) (v := .int (fs 6)) (ty := .boolean) (C := RX0) (T := TX0) (N := 8) hx hb hts iX0 tyX0 tyX0_ok nmX0 hown hK hP hD hS 0 rfl rfl 6 (by decide) f28 (fun _ h9 => h9) rfl (by decide +kernel) (zb_nar (h0)) (zb_fit (h0)) (Nat.le_of_ble_eq_true rfl) dX0_copy_53 (fun H locs hP2 hD2 hS2 => ?_)
  clear hP hD hS
  have hPD : PD D A [(Aw, .inr (0, [.int (fr 0), .int (fr 1), .int (fr 2), .int (fs 3), .int (fs 4), .int (fs 5), .int (fs 6), .int (fy 7)])), (Av, .inr (0, [.int (fr 0), .int (fr 1), .int (fr 2), .int (fs 3), .int (fs 4), .int (fs 5), .int (fs 6), .int (fs 7)]))] H := ⟨hP2, hD2⟩
  have hS := hS2; clear hP2 hD2 hS2; have hP := hPD.1; have hD := hPD.2; clear hPD
  refine lv_aload_n hx hb dX0_copy_56 rfl (lv_at hl 0 rfl) ?_
  refine lv_aload_n hx hb dX0_copy_57 rfl (lv_at hl 1 rfl) ?_
  refine va_get (D := D) (ci := 0) (v := .int (fs 7)) (C := RX0) (T := TX0) (N := 8) hx hb hts iX0 hown hK hP 1 rfl rfl 7 (by decide) f32 (fun _ h9 => h9) rfl dX0_copy_58 ?_
  refine va_put (D := D) (ci := 0) (v := .int (fs 7)) (ty := .boolean) (C := RX0) (T := TX0) (N := 8) hx hb hts iX0 tyX0 tyX0_ok nmX0 hown hK hP hD hS 0 rfl rfl 7 (by decide) f32 (fun _ h9 => h9) rfl (by decide +kernel) (zb_nar (h1)) (zb_fit (h1)) (Nat.le_of_ble_eq_true rfl) dX0_copy_61 (fun H locs hP2 hD2 hS2 => ?_)
  clear hP hD hS
  have hPD : PD D A [(Aw, .inr (0, [.int (fr 0), .int (fr 1), .int (fr 2), .int (fs 3), .int (fs 4), .int (fs 5), .int (fs 6), .int (fs 7)])), (Av, .inr (0, [.int (fr 0), .int (fr 1), .int (fr 2), .int (fs 3), .int (fs 4), .int (fs 5), .int (fs 6), .int (fs 7)]))] H := ⟨hP2, hD2⟩
  have hS := hS2; clear hP2 hD2 hS2; have hP := hPD.1; have hD := hPD.2; clear hPD
  have hP9 := hP; have hD9 := hD
  subst hQ
  refine W.widen (k := 0) (n := 0) (Nat.le_of_ble_eq_true rfl) (Nat.le_of_ble_eq_true rfl) ?_
  exact W.vret hx hb hr (fun tS htS _ => ⟨⟨_, rfl, rfl, by rw [htS]; exact hP9, hD9⟩, hS.F htS⟩) hS.2.2 dX0_copy_64

set_option maxHeartbeats 4000000 in
set_option maxRecDepth 100000 in
theorem k_X0_comesIn (l : Launch) (D : va_G) (g : Nat → ClassId) (sz : Nat) (Aw : Nat) (zt : Int32) (fq : Nat → Int32) (fy : Nat → Int32) : Met l yX0_comesIn wsX0_comesIn ({ frames := 0, cells := 0, slots := 0, locals := 0 }) (va_Pc [.ref Aw, .int zt] (pre D g sz [(Aw, .inr (0, [.int (fq 0), .int (fq 1), .int (fq 2), .int (fy 3), .int (fy 4), .int (fy 5), .int (fy 6), .int (fy 7)]))])) (va_Qi (fun (r : Int32) (u : va_W) => u = [(Aw, .inr (0, [.int (fq 0), .int (fq 1), .int (fq 2), .int (fy 3), .int (fy 4), .int (fy 5), .int (fy 6), .int (fy 7)]))]) (wd D (va_A [(Aw, .inr (0, [.int (fq 0), .int (fq 1), .int (fq 2), .int (fy 3), .int (fy 4), .int (fy 5), .int (fy 6), .int (fy 7)]))] sz)) (va_A [(Aw, .inr (0, [.int (fq 0), .int (fq 1), .int (fq 2), .int (fy 3), .int (fy 4), .int (fy 5), .int (fy 6), .int (fy 7)]))] sz)) 0 0 (va_A [(Aw, .inr (0, [.int (fq 0), .int (fq 1), .int (fq 2), .int (fy 3), .int (fy 4), .int (fy 5), .int (fy 6), .int (fy 7)]))] sz) := by
  refine Met.ofW (cc := cX0_comesIn) (maxL := 2) (ret := (some .boolean)) (by decide) rfl ?_
  intro p e s m args below meth c s₁ B hml hv
  obtain ⟨rfl, hsz, hP, ⟨hK, hN⟩, hD0, hZ⟩ := hv
  have hx := B.exec
  have hb := B.bytes
  have hr := B.returns
  have hts := atoms_spec (ws := wsX0_comesIn) B.pre
  have hown : s.vm.findClass RX0 = some m.cls := findClass_of_methodNamed B.named
  have hlocks := B.notSynchronized
  clear B
  subst hsz
  have hD := hD0.self (sz := s.heap.size)
  clear hD0
  generalize hAe : va_A [(Aw, .inr (0, [.int (fq 0), .int (fq 1), .int (fq 2), .int (fy 3), .int (fy 4), .int (fy 5), .int (fy 6), .int (fy 7)]))] s.heap.size = A at hD hZ ⊢
  have hA : ∀ q : Nat, s.heap.size ≤ q → A q := fun q h => by rw [← hAe]; exact Or.inr h
  have hS : va_S A s.heap s.heap [] := va_S.rf
  have f13 := hts (.fieldLink RX0 13 "HopCredits$Flow" "start" "I") (List.mem_of_getElem? (i := 2) rfl)
  have f7 := hts (.fieldLink RX0 7 "HopCredits$Flow" "gap" "I") (List.mem_of_getElem? (i := 1) rfl)
  have iX0 : ∀ w ∈ u_ws RX0 TX0 8, w ∈ wsX0_comesIn := fun w h => List.mem_cons_of_mem _ (List.mem_append_right _ (h))
  have hl := lv_entry ([.ref Aw, .int zt]) (n := 2) (Nat.le_of_ble_eq_true rfl)
  rw [lg_entry_eq]
  generalize (lg_sl ([.ref Aw, .int zt]) ++ List.replicate (2 - (lg_sl ([.ref Aw, .int zt])).length) Slot.unset).toArray = ls at hl ⊢
  have hl : lv_has ls 2 [(0, .ref Aw), (1, .int zt)] := hl
  generalize hQ : MQ below _ _ s _ _ _ = Q
  generalize hH : s.heap = H at hP ⊢
  have hS : va_S A s.heap H [] := by rw [← hH]; exact hS
  clear hH
  refine lv_aload_n hx hb dX0_comesIn_0 rfl (lv_at hl 0 rfl) ?_
  refine va_get (D := D) (ci := 0) (v := .int (fq 0)) (C := RX0) (T := TX0) (N := 8) hx hb hts iX0 hown hK hP 0 rfl rfl 0 (by decide) f7 (fun _ h9 => h9) rfl dX0_comesIn_1 ?_
  refine lv_if_le (tgt := 33) hx hb dX0_comesIn_4 (by decide) (fun cb_1 => ?_) (fun cb_1 => ?_)
  · skip
    refine lv_iconst (v := 0) hx hb dX0_comesIn_33 (by decide) ?_
    have hP9 := hP; have hD9 := hD
    subst hQ
    refine W.widen (k := 0) (n := 0) (Nat.le_of_ble_eq_true rfl) (Nat.le_of_ble_eq_true rfl) ?_
    exact W.zret (v := 0) (ty := .boolean) hx hb hr (rfl) (fun tS htS _ => ⟨⟨_, _, rfl, rfl, by rw [htS]; exact hP9, hD9⟩, hS.F htS⟩) hS.2.2 dX0_comesIn_34
  · skip
    refine lv_iload_n hx hb dX0_comesIn_7 rfl (lv_at hl 1 rfl) ?_
    refine lv_aload_n hx hb dX0_comesIn_8 rfl (lv_at hl 0 rfl) ?_
    refine va_get (D := D) (ci := 0) (v := .int (fq 1)) (C := RX0) (T := TX0) (N := 8) hx hb hts iX0 hown hK hP 0 rfl rfl 1 (by decide) f13 (fun _ h9 => h9) rfl dX0_comesIn_9 ?_
    refine lv_icmp_lt (tgt := 33) hx hb dX0_comesIn_12 (by decide) (fun cb_2 => ?_) (fun cb_2 => ?_)
    · skip
      refine lv_iconst (v := 0) hx hb dX0_comesIn_33 (by decide) ?_
      have hP9 := hP; have hD9 := hD
      subst hQ
      refine W.widen (k := 0) (n := 0) (Nat.le_of_ble_eq_true rfl) (Nat.le_of_ble_eq_true rfl) ?_
      exact W.zret (v := 0) (ty := .boolean) hx hb hr (rfl) (fun tS htS _ => ⟨⟨_, _, rfl, rfl, by rw [htS]; exact hP9, hD9⟩, hS.F htS⟩) hS.2.2 dX0_comesIn_34
    · skip
      refine lv_iload_n hx hb dX0_comesIn_15 rfl (lv_at hl 1 rfl) ?_
      refine lv_aload_n hx hb dX0_comesIn_16 rfl (lv_at hl 0 rfl) ?_
      refine va_get (D := D) (ci := 0) (v := .int (fq 1)) (C := RX0) (T := TX0) (N := 8) hx hb hts iX0 hown hK hP 0 rfl rfl 1 (by decide) f13 (fun _ h9 => h9) rfl dX0_comesIn_17 ?_
      refine lv_isub hx hb dX0_comesIn_20 ?_
      refine lv_topi (fun y_3 _ => ?_)
      refine lv_aload_n hx hb dX0_comesIn_21 rfl (lv_at hl 0 rfl) ?_
      refine va_get (D := D) (ci := 0) (v := .int (fq 0)) (C := RX0) (T := TX0) (N := 8) hx hb hts iX0 hown hK hP 0 rfl rfl 0 (by decide) f7 (fun _ h9 => h9) rfl dX0_comesIn_22 ?_
      refine lv_irem hx hb dX0_comesIn_25 (nz_le cb_1) ?_
      refine lv_topi (fun y_4 _ => ?_)
      refine lv_if_ne (tgt := 33) hx hb dX0_comesIn_26 (by decide) (fun cb_5 => ?_) (fun cb_5 => ?_)
      · skip
        refine lv_iconst (v := 0) hx hb dX0_comesIn_33 (by decide) ?_
        have hP9 := hP; have hD9 := hD
        subst hQ
        refine W.widen (k := 0) (n := 0) (Nat.le_of_ble_eq_true rfl) (Nat.le_of_ble_eq_true rfl) ?_
        exact W.zret (v := 0) (ty := .boolean) hx hb hr (rfl) (fun tS htS _ => ⟨⟨_, _, rfl, rfl, by rw [htS]; exact hP9, hD9⟩, hS.F htS⟩) hS.2.2 dX0_comesIn_34
      · skip
        have hPq_6 := hP; have hDq_6 := hD; have hSq_6 := hS; have hlq_6 := hl; clear hP hD hS hl
        subst cb_5
        have hP := hPq_6; have hD := hDq_6; have hS := hSq_6; have hl := hlq_6; clear hPq_6 hDq_6 hSq_6 hlq_6
        refine lv_iconst (v := 1) hx hb dX0_comesIn_29 (by decide) ?_
        refine lv_goto (tgt := 34) hx hb dX0_comesIn_30 (by decide) ?_
        have hP9 := hP; have hD9 := hD
        subst hQ
        refine W.widen (k := 0) (n := 0) (Nat.le_of_ble_eq_true rfl) (Nat.le_of_ble_eq_true rfl) ?_
        exact W.zret (v := 1) (ty := .boolean) hx hb hr (rfl) (fun tS htS _ => ⟨⟨_, _, rfl, rfl, by rw [htS]; exact hP9, hD9⟩, hS.F htS⟩) hS.2.2 dX0_comesIn_34

set_option maxHeartbeats 4000000 in
set_option maxRecDepth 100000 in
theorem k_X0_takesIn (l : Launch) (D : va_G) (g : Nat → ClassId) (sz : Nat) (Aw : Nat) (zt : Int32) (fq : Nat → Int32) (fy : Nat → Int32) : Met l yX0_takesIn wsX0_takesIn ({ frames := 0, cells := 0, slots := 0, locals := 0 }) (va_Pc [.ref Aw, .int zt] (pre D g sz [(Aw, .inr (0, [.int (fq 0), .int (fq 1), .int (fq 2), .int (fy 3), .int (fy 4), .int (fy 5), .int (fy 6), .int (fy 7)]))])) (va_Qi (fun (r : Int32) (u : va_W) => u = [(Aw, .inr (0, [.int (fq 0), .int (fq 1), .int (fq 2), .int (fy 3), .int (fy 4), .int (fy 5), .int (fy 6), .int (fy 7)]))]) (wd D (va_A [(Aw, .inr (0, [.int (fq 0), .int (fq 1), .int (fq 2), .int (fy 3), .int (fy 4), .int (fy 5), .int (fy 6), .int (fy 7)]))] sz)) (va_A [(Aw, .inr (0, [.int (fq 0), .int (fq 1), .int (fq 2), .int (fy 3), .int (fy 4), .int (fy 5), .int (fy 6), .int (fy 7)]))] sz)) 0 0 (va_A [(Aw, .inr (0, [.int (fq 0), .int (fq 1), .int (fq 2), .int (fy 3), .int (fy 4), .int (fy 5), .int (fy 6), .int (fy 7)]))] sz) := by
  refine Met.ofW (cc := cX0_takesIn) (maxL := 2) (ret := (some .boolean)) (by decide) rfl ?_
  intro p e s m args below meth c s₁ B hml hv
  obtain ⟨rfl, hsz, hP, ⟨hK, hN⟩, hD0, hZ⟩ := hv
  have hx := B.exec
  have hb := B.bytes
  have hr := B.returns
  have hts := atoms_spec (ws := wsX0_takesIn) B.pre
  have hown : s.vm.findClass RX0 = some m.cls := findClass_of_methodNamed B.named
  have hlocks := B.notSynchronized
  clear B
  subst hsz
  have hD := hD0.self (sz := s.heap.size)
  clear hD0
  generalize hAe : va_A [(Aw, .inr (0, [.int (fq 0), .int (fq 1), .int (fq 2), .int (fy 3), .int (fy 4), .int (fy 5), .int (fy 6), .int (fy 7)]))] s.heap.size = A at hD hZ ⊢
  have hA : ∀ q : Nat, s.heap.size ≤ q → A q := fun q h => by rw [← hAe]; exact Or.inr h
  have hS : va_S A s.heap s.heap [] := va_S.rf
  have f16 := hts (.fieldLink RX0 16 "HopCredits$Flow" "takes" "I") (List.mem_of_getElem? (i := 1) rfl)
  have iX0 : ∀ w ∈ u_ws RX0 TX0 8, w ∈ wsX0_takesIn := fun w h => List.mem_cons_of_mem _ (List.mem_append_right _ (h))
  have hl := lv_entry ([.ref Aw, .int zt]) (n := 2) (Nat.le_of_ble_eq_true rfl)
  rw [lg_entry_eq]
  generalize (lg_sl ([.ref Aw, .int zt]) ++ List.replicate (2 - (lg_sl ([.ref Aw, .int zt])).length) Slot.unset).toArray = ls at hl ⊢
  have hl : lv_has ls 2 [(0, .ref Aw), (1, .int zt)] := hl
  generalize hQ : MQ below _ _ s _ _ _ = Q
  generalize hH : s.heap = H at hP ⊢
  have hS : va_S A s.heap H [] := by rw [← hH]; exact hS
  clear hH
  refine lv_aload_n hx hb dX0_takesIn_0 rfl (lv_at hl 0 rfl) ?_
  refine va_get (D := D) (ci := 0) (v := .int (fq 2)) (C := RX0) (T := TX0) (N := 8) hx hb hts iX0 hown hK hP 0 rfl rfl 2 (by decide) f16 (fun _ h9 => h9) rfl dX0_takesIn_1 ?_
  refine lv_if_le (tgt := 20) hx hb dX0_takesIn_4 (by decide) (fun cb_1 => ?_) (fun cb_1 => ?_)
  · skip
    refine lv_iconst (v := 0) hx hb dX0_takesIn_20 (by decide) ?_
    have hP9 := hP; have hD9 := hD
    subst hQ
    refine W.widen (k := 0) (n := 0) (Nat.le_of_ble_eq_true rfl) (Nat.le_of_ble_eq_true rfl) ?_
    exact W.zret (v := 0) (ty := .boolean) hx hb hr (rfl) (fun tS htS _ => ⟨⟨_, _, rfl, rfl, by rw [htS]; exact hP9, hD9⟩, hS.F htS⟩) hS.2.2 dX0_takesIn_21
  · skip
    refine lv_iload_n hx hb dX0_takesIn_7 rfl (lv_at hl 1 rfl) ?_
    refine lv_aload_n hx hb dX0_takesIn_8 rfl (lv_at hl 0 rfl) ?_
    refine va_get (D := D) (ci := 0) (v := .int (fq 2)) (C := RX0) (T := TX0) (N := 8) hx hb hts iX0 hown hK hP 0 rfl rfl 2 (by decide) f16 (fun _ h9 => h9) rfl dX0_takesIn_9 ?_
    refine lv_irem hx hb dX0_takesIn_12 (nz_le cb_1) ?_
    refine lv_topi (fun y_2 _ => ?_)
    refine lv_if_ne (tgt := 20) hx hb dX0_takesIn_13 (by decide) (fun cb_3 => ?_) (fun cb_3 => ?_)
    · skip
      refine lv_iconst (v := 0) hx hb dX0_takesIn_20 (by decide) ?_
      have hP9 := hP; have hD9 := hD
      subst hQ
      refine W.widen (k := 0) (n := 0) (Nat.le_of_ble_eq_true rfl) (Nat.le_of_ble_eq_true rfl) ?_
      exact W.zret (v := 0) (ty := .boolean) hx hb hr (rfl) (fun tS htS _ => ⟨⟨_, _, rfl, rfl, by rw [htS]; exact hP9, hD9⟩, hS.F htS⟩) hS.2.2 dX0_takesIn_21
    · skip
      have hPq_4 := hP; have hDq_4 := hD; have hSq_4 := hS; have hlq_4 := hl; clear hP hD hS hl
      subst cb_3
      have hP := hPq_4; have hD := hDq_4; have hS := hSq_4; have hl := hlq_4; clear hPq_4 hDq_4 hSq_4 hlq_4
      refine lv_iconst (v := 1) hx hb dX0_takesIn_16 (by decide) ?_
      refine lv_goto (tgt := 21) hx hb dX0_takesIn_17 (by decide) ?_
      have hP9 := hP; have hD9 := hD
      subst hQ
      refine W.widen (k := 0) (n := 0) (Nat.le_of_ble_eq_true rfl) (Nat.le_of_ble_eq_true rfl) ?_
      exact W.zret (v := 1) (ty := .boolean) hx hb hr (rfl) (fun tS htS _ => ⟨⟨_, _, rfl, rfl, by rw [htS]; exact hP9, hD9⟩, hS.F htS⟩) hS.2.2 dX0_takesIn_21

set_option maxHeartbeats 4000000 in
set_option maxRecDepth 100000 in
theorem k_X5_clear (l : Launch) (D : va_G) (g : Nat → ClassId) (sz : Nat) (At : Nat) (Ab : Nat) (fu : Nat → Int32) : Met l yX5_clear wsX5_clear ({ frames := 0, cells := 0, slots := 0, locals := 0 }) (va_Pc [.ref At] (pre D g sz [(At, .inr (5, [.ref Ab, .int (fu 1), .int (fu 2), .int (fu 3), .int (fu 4), .int (fu 5)]))])) (va_Qv (fun (u : va_W) => u = [(At, .inr (5, [.ref Ab, .int 0, .int 0, .int 0, .int 0, .int 0]))]) (wd D (va_A [(At, .inr (5, [.ref Ab, .int (fu 1), .int (fu 2), .int (fu 3), .int (fu 4), .int (fu 5)]))] sz)) (va_A [(At, .inr (5, [.ref Ab, .int (fu 1), .int (fu 2), .int (fu 3), .int (fu 4), .int (fu 5)]))] sz)) 0 0 (va_A [(At, .inr (5, [.ref Ab, .int (fu 1), .int (fu 2), .int (fu 3), .int (fu 4), .int (fu 5)]))] sz) := by
  refine Met.ofW (cc := cX5_clear) (maxL := 1) (ret := none) (by decide) rfl ?_
  intro p e s m args below meth c s₁ B hml hv
  obtain ⟨rfl, hsz, hP, ⟨hK, hN⟩, hD0, hZ⟩ := hv
  have hx := B.exec
  have hb := B.bytes
  have hr := B.returns
  have hts := atoms_spec (ws := wsX5_clear) B.pre
  have hown : s.vm.findClass RX5 = some m.cls := findClass_of_methodNamed B.named
  have hlocks := B.notSynchronized
  clear B
  subst hsz
  have hD := hD0.self (sz := s.heap.size)
  clear hD0
  generalize hAe : va_A [(At, .inr (5, [.ref Ab, .int (fu 1), .int (fu 2), .int (fu 3), .int (fu 4), .int (fu 5)]))] s.heap.size = A at hD hZ ⊢
  have hA : ∀ q : Nat, s.heap.size ≤ q → A q := fun q h => by rw [← hAe]; exact Or.inr h
  have hS : va_S A s.heap s.heap [] := va_S.rf
  have f13 := hts (.fieldLink RX5 13 "HopCredits$Trips" "first" "I") (List.mem_of_getElem? (i := 1) rfl)
  have f17 := hts (.fieldLink RX5 17 "HopCredits$Trips" "underway" "I") (List.mem_of_getElem? (i := 2) rfl)
  have f20 := hts (.fieldLink RX5 20 "HopCredits$Trips" "latest" "I") (List.mem_of_getElem? (i := 3) rfl)
  have f23 := hts (.fieldLink RX5 23 "HopCredits$Trips" "longest" "I") (List.mem_of_getElem? (i := 4) rfl)
  have f26 := hts (.fieldLink RX5 26 "HopCredits$Trips" "total" "I") (List.mem_of_getElem? (i := 5) rfl)
  have iX5 : ∀ w ∈ u_ws RX5 TX5 6, w ∈ wsX5_clear := fun w h => List.mem_cons_of_mem _ (List.mem_append_right _ (h))
  have hl := lv_entry ([.ref At]) (n := 1) (Nat.le_of_ble_eq_true rfl)
  rw [lg_entry_eq]
  generalize (lg_sl ([.ref At]) ++ List.replicate (1 - (lg_sl ([.ref At])).length) Slot.unset).toArray = ls at hl ⊢
  have hl : lv_has ls 1 [(0, .ref At)] := hl
  generalize hQ : MQ below _ _ s _ _ _ = Q
  generalize hH : s.heap = H at hP ⊢
  have hS : va_S A s.heap H [] := by rw [← hH]; exact hS
  clear hH
  refine lv_aload_n hx hb dX5_clear_0 rfl (lv_at hl 0 rfl) ?_
  refine lv_iconst (v := 0) hx hb dX5_clear_1 (by decide) ?_
  refine va_put (D := D) (ci := 5) (v := .int 0) (ty := .int) (C := RX5) (T := TX5) (N := 6) hx hb hts iX5 tyX5 tyX5_ok nmX5 hown hK hP hD hS 0 rfl rfl 1 (by decide) f13 (fun _ h9 => h9) rfl (by decide +kernel) (rfl) (rfl) (Nat.le_of_ble_eq_true rfl) dX5_clear_2 (fun H locs hP2 hD2 hS2 => ?_)
  clear hP hD hS
  have hPD : PD D A [(At, .inr (5, [.ref Ab, .int 0, .int (fu 2), .int (fu 3), .int (fu 4), .int (fu 5)]))] H := ⟨hP2, hD2⟩
  have hS := hS2; clear hP2 hD2 hS2; have hP := hPD.1; have hD := hPD.2; clear hPD
  refine lv_aload_n hx hb dX5_clear_5 rfl (lv_at hl 0 rfl) ?_
  refine lv_iconst (v := 0) hx hb dX5_clear_6 (by decide) ?_
  refine va_put (D := D) (ci := 5) (v := .int 0) (ty := .int) (C := RX5) (T := TX5) (N := 6) hx hb hts iX5 tyX5 tyX5_ok nmX5 hown hK hP hD hS 0 rfl rfl 2 (by decide) f17 (fun _ h9 => h9) rfl (by decide +kernel) (rfl) (rfl) (Nat.le_of_ble_eq_true rfl) dX5_clear_7 (fun H locs hP2 hD2 hS2 => ?_)
  clear hP hD hS
  have hPD : PD D A [(At, .inr (5, [.ref Ab, .int 0, .int 0, .int (fu 3), .int (fu 4), .int (fu 5)]))] H := ⟨hP2, hD2⟩
  have hS := hS2; clear hP2 hD2 hS2; have hP := hPD.1; have hD := hPD.2; clear hPD
  refine lv_aload_n hx hb dX5_clear_10 rfl (lv_at hl 0 rfl) ?_
  refine lv_iconst (v := 0) hx hb dX5_clear_11 (by decide) ?_
  refine va_put (D := D) (ci := 5) (v := .int 0) (ty := .int) (C := RX5) (T := TX5) (N := 6) hx hb hts iX5 tyX5 tyX5_ok nmX5 hown hK hP hD hS 0 rfl rfl 3 (by decide) f20 (fun _ h9 => h9) rfl (by decide +kernel) (rfl) (rfl) (Nat.le_of_ble_eq_true rfl) dX5_clear_12 (fun H locs hP2 hD2 hS2 => ?_)
  clear hP hD hS
  have hPD : PD D A [(At, .inr (5, [.ref Ab, .int 0, .int 0, .int 0, .int (fu 4), .int (fu 5)]))] H := ⟨hP2, hD2⟩
  have hS := hS2; clear hP2 hD2 hS2; have hP := hPD.1; have hD := hPD.2; clear hPD
  refine lv_aload_n hx hb dX5_clear_15 rfl (lv_at hl 0 rfl) ?_
  refine lv_iconst (v := 0) hx hb dX5_clear_16 (by decide) ?_
  refine va_put (D := D) (ci := 5) (v := .int 0) (ty := .int) (C := RX5) (T := TX5) (N := 6) hx hb hts iX5 tyX5 tyX5_ok nmX5 hown hK hP hD hS 0 rfl rfl 4 (by decide) f23 (fun _ h9 => h9) rfl (by decide +kernel) (rfl) (rfl) (Nat.le_of_ble_eq_true rfl) dX5_clear_17 (fun H locs hP2 hD2 hS2 => ?_)
  clear hP hD hS
  have hPD : PD D A [(At, .inr (5, [.ref Ab, .int 0, .int 0, .int 0, .int 0, .int (fu 5)]))] H := ⟨hP2, hD2⟩
  have hS := hS2; clear hP2 hD2 hS2; have hP := hPD.1; have hD := hPD.2; clear hPD
  refine lv_aload_n hx hb dX5_clear_20 rfl (lv_at hl 0 rfl) ?_
  refine lv_iconst (v := 0) hx hb dX5_clear_21 (by decide) ?_
  refine va_put (D := D) (ci := 5) (v := .int 0) (ty := .int) (C := RX5) (T := TX5) (N := 6) hx hb hts iX5 tyX5 tyX5_ok nmX5 hown hK hP hD hS 0 rfl rfl 5 (by decide) f26 (fun _ h9 => h9) rfl (by decide +kernel) (rfl) (rfl) (Nat.le_of_ble_eq_true rfl) dX5_clear_22 (fun H locs hP2 hD2 hS2 => ?_)
  clear hP hD hS
  have hPD : PD D A [(At, .inr (5, [.ref Ab, .int 0, .int 0, .int 0, .int 0, .int 0]))] H := ⟨hP2, hD2⟩
  have hS := hS2; clear hP2 hD2 hS2; have hP := hPD.1; have hD := hPD.2; clear hPD
  have hP9 := hP; have hD9 := hD
  subst hQ
  refine W.widen (k := 0) (n := 0) (Nat.le_of_ble_eq_true rfl) (Nat.le_of_ble_eq_true rfl) ?_
  exact W.vret hx hb hr (fun tS htS _ => ⟨⟨_, rfl, rfl, by rw [htS]; exact hP9, hD9⟩, hS.F htS⟩) hS.2.2 dX5_clear_25

set_option maxHeartbeats 4000000 in
set_option maxRecDepth 100000 in
theorem k_X5_begin (l : Launch) (D : va_G) (g : Nat → ClassId) (sz : Nat) (At : Nat) (zt : Int32) (Ab : Nat) (fu : Nat → Int32) (fb : Nat → Int32) : Met l yX5_begin wsX5_begin ({ frames := 0, cells := 0, slots := 0, locals := 0 }) (va_Pc [.ref At, .int zt] (pre D g sz [(At, .inr (5, [.ref Ab, .int (fu 1), .int (fu 2), .int (fu 3), .int (fu 4), .int (fu 5)])), (Ab, .inl (g 0, 256, .inl fb))])) (va_Qv (fun (u : va_W) => ∃ (fux : Nat → Int32) (fbx : Nat → Int32), u = [(At, .inr (5, [.ref Ab, .int (fux 1), .int (fux 2), .int (fux 3), .int (fux 4), .int (fux 5)])), (Ab, .inl (g 0, 256, .inl fbx))]) (wd D (va_A [(At, .inr (5, [.ref Ab, .int (fu 1), .int (fu 2), .int (fu 3), .int (fu 4), .int (fu 5)])), (Ab, .inl (g 0, 256, .inl fb))] sz)) (va_A [(At, .inr (5, [.ref Ab, .int (fu 1), .int (fu 2), .int (fu 3), .int (fu 4), .int (fu 5)])), (Ab, .inl (g 0, 256, .inl fb))] sz)) 0 0 (va_A [(At, .inr (5, [.ref Ab, .int (fu 1), .int (fu 2), .int (fu 3), .int (fu 4), .int (fu 5)])), (Ab, .inl (g 0, 256, .inl fb))] sz) := by
  refine Met.ofW (cc := cX5_begin) (maxL := 2) (ret := none) (by decide) rfl ?_
  intro p e s m args below meth c s₁ B hml hv
  obtain ⟨rfl, hsz, hP, ⟨hK, hN⟩, hD0, hZ⟩ := hv
  have hx := B.exec
  have hb := B.bytes
  have hr := B.returns
  have hts := atoms_spec (ws := wsX5_begin) B.pre
  have hown : s.vm.findClass RX5 = some m.cls := findClass_of_methodNamed B.named
  have hlocks := B.notSynchronized
  clear B
  subst hsz
  have hD := hD0.self (sz := s.heap.size)
  clear hD0
  generalize hAe : va_A [(At, .inr (5, [.ref Ab, .int (fu 1), .int (fu 2), .int (fu 3), .int (fu 4), .int (fu 5)])), (Ab, .inl (g 0, 256, .inl fb))] s.heap.size = A at hD hZ ⊢
  have hA : ∀ q : Nat, s.heap.size ≤ q → A q := fun q h => by rw [← hAe]; exact Or.inr h
  have hS : va_S A s.heap s.heap [] := va_S.rf
  have f13 := hts (.fieldLink RX5 13 "HopCredits$Trips" "first" "I") (List.mem_of_getElem? (i := 2) rfl)
  have f17 := hts (.fieldLink RX5 17 "HopCredits$Trips" "underway" "I") (List.mem_of_getElem? (i := 3) rfl)
  have f9 := hts (.fieldLink RX5 9 "HopCredits$Trips" "begun" "[I") (List.mem_of_getElem? (i := 1) rfl)
  have iX5 : ∀ w ∈ u_ws RX5 TX5 6, w ∈ wsX5_begin := fun w h => List.mem_cons_of_mem _ (List.mem_append_right _ (h))
  have hl := lv_entry ([.ref At, .int zt]) (n := 2) (Nat.le_of_ble_eq_true rfl)
  rw [lg_entry_eq]
  generalize (lg_sl ([.ref At, .int zt]) ++ List.replicate (2 - (lg_sl ([.ref At, .int zt])).length) Slot.unset).toArray = ls at hl ⊢
  have hl : lv_has ls 2 [(0, .ref At), (1, .int zt)] := hl
  generalize hQ : MQ below _ _ s _ _ _ = Q
  generalize hH : s.heap = H at hP ⊢
  have hS : va_S A s.heap H [] := by rw [← hH]; exact hS
  clear hH
  refine lv_aload_n hx hb dX5_begin_0 rfl (lv_at hl 0 rfl) ?_
  refine va_get (D := D) (ci := 5) (v := .ref Ab) (C := RX5) (T := TX5) (N := 6) hx hb hts iX5 hown hK hP 0 rfl rfl 0 (by decide) f9 (fun _ h9 => h9) rfl dX5_begin_1 ?_
  refine lv_aload_n hx hb dX5_begin_4 rfl (lv_at hl 0 rfl) ?_
  refine va_get (D := D) (ci := 5) (v := .int (fu 1)) (C := RX5) (T := TX5) (N := 6) hx hb hts iX5 hown hK hP 0 rfl rfl 1 (by decide) f13 (fun _ h9 => h9) rfl dX5_begin_5 ?_
  refine lv_aload_n hx hb dX5_begin_8 rfl (lv_at hl 0 rfl) ?_
  refine va_get (D := D) (ci := 5) (v := .int (fu 2)) (C := RX5) (T := TX5) (N := 6) hx hb hts iX5 hown hK hP 0 rfl rfl 2 (by decide) f17 (fun _ h9 => h9) rfl dX5_begin_9 ?_
  refine lv_iadd hx hb dX5_begin_12 ?_
  refine lv_topi (fun y_1 _ => ?_)
  refine lv_sipush (v := 255) hx hb dX5_begin_13 (by decide) ?_
  refine lv_iand hx hb dX5_begin_16 ?_
  obtain ⟨j_2, hj_3, q9⟩ := and255 y_1
  refine lv_eqi (y := nI j_2) q9 ?_
  refine lv_iload_n hx hb dX5_begin_17 rfl (lv_at hl 1 rfl) ?_
  refine va_iast hx hb hK hP hD hS 1 0 rfl rfl (vp_in_nI (show j_2 < 256 by omega) (by decide)) dX5_begin_18 (fun H locs hP2 hD2 hS2 => ?_)
  clear hP hD hS
  have hPD : PD D A [(At, .inr (5, [.ref Ab, .int (fu 1), .int (fu 2), .int (fu 3), .int (fu 4), .int (fu 5)])), (Ab, .inl (g 0, 256, .inl (upd fb (nI j_2).toNatClampNeg zt)))] H := ⟨hP2, hD2⟩
  have hS := hS2; clear hP2 hD2 hS2; have hP := hPD.1; have hD := hPD.2; clear hPD
  rw [nI_clamp (show j_2 < 2 ^ 31 by omega)] at hP hD
  have hPD : PD D A [(At, .inr (5, [.ref Ab, .int (fu 1), .int (fu 2), .int (fu 3), .int (fu 4), .int (fu 5)])), (Ab, .inl (g 0, 256, .inl (upd fb (j_2) zt)))] H := ⟨hP, hD⟩
  clear hP hD; have hP := hPD.1; have hD := hPD.2; clear hPD
  generalize upd fb (j_2) zt = F_4 at hP hD
  refine lv_aload_n hx hb dX5_begin_19 rfl (lv_at hl 0 rfl) ?_
  refine lv_dup hx hb dX5_begin_20 rfl ?_
  refine va_get (D := D) (ci := 5) (v := .int (fu 2)) (C := RX5) (T := TX5) (N := 6) hx hb hts iX5 hown hK hP 0 rfl rfl 2 (by decide) f17 (fun _ h9 => h9) rfl dX5_begin_21 ?_
  refine lv_iconst (v := 1) hx hb dX5_begin_24 (by decide) ?_
  refine lv_iadd hx hb dX5_begin_25 ?_
  refine lv_topi (fun y_5 _ => ?_)
  refine va_put (D := D) (ci := 5) (v := .int y_5) (ty := .int) (C := RX5) (T := TX5) (N := 6) hx hb hts iX5 tyX5 tyX5_ok nmX5 hown hK hP hD hS 0 rfl rfl 2 (by decide) f17 (fun _ h9 => h9) rfl (by decide +kernel) (rfl) (rfl) (Nat.le_of_ble_eq_true rfl) dX5_begin_26 (fun H locs hP2 hD2 hS2 => ?_)
  clear hP hD hS
  have hPD : PD D A [(At, .inr (5, [.ref Ab, .int (fu 1), .int y_5, .int (fu 3), .int (fu 4), .int (fu 5)])), (Ab, .inl (g 0, 256, .inl F_4))] H := ⟨hP2, hD2⟩
  have hS := hS2; clear hP2 hD2 hS2; have hP := hPD.1; have hD := hPD.2; clear hPD
  have hP9 := hP; have hD9 := hD
  subst hQ
  refine W.widen (k := 0) (n := 0) (Nat.le_of_ble_eq_true rfl) (Nat.le_of_ble_eq_true rfl) ?_
  exact W.vret hx hb hr (fun tS htS _ => ⟨⟨_, rfl, ⟨(lf [0, fu 1, y_5, fu 3, fu 4, fu 5]), F_4, rfl⟩, by rw [htS]; exact hP9, hD9⟩, hS.F htS⟩) hS.2.2 dX5_begin_29

set_option maxHeartbeats 4000000 in
set_option maxRecDepth 100000 in
theorem k_X5_firstBegun (l : Launch) (D : va_G) (g : Nat → ClassId) (sz : Nat) (At : Nat) (Ab : Nat) (fu : Nat → Int32) (fb : Nat → Int32) : Met l yX5_firstBegun wsX5_firstBegun ({ frames := 0, cells := 0, slots := 0, locals := 0 }) (va_Pc [.ref At] (pre D g sz [(At, .inr (5, [.ref Ab, .int (fu 1), .int (fu 2), .int (fu 3), .int (fu 4), .int (fu 5)])), (Ab, .inl (g 0, 256, .inl fb))])) (va_Qi (fun (r : Int32) (u : va_W) => u = [(At, .inr (5, [.ref Ab, .int (fu 1), .int (fu 2), .int (fu 3), .int (fu 4), .int (fu 5)])), (Ab, .inl (g 0, 256, .inl fb))]) (wd D (va_A [(At, .inr (5, [.ref Ab, .int (fu 1), .int (fu 2), .int (fu 3), .int (fu 4), .int (fu 5)])), (Ab, .inl (g 0, 256, .inl fb))] sz)) (va_A [(At, .inr (5, [.ref Ab, .int (fu 1), .int (fu 2), .int (fu 3), .int (fu 4), .int (fu 5)])), (Ab, .inl (g 0, 256, .inl fb))] sz)) 0 0 (va_A [(At, .inr (5, [.ref Ab, .int (fu 1), .int (fu 2), .int (fu 3), .int (fu 4), .int (fu 5)])), (Ab, .inl (g 0, 256, .inl fb))] sz) := by
  refine Met.ofW (cc := cX5_firstBegun) (maxL := 1) (ret := (some .int)) (by decide) rfl ?_
  intro p e s m args below meth c s₁ B hml hv
  obtain ⟨rfl, hsz, hP, ⟨hK, hN⟩, hD0, hZ⟩ := hv
  have hx := B.exec
  have hb := B.bytes
  have hr := B.returns
  have hts := atoms_spec (ws := wsX5_firstBegun) B.pre
  have hown : s.vm.findClass RX5 = some m.cls := findClass_of_methodNamed B.named
  have hlocks := B.notSynchronized
  clear B
  subst hsz
  have hD := hD0.self (sz := s.heap.size)
  clear hD0
  generalize hAe : va_A [(At, .inr (5, [.ref Ab, .int (fu 1), .int (fu 2), .int (fu 3), .int (fu 4), .int (fu 5)])), (Ab, .inl (g 0, 256, .inl fb))] s.heap.size = A at hD hZ ⊢
  have hA : ∀ q : Nat, s.heap.size ≤ q → A q := fun q h => by rw [← hAe]; exact Or.inr h
  have hS : va_S A s.heap s.heap [] := va_S.rf
  have f13 := hts (.fieldLink RX5 13 "HopCredits$Trips" "first" "I") (List.mem_of_getElem? (i := 2) rfl)
  have f9 := hts (.fieldLink RX5 9 "HopCredits$Trips" "begun" "[I") (List.mem_of_getElem? (i := 1) rfl)
  have iX5 : ∀ w ∈ u_ws RX5 TX5 6, w ∈ wsX5_firstBegun := fun w h => List.mem_cons_of_mem _ (List.mem_append_right _ (h))
  have hl := lv_entry ([.ref At]) (n := 1) (Nat.le_of_ble_eq_true rfl)
  rw [lg_entry_eq]
  generalize (lg_sl ([.ref At]) ++ List.replicate (1 - (lg_sl ([.ref At])).length) Slot.unset).toArray = ls at hl ⊢
  have hl : lv_has ls 1 [(0, .ref At)] := hl
  generalize hQ : MQ below _ _ s _ _ _ = Q
  generalize hH : s.heap = H at hP ⊢
  have hS : va_S A s.heap H [] := by rw [← hH]; exact hS
  clear hH
  refine lv_aload_n hx hb dX5_firstBegun_0 rfl (lv_at hl 0 rfl) ?_
  refine va_get (D := D) (ci := 5) (v := .ref Ab) (C := RX5) (T := TX5) (N := 6) hx hb hts iX5 hown hK hP 0 rfl rfl 0 (by decide) f9 (fun _ h9 => h9) rfl dX5_firstBegun_1 ?_
  refine lv_aload_n hx hb dX5_firstBegun_4 rfl (lv_at hl 0 rfl) ?_
  refine va_get (D := D) (ci := 5) (v := .int (fu 1)) (C := RX5) (T := TX5) (N := 6) hx hb hts iX5 hown hK hP 0 rfl rfl 1 (by decide) f13 (fun _ h9 => h9) rfl dX5_firstBegun_5 ?_
  refine lv_sipush (v := 255) hx hb dX5_firstBegun_8 (by decide) ?_
  refine lv_iand hx hb dX5_firstBegun_11 ?_
  obtain ⟨j_1, hj_2, q9⟩ := and255 (fu 1)
  refine lv_eqi (y := nI j_1) q9 ?_
  refine va_iald hx hb hK hP 1 0 rfl rfl (vp_in_nI (show j_1 < 256 by omega) (by decide)) dX5_firstBegun_12 ?_
  refine lv_eqi (y := (fb (j_1))) (congrArg fb (nI_clamp (show j_1 < 2 ^ 31 by omega))) ?_
  refine lv_topi (fun y_3 _ => ?_)
  have hP9 := hP; have hD9 := hD
  subst hQ
  refine W.widen (k := 0) (n := 0) (Nat.le_of_ble_eq_true rfl) (Nat.le_of_ble_eq_true rfl) ?_
  exact W.iret (v := y_3) hx hb hr (fun tS htS _ => ⟨⟨_, _, rfl, rfl, by rw [htS]; exact hP9, hD9⟩, hS.F htS⟩) hS.2.2 dX5_firstBegun_13

set_option maxHeartbeats 4000000 in
set_option maxRecDepth 100000 in
theorem k_X5_finish (l : Launch) (D : va_G) (g : Nat → ClassId) (sz : Nat) (At : Nat) (zt : Int32) (Ab : Nat) (fu : Nat → Int32) (fb : Nat → Int32) : Met l yX5_finish wsX5_finish ({ frames := 1, cells := 0, slots := 0, locals := 24 }) (va_Pc [.ref At, .int zt] (pre D g sz [(At, .inr (5, [.ref Ab, .int (fu 1), .int (fu 2), .int (fu 3), .int (fu 4), .int (fu 5)])), (Ab, .inl (g 0, 256, .inl fb))])) (va_Qv (fun (u : va_W) => ∃ (fux : Nat → Int32), u = [(At, .inr (5, [.ref Ab, .int (fux 1), .int (fux 2), .int (fux 3), .int (fux 4), .int (fux 5)])), (Ab, .inl (g 0, 256, .inl fb))]) (wd D (va_A [(At, .inr (5, [.ref Ab, .int (fu 1), .int (fu 2), .int (fu 3), .int (fu 4), .int (fu 5)])), (Ab, .inl (g 0, 256, .inl fb))] sz)) (va_A [(At, .inr (5, [.ref Ab, .int (fu 1), .int (fu 2), .int (fu 3), .int (fu 4), .int (fu 5)])), (Ab, .inl (g 0, 256, .inl fb))] sz)) 0 0 (va_A [(At, .inr (5, [.ref Ab, .int (fu 1), .int (fu 2), .int (fu 3), .int (fu 4), .int (fu 5)])), (Ab, .inl (g 0, 256, .inl fb))] sz) := by
  refine Met.ofW (cc := cX5_finish) (maxL := 2) (ret := none) (by decide) rfl ?_
  intro p e s m args below meth c s₁ B hml hv
  obtain ⟨rfl, hsz, hP, ⟨hK, hN⟩, hD0, hZ⟩ := hv
  have hx := B.exec
  have hb := B.bytes
  have hr := B.returns
  have hts := atoms_spec (ws := wsX5_finish) B.pre
  have hown : s.vm.findClass RX5 = some m.cls := findClass_of_methodNamed B.named
  have hlocks := B.notSynchronized
  clear B
  subst hsz
  have hD := hD0.self (sz := s.heap.size)
  clear hD0
  generalize hAe : va_A [(At, .inr (5, [.ref Ab, .int (fu 1), .int (fu 2), .int (fu 3), .int (fu 4), .int (fu 5)])), (Ab, .inl (g 0, 256, .inl fb))] s.heap.size = A at hD hZ ⊢
  have hA : ∀ q : Nat, s.heap.size ≤ q → A q := fun q h => by rw [← hAe]; exact Or.inr h
  have hS : va_S A s.heap s.heap [] := va_S.rf
  have f13 := hts (.fieldLink RX5 13 "HopCredits$Trips" "first" "I") (List.mem_of_getElem? (i := 8) rfl)
  have f17 := hts (.fieldLink RX5 17 "HopCredits$Trips" "underway" "I") (List.mem_of_getElem? (i := 9) rfl)
  have f20 := hts (.fieldLink RX5 20 "HopCredits$Trips" "latest" "I") (List.mem_of_getElem? (i := 1) rfl)
  have f23 := hts (.fieldLink RX5 23 "HopCredits$Trips" "longest" "I") (List.mem_of_getElem? (i := 2) rfl)
  have f26 := hts (.fieldLink RX5 26 "HopCredits$Trips" "total" "I") (List.mem_of_getElem? (i := 7) rfl)
  have mcmax := hts (.code Lib.Math.max.name Lib.Math.max.code 2 (some .int)) (List.mem_of_getElem? (i := 6) rfl)
  have mi := hts (.initialized "java/lang/Math") (List.mem_of_getElem? (i := 5) rfl)
  have mmmax := hts (.methodLink RX5 33 Lib.Math.max.name) (List.mem_of_getElem? (i := 3) rfl)
  have mtmax := hts (.static Lib.Math.max.name) (List.mem_of_getElem? (i := 4) rfl)
  have iX5 : ∀ w ∈ u_ws RX5 TX5 6, w ∈ wsX5_finish := fun w h => List.mem_cons_of_mem _ (List.mem_append_right _ (h))
  have hl := lv_entry ([.ref At, .int zt]) (n := 2) (Nat.le_of_ble_eq_true rfl)
  rw [lg_entry_eq]
  generalize (lg_sl ([.ref At, .int zt]) ++ List.replicate (2 - (lg_sl ([.ref At, .int zt])).length) Slot.unset).toArray = ls at hl ⊢
  have hl : lv_has ls 2 [(0, .ref At), (1, .int zt)] := hl
  generalize hQ : MQ below _ _ s _ _ _ = Q
  generalize hH : s.heap = H at hP ⊢
  have hS : va_S A s.heap H [] := by rw [← hH]; exact hS
  clear hH
  refine lv_aload_n hx hb dX5_finish_0 rfl (lv_at hl 0 rfl) ?_
  refine lv_iload_n hx hb dX5_finish_1 rfl (lv_at hl 1 rfl) ?_
  refine lv_aload_n hx hb dX5_finish_2 rfl (lv_at hl 0 rfl) ?_
  refine ky_Vi (As := []) (rest := [.int zt, .ref At]) ⟨hx, hb, hml, hown, hts⟩ ⟨hK, hN⟩ hZ hP hD hS hA [0, 1] [] (wc := [(At, .inr (5, [.ref Ab, .int (fu 1), .int (fu 2), .int (fu 3), .int (fu 4), .int (fu 5)])), (Ab, .inl (g 0, 256, .inl fb))]) (wr := []) rfl rfl rfl rfl (by decide) (k_X5_firstBegun l D g H.size At Ab fu fb) (cwV 0 hts gX5_finish_X5_firstBegun rfl rfl rfl (by decide +kernel) ⟨(Nat.le_of_ble_eq_true rfl), (Nat.le_of_ble_eq_true rfl)⟩) 0 5 rfl rfl rfl rfl hl.1 rfl (Nat.le_of_ble_eq_true rfl) dX5_finish_3 ⟨(Nat.le_of_ble_eq_true rfl), (Nat.le_of_ble_eq_true rfl)⟩ (fun r_1 u H locs hw hP2 hD2 hS2 => ?_)
  clear hP hD hS
  obtain rfl := hw
  have hPD : PD D A [(At, .inr (5, [.ref Ab, .int (fu 1), .int (fu 2), .int (fu 3), .int (fu 4), .int (fu 5)])), (Ab, .inl (g 0, 256, .inl fb))] H := ⟨hP2, hD2⟩
  have hS := hS2; clear hP2 hD2 hS2; have hP := hPD.1; have hD := hPD.2; clear hPD
  refine W.widen (k := 0) (n := 0) (Nat.le_of_ble_eq_true rfl) (Nat.le_of_ble_eq_true rfl) ?_
  refine lv_isub hx hb dX5_finish_6 ?_
  refine lv_topi (fun y_2 _ => ?_)
  refine va_put (D := D) (ci := 5) (v := .int y_2) (ty := .int) (C := RX5) (T := TX5) (N := 6) hx hb hts iX5 tyX5 tyX5_ok nmX5 hown hK hP hD hS 0 rfl rfl 3 (by decide) f20 (fun _ h9 => h9) rfl (by decide +kernel) (rfl) (rfl) (Nat.le_of_ble_eq_true rfl) dX5_finish_7 (fun H locs hP2 hD2 hS2 => ?_)
  clear hP hD hS
  have hPD : PD D A [(At, .inr (5, [.ref Ab, .int (fu 1), .int (fu 2), .int y_2, .int (fu 4), .int (fu 5)])), (Ab, .inl (g 0, 256, .inl fb))] H := ⟨hP2, hD2⟩
  have hS := hS2; clear hP2 hD2 hS2; have hP := hPD.1; have hD := hPD.2; clear hPD
  refine lv_aload_n hx hb dX5_finish_10 rfl (lv_at hl 0 rfl) ?_
  refine lv_aload_n hx hb dX5_finish_11 rfl (lv_at hl 0 rfl) ?_
  refine va_get (D := D) (ci := 5) (v := .int (fu 4)) (C := RX5) (T := TX5) (N := 6) hx hb hts iX5 hown hK hP 0 rfl rfl 4 (by decide) f23 (fun _ h9 => h9) rfl dX5_finish_12 ?_
  refine lv_aload_n hx hb dX5_finish_15 rfl (lv_at hl 0 rfl) ?_
  refine va_get (D := D) (ci := 5) (v := .int y_2) (C := RX5) (T := TX5) (N := 6) hx hb hts iX5 hown hK hP 0 rfl rfl 3 (by decide) f20 (fun _ h9 => h9) rfl dX5_finish_16 ?_
  refine va_mmax hx hb (hml.trans hl.1.symm) hown mmmax mtmax mi mcmax (Nat.le_of_ble_eq_true rfl) (Nat.le_of_ble_eq_true rfl) (Nat.le_of_ble_eq_true rfl) (Nat.le_of_ble_eq_true rfl) dX5_finish_19 ?_
  refine lv_topi (fun y_3 _ => ?_)
  refine va_put (D := D) (ci := 5) (v := .int y_3) (ty := .int) (C := RX5) (T := TX5) (N := 6) hx hb hts iX5 tyX5 tyX5_ok nmX5 hown hK hP hD hS 0 rfl rfl 4 (by decide) f23 (fun _ h9 => h9) rfl (by decide +kernel) (rfl) (rfl) (Nat.le_of_ble_eq_true rfl) dX5_finish_22 (fun H locs hP2 hD2 hS2 => ?_)
  clear hP hD hS
  have hPD : PD D A [(At, .inr (5, [.ref Ab, .int (fu 1), .int (fu 2), .int y_2, .int y_3, .int (fu 5)])), (Ab, .inl (g 0, 256, .inl fb))] H := ⟨hP2, hD2⟩
  have hS := hS2; clear hP2 hD2 hS2; have hP := hPD.1; have hD := hPD.2; clear hPD
  refine lv_aload_n hx hb dX5_finish_25 rfl (lv_at hl 0 rfl) ?_
  refine lv_dup hx hb dX5_finish_26 rfl ?_
  refine va_get (D := D) (ci := 5) (v := .int (fu 5)) (C := RX5) (T := TX5) (N := 6) hx hb hts iX5 hown hK hP 0 rfl rfl 5 (by decide) f26 (fun _ h9 => h9) rfl dX5_finish_27 ?_
  refine lv_aload_n hx hb dX5_finish_30 rfl (lv_at hl 0 rfl) ?_
  refine va_get (D := D) (ci := 5) (v := .int y_2) (C := RX5) (T := TX5) (N := 6) hx hb hts iX5 hown hK hP 0 rfl rfl 3 (by decide) f20 (fun _ h9 => h9) rfl dX5_finish_31 ?_
  refine lv_iadd hx hb dX5_finish_34 ?_
  refine lv_topi (fun y_4 _ => ?_)
  refine va_put (D := D) (ci := 5) (v := .int y_4) (ty := .int) (C := RX5) (T := TX5) (N := 6) hx hb hts iX5 tyX5 tyX5_ok nmX5 hown hK hP hD hS 0 rfl rfl 5 (by decide) f26 (fun _ h9 => h9) rfl (by decide +kernel) (rfl) (rfl) (Nat.le_of_ble_eq_true rfl) dX5_finish_35 (fun H locs hP2 hD2 hS2 => ?_)
  clear hP hD hS
  have hPD : PD D A [(At, .inr (5, [.ref Ab, .int (fu 1), .int (fu 2), .int y_2, .int y_3, .int y_4])), (Ab, .inl (g 0, 256, .inl fb))] H := ⟨hP2, hD2⟩
  have hS := hS2; clear hP2 hD2 hS2; have hP := hPD.1; have hD := hPD.2; clear hPD
  refine lv_aload_n hx hb dX5_finish_38 rfl (lv_at hl 0 rfl) ?_
  refine lv_aload_n hx hb dX5_finish_39 rfl (lv_at hl 0 rfl) ?_
  refine va_get (D := D) (ci := 5) (v := .int (fu 1)) (C := RX5) (T := TX5) (N := 6) hx hb hts iX5 hown hK hP 0 rfl rfl 1 (by decide) f13 (fun _ h9 => h9) rfl dX5_finish_40 ?_
  refine lv_iconst (v := 1) hx hb dX5_finish_43 (by decide) ?_
  refine lv_iadd hx hb dX5_finish_44 ?_
  refine lv_topi (fun y_5 _ => ?_)
  refine lv_sipush (v := 255) hx hb dX5_finish_45 (by decide) ?_
  refine lv_iand hx hb dX5_finish_48 ?_
  refine lv_topi (fun y_6 _ => ?_)
  refine va_put (D := D) (ci := 5) (v := .int y_6) (ty := .int) (C := RX5) (T := TX5) (N := 6) hx hb hts iX5 tyX5 tyX5_ok nmX5 hown hK hP hD hS 0 rfl rfl 1 (by decide) f13 (fun _ h9 => h9) rfl (by decide +kernel) (rfl) (rfl) (Nat.le_of_ble_eq_true rfl) dX5_finish_49 (fun H locs hP2 hD2 hS2 => ?_)
  clear hP hD hS
  have hPD : PD D A [(At, .inr (5, [.ref Ab, .int y_6, .int (fu 2), .int y_2, .int y_3, .int y_4])), (Ab, .inl (g 0, 256, .inl fb))] H := ⟨hP2, hD2⟩
  have hS := hS2; clear hP2 hD2 hS2; have hP := hPD.1; have hD := hPD.2; clear hPD
  refine lv_aload_n hx hb dX5_finish_52 rfl (lv_at hl 0 rfl) ?_
  refine lv_dup hx hb dX5_finish_53 rfl ?_
  refine va_get (D := D) (ci := 5) (v := .int (fu 2)) (C := RX5) (T := TX5) (N := 6) hx hb hts iX5 hown hK hP 0 rfl rfl 2 (by decide) f17 (fun _ h9 => h9) rfl dX5_finish_54 ?_
  refine lv_iconst (v := 1) hx hb dX5_finish_57 (by decide) ?_
  refine lv_isub hx hb dX5_finish_58 ?_
  refine lv_topi (fun y_7 _ => ?_)
  refine va_put (D := D) (ci := 5) (v := .int y_7) (ty := .int) (C := RX5) (T := TX5) (N := 6) hx hb hts iX5 tyX5 tyX5_ok nmX5 hown hK hP hD hS 0 rfl rfl 2 (by decide) f17 (fun _ h9 => h9) rfl (by decide +kernel) (rfl) (rfl) (Nat.le_of_ble_eq_true rfl) dX5_finish_59 (fun H locs hP2 hD2 hS2 => ?_)
  clear hP hD hS
  have hPD : PD D A [(At, .inr (5, [.ref Ab, .int y_6, .int y_7, .int y_2, .int y_3, .int y_4])), (Ab, .inl (g 0, 256, .inl fb))] H := ⟨hP2, hD2⟩
  have hS := hS2; clear hP2 hD2 hS2; have hP := hPD.1; have hD := hPD.2; clear hPD
  have hP9 := hP; have hD9 := hD
  subst hQ
  refine W.widen (k := 0) (n := 0) (Nat.le_of_ble_eq_true rfl) (Nat.le_of_ble_eq_true rfl) ?_
  exact W.vret hx hb hr (fun tS htS _ => ⟨⟨_, rfl, ⟨(lf [0, y_6, y_7, y_2, y_3, y_4]), rfl⟩, by rw [htS]; exact hP9, hD9⟩, hS.F htS⟩) hS.2.2 dX5_finish_62

set_option maxHeartbeats 4000000 in
set_option maxRecDepth 100000 in
theorem k_X2_clearSlot (l : Launch) (D : va_G) (g : Nat → ClassId) (sz : Nat) (L : Nat) (jx : Nat) (fv : Nat → Int32) (Ac : Nat) (Au : Nat) (Ap : Nat) (Al : Nat) (fc : Nat → Int32) (fu : Nat → Int32) (fp : Nat → Int32) (h0 : jx < 5) (h1 : okF fc) : Met l yX2_clearSlot wsX2_clearSlot ({ frames := 0, cells := 0, slots := 0, locals := 0 }) (va_Pc [.ref L, .int (nI jx)] (pre D g sz [(L, .inr (2, [.int (fv 0), .int (fv 1), .int (fv 2), .int (fv 3), .int (fv 4), .int (fv 5), .ref Ac, .ref Au, .ref Ap, .ref Al])), (Ac, .inl (g 0, 5, .inl fc)), (Au, .inl (g 0, 15, .inl fu)), (Ap, .inl (g 0, 15, .inl fp))])) (va_Qv (fun (u : va_W) => ∃ (fcx : Nat → Int32) (fux : Nat → Int32) (fpx : Nat → Int32), u = [(L, .inr (2, [.int (fv 0), .int (fv 1), .int (fv 2), .int (fv 3), .int (fv 4), .int (fv 5), .ref Ac, .ref Au, .ref Ap, .ref Al])), (Ac, .inl (g 0, 5, .inl fcx)), (Au, .inl (g 0, 15, .inl fux)), (Ap, .inl (g 0, 15, .inl fpx))] ∧ (okF fcx)) (wd D (va_A [(L, .inr (2, [.int (fv 0), .int (fv 1), .int (fv 2), .int (fv 3), .int (fv 4), .int (fv 5), .ref Ac, .ref Au, .ref Ap, .ref Al])), (Ac, .inl (g 0, 5, .inl fc)), (Au, .inl (g 0, 15, .inl fu)), (Ap, .inl (g 0, 15, .inl fp))] sz)) (va_A [(L, .inr (2, [.int (fv 0), .int (fv 1), .int (fv 2), .int (fv 3), .int (fv 4), .int (fv 5), .ref Ac, .ref Au, .ref Ap, .ref Al])), (Ac, .inl (g 0, 5, .inl fc)), (Au, .inl (g 0, 15, .inl fu)), (Ap, .inl (g 0, 15, .inl fp))] sz)) 0 0 (va_A [(L, .inr (2, [.int (fv 0), .int (fv 1), .int (fv 2), .int (fv 3), .int (fv 4), .int (fv 5), .ref Ac, .ref Au, .ref Ap, .ref Al])), (Ac, .inl (g 0, 5, .inl fc)), (Au, .inl (g 0, 15, .inl fu)), (Ap, .inl (g 0, 15, .inl fp))] sz) := by
  refine Met.ofW (cc := cX2_clearSlot) (maxL := 3) (ret := none) (by decide) rfl ?_
  intro p e s m args below meth c s₁ B hml hv
  obtain ⟨rfl, hsz, hP, ⟨hK, hN⟩, hD0, hZ⟩ := hv
  have hx := B.exec
  have hb := B.bytes
  have hr := B.returns
  have hts := atoms_spec (ws := wsX2_clearSlot) B.pre
  have hown : s.vm.findClass RX2 = some m.cls := findClass_of_methodNamed B.named
  have hlocks := B.notSynchronized
  clear B
  subst hsz
  have hD := hD0.self (sz := s.heap.size)
  clear hD0
  generalize hAe : va_A [(L, .inr (2, [.int (fv 0), .int (fv 1), .int (fv 2), .int (fv 3), .int (fv 4), .int (fv 5), .ref Ac, .ref Au, .ref Ap, .ref Al])), (Ac, .inl (g 0, 5, .inl fc)), (Au, .inl (g 0, 15, .inl fu)), (Ap, .inl (g 0, 15, .inl fp))] s.heap.size = A at hD hZ ⊢
  have hA : ∀ q : Nat, s.heap.size ≤ q → A q := fun q h => by rw [← hAe]; exact Or.inr h
  have hS : va_S A s.heap s.heap [] := va_S.rf
  have f15 := hts (.fieldLink RX2 15 "HopCredits$Link" "updateAt" "[I") (List.mem_of_getElem? (i := 2) rfl)
  have f18 := hts (.fieldLink RX2 18 "HopCredits$Link" "probesAt" "[I") (List.mem_of_getElem? (i := 3) rfl)
  have f9 := hts (.fieldLink RX2 9 "HopCredits$Link" "cellAt" "[I") (List.mem_of_getElem? (i := 1) rfl)
  have iX2 : ∀ w ∈ u_ws RX2 TX2 10, w ∈ wsX2_clearSlot := fun w h => List.mem_cons_of_mem _ (List.mem_append_right _ (h))
  have hl := lv_entry ([.ref L, .int (nI jx)]) (n := 3) (Nat.le_of_ble_eq_true rfl)
  rw [lg_entry_eq]
  generalize (lg_sl ([.ref L, .int (nI jx)]) ++ List.replicate (3 - (lg_sl ([.ref L, .int (nI jx)])).length) Slot.unset).toArray = ls at hl ⊢
  have hl : lv_has ls 3 [(0, .ref L), (1, .int (nI jx))] := hl
  generalize hQ : MQ below _ _ s _ _ _ = Q
  generalize hH : s.heap = H at hP ⊢
  have hS : va_S A s.heap H [] := by rw [← hH]; exact hS
  clear hH
  refine lv_aload_n hx hb dX2_clearSlot_0 rfl (lv_at hl 0 rfl) ?_
  refine va_get (D := D) (ci := 2) (v := .ref Ac) (C := RX2) (T := TX2) (N := 10) hx hb hts iX2 hown hK hP 0 rfl rfl 6 (by decide) f9 (fun _ h9 => h9) rfl dX2_clearSlot_1 ?_
  refine lv_iload_n hx hb dX2_clearSlot_4 rfl (lv_at hl 1 rfl) ?_
  refine lv_iconst (v := (-1)) hx hb dX2_clearSlot_5 (by decide) ?_
  refine va_iast hx hb hK hP hD hS 1 0 rfl rfl (vp_in_nI (show jx < 5 by omega) (by decide)) dX2_clearSlot_6 (fun H locs hP2 hD2 hS2 => ?_)
  clear hP hD hS
  have hPD : PD D A [(L, .inr (2, [.int (fv 0), .int (fv 1), .int (fv 2), .int (fv 3), .int (fv 4), .int (fv 5), .ref Ac, .ref Au, .ref Ap, .ref Al])), (Ac, .inl (g 0, 5, .inl (upd fc (nI jx).toNatClampNeg (-1)))), (Au, .inl (g 0, 15, .inl fu)), (Ap, .inl (g 0, 15, .inl fp))] H := ⟨hP2, hD2⟩
  have hS := hS2; clear hP2 hD2 hS2; have hP := hPD.1; have hD := hPD.2; clear hPD
  rw [nI_clamp (show jx < 2 ^ 31 by omega)] at hP hD
  have hPD : PD D A [(L, .inr (2, [.int (fv 0), .int (fv 1), .int (fv 2), .int (fv 3), .int (fv 4), .int (fv 5), .ref Ac, .ref Au, .ref Ap, .ref Al])), (Ac, .inl (g 0, 5, .inl (upd fc (jx) (-1)))), (Au, .inl (g 0, 15, .inl fu)), (Ap, .inl (g 0, 15, .inl fp))] H := ⟨hP, hD⟩
  clear hP hD; have hP := hPD.1; have hD := hPD.2; clear hPD
  have hF_1 : okF (upd fc (jx) (-1)) := okF_upd (h1) (okc_m)
  generalize upd fc (jx) (-1) = F_1 at hP hD hF_1
  refine lv_iconst (v := 0) hx hb dX2_clearSlot_7 (by decide) ?_
  refine lv_istore_n (lv' := [(2, .int 0), (0, .ref L), (1, .int (nI jx))]) hx hb dX2_clearSlot_8 rfl hl (by decide) rfl (fun ls hl => ?_)
  have loop_12 : ∀ (Nloop_12 : Nat) (i_4 : Nat) (F_5 : Nat → Int32) (F_6 : Nat → Int32) (hbi_4 : i_4 ≤ 3) (hmloop_12 : 3 - i_4 < Nloop_12) (H : Heap) (locs : List Loc) (ls : Array Slot), va_P D vwCl [(L, .inr (2, [.int (fv 0), .int (fv 1), .int (fv 2), .int (fv 3), .int (fv 4), .int (fv 5), .ref Ac, .ref Au, .ref Ap, .ref Al])), (Ac, .inl (g 0, 5, .inl F_1)), (Au, .inl (g 0, 15, .inl F_5)), (Ap, .inl (g 0, 15, .inl F_6))] H → va_D A [(L, .inr (2, [.int (fv 0), .int (fv 1), .int (fv 2), .int (fv 3), .int (fv 4), .int (fv 5), .ref Ac, .ref Au, .ref Ap, .ref Al])), (Ac, .inl (g 0, 5, .inl F_1)), (Au, .inl (g 0, 15, .inl F_5)), (Ap, .inl (g 0, 15, .inl F_6))] → va_S A s.heap H locs → lv_has ls 3 [(2, .int (nI i_4)), (0, .ref L), (1, .int (nI jx))] → W p l e (headSpec wsX2_clearSlot ({ frames := 0, cells := 0, slots := 0, locals := 0 })).room s m ([.ref L, .int (nI jx)] : List Value).toArray below meth c H locs 0 0 Q (F0 m 9 ls []) := by
    clear hP hD hS hl
    intro Nloop_12
    induction Nloop_12 with
    | zero => intro i_4 F_5 F_6 hbi_4 hm9; exact absurd hm9 (Nat.not_lt_zero _)
    | succ Nloop_12 loop_12_ih =>
      intro i_4 F_5 F_6 hbi_4 hmloop_12 H locs ls hP hD hS hl
      refine lv_iload_n hx hb dX2_clearSlot_9 rfl (lv_at hl 0 rfl) ?_
      refine lv_iconst (v := 3) hx hb dX2_clearSlot_10 (by decide) ?_
      refine lv_icmp_ge (tgt := 42) hx hb dX2_clearSlot_11 (by decide) (fun cb_13 => ?_) (fun cb_13 => ?_)
      · skip
        have cn_14 : 3 ≤ i_4 := (nI_leI (show 3 < 2 ^ 31 by omega) (show i_4 < 2 ^ 31 by omega)).mp cb_13
        have hP9 := hP; have hD9 := hD
        subst hQ
        refine W.widen (k := 0) (n := 0) (Nat.le_of_ble_eq_true rfl) (Nat.le_of_ble_eq_true rfl) ?_
        exact W.vret hx hb hr (fun tS htS _ => ⟨⟨_, rfl, ⟨F_1, F_5, F_6, rfl, (hF_1)⟩, by rw [htS]; exact hP9, hD9⟩, hS.F htS⟩) hS.2.2 dX2_clearSlot_42
      · skip
        have cn_15 : i_4 < 3 := Nat.lt_of_not_le (fun q9 => cb_13 ((nI_leI (show 3 < 2 ^ 31 by omega) (show i_4 < 2 ^ 31 by omega)).mpr q9))
        refine lv_aload_n hx hb dX2_clearSlot_14 rfl (lv_at hl 1 rfl) ?_
        refine va_get (D := D) (ci := 2) (v := .ref Au) (C := RX2) (T := TX2) (N := 10) hx hb hts iX2 hown hK hP 0 rfl rfl 7 (by decide) f15 (fun _ h9 => h9) rfl dX2_clearSlot_15 ?_
        refine lv_iload_n hx hb dX2_clearSlot_18 rfl (lv_at hl 2 rfl) ?_
        refine lv_iconst (v := 3) hx hb dX2_clearSlot_19 (by decide) ?_
        refine lv_imul hx hb dX2_clearSlot_20 ?_
        refine lv_eqi (y := (nI (jx * 3))) (pk_mul (jx) (3)) ?_
        refine lv_iload_n hx hb dX2_clearSlot_21 rfl (lv_at hl 0 rfl) ?_
        refine lv_iadd hx hb dX2_clearSlot_22 ?_
        refine lv_eqi (y := (nI (jx * 3 + i_4))) (nI_add (jx * 3) (i_4)) ?_
        refine lv_iconst (v := (-1)) hx hb dX2_clearSlot_23 (by decide) ?_
        refine va_iast hx hb hK hP hD hS 2 0 rfl rfl (vp_in_nI (show jx * 3 + i_4 < 15 by omega) (by decide)) dX2_clearSlot_24 (fun H locs hP2 hD2 hS2 => ?_)
        clear hP hD hS
        have hPD : PD D A [(L, .inr (2, [.int (fv 0), .int (fv 1), .int (fv 2), .int (fv 3), .int (fv 4), .int (fv 5), .ref Ac, .ref Au, .ref Ap, .ref Al])), (Ac, .inl (g 0, 5, .inl F_1)), (Au, .inl (g 0, 15, .inl (upd F_5 (nI (jx * 3 + i_4)).toNatClampNeg (-1)))), (Ap, .inl (g 0, 15, .inl F_6))] H := ⟨hP2, hD2⟩
        have hS := hS2; clear hP2 hD2 hS2; have hP := hPD.1; have hD := hPD.2; clear hPD
        rw [nI_clamp (show jx * 3 + i_4 < 2 ^ 31 by omega)] at hP hD
        have hPD : PD D A [(L, .inr (2, [.int (fv 0), .int (fv 1), .int (fv 2), .int (fv 3), .int (fv 4), .int (fv 5), .ref Ac, .ref Au, .ref Ap, .ref Al])), (Ac, .inl (g 0, 5, .inl F_1)), (Au, .inl (g 0, 15, .inl (upd F_5 (jx * 3 + i_4) (-1)))), (Ap, .inl (g 0, 15, .inl F_6))] H := ⟨hP, hD⟩
        clear hP hD; have hP := hPD.1; have hD := hPD.2; clear hPD
        generalize upd F_5 (jx * 3 + i_4) (-1) = F_16 at hP hD
        refine lv_aload_n hx hb dX2_clearSlot_25 rfl (lv_at hl 1 rfl) ?_
        refine va_get (D := D) (ci := 2) (v := .ref Ap) (C := RX2) (T := TX2) (N := 10) hx hb hts iX2 hown hK hP 0 rfl rfl 8 (by decide) f18 (fun _ h9 => h9) rfl dX2_clearSlot_26 ?_
        refine lv_iload_n hx hb dX2_clearSlot_29 rfl (lv_at hl 2 rfl) ?_
        refine lv_iconst (v := 3) hx hb dX2_clearSlot_30 (by decide) ?_
        refine lv_imul hx hb dX2_clearSlot_31 ?_
        refine lv_eqi (y := (nI (jx * 3))) (pk_mul (jx) (3)) ?_
        refine lv_iload_n hx hb dX2_clearSlot_32 rfl (lv_at hl 0 rfl) ?_
        refine lv_iadd hx hb dX2_clearSlot_33 ?_
        refine lv_eqi (y := (nI (jx * 3 + i_4))) (nI_add (jx * 3) (i_4)) ?_
        refine lv_iconst (v := 0) hx hb dX2_clearSlot_34 (by decide) ?_
        refine va_iast hx hb hK hP hD hS 3 0 rfl rfl (vp_in_nI (show jx * 3 + i_4 < 15 by omega) (by decide)) dX2_clearSlot_35 (fun H locs hP2 hD2 hS2 => ?_)
        clear hP hD hS
        have hPD : PD D A [(L, .inr (2, [.int (fv 0), .int (fv 1), .int (fv 2), .int (fv 3), .int (fv 4), .int (fv 5), .ref Ac, .ref Au, .ref Ap, .ref Al])), (Ac, .inl (g 0, 5, .inl F_1)), (Au, .inl (g 0, 15, .inl F_16)), (Ap, .inl (g 0, 15, .inl (upd F_6 (nI (jx * 3 + i_4)).toNatClampNeg 0)))] H := ⟨hP2, hD2⟩
        have hS := hS2; clear hP2 hD2 hS2; have hP := hPD.1; have hD := hPD.2; clear hPD
        rw [nI_clamp (show jx * 3 + i_4 < 2 ^ 31 by omega)] at hP hD
        have hPD : PD D A [(L, .inr (2, [.int (fv 0), .int (fv 1), .int (fv 2), .int (fv 3), .int (fv 4), .int (fv 5), .ref Ac, .ref Au, .ref Ap, .ref Al])), (Ac, .inl (g 0, 5, .inl F_1)), (Au, .inl (g 0, 15, .inl F_16)), (Ap, .inl (g 0, 15, .inl (upd F_6 (jx * 3 + i_4) 0)))] H := ⟨hP, hD⟩
        clear hP hD; have hP := hPD.1; have hD := hPD.2; clear hPD
        generalize upd F_6 (jx * 3 + i_4) 0 = F_17 at hP hD
        refine lv_iinc (v := (nI (i_4 + 1))) (lv' := [(2, .int (nI (i_4 + 1))), (0, .ref L), (1, .int (nI jx))]) hx hb dX2_clearSlot_36 hl (k := 0) rfl (nI_1 (i_4)) (by decide) rfl (fun ls hl => ?_)
        refine lv_goto (tgt := 9) hx hb dX2_clearSlot_39 (by decide) ?_
        exact loop_12_ih (i_4 + 1) F_16 F_17 (show (i_4 + 1) ≤ 3 by omega) (show 3 - (i_4 + 1) < Nloop_12 by omega) _ _ _ hP hD hS hl
  exact loop_12 _ 0 fu fp (show 0 ≤ 3 by omega) (Nat.lt_succ_self _) _ _ _ hP hD hS hl

set_option maxHeartbeats 4000000 in
set_option maxRecDepth 100000 in
theorem k_X2_lay (l : Launch) (D : va_G) (g : Nat → ClassId) (sz : Nat) (L : Nat) (d : Nat) (za : Int32) (zb : Int32) (zc : Int32) (fv : Nat → Int32) (Ac : Nat) (Au : Nat) (Ap : Nat) (Al : Nat) (fc : Nat → Int32) (fu : Nat → Int32) (fp : Nat → Int32) (Aa : Nat) (Ab : Nat) (Ad : Nat) (fw : Nat → Int32) (fx : Nat → Int32) (fy : Nat → Int32) (h0 : d < 5) (h1 : okF fc) (h2 : lz zc) (h3 : lz (fw 3)) (h4 : lz (fx 3)) (h5 : lz (fy 3)) : Met l yX2_lay wsX2_lay ({ frames := 1, cells := 0, slots := 0, locals := 22 }) (va_Pc [.ref L, .int (nI d), .int za, .int zb, .int zc] (pre D g sz [(L, .inr (2, [.int (fv 0), .int (fv 1), .int (fv 2), .int (fv 3), .int (fv 4), .int (fv 5), .ref Ac, .ref Au, .ref Ap, .ref Al])), (Ac, .inl (g 0, 5, .inl fc)), (Au, .inl (g 0, 15, .inl fu)), (Ap, .inl (g 0, 15, .inl fp)), (Al, .inl (g 2, 3, .inr (.inr (.inr (.inr (rf3 Aa Ab Ad)))))), (Aa, .inr (1, [.int (fw 0), .int (fw 1), .int (fw 2), .int (fw 3), .int (fw 4), .int (fw 5), .int (fw 6)])), (Ab, .inr (1, [.int (fx 0), .int (fx 1), .int (fx 2), .int (fx 3), .int (fx 4), .int (fx 5), .int (fx 6)])), (Ad, .inr (1, [.int (fy 0), .int (fy 1), .int (fy 2), .int (fy 3), .int (fy 4), .int (fy 5), .int (fy 6)]))])) (va_Qv (fun (u : va_W) => ∃ (PF : Nat → Nat → Int32), u = [(L, .inr (2, [.int (nI d), .int za, .int zb, .int 0, .int (-1), .int (-1), .ref Ac, .ref Au, .ref Ap, .ref Al])), (Ac, .inl (g 0, 5, .inl (PF 0))), (Au, .inl (g 0, 15, .inl (PF 1))), (Ap, .inl (g 0, 15, .inl (PF 2))), (Al, .inl (g 2, 3, .inr (.inr (.inr (.inr (rf3 Aa Ab Ad)))))), (Aa, .inr (1, [.int ((PF 3) 0), .int ((PF 3) 1), .int ((PF 3) 2), .int ((PF 3) 3), .int ((PF 3) 4), .int ((PF 3) 5), .int ((PF 3) 6)])), (Ab, .inr (1, [.int ((PF 4) 0), .int ((PF 4) 1), .int ((PF 4) 2), .int ((PF 4) 3), .int ((PF 4) 4), .int ((PF 4) 5), .int ((PF 4) 6)])), (Ad, .inr (1, [.int ((PF 5) 0), .int ((PF 5) 1), .int ((PF 5) 2), .int ((PF 5) 3), .int ((PF 5) 4), .int ((PF 5) 5), .int ((PF 5) 6)]))] ∧ (okF (PF 0)) ∧ (lz ((PF 3) 3)) ∧ (lz ((PF 4) 3)) ∧ (lz ((PF 5) 3))) (wd D (va_A [(L, .inr (2, [.int (fv 0), .int (fv 1), .int (fv 2), .int (fv 3), .int (fv 4), .int (fv 5), .ref Ac, .ref Au, .ref Ap, .ref Al])), (Ac, .inl (g 0, 5, .inl fc)), (Au, .inl (g 0, 15, .inl fu)), (Ap, .inl (g 0, 15, .inl fp)), (Al, .inl (g 2, 3, .inr (.inr (.inr (.inr (rf3 Aa Ab Ad)))))), (Aa, .inr (1, [.int (fw 0), .int (fw 1), .int (fw 2), .int (fw 3), .int (fw 4), .int (fw 5), .int (fw 6)])), (Ab, .inr (1, [.int (fx 0), .int (fx 1), .int (fx 2), .int (fx 3), .int (fx 4), .int (fx 5), .int (fx 6)])), (Ad, .inr (1, [.int (fy 0), .int (fy 1), .int (fy 2), .int (fy 3), .int (fy 4), .int (fy 5), .int (fy 6)]))] sz)) (va_A [(L, .inr (2, [.int (fv 0), .int (fv 1), .int (fv 2), .int (fv 3), .int (fv 4), .int (fv 5), .ref Ac, .ref Au, .ref Ap, .ref Al])), (Ac, .inl (g 0, 5, .inl fc)), (Au, .inl (g 0, 15, .inl fu)), (Ap, .inl (g 0, 15, .inl fp)), (Al, .inl (g 2, 3, .inr (.inr (.inr (.inr (rf3 Aa Ab Ad)))))), (Aa, .inr (1, [.int (fw 0), .int (fw 1), .int (fw 2), .int (fw 3), .int (fw 4), .int (fw 5), .int (fw 6)])), (Ab, .inr (1, [.int (fx 0), .int (fx 1), .int (fx 2), .int (fx 3), .int (fx 4), .int (fx 5), .int (fx 6)])), (Ad, .inr (1, [.int (fy 0), .int (fy 1), .int (fy 2), .int (fy 3), .int (fy 4), .int (fy 5), .int (fy 6)]))] sz)) 0 0 (va_A [(L, .inr (2, [.int (fv 0), .int (fv 1), .int (fv 2), .int (fv 3), .int (fv 4), .int (fv 5), .ref Ac, .ref Au, .ref Ap, .ref Al])), (Ac, .inl (g 0, 5, .inl fc)), (Au, .inl (g 0, 15, .inl fu)), (Ap, .inl (g 0, 15, .inl fp)), (Al, .inl (g 2, 3, .inr (.inr (.inr (.inr (rf3 Aa Ab Ad)))))), (Aa, .inr (1, [.int (fw 0), .int (fw 1), .int (fw 2), .int (fw 3), .int (fw 4), .int (fw 5), .int (fw 6)])), (Ab, .inr (1, [.int (fx 0), .int (fx 1), .int (fx 2), .int (fx 3), .int (fx 4), .int (fx 5), .int (fx 6)])), (Ad, .inr (1, [.int (fy 0), .int (fy 1), .int (fy 2), .int (fy 3), .int (fy 4), .int (fy 5), .int (fy 6)]))] sz) := by
  refine Met.ofW (cc := cX2_lay) (maxL := 6) (ret := none) (by decide) rfl ?_
  intro p e s m args below meth c s₁ B hml hv
  obtain ⟨rfl, hsz, hP, ⟨hK, hN⟩, hD0, hZ⟩ := hv
  have hx := B.exec
  have hb := B.bytes
  have hr := B.returns
  have hts := atoms_spec (ws := wsX2_lay) B.pre
  have hown : s.vm.findClass RX2 = some m.cls := findClass_of_methodNamed B.named
  have hlocks := B.notSynchronized
  clear B
  subst hsz
  have hD := hD0.self (sz := s.heap.size)
  clear hD0
  generalize hAe : va_A [(L, .inr (2, [.int (fv 0), .int (fv 1), .int (fv 2), .int (fv 3), .int (fv 4), .int (fv 5), .ref Ac, .ref Au, .ref Ap, .ref Al])), (Ac, .inl (g 0, 5, .inl fc)), (Au, .inl (g 0, 15, .inl fu)), (Ap, .inl (g 0, 15, .inl fp)), (Al, .inl (g 2, 3, .inr (.inr (.inr (.inr (rf3 Aa Ab Ad)))))), (Aa, .inr (1, [.int (fw 0), .int (fw 1), .int (fw 2), .int (fw 3), .int (fw 4), .int (fw 5), .int (fw 6)])), (Ab, .inr (1, [.int (fx 0), .int (fx 1), .int (fx 2), .int (fx 3), .int (fx 4), .int (fx 5), .int (fx 6)])), (Ad, .inr (1, [.int (fy 0), .int (fy 1), .int (fy 2), .int (fy 3), .int (fy 4), .int (fy 5), .int (fy 6)]))] s.heap.size = A at hD hZ ⊢
  have hA : ∀ q : Nat, s.heap.size ≤ q → A q := fun q h => by rw [← hAe]; exact Or.inr h
  have hS : va_S A s.heap s.heap [] := va_S.rf
  have f23 := hts (.fieldLink RX2 23 "HopCredits$Link" "lanes" "[LHopCredits$Lane;") (List.mem_of_getElem? (i := 7) rfl)
  have f28 := hts (.fieldLink RX2 28 "HopCredits$Link" "delay" "I") (List.mem_of_getElem? (i := 1) rfl)
  have f32 := hts (.fieldLink RX2 32 "HopCredits$Link" "pool" "I") (List.mem_of_getElem? (i := 2) rfl)
  have f35 := hts (.fieldLink RX2 35 "HopCredits$Link" "every" "I") (List.mem_of_getElem? (i := 3) rfl)
  have f38 := hts (.fieldLink RX2 38 "HopCredits$Link" "jammed" "I") (List.mem_of_getElem? (i := 4) rfl)
  have f41 := hts (.fieldLink RX2 41 "HopCredits$Link" "latest" "I") (List.mem_of_getElem? (i := 5) rfl)
  have f44 := hts (.fieldLink RX2 44 "HopCredits$Link" "sender" "I") (List.mem_of_getElem? (i := 6) rfl)
  have iX2 : ∀ w ∈ u_ws RX2 TX2 10, w ∈ wsX2_lay := fun w h => List.mem_cons_of_mem _ (List.mem_append_left _ (List.mem_append_right _ (h)))
  have hl := lv_entry ([.ref L, .int (nI d), .int za, .int zb, .int zc]) (n := 6) (Nat.le_of_ble_eq_true rfl)
  rw [lg_entry_eq]
  generalize (lg_sl ([.ref L, .int (nI d), .int za, .int zb, .int zc]) ++ List.replicate (6 - (lg_sl ([.ref L, .int (nI d), .int za, .int zb, .int zc])).length) Slot.unset).toArray = ls at hl ⊢
  have hl : lv_has ls 6 [(0, .ref L), (1, .int (nI d)), (2, .int za), (3, .int zb), (4, .int zc)] := hl
  generalize hQ : MQ below _ _ s _ _ _ = Q
  generalize hH : s.heap = H at hP ⊢
  have hS : va_S A s.heap H [] := by rw [← hH]; exact hS
  clear hH
  refine lv_aload_n hx hb dX2_lay_0 rfl (lv_at hl 0 rfl) ?_
  refine lv_iload_n hx hb dX2_lay_1 rfl (lv_at hl 1 rfl) ?_
  refine va_put (D := D) (ci := 2) (v := .int (nI d)) (ty := .int) (C := RX2) (T := TX2) (N := 10) hx hb hts iX2 tyX2 tyX2_ok nmX2 hown hK hP hD hS 0 rfl rfl 0 (by decide) f28 (fun _ h9 => h9) rfl (by decide +kernel) (rfl) (rfl) (Nat.le_of_ble_eq_true rfl) dX2_lay_2 (fun H locs hP2 hD2 hS2 => ?_)
  clear hP hD hS
  have hPD : PD D A [(L, .inr (2, [.int (nI d), .int (fv 1), .int (fv 2), .int (fv 3), .int (fv 4), .int (fv 5), .ref Ac, .ref Au, .ref Ap, .ref Al])), (Ac, .inl (g 0, 5, .inl fc)), (Au, .inl (g 0, 15, .inl fu)), (Ap, .inl (g 0, 15, .inl fp)), (Al, .inl (g 2, 3, .inr (.inr (.inr (.inr (rf3 Aa Ab Ad)))))), (Aa, .inr (1, [.int (fw 0), .int (fw 1), .int (fw 2), .int (fw 3), .int (fw 4), .int (fw 5), .int (fw 6)])), (Ab, .inr (1, [.int (fx 0), .int (fx 1), .int (fx 2), .int (fx 3), .int (fx 4), .int (fx 5), .int (fx 6)])), (Ad, .inr (1, [.int (fy 0), .int (fy 1), .int (fy 2), .int (fy 3), .int (fy 4), .int (fy 5), .int (fy 6)]))] H := ⟨hP2, hD2⟩
  have hS := hS2; clear hP2 hD2 hS2; have hP := hPD.1; have hD := hPD.2; clear hPD
  refine lv_aload_n hx hb dX2_lay_5 rfl (lv_at hl 0 rfl) ?_
  refine lv_iload_n hx hb dX2_lay_6 rfl (lv_at hl 2 rfl) ?_
  refine va_put (D := D) (ci := 2) (v := .int za) (ty := .int) (C := RX2) (T := TX2) (N := 10) hx hb hts iX2 tyX2 tyX2_ok nmX2 hown hK hP hD hS 0 rfl rfl 1 (by decide) f32 (fun _ h9 => h9) rfl (by decide +kernel) (rfl) (rfl) (Nat.le_of_ble_eq_true rfl) dX2_lay_7 (fun H locs hP2 hD2 hS2 => ?_)
  clear hP hD hS
  have hPD : PD D A [(L, .inr (2, [.int (nI d), .int za, .int (fv 2), .int (fv 3), .int (fv 4), .int (fv 5), .ref Ac, .ref Au, .ref Ap, .ref Al])), (Ac, .inl (g 0, 5, .inl fc)), (Au, .inl (g 0, 15, .inl fu)), (Ap, .inl (g 0, 15, .inl fp)), (Al, .inl (g 2, 3, .inr (.inr (.inr (.inr (rf3 Aa Ab Ad)))))), (Aa, .inr (1, [.int (fw 0), .int (fw 1), .int (fw 2), .int (fw 3), .int (fw 4), .int (fw 5), .int (fw 6)])), (Ab, .inr (1, [.int (fx 0), .int (fx 1), .int (fx 2), .int (fx 3), .int (fx 4), .int (fx 5), .int (fx 6)])), (Ad, .inr (1, [.int (fy 0), .int (fy 1), .int (fy 2), .int (fy 3), .int (fy 4), .int (fy 5), .int (fy 6)]))] H := ⟨hP2, hD2⟩
  have hS := hS2; clear hP2 hD2 hS2; have hP := hPD.1; have hD := hPD.2; clear hPD
  refine lv_aload_n hx hb dX2_lay_10 rfl (lv_at hl 0 rfl) ?_
  refine lv_iload_n hx hb dX2_lay_11 rfl (lv_at hl 3 rfl) ?_
  refine va_put (D := D) (ci := 2) (v := .int zb) (ty := .int) (C := RX2) (T := TX2) (N := 10) hx hb hts iX2 tyX2 tyX2_ok nmX2 hown hK hP hD hS 0 rfl rfl 2 (by decide) f35 (fun _ h9 => h9) rfl (by decide +kernel) (rfl) (rfl) (Nat.le_of_ble_eq_true rfl) dX2_lay_12 (fun H locs hP2 hD2 hS2 => ?_)
  clear hP hD hS
  have hPD : PD D A [(L, .inr (2, [.int (nI d), .int za, .int zb, .int (fv 3), .int (fv 4), .int (fv 5), .ref Ac, .ref Au, .ref Ap, .ref Al])), (Ac, .inl (g 0, 5, .inl fc)), (Au, .inl (g 0, 15, .inl fu)), (Ap, .inl (g 0, 15, .inl fp)), (Al, .inl (g 2, 3, .inr (.inr (.inr (.inr (rf3 Aa Ab Ad)))))), (Aa, .inr (1, [.int (fw 0), .int (fw 1), .int (fw 2), .int (fw 3), .int (fw 4), .int (fw 5), .int (fw 6)])), (Ab, .inr (1, [.int (fx 0), .int (fx 1), .int (fx 2), .int (fx 3), .int (fx 4), .int (fx 5), .int (fx 6)])), (Ad, .inr (1, [.int (fy 0), .int (fy 1), .int (fy 2), .int (fy 3), .int (fy 4), .int (fy 5), .int (fy 6)]))] H := ⟨hP2, hD2⟩
  have hS := hS2; clear hP2 hD2 hS2; have hP := hPD.1; have hD := hPD.2; clear hPD
  refine lv_aload_n hx hb dX2_lay_15 rfl (lv_at hl 0 rfl) ?_
  refine lv_iconst (v := 0) hx hb dX2_lay_16 (by decide) ?_
  refine va_put (D := D) (ci := 2) (v := .int 0) (ty := .int) (C := RX2) (T := TX2) (N := 10) hx hb hts iX2 tyX2 tyX2_ok nmX2 hown hK hP hD hS 0 rfl rfl 3 (by decide) f38 (fun _ h9 => h9) rfl (by decide +kernel) (rfl) (rfl) (Nat.le_of_ble_eq_true rfl) dX2_lay_17 (fun H locs hP2 hD2 hS2 => ?_)
  clear hP hD hS
  have hPD : PD D A [(L, .inr (2, [.int (nI d), .int za, .int zb, .int 0, .int (fv 4), .int (fv 5), .ref Ac, .ref Au, .ref Ap, .ref Al])), (Ac, .inl (g 0, 5, .inl fc)), (Au, .inl (g 0, 15, .inl fu)), (Ap, .inl (g 0, 15, .inl fp)), (Al, .inl (g 2, 3, .inr (.inr (.inr (.inr (rf3 Aa Ab Ad)))))), (Aa, .inr (1, [.int (fw 0), .int (fw 1), .int (fw 2), .int (fw 3), .int (fw 4), .int (fw 5), .int (fw 6)])), (Ab, .inr (1, [.int (fx 0), .int (fx 1), .int (fx 2), .int (fx 3), .int (fx 4), .int (fx 5), .int (fx 6)])), (Ad, .inr (1, [.int (fy 0), .int (fy 1), .int (fy 2), .int (fy 3), .int (fy 4), .int (fy 5), .int (fy 6)]))] H := ⟨hP2, hD2⟩
  have hS := hS2; clear hP2 hD2 hS2; have hP := hPD.1; have hD := hPD.2; clear hPD
  refine lv_aload_n hx hb dX2_lay_20 rfl (lv_at hl 0 rfl) ?_
  refine lv_iconst (v := (-1)) hx hb dX2_lay_21 (by decide) ?_
  refine va_put (D := D) (ci := 2) (v := .int (-1)) (ty := .int) (C := RX2) (T := TX2) (N := 10) hx hb hts iX2 tyX2 tyX2_ok nmX2 hown hK hP hD hS 0 rfl rfl 4 (by decide) f41 (fun _ h9 => h9) rfl (by decide +kernel) (rfl) (rfl) (Nat.le_of_ble_eq_true rfl) dX2_lay_22 (fun H locs hP2 hD2 hS2 => ?_)
  clear hP hD hS
  have hPD : PD D A [(L, .inr (2, [.int (nI d), .int za, .int zb, .int 0, .int (-1), .int (fv 5), .ref Ac, .ref Au, .ref Ap, .ref Al])), (Ac, .inl (g 0, 5, .inl fc)), (Au, .inl (g 0, 15, .inl fu)), (Ap, .inl (g 0, 15, .inl fp)), (Al, .inl (g 2, 3, .inr (.inr (.inr (.inr (rf3 Aa Ab Ad)))))), (Aa, .inr (1, [.int (fw 0), .int (fw 1), .int (fw 2), .int (fw 3), .int (fw 4), .int (fw 5), .int (fw 6)])), (Ab, .inr (1, [.int (fx 0), .int (fx 1), .int (fx 2), .int (fx 3), .int (fx 4), .int (fx 5), .int (fx 6)])), (Ad, .inr (1, [.int (fy 0), .int (fy 1), .int (fy 2), .int (fy 3), .int (fy 4), .int (fy 5), .int (fy 6)]))] H := ⟨hP2, hD2⟩
  have hS := hS2; clear hP2 hD2 hS2; have hP := hPD.1; have hD := hPD.2; clear hPD
  refine lv_aload_n hx hb dX2_lay_25 rfl (lv_at hl 0 rfl) ?_
  refine lv_iconst (v := (-1)) hx hb dX2_lay_26 (by decide) ?_
  refine va_put (D := D) (ci := 2) (v := .int (-1)) (ty := .int) (C := RX2) (T := TX2) (N := 10) hx hb hts iX2 tyX2 tyX2_ok nmX2 hown hK hP hD hS 0 rfl rfl 5 (by decide) f44 (fun _ h9 => h9) rfl (by decide +kernel) (rfl) (rfl) (Nat.le_of_ble_eq_true rfl) dX2_lay_27 (fun H locs hP2 hD2 hS2 => ?_)
  clear hP hD hS
  have hPD : PD D A [(L, .inr (2, [.int (nI d), .int za, .int zb, .int 0, .int (-1), .int (-1), .ref Ac, .ref Au, .ref Ap, .ref Al])), (Ac, .inl (g 0, 5, .inl fc)), (Au, .inl (g 0, 15, .inl fu)), (Ap, .inl (g 0, 15, .inl fp)), (Al, .inl (g 2, 3, .inr (.inr (.inr (.inr (rf3 Aa Ab Ad)))))), (Aa, .inr (1, [.int (fw 0), .int (fw 1), .int (fw 2), .int (fw 3), .int (fw 4), .int (fw 5), .int (fw 6)])), (Ab, .inr (1, [.int (fx 0), .int (fx 1), .int (fx 2), .int (fx 3), .int (fx 4), .int (fx 5), .int (fx 6)])), (Ad, .inr (1, [.int (fy 0), .int (fy 1), .int (fy 2), .int (fy 3), .int (fy 4), .int (fy 5), .int (fy 6)]))] H := ⟨hP2, hD2⟩
  have hS := hS2; clear hP2 hD2 hS2; have hP := hPD.1; have hD := hPD.2; clear hPD
  refine lv_iconst (v := 0) hx hb dX2_lay_30 (by decide) ?_
  refine lv_istore (lv' := [(5, .int 0), (0, .ref L), (1, .int (nI d)), (2, .int za), (3, .int zb), (4, .int zc)]) hx hb dX2_lay_31 hl (by decide) rfl (fun ls hl => ?_)
  have loop_18 : ∀ (Nloop_18 : Nat) (i_6 : Nat) (F_7 : Nat → Int32) (F_8 : Nat → Int32) (F_9 : Nat → Int32) (hF_7 : okF F_7) (hbi_6 : i_6 ≤ 5) (hmloop_18 : 5 - i_6 < Nloop_18) (H : Heap) (locs : List Loc) (ls : Array Slot), va_P D vwCl [(L, .inr (2, [.int (nI d), .int za, .int zb, .int 0, .int (-1), .int (-1), .ref Ac, .ref Au, .ref Ap, .ref Al])), (Ac, .inl (g 0, 5, .inl F_7)), (Au, .inl (g 0, 15, .inl F_8)), (Ap, .inl (g 0, 15, .inl F_9)), (Al, .inl (g 2, 3, .inr (.inr (.inr (.inr (rf3 Aa Ab Ad)))))), (Aa, .inr (1, [.int (fw 0), .int (fw 1), .int (fw 2), .int (fw 3), .int (fw 4), .int (fw 5), .int (fw 6)])), (Ab, .inr (1, [.int (fx 0), .int (fx 1), .int (fx 2), .int (fx 3), .int (fx 4), .int (fx 5), .int (fx 6)])), (Ad, .inr (1, [.int (fy 0), .int (fy 1), .int (fy 2), .int (fy 3), .int (fy 4), .int (fy 5), .int (fy 6)]))] H → va_D A [(L, .inr (2, [.int (nI d), .int za, .int zb, .int 0, .int (-1), .int (-1), .ref Ac, .ref Au, .ref Ap, .ref Al])), (Ac, .inl (g 0, 5, .inl F_7)), (Au, .inl (g 0, 15, .inl F_8)), (Ap, .inl (g 0, 15, .inl F_9)), (Al, .inl (g 2, 3, .inr (.inr (.inr (.inr (rf3 Aa Ab Ad)))))), (Aa, .inr (1, [.int (fw 0), .int (fw 1), .int (fw 2), .int (fw 3), .int (fw 4), .int (fw 5), .int (fw 6)])), (Ab, .inr (1, [.int (fx 0), .int (fx 1), .int (fx 2), .int (fx 3), .int (fx 4), .int (fx 5), .int (fx 6)])), (Ad, .inr (1, [.int (fy 0), .int (fy 1), .int (fy 2), .int (fy 3), .int (fy 4), .int (fy 5), .int (fy 6)]))] → va_S A s.heap H locs → lv_has ls 6 [(5, .int (nI i_6)), (0, .ref L), (4, .int zc)] → W p l e (headSpec wsX2_lay ({ frames := 1, cells := 0, slots := 0, locals := 22 })).room s m ([.ref L, .int (nI d), .int za, .int zb, .int zc] : List Value).toArray below meth c H locs 0 0 Q (F0 m 33 ls []) := by
    clear hP hD hS hl
    intro Nloop_18
    induction Nloop_18 with
    | zero => intro i_6 F_7 F_8 F_9 hF_7 hbi_6 hm9; exact absurd hm9 (Nat.not_lt_zero _)
    | succ Nloop_18 loop_18_ih =>
      intro i_6 F_7 F_8 F_9 hF_7 hbi_6 hmloop_18 H locs ls hP hD hS hl
      refine lv_iload hx hb dX2_lay_33 (lv_at hl 0 rfl) ?_
      refine lv_iconst (v := 5) hx hb dX2_lay_35 (by decide) ?_
      refine lv_icmp_ge (tgt := 51) hx hb dX2_lay_36 (by decide) (fun cb_19 => ?_) (fun cb_19 => ?_)
      · skip
        have cn_20 : 5 ≤ i_6 := (nI_leI (show 5 < 2 ^ 31 by omega) (show i_6 < 2 ^ 31 by omega)).mp cb_19
        refine lv_iconst (v := 0) hx hb dX2_lay_51 (by decide) ?_
        refine lv_istore (lv' := [(5, .int 0), (0, .ref L), (4, .int zc)]) hx hb dX2_lay_52 hl (by decide) rfl (fun ls hl => ?_)
        have loop_40 : ∀ (Nloop_40 : Nat) (G_22 : Nat → Int32) (i_23 : Nat) (G_31 : Nat → Int32) (G_32 : Nat → Int32) (hG_22p3 : lz (G_22 3)) (hG_31p3 : lz (G_31 3)) (hG_32p3 : lz (G_32 3)) (hbi_23 : i_23 ≤ 3) (hmloop_40 : 3 - i_23 < Nloop_40) (H : Heap) (locs : List Loc) (ls : Array Slot), va_P D vwCl [(L, .inr (2, [.int (nI d), .int za, .int zb, .int 0, .int (-1), .int (-1), .ref Ac, .ref Au, .ref Ap, .ref Al])), (Ac, .inl (g 0, 5, .inl F_7)), (Au, .inl (g 0, 15, .inl F_8)), (Ap, .inl (g 0, 15, .inl F_9)), (Al, .inl (g 2, 3, .inr (.inr (.inr (.inr (rf3 Aa Ab Ad)))))), (Aa, .inr (1, [.int (G_22 0), .int (G_22 1), .int (G_22 2), .int (G_22 3), .int (G_22 4), .int (G_22 5), .int (G_22 6)])), (Ab, .inr (1, [.int (G_31 0), .int (G_31 1), .int (G_31 2), .int (G_31 3), .int (G_31 4), .int (G_31 5), .int (G_31 6)])), (Ad, .inr (1, [.int (G_32 0), .int (G_32 1), .int (G_32 2), .int (G_32 3), .int (G_32 4), .int (G_32 5), .int (G_32 6)]))] H → va_D A [(L, .inr (2, [.int (nI d), .int za, .int zb, .int 0, .int (-1), .int (-1), .ref Ac, .ref Au, .ref Ap, .ref Al])), (Ac, .inl (g 0, 5, .inl F_7)), (Au, .inl (g 0, 15, .inl F_8)), (Ap, .inl (g 0, 15, .inl F_9)), (Al, .inl (g 2, 3, .inr (.inr (.inr (.inr (rf3 Aa Ab Ad)))))), (Aa, .inr (1, [.int (G_22 0), .int (G_22 1), .int (G_22 2), .int (G_22 3), .int (G_22 4), .int (G_22 5), .int (G_22 6)])), (Ab, .inr (1, [.int (G_31 0), .int (G_31 1), .int (G_31 2), .int (G_31 3), .int (G_31 4), .int (G_31 5), .int (G_31 6)])), (Ad, .inr (1, [.int (G_32 0), .int (G_32 1), .int (G_32 2), .int (G_32 3), .int (G_32 4), .int (G_32 5), .int (G_32 6)]))] → va_S A s.heap H locs → lv_has ls 6 [(5, .int (nI i_23)), (0, .ref L), (4, .int zc)] → W p l e (headSpec wsX2_lay ({ frames := 1, cells := 0, slots := 0, locals := 22 })).room s m ([.ref L, .int (nI d), .int za, .int zb, .int zc] : List Value).toArray below meth c H locs 0 0 Q (F0 m 54 ls []) := by
          clear hP hD hS hl
          intro Nloop_40
          induction Nloop_40 with
          | zero => intro G_22 i_23 G_31 G_32 hG_22p3 hG_31p3 hG_32p3 hbi_23 hm9; exact absurd hm9 (Nat.not_lt_zero _)
          | succ Nloop_40 loop_40_ih =>
            intro G_22 i_23 G_31 G_32 hG_22p3 hG_31p3 hG_32p3 hbi_23 hmloop_40 H locs ls hP hD hS hl
            refine lv_iload hx hb dX2_lay_54 (lv_at hl 0 rfl) ?_
            refine lv_iconst (v := 3) hx hb dX2_lay_56 (by decide) ?_
            refine lv_icmp_ge (tgt := 78) hx hb dX2_lay_57 (by decide) (fun cb_41 => ?_) (fun cb_41 => ?_)
            · skip
              have cn_42 : 3 ≤ i_23 := (nI_leI (show 3 < 2 ^ 31 by omega) (show i_23 < 2 ^ 31 by omega)).mp cb_41
              have hP9 := hP; have hD9 := hD
              subst hQ
              refine W.widen (k := 0) (n := 0) (Nat.le_of_ble_eq_true rfl) (Nat.le_of_ble_eq_true rfl) ?_
              exact W.vret hx hb hr (fun tS htS _ => ⟨⟨_, rfl, ⟨(lf2 [F_7, F_8, F_9, G_22, G_31, G_32]), rfl, (hF_7), (hG_22p3), (hG_31p3), (hG_32p3)⟩, by rw [htS]; exact hP9, hD9⟩, hS.F htS⟩) hS.2.2 dX2_lay_78
            · skip
              have cn_43 : i_23 < 3 := Nat.lt_of_not_le (fun q9 => cb_41 ((nI_leI (show 3 < 2 ^ 31 by omega) (show i_23 < 2 ^ 31 by omega)).mpr q9))
              refine lv_aload_n hx hb dX2_lay_60 rfl (lv_at hl 1 rfl) ?_
              refine va_get (D := D) (ci := 2) (v := .ref Al) (C := RX2) (T := TX2) (N := 10) hx hb hts iX2 hown hK hP 0 rfl rfl 9 (by decide) f23 (fun _ h9 => h9) rfl dX2_lay_61 ?_
              refine lv_iload hx hb dX2_lay_64 (lv_at hl 0 rfl) ?_
              have hPq_44 := hP; have hDq_44 := hD; have hSq_44 := hS; have hlq_44 := hl; clear hP hD hS hl
              rcases (show i_23 = 0 ∨ i_23 = 1 ∨ i_23 = 2 by omega) with rfl | rfl | rfl
              · skip
                have hP := hPq_44; have hD := hDq_44; have hS := hSq_44; have hl := hlq_44; clear hPq_44 hDq_44 hSq_44 hlq_44
                refine va_aldq (C := "HopCredits$Lane") hx hb hK hP 4 2 rfl rfl (by unfold vp_in; decide) dX2_lay_66 ?_
                refine lv_eqv (v2 := .ref Aa) rfl ?_
                refine lv_iload hx hb dX2_lay_67 (lv_at hl 2 rfl) ?_
                refine ky_Vv (As := [.int zc]) (rest := []) ⟨hx, hb, hml, hown, hts⟩ ⟨hK, hN⟩ hZ hP hD hS hA [5] [0, 1, 2, 3, 4, 6, 7] (wc := [(Aa, .inr (1, [.int (G_22 0), .int (G_22 1), .int (G_22 2), .int (G_22 3), .int (G_22 4), .int (G_22 5), .int (G_22 6)]))]) (wr := [(L, .inr (2, [.int (nI d), .int za, .int zb, .int 0, .int (-1), .int (-1), .ref Ac, .ref Au, .ref Ap, .ref Al])), (Ac, .inl (g 0, 5, .inl F_7)), (Au, .inl (g 0, 15, .inl F_8)), (Ap, .inl (g 0, 15, .inl F_9)), (Al, .inl (g 2, 3, .inr (.inr (.inr (.inr (rf3 Aa Ab Ad)))))), (Ab, .inr (1, [.int (G_31 0), .int (G_31 1), .int (G_31 2), .int (G_31 3), .int (G_31 4), .int (G_31 5), .int (G_31 6)])), (Ad, .inr (1, [.int (G_32 0), .int (G_32 1), .int (G_32 2), .int (G_32 3), .int (G_32 4), .int (G_32 5), .int (G_32 6)]))]) rfl rfl rfl rfl (by decide) (k_X1_lay l D g H.size Aa zc G_22) (cwV 1 hts gX2_lay_X1_lay rfl rfl rfl (by decide +kernel) ⟨(Nat.le_of_ble_eq_true rfl), (Nat.le_of_ble_eq_true rfl)⟩) 5 1 rfl rfl rfl rfl hl.1 rfl (Nat.le_of_ble_eq_true rfl) dX2_lay_69 ⟨(Nat.le_of_ble_eq_true rfl), (Nat.le_of_ble_eq_true rfl)⟩ (fun u H locs hw hP2 hD2 hS2 => ?_)
                clear hP hD hS
                obtain rfl := hw
                have hPD : PD D A [(L, .inr (2, [.int (nI d), .int za, .int zb, .int 0, .int (-1), .int (-1), .ref Ac, .ref Au, .ref Ap, .ref Al])), (Ac, .inl (g 0, 5, .inl F_7)), (Au, .inl (g 0, 15, .inl F_8)), (Ap, .inl (g 0, 15, .inl F_9)), (Al, .inl (g 2, 3, .inr (.inr (.inr (.inr (rf3 Aa Ab Ad)))))), (Ab, .inr (1, [.int (G_31 0), .int (G_31 1), .int (G_31 2), .int (G_31 3), .int (G_31 4), .int (G_31 5), .int (G_31 6)])), (Ad, .inr (1, [.int (G_32 0), .int (G_32 1), .int (G_32 2), .int (G_32 3), .int (G_32 4), .int (G_32 5), .int (G_32 6)])), (Aa, .inr (1, [.int 0, .int 0, .int 0, .int zc, .int 0, .int 0, .int 0]))] H := ⟨hP2, hD2⟩
                have hS := hS2; clear hP2 hD2 hS2; have hP := hPD.1; have hD := hPD.2; clear hPD
                refine W.widen (k := 0) (n := 0) (Nat.le_of_ble_eq_true rfl) (Nat.le_of_ble_eq_true rfl) ?_
                refine lv_iinc (v := 1) (lv' := [(5, .int 1), (0, .ref L), (4, .int zc)]) hx hb dX2_lay_72 hl (k := 0) rfl (by decide) (by decide) rfl (fun ls hl => ?_)
                refine lv_goto (tgt := 54) hx hb dX2_lay_75 (by decide) ?_
                exact loop_40_ih (lf [0, 0, 0, zc, 0, 0, 0]) 1 G_31 G_32 (h2) (hG_31p3) (hG_32p3) (show 1 ≤ 3 by omega) (show 3 - 1 < Nloop_40 by omega) _ _ _ (hP.sub [0, 1, 2, 3, 4, 7, 5, 6] rfl) (hD.sub [0, 1, 2, 3, 4, 7, 5, 6] (by decide) rfl) hS hl
              · skip
                have hP := hPq_44; have hD := hDq_44; have hS := hSq_44; have hl := hlq_44; clear hPq_44 hDq_44 hSq_44 hlq_44
                refine va_aldq (C := "HopCredits$Lane") hx hb hK hP 4 2 rfl rfl (by unfold vp_in; decide) dX2_lay_66 ?_
                refine lv_eqv (v2 := .ref Ab) rfl ?_
                refine lv_iload hx hb dX2_lay_67 (lv_at hl 2 rfl) ?_
                refine ky_Vv (As := [.int zc]) (rest := []) ⟨hx, hb, hml, hown, hts⟩ ⟨hK, hN⟩ hZ hP hD hS hA [6] [0, 1, 2, 3, 4, 5, 7] (wc := [(Ab, .inr (1, [.int (G_31 0), .int (G_31 1), .int (G_31 2), .int (G_31 3), .int (G_31 4), .int (G_31 5), .int (G_31 6)]))]) (wr := [(L, .inr (2, [.int (nI d), .int za, .int zb, .int 0, .int (-1), .int (-1), .ref Ac, .ref Au, .ref Ap, .ref Al])), (Ac, .inl (g 0, 5, .inl F_7)), (Au, .inl (g 0, 15, .inl F_8)), (Ap, .inl (g 0, 15, .inl F_9)), (Al, .inl (g 2, 3, .inr (.inr (.inr (.inr (rf3 Aa Ab Ad)))))), (Aa, .inr (1, [.int (G_22 0), .int (G_22 1), .int (G_22 2), .int (G_22 3), .int (G_22 4), .int (G_22 5), .int (G_22 6)])), (Ad, .inr (1, [.int (G_32 0), .int (G_32 1), .int (G_32 2), .int (G_32 3), .int (G_32 4), .int (G_32 5), .int (G_32 6)]))]) rfl rfl rfl rfl (by decide) (k_X1_lay l D g H.size Ab zc G_31) (cwV 1 hts gX2_lay_X1_lay rfl rfl rfl (by decide +kernel) ⟨(Nat.le_of_ble_eq_true rfl), (Nat.le_of_ble_eq_true rfl)⟩) 6 1 rfl rfl rfl rfl hl.1 rfl (Nat.le_of_ble_eq_true rfl) dX2_lay_69 ⟨(Nat.le_of_ble_eq_true rfl), (Nat.le_of_ble_eq_true rfl)⟩ (fun u H locs hw hP2 hD2 hS2 => ?_)
                clear hP hD hS
                obtain rfl := hw
                have hPD : PD D A [(L, .inr (2, [.int (nI d), .int za, .int zb, .int 0, .int (-1), .int (-1), .ref Ac, .ref Au, .ref Ap, .ref Al])), (Ac, .inl (g 0, 5, .inl F_7)), (Au, .inl (g 0, 15, .inl F_8)), (Ap, .inl (g 0, 15, .inl F_9)), (Al, .inl (g 2, 3, .inr (.inr (.inr (.inr (rf3 Aa Ab Ad)))))), (Aa, .inr (1, [.int (G_22 0), .int (G_22 1), .int (G_22 2), .int (G_22 3), .int (G_22 4), .int (G_22 5), .int (G_22 6)])), (Ad, .inr (1, [.int (G_32 0), .int (G_32 1), .int (G_32 2), .int (G_32 3), .int (G_32 4), .int (G_32 5), .int (G_32 6)])), (Ab, .inr (1, [.int 0, .int 0, .int 0, .int zc, .int 0, .int 0, .int 0]))] H := ⟨hP2, hD2⟩
                have hS := hS2; clear hP2 hD2 hS2; have hP := hPD.1; have hD := hPD.2; clear hPD
                refine W.widen (k := 0) (n := 0) (Nat.le_of_ble_eq_true rfl) (Nat.le_of_ble_eq_true rfl) ?_
                refine lv_iinc (v := 2) (lv' := [(5, .int 2), (0, .ref L), (4, .int zc)]) hx hb dX2_lay_72 hl (k := 0) rfl (by decide) (by decide) rfl (fun ls hl => ?_)
                refine lv_goto (tgt := 54) hx hb dX2_lay_75 (by decide) ?_
                exact loop_40_ih G_22 2 (lf [0, 0, 0, zc, 0, 0, 0]) G_32 (hG_22p3) (h2) (hG_32p3) (show 2 ≤ 3 by omega) (show 3 - 2 < Nloop_40 by omega) _ _ _ (hP.sub [0, 1, 2, 3, 4, 5, 7, 6] rfl) (hD.sub [0, 1, 2, 3, 4, 5, 7, 6] (by decide) rfl) hS hl
              · skip
                have hP := hPq_44; have hD := hDq_44; have hS := hSq_44; have hl := hlq_44; clear hPq_44 hDq_44 hSq_44 hlq_44
                refine va_aldq (C := "HopCredits$Lane") hx hb hK hP 4 2 rfl rfl (by unfold vp_in; decide) dX2_lay_66 ?_
                refine lv_eqv (v2 := .ref Ad) rfl ?_
                refine lv_iload hx hb dX2_lay_67 (lv_at hl 2 rfl) ?_
                refine ky_Vv (As := [.int zc]) (rest := []) ⟨hx, hb, hml, hown, hts⟩ ⟨hK, hN⟩ hZ hP hD hS hA [7] [0, 1, 2, 3, 4, 5, 6] (wc := [(Ad, .inr (1, [.int (G_32 0), .int (G_32 1), .int (G_32 2), .int (G_32 3), .int (G_32 4), .int (G_32 5), .int (G_32 6)]))]) (wr := [(L, .inr (2, [.int (nI d), .int za, .int zb, .int 0, .int (-1), .int (-1), .ref Ac, .ref Au, .ref Ap, .ref Al])), (Ac, .inl (g 0, 5, .inl F_7)), (Au, .inl (g 0, 15, .inl F_8)), (Ap, .inl (g 0, 15, .inl F_9)), (Al, .inl (g 2, 3, .inr (.inr (.inr (.inr (rf3 Aa Ab Ad)))))), (Aa, .inr (1, [.int (G_22 0), .int (G_22 1), .int (G_22 2), .int (G_22 3), .int (G_22 4), .int (G_22 5), .int (G_22 6)])), (Ab, .inr (1, [.int (G_31 0), .int (G_31 1), .int (G_31 2), .int (G_31 3), .int (G_31 4), .int (G_31 5), .int (G_31 6)]))]) rfl rfl rfl rfl (by decide) (k_X1_lay l D g H.size Ad zc G_32) (cwV 1 hts gX2_lay_X1_lay rfl rfl rfl (by decide +kernel) ⟨(Nat.le_of_ble_eq_true rfl), (Nat.le_of_ble_eq_true rfl)⟩) 7 1 rfl rfl rfl rfl hl.1 rfl (Nat.le_of_ble_eq_true rfl) dX2_lay_69 ⟨(Nat.le_of_ble_eq_true rfl), (Nat.le_of_ble_eq_true rfl)⟩ (fun u H locs hw hP2 hD2 hS2 => ?_)
                clear hP hD hS
                obtain rfl := hw
                have hPD : PD D A [(L, .inr (2, [.int (nI d), .int za, .int zb, .int 0, .int (-1), .int (-1), .ref Ac, .ref Au, .ref Ap, .ref Al])), (Ac, .inl (g 0, 5, .inl F_7)), (Au, .inl (g 0, 15, .inl F_8)), (Ap, .inl (g 0, 15, .inl F_9)), (Al, .inl (g 2, 3, .inr (.inr (.inr (.inr (rf3 Aa Ab Ad)))))), (Aa, .inr (1, [.int (G_22 0), .int (G_22 1), .int (G_22 2), .int (G_22 3), .int (G_22 4), .int (G_22 5), .int (G_22 6)])), (Ab, .inr (1, [.int (G_31 0), .int (G_31 1), .int (G_31 2), .int (G_31 3), .int (G_31 4), .int (G_31 5), .int (G_31 6)])), (Ad, .inr (1, [.int 0, .int 0, .int 0, .int zc, .int 0, .int 0, .int 0]))] H := ⟨hP2, hD2⟩
                have hS := hS2; clear hP2 hD2 hS2; have hP := hPD.1; have hD := hPD.2; clear hPD
                refine W.widen (k := 0) (n := 0) (Nat.le_of_ble_eq_true rfl) (Nat.le_of_ble_eq_true rfl) ?_
                refine lv_iinc (v := 3) (lv' := [(5, .int 3), (0, .ref L), (4, .int zc)]) hx hb dX2_lay_72 hl (k := 0) rfl (by decide) (by decide) rfl (fun ls hl => ?_)
                refine lv_goto (tgt := 54) hx hb dX2_lay_75 (by decide) ?_
                exact loop_40_ih G_22 3 G_31 (lf [0, 0, 0, zc, 0, 0, 0]) (hG_22p3) (hG_31p3) (h2) (show 3 ≤ 3 by omega) (show 3 - 3 < Nloop_40 by omega) _ _ _ hP hD hS hl
        exact loop_40 _ fw 0 fx fy (h3) (h4) (h5) (show 0 ≤ 3 by omega) (Nat.lt_succ_self _) _ _ _ hP hD hS hl
      · skip
        have cn_48 : i_6 < 5 := Nat.lt_of_not_le (fun q9 => cb_19 ((nI_leI (show 5 < 2 ^ 31 by omega) (show i_6 < 2 ^ 31 by omega)).mpr q9))
        refine lv_aload_n hx hb dX2_lay_39 rfl (lv_at hl 1 rfl) ?_
        refine lv_iload hx hb dX2_lay_40 (lv_at hl 0 rfl) ?_
        refine ky_Vv (As := [.int (nI i_6)]) (rest := []) ⟨hx, hb, hml, hown, hts⟩ ⟨hK, hN⟩ hZ hP hD hS hA [0, 1, 2, 3] [4, 5, 6, 7] (wc := [(L, .inr (2, [.int (nI d), .int za, .int zb, .int 0, .int (-1), .int (-1), .ref Ac, .ref Au, .ref Ap, .ref Al])), (Ac, .inl (g 0, 5, .inl F_7)), (Au, .inl (g 0, 15, .inl F_8)), (Ap, .inl (g 0, 15, .inl F_9))]) (wr := [(Al, .inl (g 2, 3, .inr (.inr (.inr (.inr (rf3 Aa Ab Ad)))))), (Aa, .inr (1, [.int (fw 0), .int (fw 1), .int (fw 2), .int (fw 3), .int (fw 4), .int (fw 5), .int (fw 6)])), (Ab, .inr (1, [.int (fx 0), .int (fx 1), .int (fx 2), .int (fx 3), .int (fx 4), .int (fx 5), .int (fx 6)])), (Ad, .inr (1, [.int (fy 0), .int (fy 1), .int (fy 2), .int (fy 3), .int (fy 4), .int (fy 5), .int (fy 6)]))]) rfl rfl rfl rfl (by decide) (k_X2_clearSlot l D g H.size L i_6 (lf [nI d, za, zb, 0, -1, -1]) Ac Au Ap Al F_7 F_8 F_9 (show i_6 < 5 by omega) (hF_7)) (cwV 1 hts gX2_lay_X2_clearSlot rfl rfl rfl (by decide +kernel) ⟨(Nat.le_of_ble_eq_true rfl), (Nat.le_of_ble_eq_true rfl)⟩) 0 2 rfl rfl rfl rfl hl.1 rfl (Nat.le_of_ble_eq_true rfl) dX2_lay_42 ⟨(Nat.le_of_ble_eq_true rfl), (Nat.le_of_ble_eq_true rfl)⟩ (fun u H locs hw hP2 hD2 hS2 => ?_)
        clear hP hD hS
        obtain ⟨fcx_50, fux_51, fpx_52, rfl, hf_53⟩ := hw
        have hPD : PD D A [(Al, .inl (g 2, 3, .inr (.inr (.inr (.inr (rf3 Aa Ab Ad)))))), (Aa, .inr (1, [.int (fw 0), .int (fw 1), .int (fw 2), .int (fw 3), .int (fw 4), .int (fw 5), .int (fw 6)])), (Ab, .inr (1, [.int (fx 0), .int (fx 1), .int (fx 2), .int (fx 3), .int (fx 4), .int (fx 5), .int (fx 6)])), (Ad, .inr (1, [.int (fy 0), .int (fy 1), .int (fy 2), .int (fy 3), .int (fy 4), .int (fy 5), .int (fy 6)])), (L, .inr (2, [.int (nI d), .int za, .int zb, .int 0, .int (-1), .int (-1), .ref Ac, .ref Au, .ref Ap, .ref Al])), (Ac, .inl (g 0, 5, .inl fcx_50)), (Au, .inl (g 0, 15, .inl fux_51)), (Ap, .inl (g 0, 15, .inl fpx_52))] H := ⟨hP2, hD2⟩
        have hS := hS2; clear hP2 hD2 hS2; have hP := hPD.1; have hD := hPD.2; clear hPD
        refine W.widen (k := 0) (n := 0) (Nat.le_of_ble_eq_true rfl) (Nat.le_of_ble_eq_true rfl) ?_
        refine lv_iinc (v := (nI (i_6 + 1))) (lv' := [(5, .int (nI (i_6 + 1))), (0, .ref L), (4, .int zc)]) hx hb dX2_lay_45 hl (k := 0) rfl (nI_1 (i_6)) (by decide) rfl (fun ls hl => ?_)
        refine lv_goto (tgt := 33) hx hb dX2_lay_48 (by decide) ?_
        exact loop_18_ih (i_6 + 1) fcx_50 fux_51 fpx_52 (hf_53) (show (i_6 + 1) ≤ 5 by omega) (show 5 - (i_6 + 1) < Nloop_18 by omega) _ _ _ (hP.sub [4, 5, 6, 7, 0, 1, 2, 3] rfl) (hD.sub [4, 5, 6, 7, 0, 1, 2, 3] (by decide) rfl) hS hl
  exact loop_18 _ 0 fc fu fp (h1) (show 0 ≤ 5 by omega) (Nat.lt_succ_self _) _ _ _ hP hD hS (lv_sub hl [0, 1, 5] rfl)

set_option maxHeartbeats 4000000 in
set_option maxRecDepth 100000 in
theorem k_X2_copy (l : Launch) (D : va_G) (g : Nat → ClassId) (sz : Nat) (L : Nat) (M : Nat) (fv : Nat → Int32) (Ac : Nat) (Au : Nat) (Ap : Nat) (Al : Nat) (fc : Nat → Int32) (fu : Nat → Int32) (fp : Nat → Int32) (Aa : Nat) (Ab : Nat) (Ad : Nat) (fw : Nat → Int32) (fx : Nat → Int32) (fy : Nat → Int32) (fo : Nat → Int32) (Bc : Nat) (Bu : Nat) (Bp : Nat) (Bl : Nat) (fgc : Nat → Int32) (fgu : Nat → Int32) (fgp : Nat → Int32) (Ba : Nat) (Bb : Nat) (Bd : Nat) (fr : Nat → Int32) (fs : Nat → Int32) (ft : Nat → Int32) (h0 : okF fc) (h1 : okF fgc) (h2 : lz (fw 3)) (h3 : lz (fx 3)) (h4 : lz (fy 3)) (h5 : lz (fr 3)) (h6 : lz (fs 3)) (h7 : lz (ft 3)) : Met l yX2_copy wsX2_copy ({ frames := 1, cells := 0, slots := 0, locals := 40 }) (va_Pc [.ref L, .ref M] (pre D g sz [(L, .inr (2, [.int (fv 0), .int (fv 1), .int (fv 2), .int (fv 3), .int (fv 4), .int (fv 5), .ref Ac, .ref Au, .ref Ap, .ref Al])), (Ac, .inl (g 0, 5, .inl fc)), (Au, .inl (g 0, 15, .inl fu)), (Ap, .inl (g 0, 15, .inl fp)), (Al, .inl (g 2, 3, .inr (.inr (.inr (.inr (rf3 Aa Ab Ad)))))), (Aa, .inr (1, [.int (fw 0), .int (fw 1), .int (fw 2), .int (fw 3), .int (fw 4), .int (fw 5), .int (fw 6)])), (Ab, .inr (1, [.int (fx 0), .int (fx 1), .int (fx 2), .int (fx 3), .int (fx 4), .int (fx 5), .int (fx 6)])), (Ad, .inr (1, [.int (fy 0), .int (fy 1), .int (fy 2), .int (fy 3), .int (fy 4), .int (fy 5), .int (fy 6)])), (M, .inr (2, [.int (fo 0), .int (fo 1), .int (fo 2), .int (fo 3), .int (fo 4), .int (fo 5), .ref Bc, .ref Bu, .ref Bp, .ref Bl])), (Bc, .inl (g 0, 5, .inl fgc)), (Bu, .inl (g 0, 15, .inl fgu)), (Bp, .inl (g 0, 15, .inl fgp)), (Bl, .inl (g 2, 3, .inr (.inr (.inr (.inr (rf3 Ba Bb Bd)))))), (Ba, .inr (1, [.int (fr 0), .int (fr 1), .int (fr 2), .int (fr 3), .int (fr 4), .int (fr 5), .int (fr 6)])), (Bb, .inr (1, [.int (fs 0), .int (fs 1), .int (fs 2), .int (fs 3), .int (fs 4), .int (fs 5), .int (fs 6)])), (Bd, .inr (1, [.int (ft 0), .int (ft 1), .int (ft 2), .int (ft 3), .int (ft 4), .int (ft 5), .int (ft 6)]))])) (va_Qv (fun (u : va_W) => ∃ (PF : Nat → Nat → Int32), u = [(L, .inr (2, [.int (fo 0), .int (fo 1), .int (fo 2), .int (fo 3), .int (fo 4), .int (fo 5), .ref Ac, .ref Au, .ref Ap, .ref Al])), (Ac, .inl (g 0, 5, .inl (PF 0))), (Au, .inl (g 0, 15, .inl (PF 1))), (Ap, .inl (g 0, 15, .inl (PF 2))), (Al, .inl (g 2, 3, .inr (.inr (.inr (.inr (rf3 Aa Ab Ad)))))), (Aa, .inr (1, [.int ((PF 3) 0), .int ((PF 3) 1), .int ((PF 3) 2), .int ((PF 3) 3), .int ((PF 3) 4), .int ((PF 3) 5), .int ((PF 3) 6)])), (Ab, .inr (1, [.int ((PF 4) 0), .int ((PF 4) 1), .int ((PF 4) 2), .int ((PF 4) 3), .int ((PF 4) 4), .int ((PF 4) 5), .int ((PF 4) 6)])), (Ad, .inr (1, [.int ((PF 5) 0), .int ((PF 5) 1), .int ((PF 5) 2), .int ((PF 5) 3), .int ((PF 5) 4), .int ((PF 5) 5), .int ((PF 5) 6)])), (M, .inr (2, [.int (fo 0), .int (fo 1), .int (fo 2), .int (fo 3), .int (fo 4), .int (fo 5), .ref Bc, .ref Bu, .ref Bp, .ref Bl])), (Bc, .inl (g 0, 5, .inl fgc)), (Bu, .inl (g 0, 15, .inl fgu)), (Bp, .inl (g 0, 15, .inl fgp)), (Bl, .inl (g 2, 3, .inr (.inr (.inr (.inr (rf3 Ba Bb Bd)))))), (Ba, .inr (1, [.int (fr 0), .int (fr 1), .int (fr 2), .int (fr 3), .int (fr 4), .int (fr 5), .int (fr 6)])), (Bb, .inr (1, [.int (fs 0), .int (fs 1), .int (fs 2), .int (fs 3), .int (fs 4), .int (fs 5), .int (fs 6)])), (Bd, .inr (1, [.int (ft 0), .int (ft 1), .int (ft 2), .int (ft 3), .int (ft 4), .int (ft 5), .int (ft 6)]))] ∧ (okF (PF 0)) ∧ (lz ((PF 3) 3)) ∧ (lz ((PF 4) 3)) ∧ (lz ((PF 5) 3))) (wd D (va_A [(L, .inr (2, [.int (fv 0), .int (fv 1), .int (fv 2), .int (fv 3), .int (fv 4), .int (fv 5), .ref Ac, .ref Au, .ref Ap, .ref Al])), (Ac, .inl (g 0, 5, .inl fc)), (Au, .inl (g 0, 15, .inl fu)), (Ap, .inl (g 0, 15, .inl fp)), (Al, .inl (g 2, 3, .inr (.inr (.inr (.inr (rf3 Aa Ab Ad)))))), (Aa, .inr (1, [.int (fw 0), .int (fw 1), .int (fw 2), .int (fw 3), .int (fw 4), .int (fw 5), .int (fw 6)])), (Ab, .inr (1, [.int (fx 0), .int (fx 1), .int (fx 2), .int (fx 3), .int (fx 4), .int (fx 5), .int (fx 6)])), (Ad, .inr (1, [.int (fy 0), .int (fy 1), .int (fy 2), .int (fy 3), .int (fy 4), .int (fy 5), .int (fy 6)])), (M, .inr (2, [.int (fo 0), .int (fo 1), .int (fo 2), .int (fo 3), .int (fo 4), .int (fo 5), .ref Bc, .ref Bu, .ref Bp, .ref Bl])), (Bc, .inl (g 0, 5, .inl fgc)), (Bu, .inl (g 0, 15, .inl fgu)), (Bp, .inl (g 0, 15, .inl fgp)), (Bl, .inl (g 2, 3, .inr (.inr (.inr (.inr (rf3 Ba Bb Bd)))))), (Ba, .inr (1, [.int (fr 0), .int (fr 1), .int (fr 2), .int (fr 3), .int (fr 4), .int (fr 5), .int (fr 6)])), (Bb, .inr (1, [.int (fs 0), .int (fs 1), .int (fs 2), .int (fs 3), .int (fs 4), .int (fs 5), .int (fs 6)])), (Bd, .inr (1, [.int (ft 0), .int (ft 1), .int (ft 2), .int (ft 3), .int (ft 4), .int (ft 5), .int (ft 6)]))] sz)) (va_A [(L, .inr (2, [.int (fv 0), .int (fv 1), .int (fv 2), .int (fv 3), .int (fv 4), .int (fv 5), .ref Ac, .ref Au, .ref Ap, .ref Al])), (Ac, .inl (g 0, 5, .inl fc)), (Au, .inl (g 0, 15, .inl fu)), (Ap, .inl (g 0, 15, .inl fp)), (Al, .inl (g 2, 3, .inr (.inr (.inr (.inr (rf3 Aa Ab Ad)))))), (Aa, .inr (1, [.int (fw 0), .int (fw 1), .int (fw 2), .int (fw 3), .int (fw 4), .int (fw 5), .int (fw 6)])), (Ab, .inr (1, [.int (fx 0), .int (fx 1), .int (fx 2), .int (fx 3), .int (fx 4), .int (fx 5), .int (fx 6)])), (Ad, .inr (1, [.int (fy 0), .int (fy 1), .int (fy 2), .int (fy 3), .int (fy 4), .int (fy 5), .int (fy 6)])), (M, .inr (2, [.int (fo 0), .int (fo 1), .int (fo 2), .int (fo 3), .int (fo 4), .int (fo 5), .ref Bc, .ref Bu, .ref Bp, .ref Bl])), (Bc, .inl (g 0, 5, .inl fgc)), (Bu, .inl (g 0, 15, .inl fgu)), (Bp, .inl (g 0, 15, .inl fgp)), (Bl, .inl (g 2, 3, .inr (.inr (.inr (.inr (rf3 Ba Bb Bd)))))), (Ba, .inr (1, [.int (fr 0), .int (fr 1), .int (fr 2), .int (fr 3), .int (fr 4), .int (fr 5), .int (fr 6)])), (Bb, .inr (1, [.int (fs 0), .int (fs 1), .int (fs 2), .int (fs 3), .int (fs 4), .int (fs 5), .int (fs 6)])), (Bd, .inr (1, [.int (ft 0), .int (ft 1), .int (ft 2), .int (ft 3), .int (ft 4), .int (ft 5), .int (ft 6)]))] sz)) 0 0 (va_A [(L, .inr (2, [.int (fv 0), .int (fv 1), .int (fv 2), .int (fv 3), .int (fv 4), .int (fv 5), .ref Ac, .ref Au, .ref Ap, .ref Al])), (Ac, .inl (g 0, 5, .inl fc)), (Au, .inl (g 0, 15, .inl fu)), (Ap, .inl (g 0, 15, .inl fp)), (Al, .inl (g 2, 3, .inr (.inr (.inr (.inr (rf3 Aa Ab Ad)))))), (Aa, .inr (1, [.int (fw 0), .int (fw 1), .int (fw 2), .int (fw 3), .int (fw 4), .int (fw 5), .int (fw 6)])), (Ab, .inr (1, [.int (fx 0), .int (fx 1), .int (fx 2), .int (fx 3), .int (fx 4), .int (fx 5), .int (fx 6)])), (Ad, .inr (1, [.int (fy 0), .int (fy 1), .int (fy 2), .int (fy 3), .int (fy 4), .int (fy 5), .int (fy 6)])), (M, .inr (2, [.int (fo 0), .int (fo 1), .int (fo 2), .int (fo 3), .int (fo 4), .int (fo 5), .ref Bc, .ref Bu, .ref Bp, .ref Bl])), (Bc, .inl (g 0, 5, .inl fgc)), (Bu, .inl (g 0, 15, .inl fgu)), (Bp, .inl (g 0, 15, .inl fgp)), (Bl, .inl (g 2, 3, .inr (.inr (.inr (.inr (rf3 Ba Bb Bd)))))), (Ba, .inr (1, [.int (fr 0), .int (fr 1), .int (fr 2), .int (fr 3), .int (fr 4), .int (fr 5), .int (fr 6)])), (Bb, .inr (1, [.int (fs 0), .int (fs 1), .int (fs 2), .int (fs 3), .int (fs 4), .int (fs 5), .int (fs 6)])), (Bd, .inr (1, [.int (ft 0), .int (ft 1), .int (ft 2), .int (ft 3), .int (ft 4), .int (ft 5), .int (ft 6)]))] sz) := by
  refine Met.ofW (cc := cX2_copy) (maxL := 3) (ret := none) (by decide) rfl ?_
  intro p e s m args below meth c s₁ B hml hv
  obtain ⟨rfl, hsz, hP, ⟨hK, hN⟩, hD0, hZ⟩ := hv
  have hx := B.exec
  have hb := B.bytes
  have hr := B.returns
  have hts := atoms_spec (ws := wsX2_copy) B.pre
  have hown : s.vm.findClass RX2 = some m.cls := findClass_of_methodNamed B.named
  have hlocks := B.notSynchronized
  clear B
  subst hsz
  have hD := hD0.self (sz := s.heap.size)
  clear hD0
  generalize hAe : va_A [(L, .inr (2, [.int (fv 0), .int (fv 1), .int (fv 2), .int (fv 3), .int (fv 4), .int (fv 5), .ref Ac, .ref Au, .ref Ap, .ref Al])), (Ac, .inl (g 0, 5, .inl fc)), (Au, .inl (g 0, 15, .inl fu)), (Ap, .inl (g 0, 15, .inl fp)), (Al, .inl (g 2, 3, .inr (.inr (.inr (.inr (rf3 Aa Ab Ad)))))), (Aa, .inr (1, [.int (fw 0), .int (fw 1), .int (fw 2), .int (fw 3), .int (fw 4), .int (fw 5), .int (fw 6)])), (Ab, .inr (1, [.int (fx 0), .int (fx 1), .int (fx 2), .int (fx 3), .int (fx 4), .int (fx 5), .int (fx 6)])), (Ad, .inr (1, [.int (fy 0), .int (fy 1), .int (fy 2), .int (fy 3), .int (fy 4), .int (fy 5), .int (fy 6)])), (M, .inr (2, [.int (fo 0), .int (fo 1), .int (fo 2), .int (fo 3), .int (fo 4), .int (fo 5), .ref Bc, .ref Bu, .ref Bp, .ref Bl])), (Bc, .inl (g 0, 5, .inl fgc)), (Bu, .inl (g 0, 15, .inl fgu)), (Bp, .inl (g 0, 15, .inl fgp)), (Bl, .inl (g 2, 3, .inr (.inr (.inr (.inr (rf3 Ba Bb Bd)))))), (Ba, .inr (1, [.int (fr 0), .int (fr 1), .int (fr 2), .int (fr 3), .int (fr 4), .int (fr 5), .int (fr 6)])), (Bb, .inr (1, [.int (fs 0), .int (fs 1), .int (fs 2), .int (fs 3), .int (fs 4), .int (fs 5), .int (fs 6)])), (Bd, .inr (1, [.int (ft 0), .int (ft 1), .int (ft 2), .int (ft 3), .int (ft 4), .int (ft 5), .int (ft 6)]))] s.heap.size = A at hD hZ ⊢
  have hA : ∀ q : Nat, s.heap.size ≤ q → A q := fun q h => by rw [← hAe]; exact Or.inr h
  have hS : va_S A s.heap s.heap [] := va_S.rf
  have aci := hts (.initialized "java/lang/System") (List.mem_of_getElem? (i := 11) rfl)
  have acl := hts (.methodLink RX2 54 arraycopyName) (List.mem_of_getElem? (i := 8) rfl)
  have acn := hts (.native arraycopyName) (List.mem_of_getElem? (i := 9) rfl)
  have acs := hts (.static arraycopyName) (List.mem_of_getElem? (i := 10) rfl)
  have f15 := hts (.fieldLink RX2 15 "HopCredits$Link" "updateAt" "[I") (List.mem_of_getElem? (i := 12) rfl)
  have f18 := hts (.fieldLink RX2 18 "HopCredits$Link" "probesAt" "[I") (List.mem_of_getElem? (i := 13) rfl)
  have f23 := hts (.fieldLink RX2 23 "HopCredits$Link" "lanes" "[LHopCredits$Lane;") (List.mem_of_getElem? (i := 14) rfl)
  have f28 := hts (.fieldLink RX2 28 "HopCredits$Link" "delay" "I") (List.mem_of_getElem? (i := 1) rfl)
  have f32 := hts (.fieldLink RX2 32 "HopCredits$Link" "pool" "I") (List.mem_of_getElem? (i := 2) rfl)
  have f35 := hts (.fieldLink RX2 35 "HopCredits$Link" "every" "I") (List.mem_of_getElem? (i := 3) rfl)
  have f38 := hts (.fieldLink RX2 38 "HopCredits$Link" "jammed" "I") (List.mem_of_getElem? (i := 4) rfl)
  have f41 := hts (.fieldLink RX2 41 "HopCredits$Link" "latest" "I") (List.mem_of_getElem? (i := 5) rfl)
  have f44 := hts (.fieldLink RX2 44 "HopCredits$Link" "sender" "I") (List.mem_of_getElem? (i := 6) rfl)
  have f9 := hts (.fieldLink RX2 9 "HopCredits$Link" "cellAt" "[I") (List.mem_of_getElem? (i := 7) rfl)
  have iX2 : ∀ w ∈ u_ws RX2 TX2 10, w ∈ wsX2_copy := fun w h => List.mem_cons_of_mem _ (List.mem_append_left _ (List.mem_append_right _ (h)))
  have hl := lv_entry ([.ref L, .ref M]) (n := 3) (Nat.le_of_ble_eq_true rfl)
  rw [lg_entry_eq]
  generalize (lg_sl ([.ref L, .ref M]) ++ List.replicate (3 - (lg_sl ([.ref L, .ref M])).length) Slot.unset).toArray = ls at hl ⊢
  have hl : lv_has ls 3 [(0, .ref L), (1, .ref M)] := hl
  generalize hQ : MQ below _ _ s _ _ _ = Q
  generalize hH : s.heap = H at hP ⊢
  have hS : va_S A s.heap H [] := by rw [← hH]; exact hS
  clear hH
  refine lv_aload_n hx hb dX2_copy_0 rfl (lv_at hl 0 rfl) ?_
  refine lv_aload_n hx hb dX2_copy_1 rfl (lv_at hl 1 rfl) ?_
  refine va_get (D := D) (ci := 2) (v := .int (fo 0)) (C := RX2) (T := TX2) (N := 10) hx hb hts iX2 hown hK hP 8 rfl rfl 0 (by decide) f28 (fun _ h9 => h9) rfl dX2_copy_2 ?_
  refine va_put (D := D) (ci := 2) (v := .int (fo 0)) (ty := .int) (C := RX2) (T := TX2) (N := 10) hx hb hts iX2 tyX2 tyX2_ok nmX2 hown hK hP hD hS 0 rfl rfl 0 (by decide) f28 (fun _ h9 => h9) rfl (by decide +kernel) (rfl) (rfl) (Nat.le_of_ble_eq_true rfl) dX2_copy_5 (fun H locs hP2 hD2 hS2 => ?_)
  clear hP hD hS
  have hPD : PD D A [(L, .inr (2, [.int (fo 0), .int (fv 1), .int (fv 2), .int (fv 3), .int (fv 4), .int (fv 5), .ref Ac, .ref Au, .ref Ap, .ref Al])), (Ac, .inl (g 0, 5, .inl fc)), (Au, .inl (g 0, 15, .inl fu)), (Ap, .inl (g 0, 15, .inl fp)), (Al, .inl (g 2, 3, .inr (.inr (.inr (.inr (rf3 Aa Ab Ad)))))), (Aa, .inr (1, [.int (fw 0), .int (fw 1), .int (fw 2), .int (fw 3), .int (fw 4), .int (fw 5), .int (fw 6)])), (Ab, .inr (1, [.int (fx 0), .int (fx 1), .int (fx 2), .int (fx 3), .int (fx 4), .int (fx 5), .int (fx 6)])), (Ad, .inr (1, [.int (fy 0), .int (fy 1), .int (fy 2), .int (fy 3), .int (fy 4), .int (fy 5), .int (fy 6)])), (M, .inr (2, [.int (fo 0), .int (fo 1), .int (fo 2), .int (fo 3), .int (fo 4), .int (fo 5), .ref Bc, .ref Bu, .ref Bp, .ref Bl])), (Bc, .inl (g 0, 5, .inl fgc)), (Bu, .inl (g 0, 15, .inl fgu)), (Bp, .inl (g 0, 15, .inl fgp)), (Bl, .inl (g 2, 3, .inr (.inr (.inr (.inr (rf3 Ba Bb Bd)))))), (Ba, .inr (1, [.int (fr 0), .int (fr 1), .int (fr 2), .int (fr 3), .int (fr 4), .int (fr 5), .int (fr 6)])), (Bb, .inr (1, [.int (fs 0), .int (fs 1), .int (fs 2), .int (fs 3), .int (fs 4), .int (fs 5), .int (fs 6)])), (Bd, .inr (1, [.int (ft 0), .int (ft 1), .int (ft 2), .int (ft 3), .int (ft 4), .int (ft 5), .int (ft 6)]))] H := ⟨hP2, hD2⟩
  have hS := hS2; clear hP2 hD2 hS2; have hP := hPD.1; have hD := hPD.2; clear hPD
  refine lv_aload_n hx hb dX2_copy_8 rfl (lv_at hl 0 rfl) ?_
  refine lv_aload_n hx hb dX2_copy_9 rfl (lv_at hl 1 rfl) ?_
  refine va_get (D := D) (ci := 2) (v := .int (fo 1)) (C := RX2) (T := TX2) (N := 10) hx hb hts iX2 hown hK hP 8 rfl rfl 1 (by decide) f32 (fun _ h9 => h9) rfl dX2_copy_10 ?_
  refine va_put (D := D) (ci := 2) (v := .int (fo 1)) (ty := .int) (C := RX2) (T := TX2) (N := 10) hx hb hts iX2 tyX2 tyX2_ok nmX2 hown hK hP hD hS 0 rfl rfl 1 (by decide) f32 (fun _ h9 => h9) rfl (by decide +kernel) (rfl) (rfl) (Nat.le_of_ble_eq_true rfl) dX2_copy_13 (fun H locs hP2 hD2 hS2 => ?_)
  clear hP hD hS
  have hPD : PD D A [(L, .inr (2, [.int (fo 0), .int (fo 1), .int (fv 2), .int (fv 3), .int (fv 4), .int (fv 5), .ref Ac, .ref Au, .ref Ap, .ref Al])), (Ac, .inl (g 0, 5, .inl fc)), (Au, .inl (g 0, 15, .inl fu)), (Ap, .inl (g 0, 15, .inl fp)), (Al, .inl (g 2, 3, .inr (.inr (.inr (.inr (rf3 Aa Ab Ad)))))), (Aa, .inr (1, [.int (fw 0), .int (fw 1), .int (fw 2), .int (fw 3), .int (fw 4), .int (fw 5), .int (fw 6)])), (Ab, .inr (1, [.int (fx 0), .int (fx 1), .int (fx 2), .int (fx 3), .int (fx 4), .int (fx 5), .int (fx 6)])), (Ad, .inr (1, [.int (fy 0), .int (fy 1), .int (fy 2), .int (fy 3), .int (fy 4), .int (fy 5), .int (fy 6)])), (M, .inr (2, [.int (fo 0), .int (fo 1), .int (fo 2), .int (fo 3), .int (fo 4), .int (fo 5), .ref Bc, .ref Bu, .ref Bp, .ref Bl])), (Bc, .inl (g 0, 5, .inl fgc)), (Bu, .inl (g 0, 15, .inl fgu)), (Bp, .inl (g 0, 15, .inl fgp)), (Bl, .inl (g 2, 3, .inr (.inr (.inr (.inr (rf3 Ba Bb Bd)))))), (Ba, .inr (1, [.int (fr 0), .int (fr 1), .int (fr 2), .int (fr 3), .int (fr 4), .int (fr 5), .int (fr 6)])), (Bb, .inr (1, [.int (fs 0), .int (fs 1), .int (fs 2), .int (fs 3), .int (fs 4), .int (fs 5), .int (fs 6)])), (Bd, .inr (1, [.int (ft 0), .int (ft 1), .int (ft 2), .int (ft 3), .int (ft 4), .int (ft 5), .int (ft 6)]))] H := ⟨hP2, hD2⟩
  have hS := hS2; clear hP2 hD2 hS2; have hP := hPD.1; have hD := hPD.2; clear hPD
  refine lv_aload_n hx hb dX2_copy_16 rfl (lv_at hl 0 rfl) ?_
  refine lv_aload_n hx hb dX2_copy_17 rfl (lv_at hl 1 rfl) ?_
  refine va_get (D := D) (ci := 2) (v := .int (fo 2)) (C := RX2) (T := TX2) (N := 10) hx hb hts iX2 hown hK hP 8 rfl rfl 2 (by decide) f35 (fun _ h9 => h9) rfl dX2_copy_18 ?_
  refine va_put (D := D) (ci := 2) (v := .int (fo 2)) (ty := .int) (C := RX2) (T := TX2) (N := 10) hx hb hts iX2 tyX2 tyX2_ok nmX2 hown hK hP hD hS 0 rfl rfl 2 (by decide) f35 (fun _ h9 => h9) rfl (by decide +kernel) (rfl) (rfl) (Nat.le_of_ble_eq_true rfl) dX2_copy_21 (fun H locs hP2 hD2 hS2 => ?_)
  clear hP hD hS
  have hPD : PD D A [(L, .inr (2, [.int (fo 0), .int (fo 1), .int (fo 2), .int (fv 3), .int (fv 4), .int (fv 5), .ref Ac, .ref Au, .ref Ap, .ref Al])), (Ac, .inl (g 0, 5, .inl fc)), (Au, .inl (g 0, 15, .inl fu)), (Ap, .inl (g 0, 15, .inl fp)), (Al, .inl (g 2, 3, .inr (.inr (.inr (.inr (rf3 Aa Ab Ad)))))), (Aa, .inr (1, [.int (fw 0), .int (fw 1), .int (fw 2), .int (fw 3), .int (fw 4), .int (fw 5), .int (fw 6)])), (Ab, .inr (1, [.int (fx 0), .int (fx 1), .int (fx 2), .int (fx 3), .int (fx 4), .int (fx 5), .int (fx 6)])), (Ad, .inr (1, [.int (fy 0), .int (fy 1), .int (fy 2), .int (fy 3), .int (fy 4), .int (fy 5), .int (fy 6)])), (M, .inr (2, [.int (fo 0), .int (fo 1), .int (fo 2), .int (fo 3), .int (fo 4), .int (fo 5), .ref Bc, .ref Bu, .ref Bp, .ref Bl])), (Bc, .inl (g 0, 5, .inl fgc)), (Bu, .inl (g 0, 15, .inl fgu)), (Bp, .inl (g 0, 15, .inl fgp)), (Bl, .inl (g 2, 3, .inr (.inr (.inr (.inr (rf3 Ba Bb Bd)))))), (Ba, .inr (1, [.int (fr 0), .int (fr 1), .int (fr 2), .int (fr 3), .int (fr 4), .int (fr 5), .int (fr 6)])), (Bb, .inr (1, [.int (fs 0), .int (fs 1), .int (fs 2), .int (fs 3), .int (fs 4), .int (fs 5), .int (fs 6)])), (Bd, .inr (1, [.int (ft 0), .int (ft 1), .int (ft 2), .int (ft 3), .int (ft 4), .int (ft 5), .int (ft 6)]))] H := ⟨hP2, hD2⟩
  have hS := hS2; clear hP2 hD2 hS2; have hP := hPD.1; have hD := hPD.2; clear hPD
  refine lv_aload_n hx hb dX2_copy_24 rfl (lv_at hl 0 rfl) ?_
  refine lv_aload_n hx hb dX2_copy_25 rfl (lv_at hl 1 rfl) ?_
  refine va_get (D := D) (ci := 2) (v := .int (fo 3)) (C := RX2) (T := TX2) (N := 10) hx hb hts iX2 hown hK hP 8 rfl rfl 3 (by decide) f38 (fun _ h9 => h9) rfl dX2_copy_26 ?_
  refine va_put (D := D) (ci := 2) (v := .int (fo 3)) (ty := .int) (C := RX2) (T := TX2) (N := 10) hx hb hts iX2 tyX2 tyX2_ok nmX2 hown hK hP hD hS 0 rfl rfl 3 (by decide) f38 (fun _ h9 => h9) rfl (by decide +kernel) (rfl) (rfl) (Nat.le_of_ble_eq_true rfl) dX2_copy_29 (fun H locs hP2 hD2 hS2 => ?_)
  clear hP hD hS
  have hPD : PD D A [(L, .inr (2, [.int (fo 0), .int (fo 1), .int (fo 2), .int (fo 3), .int (fv 4), .int (fv 5), .ref Ac, .ref Au, .ref Ap, .ref Al])), (Ac, .inl (g 0, 5, .inl fc)), (Au, .inl (g 0, 15, .inl fu)), (Ap, .inl (g 0, 15, .inl fp)), (Al, .inl (g 2, 3, .inr (.inr (.inr (.inr (rf3 Aa Ab Ad)))))), (Aa, .inr (1, [.int (fw 0), .int (fw 1), .int (fw 2), .int (fw 3), .int (fw 4), .int (fw 5), .int (fw 6)])), (Ab, .inr (1, [.int (fx 0), .int (fx 1), .int (fx 2), .int (fx 3), .int (fx 4), .int (fx 5), .int (fx 6)])), (Ad, .inr (1, [.int (fy 0), .int (fy 1), .int (fy 2), .int (fy 3), .int (fy 4), .int (fy 5), .int (fy 6)])), (M, .inr (2, [.int (fo 0), .int (fo 1), .int (fo 2), .int (fo 3), .int (fo 4), .int (fo 5), .ref Bc, .ref Bu, .ref Bp, .ref Bl])), (Bc, .inl (g 0, 5, .inl fgc)), (Bu, .inl (g 0, 15, .inl fgu)), (Bp, .inl (g 0, 15, .inl fgp)), (Bl, .inl (g 2, 3, .inr (.inr (.inr (.inr (rf3 Ba Bb Bd)))))), (Ba, .inr (1, [.int (fr 0), .int (fr 1), .int (fr 2), .int (fr 3), .int (fr 4), .int (fr 5), .int (fr 6)])), (Bb, .inr (1, [.int (fs 0), .int (fs 1), .int (fs 2), .int (fs 3), .int (fs 4), .int (fs 5), .int (fs 6)])), (Bd, .inr (1, [.int (ft 0), .int (ft 1), .int (ft 2), .int (ft 3), .int (ft 4), .int (ft 5), .int (ft 6)]))] H := ⟨hP2, hD2⟩
  have hS := hS2; clear hP2 hD2 hS2; have hP := hPD.1; have hD := hPD.2; clear hPD
  refine lv_aload_n hx hb dX2_copy_32 rfl (lv_at hl 0 rfl) ?_
  refine lv_aload_n hx hb dX2_copy_33 rfl (lv_at hl 1 rfl) ?_
  refine va_get (D := D) (ci := 2) (v := .int (fo 4)) (C := RX2) (T := TX2) (N := 10) hx hb hts iX2 hown hK hP 8 rfl rfl 4 (by decide) f41 (fun _ h9 => h9) rfl dX2_copy_34 ?_
  refine va_put (D := D) (ci := 2) (v := .int (fo 4)) (ty := .int) (C := RX2) (T := TX2) (N := 10) hx hb hts iX2 tyX2 tyX2_ok nmX2 hown hK hP hD hS 0 rfl rfl 4 (by decide) f41 (fun _ h9 => h9) rfl (by decide +kernel) (rfl) (rfl) (Nat.le_of_ble_eq_true rfl) dX2_copy_37 (fun H locs hP2 hD2 hS2 => ?_)
  clear hP hD hS
  have hPD : PD D A [(L, .inr (2, [.int (fo 0), .int (fo 1), .int (fo 2), .int (fo 3), .int (fo 4), .int (fv 5), .ref Ac, .ref Au, .ref Ap, .ref Al])), (Ac, .inl (g 0, 5, .inl fc)), (Au, .inl (g 0, 15, .inl fu)), (Ap, .inl (g 0, 15, .inl fp)), (Al, .inl (g 2, 3, .inr (.inr (.inr (.inr (rf3 Aa Ab Ad)))))), (Aa, .inr (1, [.int (fw 0), .int (fw 1), .int (fw 2), .int (fw 3), .int (fw 4), .int (fw 5), .int (fw 6)])), (Ab, .inr (1, [.int (fx 0), .int (fx 1), .int (fx 2), .int (fx 3), .int (fx 4), .int (fx 5), .int (fx 6)])), (Ad, .inr (1, [.int (fy 0), .int (fy 1), .int (fy 2), .int (fy 3), .int (fy 4), .int (fy 5), .int (fy 6)])), (M, .inr (2, [.int (fo 0), .int (fo 1), .int (fo 2), .int (fo 3), .int (fo 4), .int (fo 5), .ref Bc, .ref Bu, .ref Bp, .ref Bl])), (Bc, .inl (g 0, 5, .inl fgc)), (Bu, .inl (g 0, 15, .inl fgu)), (Bp, .inl (g 0, 15, .inl fgp)), (Bl, .inl (g 2, 3, .inr (.inr (.inr (.inr (rf3 Ba Bb Bd)))))), (Ba, .inr (1, [.int (fr 0), .int (fr 1), .int (fr 2), .int (fr 3), .int (fr 4), .int (fr 5), .int (fr 6)])), (Bb, .inr (1, [.int (fs 0), .int (fs 1), .int (fs 2), .int (fs 3), .int (fs 4), .int (fs 5), .int (fs 6)])), (Bd, .inr (1, [.int (ft 0), .int (ft 1), .int (ft 2), .int (ft 3), .int (ft 4), .int (ft 5), .int (ft 6)]))] H := ⟨hP2, hD2⟩
  have hS := hS2; clear hP2 hD2 hS2; have hP := hPD.1; have hD := hPD.2; clear hPD
  refine lv_aload_n hx hb dX2_copy_40 rfl (lv_at hl 0 rfl) ?_
  refine lv_aload_n hx hb dX2_copy_41 rfl (lv_at hl 1 rfl) ?_
  refine va_get (D := D) (ci := 2) (v := .int (fo 5)) (C := RX2) (T := TX2) (N := 10) hx hb hts iX2 hown hK hP 8 rfl rfl 5 (by decide) f44 (fun _ h9 => h9) rfl dX2_copy_42 ?_
  refine va_put (D := D) (ci := 2) (v := .int (fo 5)) (ty := .int) (C := RX2) (T := TX2) (N := 10) hx hb hts iX2 tyX2 tyX2_ok nmX2 hown hK hP hD hS 0 rfl rfl 5 (by decide) f44 (fun _ h9 => h9) rfl (by decide +kernel) (rfl) (rfl) (Nat.le_of_ble_eq_true rfl) dX2_copy_45 (fun H locs hP2 hD2 hS2 => ?_)
  clear hP hD hS
  have hPD : PD D A [(L, .inr (2, [.int (fo 0), .int (fo 1), .int (fo 2), .int (fo 3), .int (fo 4), .int (fo 5), .ref Ac, .ref Au, .ref Ap, .ref Al])), (Ac, .inl (g 0, 5, .inl fc)), (Au, .inl (g 0, 15, .inl fu)), (Ap, .inl (g 0, 15, .inl fp)), (Al, .inl (g 2, 3, .inr (.inr (.inr (.inr (rf3 Aa Ab Ad)))))), (Aa, .inr (1, [.int (fw 0), .int (fw 1), .int (fw 2), .int (fw 3), .int (fw 4), .int (fw 5), .int (fw 6)])), (Ab, .inr (1, [.int (fx 0), .int (fx 1), .int (fx 2), .int (fx 3), .int (fx 4), .int (fx 5), .int (fx 6)])), (Ad, .inr (1, [.int (fy 0), .int (fy 1), .int (fy 2), .int (fy 3), .int (fy 4), .int (fy 5), .int (fy 6)])), (M, .inr (2, [.int (fo 0), .int (fo 1), .int (fo 2), .int (fo 3), .int (fo 4), .int (fo 5), .ref Bc, .ref Bu, .ref Bp, .ref Bl])), (Bc, .inl (g 0, 5, .inl fgc)), (Bu, .inl (g 0, 15, .inl fgu)), (Bp, .inl (g 0, 15, .inl fgp)), (Bl, .inl (g 2, 3, .inr (.inr (.inr (.inr (rf3 Ba Bb Bd)))))), (Ba, .inr (1, [.int (fr 0), .int (fr 1), .int (fr 2), .int (fr 3), .int (fr 4), .int (fr 5), .int (fr 6)])), (Bb, .inr (1, [.int (fs 0), .int (fs 1), .int (fs 2), .int (fs 3), .int (fs 4), .int (fs 5), .int (fs 6)])), (Bd, .inr (1, [.int (ft 0), .int (ft 1), .int (ft 2), .int (ft 3), .int (ft 4), .int (ft 5), .int (ft 6)]))] H := ⟨hP2, hD2⟩
  have hS := hS2; clear hP2 hD2 hS2; have hP := hPD.1; have hD := hPD.2; clear hPD
  refine lv_aload_n hx hb dX2_copy_48 rfl (lv_at hl 1 rfl) ?_
  refine va_get (D := D) (ci := 2) (v := .ref Bc) (C := RX2) (T := TX2) (N := 10) hx hb hts iX2 hown hK hP 8 rfl rfl 6 (by decide) f9 (fun _ h9 => h9) rfl dX2_copy_49 ?_
  refine lv_iconst (v := 0) hx hb dX2_copy_52 (by decide) ?_
  refine lv_aload_n hx hb dX2_copy_53 rfl (lv_at hl 0 rfl) ?_
  refine va_get (D := D) (ci := 2) (v := .ref Ac) (C := RX2) (T := TX2) (N := 10) hx hb hts iX2 hown hK hP 0 rfl rfl 6 (by decide) f9 (fun _ h9 => h9) rfl dX2_copy_54 ?_
  refine lv_iconst (v := 0) hx hb dX2_copy_57 (by decide) ?_
  refine lv_iconst (v := 5) hx hb dX2_copy_58 (by decide) ?_
  refine va_copyi hx hb (hml.trans hl.1.symm) hown acl acn acs aci hK hP hD hS 9 1 0 0 rfl rfl rfl rfl rfl (by decide) (by decide) (by decide) (by decide) (by decide) (fun _ _ => rfl) (Nat.le_of_ble_eq_true rfl) (Nat.le_of_ble_eq_true rfl) dX2_copy_59 (fun H locs hP2 hD2 hS2 => ?_)
  clear hP hD hS
  have hPD : PD D A [(L, .inr (2, [.int (fo 0), .int (fo 1), .int (fo 2), .int (fo 3), .int (fo 4), .int (fo 5), .ref Ac, .ref Au, .ref Ap, .ref Al])), (Ac, .inl (g 0, 5, .inl (va_cpy fgc fc 0 0 5))), (Au, .inl (g 0, 15, .inl fu)), (Ap, .inl (g 0, 15, .inl fp)), (Al, .inl (g 2, 3, .inr (.inr (.inr (.inr (rf3 Aa Ab Ad)))))), (Aa, .inr (1, [.int (fw 0), .int (fw 1), .int (fw 2), .int (fw 3), .int (fw 4), .int (fw 5), .int (fw 6)])), (Ab, .inr (1, [.int (fx 0), .int (fx 1), .int (fx 2), .int (fx 3), .int (fx 4), .int (fx 5), .int (fx 6)])), (Ad, .inr (1, [.int (fy 0), .int (fy 1), .int (fy 2), .int (fy 3), .int (fy 4), .int (fy 5), .int (fy 6)])), (M, .inr (2, [.int (fo 0), .int (fo 1), .int (fo 2), .int (fo 3), .int (fo 4), .int (fo 5), .ref Bc, .ref Bu, .ref Bp, .ref Bl])), (Bc, .inl (g 0, 5, .inl fgc)), (Bu, .inl (g 0, 15, .inl fgu)), (Bp, .inl (g 0, 15, .inl fgp)), (Bl, .inl (g 2, 3, .inr (.inr (.inr (.inr (rf3 Ba Bb Bd)))))), (Ba, .inr (1, [.int (fr 0), .int (fr 1), .int (fr 2), .int (fr 3), .int (fr 4), .int (fr 5), .int (fr 6)])), (Bb, .inr (1, [.int (fs 0), .int (fs 1), .int (fs 2), .int (fs 3), .int (fs 4), .int (fs 5), .int (fs 6)])), (Bd, .inr (1, [.int (ft 0), .int (ft 1), .int (ft 2), .int (ft 3), .int (ft 4), .int (ft 5), .int (ft 6)]))] H := ⟨hP2, hD2⟩
  have hS := hS2; clear hP2 hD2 hS2; have hP := hPD.1; have hD := hPD.2; clear hPD
  have hF_1 : okF (va_cpy fgc fc 0 0 5) := okF_cpy (h1) (h0)
  generalize va_cpy fgc fc 0 0 5 = F_1 at hP hD hF_1
  refine lv_aload_n hx hb dX2_copy_62 rfl (lv_at hl 1 rfl) ?_
  refine va_get (D := D) (ci := 2) (v := .ref Bu) (C := RX2) (T := TX2) (N := 10) hx hb hts iX2 hown hK hP 8 rfl rfl 7 (by decide) f15 (fun _ h9 => h9) rfl dX2_copy_63 ?_
  refine lv_iconst (v := 0) hx hb dX2_copy_66 (by decide) ?_
  refine lv_aload_n hx hb dX2_copy_67 rfl (lv_at hl 0 rfl) ?_
  refine va_get (D := D) (ci := 2) (v := .ref Au) (C := RX2) (T := TX2) (N := 10) hx hb hts iX2 hown hK hP 0 rfl rfl 7 (by decide) f15 (fun _ h9 => h9) rfl dX2_copy_68 ?_
  refine lv_iconst (v := 0) hx hb dX2_copy_71 (by decide) ?_
  refine lv_bipush (v := 15) hx hb dX2_copy_72 (by decide) ?_
  refine va_copyi hx hb (hml.trans hl.1.symm) hown acl acn acs aci hK hP hD hS 10 2 0 0 rfl rfl rfl rfl rfl (by decide) (by decide) (by decide) (by decide) (by decide) (fun _ _ => rfl) (Nat.le_of_ble_eq_true rfl) (Nat.le_of_ble_eq_true rfl) dX2_copy_74 (fun H locs hP2 hD2 hS2 => ?_)
  clear hP hD hS
  have hPD : PD D A [(L, .inr (2, [.int (fo 0), .int (fo 1), .int (fo 2), .int (fo 3), .int (fo 4), .int (fo 5), .ref Ac, .ref Au, .ref Ap, .ref Al])), (Ac, .inl (g 0, 5, .inl F_1)), (Au, .inl (g 0, 15, .inl (va_cpy fgu fu 0 0 15))), (Ap, .inl (g 0, 15, .inl fp)), (Al, .inl (g 2, 3, .inr (.inr (.inr (.inr (rf3 Aa Ab Ad)))))), (Aa, .inr (1, [.int (fw 0), .int (fw 1), .int (fw 2), .int (fw 3), .int (fw 4), .int (fw 5), .int (fw 6)])), (Ab, .inr (1, [.int (fx 0), .int (fx 1), .int (fx 2), .int (fx 3), .int (fx 4), .int (fx 5), .int (fx 6)])), (Ad, .inr (1, [.int (fy 0), .int (fy 1), .int (fy 2), .int (fy 3), .int (fy 4), .int (fy 5), .int (fy 6)])), (M, .inr (2, [.int (fo 0), .int (fo 1), .int (fo 2), .int (fo 3), .int (fo 4), .int (fo 5), .ref Bc, .ref Bu, .ref Bp, .ref Bl])), (Bc, .inl (g 0, 5, .inl fgc)), (Bu, .inl (g 0, 15, .inl fgu)), (Bp, .inl (g 0, 15, .inl fgp)), (Bl, .inl (g 2, 3, .inr (.inr (.inr (.inr (rf3 Ba Bb Bd)))))), (Ba, .inr (1, [.int (fr 0), .int (fr 1), .int (fr 2), .int (fr 3), .int (fr 4), .int (fr 5), .int (fr 6)])), (Bb, .inr (1, [.int (fs 0), .int (fs 1), .int (fs 2), .int (fs 3), .int (fs 4), .int (fs 5), .int (fs 6)])), (Bd, .inr (1, [.int (ft 0), .int (ft 1), .int (ft 2), .int (ft 3), .int (ft 4), .int (ft 5), .int (ft 6)]))] H := ⟨hP2, hD2⟩
  have hS := hS2; clear hP2 hD2 hS2; have hP := hPD.1; have hD := hPD.2; clear hPD
  generalize va_cpy fgu fu 0 0 15 = F_2 at hP hD
  refine lv_aload_n hx hb dX2_copy_77 rfl (lv_at hl 1 rfl) ?_
  refine va_get (D := D) (ci := 2) (v := .ref Bp) (C := RX2) (T := TX2) (N := 10) hx hb hts iX2 hown hK hP 8 rfl rfl 8 (by decide) f18 (fun _ h9 => h9) rfl dX2_copy_78 ?_
  refine lv_iconst (v := 0) hx hb dX2_copy_81 (by decide) ?_
  refine lv_aload_n hx hb dX2_copy_82 rfl (lv_at hl 0 rfl) ?_
  refine va_get (D := D) (ci := 2) (v := .ref Ap) (C := RX2) (T := TX2) (N := 10) hx hb hts iX2 hown hK hP 0 rfl rfl 8 (by decide) f18 (fun _ h9 => h9) rfl dX2_copy_83 ?_
  refine lv_iconst (v := 0) hx hb dX2_copy_86 (by decide) ?_
  refine lv_bipush (v := 15) hx hb dX2_copy_87 (by decide) ?_
  refine va_copyi hx hb (hml.trans hl.1.symm) hown acl acn acs aci hK hP hD hS 11 3 0 0 rfl rfl rfl rfl rfl (by decide) (by decide) (by decide) (by decide) (by decide) (fun _ _ => rfl) (Nat.le_of_ble_eq_true rfl) (Nat.le_of_ble_eq_true rfl) dX2_copy_89 (fun H locs hP2 hD2 hS2 => ?_)
  clear hP hD hS
  have hPD : PD D A [(L, .inr (2, [.int (fo 0), .int (fo 1), .int (fo 2), .int (fo 3), .int (fo 4), .int (fo 5), .ref Ac, .ref Au, .ref Ap, .ref Al])), (Ac, .inl (g 0, 5, .inl F_1)), (Au, .inl (g 0, 15, .inl F_2)), (Ap, .inl (g 0, 15, .inl (va_cpy fgp fp 0 0 15))), (Al, .inl (g 2, 3, .inr (.inr (.inr (.inr (rf3 Aa Ab Ad)))))), (Aa, .inr (1, [.int (fw 0), .int (fw 1), .int (fw 2), .int (fw 3), .int (fw 4), .int (fw 5), .int (fw 6)])), (Ab, .inr (1, [.int (fx 0), .int (fx 1), .int (fx 2), .int (fx 3), .int (fx 4), .int (fx 5), .int (fx 6)])), (Ad, .inr (1, [.int (fy 0), .int (fy 1), .int (fy 2), .int (fy 3), .int (fy 4), .int (fy 5), .int (fy 6)])), (M, .inr (2, [.int (fo 0), .int (fo 1), .int (fo 2), .int (fo 3), .int (fo 4), .int (fo 5), .ref Bc, .ref Bu, .ref Bp, .ref Bl])), (Bc, .inl (g 0, 5, .inl fgc)), (Bu, .inl (g 0, 15, .inl fgu)), (Bp, .inl (g 0, 15, .inl fgp)), (Bl, .inl (g 2, 3, .inr (.inr (.inr (.inr (rf3 Ba Bb Bd)))))), (Ba, .inr (1, [.int (fr 0), .int (fr 1), .int (fr 2), .int (fr 3), .int (fr 4), .int (fr 5), .int (fr 6)])), (Bb, .inr (1, [.int (fs 0), .int (fs 1), .int (fs 2), .int (fs 3), .int (fs 4), .int (fs 5), .int (fs 6)])), (Bd, .inr (1, [.int (ft 0), .int (ft 1), .int (ft 2), .int (ft 3), .int (ft 4), .int (ft 5), .int (ft 6)]))] H := ⟨hP2, hD2⟩
  have hS := hS2; clear hP2 hD2 hS2; have hP := hPD.1; have hD := hPD.2; clear hPD
  generalize va_cpy fgp fp 0 0 15 = F_3 at hP hD
  refine lv_iconst (v := 0) hx hb dX2_copy_92 (by decide) ?_
  refine lv_istore_n (lv' := [(2, .int 0), (0, .ref L), (1, .ref M)]) hx hb dX2_copy_93 rfl hl (by decide) rfl (fun ls hl => ?_)
  have loop_23 : ∀ (Nloop_23 : Nat) (G_5 : Nat → Int32) (i_6 : Nat) (G_14 : Nat → Int32) (G_15 : Nat → Int32) (hG_5p3 : lz (G_5 3)) (hG_14p3 : lz (G_14 3)) (hG_15p3 : lz (G_15 3)) (hbi_6 : i_6 ≤ 3) (hmloop_23 : 3 - i_6 < Nloop_23) (H : Heap) (locs : List Loc) (ls : Array Slot), va_P D vwCl [(L, .inr (2, [.int (fo 0), .int (fo 1), .int (fo 2), .int (fo 3), .int (fo 4), .int (fo 5), .ref Ac, .ref Au, .ref Ap, .ref Al])), (Ac, .inl (g 0, 5, .inl F_1)), (Au, .inl (g 0, 15, .inl F_2)), (Ap, .inl (g 0, 15, .inl F_3)), (Al, .inl (g 2, 3, .inr (.inr (.inr (.inr (rf3 Aa Ab Ad)))))), (Aa, .inr (1, [.int (G_5 0), .int (G_5 1), .int (G_5 2), .int (G_5 3), .int (G_5 4), .int (G_5 5), .int (G_5 6)])), (Ab, .inr (1, [.int (G_14 0), .int (G_14 1), .int (G_14 2), .int (G_14 3), .int (G_14 4), .int (G_14 5), .int (G_14 6)])), (Ad, .inr (1, [.int (G_15 0), .int (G_15 1), .int (G_15 2), .int (G_15 3), .int (G_15 4), .int (G_15 5), .int (G_15 6)])), (M, .inr (2, [.int (fo 0), .int (fo 1), .int (fo 2), .int (fo 3), .int (fo 4), .int (fo 5), .ref Bc, .ref Bu, .ref Bp, .ref Bl])), (Bc, .inl (g 0, 5, .inl fgc)), (Bu, .inl (g 0, 15, .inl fgu)), (Bp, .inl (g 0, 15, .inl fgp)), (Bl, .inl (g 2, 3, .inr (.inr (.inr (.inr (rf3 Ba Bb Bd)))))), (Ba, .inr (1, [.int (fr 0), .int (fr 1), .int (fr 2), .int (fr 3), .int (fr 4), .int (fr 5), .int (fr 6)])), (Bb, .inr (1, [.int (fs 0), .int (fs 1), .int (fs 2), .int (fs 3), .int (fs 4), .int (fs 5), .int (fs 6)])), (Bd, .inr (1, [.int (ft 0), .int (ft 1), .int (ft 2), .int (ft 3), .int (ft 4), .int (ft 5), .int (ft 6)]))] H → va_D A [(L, .inr (2, [.int (fo 0), .int (fo 1), .int (fo 2), .int (fo 3), .int (fo 4), .int (fo 5), .ref Ac, .ref Au, .ref Ap, .ref Al])), (Ac, .inl (g 0, 5, .inl F_1)), (Au, .inl (g 0, 15, .inl F_2)), (Ap, .inl (g 0, 15, .inl F_3)), (Al, .inl (g 2, 3, .inr (.inr (.inr (.inr (rf3 Aa Ab Ad)))))), (Aa, .inr (1, [.int (G_5 0), .int (G_5 1), .int (G_5 2), .int (G_5 3), .int (G_5 4), .int (G_5 5), .int (G_5 6)])), (Ab, .inr (1, [.int (G_14 0), .int (G_14 1), .int (G_14 2), .int (G_14 3), .int (G_14 4), .int (G_14 5), .int (G_14 6)])), (Ad, .inr (1, [.int (G_15 0), .int (G_15 1), .int (G_15 2), .int (G_15 3), .int (G_15 4), .int (G_15 5), .int (G_15 6)])), (M, .inr (2, [.int (fo 0), .int (fo 1), .int (fo 2), .int (fo 3), .int (fo 4), .int (fo 5), .ref Bc, .ref Bu, .ref Bp, .ref Bl])), (Bc, .inl (g 0, 5, .inl fgc)), (Bu, .inl (g 0, 15, .inl fgu)), (Bp, .inl (g 0, 15, .inl fgp)), (Bl, .inl (g 2, 3, .inr (.inr (.inr (.inr (rf3 Ba Bb Bd)))))), (Ba, .inr (1, [.int (fr 0), .int (fr 1), .int (fr 2), .int (fr 3), .int (fr 4), .int (fr 5), .int (fr 6)])), (Bb, .inr (1, [.int (fs 0), .int (fs 1), .int (fs 2), .int (fs 3), .int (fs 4), .int (fs 5), .int (fs 6)])), (Bd, .inr (1, [.int (ft 0), .int (ft 1), .int (ft 2), .int (ft 3), .int (ft 4), .int (ft 5), .int (ft 6)]))] → va_S A s.heap H locs → lv_has ls 3 [(2, .int (nI i_6)), (0, .ref L), (1, .ref M)] → W p l e (headSpec wsX2_copy ({ frames := 1, cells := 0, slots := 0, locals := 40 })).room s m ([.ref L, .ref M] : List Value).toArray below meth c H locs 0 0 Q (F0 m 94 ls []) := by
    clear hP hD hS hl
    intro Nloop_23
    induction Nloop_23 with
    | zero => intro G_5 i_6 G_14 G_15 hG_5p3 hG_14p3 hG_15p3 hbi_6 hm9; exact absurd hm9 (Nat.not_lt_zero _)
    | succ Nloop_23 loop_23_ih =>
      intro G_5 i_6 G_14 G_15 hG_5p3 hG_14p3 hG_15p3 hbi_6 hmloop_23 H locs ls hP hD hS hl
      refine lv_iload_n hx hb dX2_copy_94 rfl (lv_at hl 0 rfl) ?_
      refine lv_iconst (v := 3) hx hb dX2_copy_95 (by decide) ?_
      refine lv_icmp_ge (tgt := 120) hx hb dX2_copy_96 (by decide) (fun cb_24 => ?_) (fun cb_24 => ?_)
      · skip
        have cn_25 : 3 ≤ i_6 := (nI_leI (show 3 < 2 ^ 31 by omega) (show i_6 < 2 ^ 31 by omega)).mp cb_24
        have hP9 := hP; have hD9 := hD
        subst hQ
        refine W.widen (k := 0) (n := 0) (Nat.le_of_ble_eq_true rfl) (Nat.le_of_ble_eq_true rfl) ?_
        exact W.vret hx hb hr (fun tS htS _ => ⟨⟨_, rfl, ⟨(lf2 [F_1, F_2, F_3, G_5, G_14, G_15]), rfl, (hF_1), (hG_5p3), (hG_14p3), (hG_15p3)⟩, by rw [htS]; exact hP9, hD9⟩, hS.F htS⟩) hS.2.2 dX2_copy_120
      · skip
        have cn_26 : i_6 < 3 := Nat.lt_of_not_le (fun q9 => cb_24 ((nI_leI (show 3 < 2 ^ 31 by omega) (show i_6 < 2 ^ 31 by omega)).mpr q9))
        refine lv_aload_n hx hb dX2_copy_99 rfl (lv_at hl 1 rfl) ?_
        refine va_get (D := D) (ci := 2) (v := .ref Al) (C := RX2) (T := TX2) (N := 10) hx hb hts iX2 hown hK hP 0 rfl rfl 9 (by decide) f23 (fun _ h9 => h9) rfl dX2_copy_100 ?_
        refine lv_iload_n hx hb dX2_copy_103 rfl (lv_at hl 0 rfl) ?_
        have hPq_27 := hP; have hDq_27 := hD; have hSq_27 := hS; have hlq_27 := hl; clear hP hD hS hl
        rcases (show i_6 = 0 ∨ i_6 = 1 ∨ i_6 = 2 by omega) with rfl | rfl | rfl
        · skip
          have hP := hPq_27; have hD := hDq_27; have hS := hSq_27; have hl := hlq_27; clear hPq_27 hDq_27 hSq_27 hlq_27
          refine va_aldq (C := "HopCredits$Lane") hx hb hK hP 4 2 rfl rfl (by unfold vp_in; decide) dX2_copy_104 ?_
          refine lv_eqv (v2 := .ref Aa) rfl ?_
          refine lv_aload_n hx hb dX2_copy_105 rfl (lv_at hl 2 rfl) ?_
          refine va_get (D := D) (ci := 2) (v := .ref Bl) (C := RX2) (T := TX2) (N := 10) hx hb hts iX2 hown hK hP 8 rfl rfl 9 (by decide) f23 (fun _ h9 => h9) rfl dX2_copy_106 ?_
          refine lv_iload_n hx hb dX2_copy_109 rfl (lv_at hl 0 rfl) ?_
          refine va_aldq (C := "HopCredits$Lane") hx hb hK hP 12 2 rfl rfl (by unfold vp_in; decide) dX2_copy_110 ?_
          refine lv_eqv (v2 := .ref Ba) rfl ?_
          refine ky_Vv (As := [.ref Ba]) (rest := []) ⟨hx, hb, hml, hown, hts⟩ ⟨hK, hN⟩ hZ hP hD hS hA [5, 13] [0, 1, 2, 3, 4, 6, 7, 8, 9, 10, 11, 12, 14, 15] (wc := [(Aa, .inr (1, [.int (G_5 0), .int (G_5 1), .int (G_5 2), .int (G_5 3), .int (G_5 4), .int (G_5 5), .int (G_5 6)])), (Ba, .inr (1, [.int (fr 0), .int (fr 1), .int (fr 2), .int (fr 3), .int (fr 4), .int (fr 5), .int (fr 6)]))]) (wr := [(L, .inr (2, [.int (fo 0), .int (fo 1), .int (fo 2), .int (fo 3), .int (fo 4), .int (fo 5), .ref Ac, .ref Au, .ref Ap, .ref Al])), (Ac, .inl (g 0, 5, .inl F_1)), (Au, .inl (g 0, 15, .inl F_2)), (Ap, .inl (g 0, 15, .inl F_3)), (Al, .inl (g 2, 3, .inr (.inr (.inr (.inr (rf3 Aa Ab Ad)))))), (Ab, .inr (1, [.int (G_14 0), .int (G_14 1), .int (G_14 2), .int (G_14 3), .int (G_14 4), .int (G_14 5), .int (G_14 6)])), (Ad, .inr (1, [.int (G_15 0), .int (G_15 1), .int (G_15 2), .int (G_15 3), .int (G_15 4), .int (G_15 5), .int (G_15 6)])), (M, .inr (2, [.int (fo 0), .int (fo 1), .int (fo 2), .int (fo 3), .int (fo 4), .int (fo 5), .ref Bc, .ref Bu, .ref Bp, .ref Bl])), (Bc, .inl (g 0, 5, .inl fgc)), (Bu, .inl (g 0, 15, .inl fgu)), (Bp, .inl (g 0, 15, .inl fgp)), (Bl, .inl (g 2, 3, .inr (.inr (.inr (.inr (rf3 Ba Bb Bd)))))), (Bb, .inr (1, [.int (fs 0), .int (fs 1), .int (fs 2), .int (fs 3), .int (fs 4), .int (fs 5), .int (fs 6)])), (Bd, .inr (1, [.int (ft 0), .int (ft 1), .int (ft 2), .int (ft 3), .int (ft 4), .int (ft 5), .int (ft 6)]))]) rfl rfl (by decide +kernel) (by decide +kernel) (by decide +kernel) (k_X1_copy l D g H.size Aa Ba G_5 fr) (cwV 1 hts gX2_copy_X1_copy rfl rfl rfl (by decide +kernel) ⟨(Nat.le_of_ble_eq_true rfl), (Nat.le_of_ble_eq_true rfl)⟩) 5 1 rfl rfl rfl rfl hl.1 rfl (Nat.le_of_ble_eq_true rfl) dX2_copy_111 ⟨(Nat.le_of_ble_eq_true rfl), (Nat.le_of_ble_eq_true rfl)⟩ (fun u H locs hw hP2 hD2 hS2 => ?_)
          clear hP hD hS
          obtain rfl := hw
          have hPD : PD D A [(L, .inr (2, [.int (fo 0), .int (fo 1), .int (fo 2), .int (fo 3), .int (fo 4), .int (fo 5), .ref Ac, .ref Au, .ref Ap, .ref Al])), (Ac, .inl (g 0, 5, .inl F_1)), (Au, .inl (g 0, 15, .inl F_2)), (Ap, .inl (g 0, 15, .inl F_3)), (Al, .inl (g 2, 3, .inr (.inr (.inr (.inr (rf3 Aa Ab Ad)))))), (Ab, .inr (1, [.int (G_14 0), .int (G_14 1), .int (G_14 2), .int (G_14 3), .int (G_14 4), .int (G_14 5), .int (G_14 6)])), (Ad, .inr (1, [.int (G_15 0), .int (G_15 1), .int (G_15 2), .int (G_15 3), .int (G_15 4), .int (G_15 5), .int (G_15 6)])), (M, .inr (2, [.int (fo 0), .int (fo 1), .int (fo 2), .int (fo 3), .int (fo 4), .int (fo 5), .ref Bc, .ref Bu, .ref Bp, .ref Bl])), (Bc, .inl (g 0, 5, .inl fgc)), (Bu, .inl (g 0, 15, .inl fgu)), (Bp, .inl (g 0, 15, .inl fgp)), (Bl, .inl (g 2, 3, .inr (.inr (.inr (.inr (rf3 Ba Bb Bd)))))), (Bb, .inr (1, [.int (fs 0), .int (fs 1), .int (fs 2), .int (fs 3), .int (fs 4), .int (fs 5), .int (fs 6)])), (Bd, .inr (1, [.int (ft 0), .int (ft 1), .int (ft 2), .int (ft 3), .int (ft 4), .int (ft 5), .int (ft 6)])), (Aa, .inr (1, [.int (fr 0), .int (fr 1), .int (fr 2), .int (fr 3), .int (fr 4), .int (fr 5), .int (fr 6)])), (Ba, .inr (1, [.int (fr 0), .int (fr 1), .int (fr 2), .int (fr 3), .int (fr 4), .int (fr 5), .int (fr 6)]))] H := ⟨hP2, hD2⟩
          have hS := hS2; clear hP2 hD2 hS2; have hP := hPD.1; have hD := hPD.2; clear hPD
          refine W.widen (k := 0) (n := 0) (Nat.le_of_ble_eq_true rfl) (Nat.le_of_ble_eq_true rfl) ?_
          refine lv_iinc (v := 1) (lv' := [(2, .int 1), (0, .ref L), (1, .ref M)]) hx hb dX2_copy_114 hl (k := 0) rfl (by decide) (by decide) rfl (fun ls hl => ?_)
          refine lv_goto (tgt := 94) hx hb dX2_copy_117 (by decide) ?_
          exact loop_23_ih fr 1 G_14 G_15 (h5) (hG_14p3) (hG_15p3) (show 1 ≤ 3 by omega) (show 3 - 1 < Nloop_23 by omega) _ _ _ (hP.sub [0, 1, 2, 3, 4, 14, 5, 6, 7, 8, 9, 10, 11, 15, 12, 13] rfl) (hD.sub [0, 1, 2, 3, 4, 14, 5, 6, 7, 8, 9, 10, 11, 15, 12, 13] (by decide +kernel) rfl) hS hl
        · skip
          have hP := hPq_27; have hD := hDq_27; have hS := hSq_27; have hl := hlq_27; clear hPq_27 hDq_27 hSq_27 hlq_27
          refine va_aldq (C := "HopCredits$Lane") hx hb hK hP 4 2 rfl rfl (by unfold vp_in; decide) dX2_copy_104 ?_
          refine lv_eqv (v2 := .ref Ab) rfl ?_
          refine lv_aload_n hx hb dX2_copy_105 rfl (lv_at hl 2 rfl) ?_
          refine va_get (D := D) (ci := 2) (v := .ref Bl) (C := RX2) (T := TX2) (N := 10) hx hb hts iX2 hown hK hP 8 rfl rfl 9 (by decide) f23 (fun _ h9 => h9) rfl dX2_copy_106 ?_
          refine lv_iload_n hx hb dX2_copy_109 rfl (lv_at hl 0 rfl) ?_
          refine va_aldq (C := "HopCredits$Lane") hx hb hK hP 12 2 rfl rfl (by unfold vp_in; decide) dX2_copy_110 ?_
          refine lv_eqv (v2 := .ref Bb) rfl ?_
          refine ky_Vv (As := [.ref Bb]) (rest := []) ⟨hx, hb, hml, hown, hts⟩ ⟨hK, hN⟩ hZ hP hD hS hA [6, 14] [0, 1, 2, 3, 4, 5, 7, 8, 9, 10, 11, 12, 13, 15] (wc := [(Ab, .inr (1, [.int (G_14 0), .int (G_14 1), .int (G_14 2), .int (G_14 3), .int (G_14 4), .int (G_14 5), .int (G_14 6)])), (Bb, .inr (1, [.int (fs 0), .int (fs 1), .int (fs 2), .int (fs 3), .int (fs 4), .int (fs 5), .int (fs 6)]))]) (wr := [(L, .inr (2, [.int (fo 0), .int (fo 1), .int (fo 2), .int (fo 3), .int (fo 4), .int (fo 5), .ref Ac, .ref Au, .ref Ap, .ref Al])), (Ac, .inl (g 0, 5, .inl F_1)), (Au, .inl (g 0, 15, .inl F_2)), (Ap, .inl (g 0, 15, .inl F_3)), (Al, .inl (g 2, 3, .inr (.inr (.inr (.inr (rf3 Aa Ab Ad)))))), (Aa, .inr (1, [.int (G_5 0), .int (G_5 1), .int (G_5 2), .int (G_5 3), .int (G_5 4), .int (G_5 5), .int (G_5 6)])), (Ad, .inr (1, [.int (G_15 0), .int (G_15 1), .int (G_15 2), .int (G_15 3), .int (G_15 4), .int (G_15 5), .int (G_15 6)])), (M, .inr (2, [.int (fo 0), .int (fo 1), .int (fo 2), .int (fo 3), .int (fo 4), .int (fo 5), .ref Bc, .ref Bu, .ref Bp, .ref Bl])), (Bc, .inl (g 0, 5, .inl fgc)), (Bu, .inl (g 0, 15, .inl fgu)), (Bp, .inl (g 0, 15, .inl fgp)), (Bl, .inl (g 2, 3, .inr (.inr (.inr (.inr (rf3 Ba Bb Bd)))))), (Ba, .inr (1, [.int (fr 0), .int (fr 1), .int (fr 2), .int (fr 3), .int (fr 4), .int (fr 5), .int (fr 6)])), (Bd, .inr (1, [.int (ft 0), .int (ft 1), .int (ft 2), .int (ft 3), .int (ft 4), .int (ft 5), .int (ft 6)]))]) rfl rfl (by decide +kernel) (by decide +kernel) (by decide +kernel) (k_X1_copy l D g H.size Ab Bb G_14 fs) (cwV 1 hts gX2_copy_X1_copy rfl rfl rfl (by decide +kernel) ⟨(Nat.le_of_ble_eq_true rfl), (Nat.le_of_ble_eq_true rfl)⟩) 6 1 rfl rfl rfl rfl hl.1 rfl (Nat.le_of_ble_eq_true rfl) dX2_copy_111 ⟨(Nat.le_of_ble_eq_true rfl), (Nat.le_of_ble_eq_true rfl)⟩ (fun u H locs hw hP2 hD2 hS2 => ?_)
          clear hP hD hS
          obtain rfl := hw
          have hPD : PD D A [(L, .inr (2, [.int (fo 0), .int (fo 1), .int (fo 2), .int (fo 3), .int (fo 4), .int (fo 5), .ref Ac, .ref Au, .ref Ap, .ref Al])), (Ac, .inl (g 0, 5, .inl F_1)), (Au, .inl (g 0, 15, .inl F_2)), (Ap, .inl (g 0, 15, .inl F_3)), (Al, .inl (g 2, 3, .inr (.inr (.inr (.inr (rf3 Aa Ab Ad)))))), (Aa, .inr (1, [.int (G_5 0), .int (G_5 1), .int (G_5 2), .int (G_5 3), .int (G_5 4), .int (G_5 5), .int (G_5 6)])), (Ad, .inr (1, [.int (G_15 0), .int (G_15 1), .int (G_15 2), .int (G_15 3), .int (G_15 4), .int (G_15 5), .int (G_15 6)])), (M, .inr (2, [.int (fo 0), .int (fo 1), .int (fo 2), .int (fo 3), .int (fo 4), .int (fo 5), .ref Bc, .ref Bu, .ref Bp, .ref Bl])), (Bc, .inl (g 0, 5, .inl fgc)), (Bu, .inl (g 0, 15, .inl fgu)), (Bp, .inl (g 0, 15, .inl fgp)), (Bl, .inl (g 2, 3, .inr (.inr (.inr (.inr (rf3 Ba Bb Bd)))))), (Ba, .inr (1, [.int (fr 0), .int (fr 1), .int (fr 2), .int (fr 3), .int (fr 4), .int (fr 5), .int (fr 6)])), (Bd, .inr (1, [.int (ft 0), .int (ft 1), .int (ft 2), .int (ft 3), .int (ft 4), .int (ft 5), .int (ft 6)])), (Ab, .inr (1, [.int (fs 0), .int (fs 1), .int (fs 2), .int (fs 3), .int (fs 4), .int (fs 5), .int (fs 6)])), (Bb, .inr (1, [.int (fs 0), .int (fs 1), .int (fs 2), .int (fs 3), .int (fs 4), .int (fs 5), .int (fs 6)]))] H := ⟨hP2, hD2⟩
          have hS := hS2; clear hP2 hD2 hS2; have hP := hPD.1; have hD := hPD.2; clear hPD
          refine W.widen (k := 0) (n := 0) (Nat.le_of_ble_eq_true rfl) (Nat.le_of_ble_eq_true rfl) ?_
          refine lv_iinc (v := 2) (lv' := [(2, .int 2), (0, .ref L), (1, .ref M)]) hx hb dX2_copy_114 hl (k := 0) rfl (by decide) (by decide) rfl (fun ls hl => ?_)
          refine lv_goto (tgt := 94) hx hb dX2_copy_117 (by decide) ?_
          exact loop_23_ih G_5 2 fs G_15 (hG_5p3) (h6) (hG_15p3) (show 2 ≤ 3 by omega) (show 3 - 2 < Nloop_23 by omega) _ _ _ (hP.sub [0, 1, 2, 3, 4, 5, 14, 6, 7, 8, 9, 10, 11, 12, 15, 13] rfl) (hD.sub [0, 1, 2, 3, 4, 5, 14, 6, 7, 8, 9, 10, 11, 12, 15, 13] (by decide +kernel) rfl) hS hl
        · skip
          have hP := hPq_27; have hD := hDq_27; have hS := hSq_27; have hl := hlq_27; clear hPq_27 hDq_27 hSq_27 hlq_27
          refine va_aldq (C := "HopCredits$Lane") hx hb hK hP 4 2 rfl rfl (by unfold vp_in; decide) dX2_copy_104 ?_
          refine lv_eqv (v2 := .ref Ad) rfl ?_
          refine lv_aload_n hx hb dX2_copy_105 rfl (lv_at hl 2 rfl) ?_
          refine va_get (D := D) (ci := 2) (v := .ref Bl) (C := RX2) (T := TX2) (N := 10) hx hb hts iX2 hown hK hP 8 rfl rfl 9 (by decide) f23 (fun _ h9 => h9) rfl dX2_copy_106 ?_
          refine lv_iload_n hx hb dX2_copy_109 rfl (lv_at hl 0 rfl) ?_
          refine va_aldq (C := "HopCredits$Lane") hx hb hK hP 12 2 rfl rfl (by unfold vp_in; decide) dX2_copy_110 ?_
          refine lv_eqv (v2 := .ref Bd) rfl ?_
          refine ky_Vv (As := [.ref Bd]) (rest := []) ⟨hx, hb, hml, hown, hts⟩ ⟨hK, hN⟩ hZ hP hD hS hA [7, 15] [0, 1, 2, 3, 4, 5, 6, 8, 9, 10, 11, 12, 13, 14] (wc := [(Ad, .inr (1, [.int (G_15 0), .int (G_15 1), .int (G_15 2), .int (G_15 3), .int (G_15 4), .int (G_15 5), .int (G_15 6)])), (Bd, .inr (1, [.int (ft 0), .int (ft 1), .int (ft 2), .int (ft 3), .int (ft 4), .int (ft 5), .int (ft 6)]))]) (wr := [(L, .inr (2, [.int (fo 0), .int (fo 1), .int (fo 2), .int (fo 3), .int (fo 4), .int (fo 5), .ref Ac, .ref Au, .ref Ap, .ref Al])), (Ac, .inl (g 0, 5, .inl F_1)), (Au, .inl (g 0, 15, .inl F_2)), (Ap, .inl (g 0, 15, .inl F_3)), (Al, .inl (g 2, 3, .inr (.inr (.inr (.inr (rf3 Aa Ab Ad)))))), (Aa, .inr (1, [.int (G_5 0), .int (G_5 1), .int (G_5 2), .int (G_5 3), .int (G_5 4), .int (G_5 5), .int (G_5 6)])), (Ab, .inr (1, [.int (G_14 0), .int (G_14 1), .int (G_14 2), .int (G_14 3), .int (G_14 4), .int (G_14 5), .int (G_14 6)])), (M, .inr (2, [.int (fo 0), .int (fo 1), .int (fo 2), .int (fo 3), .int (fo 4), .int (fo 5), .ref Bc, .ref Bu, .ref Bp, .ref Bl])), (Bc, .inl (g 0, 5, .inl fgc)), (Bu, .inl (g 0, 15, .inl fgu)), (Bp, .inl (g 0, 15, .inl fgp)), (Bl, .inl (g 2, 3, .inr (.inr (.inr (.inr (rf3 Ba Bb Bd)))))), (Ba, .inr (1, [.int (fr 0), .int (fr 1), .int (fr 2), .int (fr 3), .int (fr 4), .int (fr 5), .int (fr 6)])), (Bb, .inr (1, [.int (fs 0), .int (fs 1), .int (fs 2), .int (fs 3), .int (fs 4), .int (fs 5), .int (fs 6)]))]) rfl rfl (by decide +kernel) (by decide +kernel) (by decide +kernel) (k_X1_copy l D g H.size Ad Bd G_15 ft) (cwV 1 hts gX2_copy_X1_copy rfl rfl rfl (by decide +kernel) ⟨(Nat.le_of_ble_eq_true rfl), (Nat.le_of_ble_eq_true rfl)⟩) 7 1 rfl rfl rfl rfl hl.1 rfl (Nat.le_of_ble_eq_true rfl) dX2_copy_111 ⟨(Nat.le_of_ble_eq_true rfl), (Nat.le_of_ble_eq_true rfl)⟩ (fun u H locs hw hP2 hD2 hS2 => ?_)
          clear hP hD hS
          obtain rfl := hw
          have hPD : PD D A [(L, .inr (2, [.int (fo 0), .int (fo 1), .int (fo 2), .int (fo 3), .int (fo 4), .int (fo 5), .ref Ac, .ref Au, .ref Ap, .ref Al])), (Ac, .inl (g 0, 5, .inl F_1)), (Au, .inl (g 0, 15, .inl F_2)), (Ap, .inl (g 0, 15, .inl F_3)), (Al, .inl (g 2, 3, .inr (.inr (.inr (.inr (rf3 Aa Ab Ad)))))), (Aa, .inr (1, [.int (G_5 0), .int (G_5 1), .int (G_5 2), .int (G_5 3), .int (G_5 4), .int (G_5 5), .int (G_5 6)])), (Ab, .inr (1, [.int (G_14 0), .int (G_14 1), .int (G_14 2), .int (G_14 3), .int (G_14 4), .int (G_14 5), .int (G_14 6)])), (M, .inr (2, [.int (fo 0), .int (fo 1), .int (fo 2), .int (fo 3), .int (fo 4), .int (fo 5), .ref Bc, .ref Bu, .ref Bp, .ref Bl])), (Bc, .inl (g 0, 5, .inl fgc)), (Bu, .inl (g 0, 15, .inl fgu)), (Bp, .inl (g 0, 15, .inl fgp)), (Bl, .inl (g 2, 3, .inr (.inr (.inr (.inr (rf3 Ba Bb Bd)))))), (Ba, .inr (1, [.int (fr 0), .int (fr 1), .int (fr 2), .int (fr 3), .int (fr 4), .int (fr 5), .int (fr 6)])), (Bb, .inr (1, [.int (fs 0), .int (fs 1), .int (fs 2), .int (fs 3), .int (fs 4), .int (fs 5), .int (fs 6)])), (Ad, .inr (1, [.int (ft 0), .int (ft 1), .int (ft 2), .int (ft 3), .int (ft 4), .int (ft 5), .int (ft 6)])), (Bd, .inr (1, [.int (ft 0), .int (ft 1), .int (ft 2), .int (ft 3), .int (ft 4), .int (ft 5), .int (ft 6)]))] H := ⟨hP2, hD2⟩
          have hS := hS2; clear hP2 hD2 hS2; have hP := hPD.1; have hD := hPD.2; clear hPD
          refine W.widen (k := 0) (n := 0) (Nat.le_of_ble_eq_true rfl) (Nat.le_of_ble_eq_true rfl) ?_
          refine lv_iinc (v := 3) (lv' := [(2, .int 3), (0, .ref L), (1, .ref M)]) hx hb dX2_copy_114 hl (k := 0) rfl (by decide) (by decide) rfl (fun ls hl => ?_)
          refine lv_goto (tgt := 94) hx hb dX2_copy_117 (by decide) ?_
          exact loop_23_ih G_5 3 G_14 ft (hG_5p3) (hG_14p3) (h7) (show 3 ≤ 3 by omega) (show 3 - 3 < Nloop_23 by omega) _ _ _ (hP.sub [0, 1, 2, 3, 4, 5, 6, 14, 7, 8, 9, 10, 11, 12, 13, 15] rfl) (hD.sub [0, 1, 2, 3, 4, 5, 6, 14, 7, 8, 9, 10, 11, 12, 13, 15] (by decide +kernel) rfl) hS hl
  exact loop_23 _ fw 0 fx fy (h2) (h3) (h4) (show 0 ≤ 3 by omega) (Nat.lt_succ_self _) _ _ _ hP hD hS hl

set_option maxHeartbeats 4000000 in
set_option maxRecDepth 100000 in
theorem k_X2_cellsOn (l : Launch) (D : va_G) (g : Nat → ClassId) (sz : Nat) (L : Nat) (fv : Nat → Int32) (Ac : Nat) (Au : Nat) (Ap : Nat) (Al : Nat) (fc : Nat → Int32) : Met l yX2_cellsOn wsX2_cellsOn ({ frames := 0, cells := 0, slots := 0, locals := 0 }) (va_Pc [.ref L] (pre D g sz [(L, .inr (2, [.int (fv 0), .int (fv 1), .int (fv 2), .int (fv 3), .int (fv 4), .int (fv 5), .ref Ac, .ref Au, .ref Ap, .ref Al])), (Ac, .inl (g 0, 5, .inl fc))])) (va_Qi (fun (r : Int32) (u : va_W) => u = [(L, .inr (2, [.int (fv 0), .int (fv 1), .int (fv 2), .int (fv 3), .int (fv 4), .int (fv 5), .ref Ac, .ref Au, .ref Ap, .ref Al])), (Ac, .inl (g 0, 5, .inl fc))]) (wd D (va_A [(L, .inr (2, [.int (fv 0), .int (fv 1), .int (fv 2), .int (fv 3), .int (fv 4), .int (fv 5), .ref Ac, .ref Au, .ref Ap, .ref Al])), (Ac, .inl (g 0, 5, .inl fc))] sz)) (va_A [(L, .inr (2, [.int (fv 0), .int (fv 1), .int (fv 2), .int (fv 3), .int (fv 4), .int (fv 5), .ref Ac, .ref Au, .ref Ap, .ref Al])), (Ac, .inl (g 0, 5, .inl fc))] sz)) 0 0 (va_A [(L, .inr (2, [.int (fv 0), .int (fv 1), .int (fv 2), .int (fv 3), .int (fv 4), .int (fv 5), .ref Ac, .ref Au, .ref Ap, .ref Al])), (Ac, .inl (g 0, 5, .inl fc))] sz) := by
  refine Met.ofW (cc := cX2_cellsOn) (maxL := 3) (ret := (some .int)) (by decide) rfl ?_
  intro p e s m args below meth c s₁ B hml hv
  obtain ⟨rfl, hsz, hP, ⟨hK, hN⟩, hD0, hZ⟩ := hv
  have hx := B.exec
  have hb := B.bytes
  have hr := B.returns
  have hts := atoms_spec (ws := wsX2_cellsOn) B.pre
  have hown : s.vm.findClass RX2 = some m.cls := findClass_of_methodNamed B.named
  have hlocks := B.notSynchronized
  clear B
  subst hsz
  have hD := hD0.self (sz := s.heap.size)
  clear hD0
  generalize hAe : va_A [(L, .inr (2, [.int (fv 0), .int (fv 1), .int (fv 2), .int (fv 3), .int (fv 4), .int (fv 5), .ref Ac, .ref Au, .ref Ap, .ref Al])), (Ac, .inl (g 0, 5, .inl fc))] s.heap.size = A at hD hZ ⊢
  have hA : ∀ q : Nat, s.heap.size ≤ q → A q := fun q h => by rw [← hAe]; exact Or.inr h
  have hS : va_S A s.heap s.heap [] := va_S.rf
  have f9 := hts (.fieldLink RX2 9 "HopCredits$Link" "cellAt" "[I") (List.mem_of_getElem? (i := 1) rfl)
  have iX2 : ∀ w ∈ u_ws RX2 TX2 10, w ∈ wsX2_cellsOn := fun w h => List.mem_cons_of_mem _ (List.mem_append_right _ (h))
  have hl := lv_entry ([.ref L]) (n := 3) (Nat.le_of_ble_eq_true rfl)
  rw [lg_entry_eq]
  generalize (lg_sl ([.ref L]) ++ List.replicate (3 - (lg_sl ([.ref L])).length) Slot.unset).toArray = ls at hl ⊢
  have hl : lv_has ls 3 [(0, .ref L)] := hl
  generalize hQ : MQ below _ _ s _ _ _ = Q
  generalize hH : s.heap = H at hP ⊢
  have hS : va_S A s.heap H [] := by rw [← hH]; exact hS
  clear hH
  refine lv_iconst (v := 0) hx hb dX2_cellsOn_0 (by decide) ?_
  refine lv_istore_n (lv' := [(1, .int 0), (0, .ref L)]) hx hb dX2_cellsOn_1 rfl hl (by decide) rfl (fun ls hl => ?_)
  refine lv_iconst (v := 0) hx hb dX2_cellsOn_2 (by decide) ?_
  refine lv_istore_n (lv' := [(2, .int 0), (1, .int 0), (0, .ref L)]) hx hb dX2_cellsOn_3 rfl hl (by decide) rfl (fun ls hl => ?_)
  have loop_12 : ∀ (Nloop_12 : Nat) (i_4 : Nat) (i_5 : Nat) (hbi_4 : i_4 ≤ 5) (hmloop_12 : 5 - i_4 < Nloop_12) (H : Heap) (locs : List Loc) (ls : Array Slot), va_P D vwCl [(L, .inr (2, [.int (fv 0), .int (fv 1), .int (fv 2), .int (fv 3), .int (fv 4), .int (fv 5), .ref Ac, .ref Au, .ref Ap, .ref Al])), (Ac, .inl (g 0, 5, .inl fc))] H → va_D A [(L, .inr (2, [.int (fv 0), .int (fv 1), .int (fv 2), .int (fv 3), .int (fv 4), .int (fv 5), .ref Ac, .ref Au, .ref Ap, .ref Al])), (Ac, .inl (g 0, 5, .inl fc))] → va_S A s.heap H locs → lv_has ls 3 [(2, .int (nI i_4)), (1, .int (nI i_5)), (0, .ref L)] → W p l e (headSpec wsX2_cellsOn ({ frames := 0, cells := 0, slots := 0, locals := 0 })).room s m ([.ref L] : List Value).toArray below meth c H locs 0 0 Q (F0 m 4 ls []) := by
    clear hP hD hS hl
    intro Nloop_12
    induction Nloop_12 with
    | zero => intro i_4 i_5 hbi_4 hm9; exact absurd hm9 (Nat.not_lt_zero _)
    | succ Nloop_12 loop_12_ih =>
      intro i_4 i_5 hbi_4 hmloop_12 H locs ls hP hD hS hl
      refine lv_iload_n hx hb dX2_cellsOn_4 rfl (lv_at hl 0 rfl) ?_
      refine lv_iconst (v := 5) hx hb dX2_cellsOn_5 (by decide) ?_
      refine lv_icmp_ge (tgt := 28) hx hb dX2_cellsOn_6 (by decide) (fun cb_13 => ?_) (fun cb_13 => ?_)
      · skip
        have cn_14 : 5 ≤ i_4 := (nI_leI (show 5 < 2 ^ 31 by omega) (show i_4 < 2 ^ 31 by omega)).mp cb_13
        refine lv_iload_n hx hb dX2_cellsOn_28 rfl (lv_at hl 1 rfl) ?_
        have hP9 := hP; have hD9 := hD
        subst hQ
        refine W.widen (k := 0) (n := 0) (Nat.le_of_ble_eq_true rfl) (Nat.le_of_ble_eq_true rfl) ?_
        exact W.iret (v := (nI i_5)) hx hb hr (fun tS htS _ => ⟨⟨_, _, rfl, rfl, by rw [htS]; exact hP9, hD9⟩, hS.F htS⟩) hS.2.2 dX2_cellsOn_29
      · skip
        have cn_15 : i_4 < 5 := Nat.lt_of_not_le (fun q9 => cb_13 ((nI_leI (show 5 < 2 ^ 31 by omega) (show i_4 < 2 ^ 31 by omega)).mpr q9))
        refine lv_aload_n hx hb dX2_cellsOn_9 rfl (lv_at hl 2 rfl) ?_
        refine va_get (D := D) (ci := 2) (v := .ref Ac) (C := RX2) (T := TX2) (N := 10) hx hb hts iX2 hown hK hP 0 rfl rfl 6 (by decide) f9 (fun _ h9 => h9) rfl dX2_cellsOn_10 ?_
        refine lv_iload_n hx hb dX2_cellsOn_13 rfl (lv_at hl 0 rfl) ?_
        refine va_iald hx hb hK hP 1 0 rfl rfl (vp_in_nI (show i_4 < 5 by omega) (by decide)) dX2_cellsOn_14 ?_
        refine lv_eqi (y := (fc (i_4))) (congrArg fc (nI_clamp (show i_4 < 2 ^ 31 by omega))) ?_
        refine lv_topi (fun y_16 _ => ?_)
        refine lv_iconst (v := (-1)) hx hb dX2_cellsOn_15 (by decide) ?_
        refine lv_icmp_eq (tgt := 22) hx hb dX2_cellsOn_16 (by decide) (fun cb_17 => ?_) (fun cb_17 => ?_)
        · skip
          have hPq_18 := hP; have hDq_18 := hD; have hSq_18 := hS; have hlq_18 := hl; clear hP hD hS hl
          subst cb_17
          have hP := hPq_18; have hD := hDq_18; have hS := hSq_18; have hl := hlq_18; clear hPq_18 hDq_18 hSq_18 hlq_18
          refine lv_iinc (v := (nI (i_4 + 1))) (lv' := [(2, .int (nI (i_4 + 1))), (1, .int (nI i_5)), (0, .ref L)]) hx hb dX2_cellsOn_22 hl (k := 0) rfl (nI_1 (i_4)) (by decide) rfl (fun ls hl => ?_)
          refine lv_goto (tgt := 4) hx hb dX2_cellsOn_25 (by decide) ?_
          exact loop_12_ih (i_4 + 1) i_5 (show (i_4 + 1) ≤ 5 by omega) (show 5 - (i_4 + 1) < Nloop_12 by omega) _ _ _ hP hD hS hl
        · skip
          refine lv_iinc (v := (nI (i_5 + 1))) (lv' := [(1, .int (nI (i_5 + 1))), (2, .int (nI i_4)), (0, .ref L)]) hx hb dX2_cellsOn_19 hl (k := 1) rfl (nI_1 (i_5)) (by decide) rfl (fun ls hl => ?_)
          refine lv_iinc (v := (nI (i_4 + 1))) (lv' := [(2, .int (nI (i_4 + 1))), (1, .int (nI (i_5 + 1))), (0, .ref L)]) hx hb dX2_cellsOn_22 hl (k := 1) rfl (nI_1 (i_4)) (by decide) rfl (fun ls hl => ?_)
          refine lv_goto (tgt := 4) hx hb dX2_cellsOn_25 (by decide) ?_
          exact loop_12_ih (i_4 + 1) (i_5 + 1) (show (i_4 + 1) ≤ 5 by omega) (show 5 - (i_4 + 1) < Nloop_12 by omega) _ _ _ hP hD hS hl
  exact loop_12 _ 0 0 (show 0 ≤ 5 by omega) (Nat.lt_succ_self _) _ _ _ hP hD hS hl
