set_option maxHeartbeats 4000000 in
set_option maxRecDepth 100000 in
theorem r_X6_end (l : Launch) (D : va_G) (g : Nat → ClassId) (sz : Nat) (Xx : Nat) (zn : Int32) (Tp : Nat) (tl : Nat) (Fr : Nat) (Rd : Nat) (Nn : Nat) (oNn : Nat) (Ts : Nat) (Ty : Nat) (zld : Int32) (h0 : tl ≤ 160) : Met l yX6_end wsX6_end ({ frames := 1, cells := 0, slots := 0, locals := 22 }) (va_Pc [.ref Xx, .int zn] (pre D g sz [(Xx, .inr (6, [.ref Tp, .int (nI tl), .ref Fr, .ref Rd, .ref Nn, .ref oNn, .ref Ts, .ref Ty, .int zld]))])) (va_Qi (fun (r : Int32) (u : va_W) => ∃ (tlx : Nat) (zr : Int32), u = [(Xx, .inr (6, [.ref Tp, .int (nI tlx), .ref Fr, .ref Rd, .ref Nn, .ref oNn, .ref Ts, .ref Ty, .int zld]))] ∧ r = zr ∧ (tlx ≤ 160) ∧ ((zr, tlx) = edQ tl zn)) (wd D (va_A [(Xx, .inr (6, [.ref Tp, .int (nI tl), .ref Fr, .ref Rd, .ref Nn, .ref oNn, .ref Ts, .ref Ty, .int zld]))] sz)) (va_A [(Xx, .inr (6, [.ref Tp, .int (nI tl), .ref Fr, .ref Rd, .ref Nn, .ref oNn, .ref Ts, .ref Ty, .int zld]))] sz)) 0 0 (va_A [(Xx, .inr (6, [.ref Tp, .int (nI tl), .ref Fr, .ref Rd, .ref Nn, .ref oNn, .ref Ts, .ref Ty, .int zld]))] sz) := by
  refine Met.ofW (cc := cX6_end) (maxL := 2) (ret := (some .boolean)) (by decide) rfl ?_
  intro p e s m args below meth c s₁ B hml hv
  obtain ⟨rfl, hsz, hP, ⟨hK, hN⟩, hD0, hZ⟩ := hv
  have hx := B.exec
  have hb := B.bytes
  have hr := B.returns
  have hts := atoms_spec (ws := wsX6_end) B.pre
  have hown : s.vm.findClass RX6 = some m.cls := findClass_of_methodNamed B.named
  have hlocks := B.notSynchronized
  clear B
  subst hsz
  have hD := hD0.self (sz := s.heap.size)
  clear hD0
  generalize hAe : va_A [(Xx, .inr (6, [.ref Tp, .int (nI tl), .ref Fr, .ref Rd, .ref Nn, .ref oNn, .ref Ts, .ref Ty, .int zld]))] s.heap.size = A at hD hZ ⊢
  have hA : ∀ q : Nat, s.heap.size ≤ q → A q := fun q h => by rw [← hAe]; exact Or.inr h
  have hS : va_S A s.heap s.heap [] := va_S.rf
  have f47 := hts (.fieldLink RX6 47 "HopCredits" "tapeLength" "I") (List.mem_of_getElem? (i := 1) rfl)
  have iX6 : ∀ w ∈ u_ws RX6 TX6 9, w ∈ wsX6_end := fun w h => List.mem_cons_of_mem _ (List.mem_append_right _ (h))
  have hl := lv_entry ([.ref Xx, .int zn]) (n := 2) (Nat.le_of_ble_eq_true rfl)
  rw [lg_entry_eq]
  generalize (lg_sl ([.ref Xx, .int zn]) ++ List.replicate (2 - (lg_sl ([.ref Xx, .int zn])).length) Slot.unset).toArray = ls at hl ⊢
  have hl : lv_has ls 2 [(0, .ref Xx), (1, .int zn)] := hl
  generalize hQ : MQ below _ _ s _ _ _ = Q
  generalize hH : s.heap = H at hP ⊢
  have hS : va_S A s.heap H [] := by rw [← hH]; exact hS
  clear hH
  refine lv_iload_n hx hb dX6_end_0 rfl (lv_at hl 1 rfl) ?_
  refine lv_iconst (v := 0) hx hb dX6_end_1 (by decide) ?_
  refine lv_aload_n hx hb dX6_end_2 rfl (lv_at hl 0 rfl) ?_
  refine va_get (D := D) (ci := 6) (v := .int (nI tl)) (C := RX6) (T := TX6) (N := 9) hx hb hts iX6 hown hK hP 0 rfl rfl 1 (by decide) f47 (fun _ h9 => h9) rfl dX6_end_3 ?_
  refine ky_Si (As := [.int zn, .int 0, .int (nI tl)]) (rest := []) ⟨hx, hb, hml, hown, hts⟩ ⟨hK, hN⟩ hZ hP hD hS hA [] [0] (wc := []) (wr := [(Xx, .inr (6, [.ref Tp, .int (nI tl), .ref Fr, .ref Rd, .ref Nn, .ref oNn, .ref Ts, .ref Ty, .int zld]))]) rfl rfl rfl rfl (by decide) (k_X6_outside l D g H.size zn 0 (nI tl)) (va_cwS 3 hts gX6_end_X6_outside rfl rfl rfl (by decide +kernel) ⟨(Nat.le_of_ble_eq_true rfl), (Nat.le_of_ble_eq_true rfl)⟩) rfl hl.1 rfl (Nat.le_of_ble_eq_true rfl) dX6_end_6 ⟨(Nat.le_of_ble_eq_true rfl), (Nat.le_of_ble_eq_true rfl)⟩ (fun r_1 u H locs hw hP2 hD2 hS2 => ?_)
  clear hP hD hS
  obtain ⟨rfl, rfl⟩ := hw
  have hPD : PD D A [(Xx, .inr (6, [.ref Tp, .int (nI tl), .ref Fr, .ref Rd, .ref Nn, .ref oNn, .ref Ts, .ref Ty, .int zld]))] H := ⟨hP2, hD2⟩
  have hS := hS2; clear hP2 hD2 hS2; have hP := hPD.1; have hD := hPD.2; clear hPD
  refine W.widen (k := 0) (n := 0) (Nat.le_of_ble_eq_true rfl) (Nat.le_of_ble_eq_true rfl) ?_
  refine lv_if_eq (tgt := 14) hx hb dX6_end_9 (by decide) (fun cb_2 => ?_) (fun cb_2 => ?_)
  · skip
    have hq_3 : ¬ (zn < 0 ∨ (nI tl) < zn) := b01_0.mp cb_2
    have hPq_7 := hP; have hDq_7 := hD; have hSq_7 := hS; have hlq_7 := hl; clear hP hD hS hl
    obtain ⟨j_4, hl_5, hu_6, rfl⟩ := rgo (L := 0) (U := tl) rfl rfl (show 0 < 2 ^ 31 by omega) (show tl < 2 ^ 31 by omega) hq_3
    have hP := hPq_7; have hD := hDq_7; have hS := hSq_7; have hl := hlq_7; clear hPq_7 hDq_7 hSq_7 hlq_7
    refine lv_aload_n hx hb dX6_end_14 rfl (lv_at hl 0 rfl) ?_
    refine lv_iload_n hx hb dX6_end_15 rfl (lv_at hl 1 rfl) ?_
    refine va_put (D := D) (ci := 6) (v := .int (nI j_4)) (ty := .int) (C := RX6) (T := TX6) (N := 9) hx hb hts iX6 tyX6 tyX6_ok nmX6 hown hK hP hD hS 0 rfl rfl 1 (by decide) f47 (fun _ h9 => h9) rfl (by decide +kernel) (rfl) (rfl) (Nat.le_of_ble_eq_true rfl) dX6_end_16 (fun H locs hP2 hD2 hS2 => ?_)
    clear hP hD hS
    have hPD : PD D A [(Xx, .inr (6, [.ref Tp, .int (nI j_4), .ref Fr, .ref Rd, .ref Nn, .ref oNn, .ref Ts, .ref Ty, .int zld]))] H := ⟨hP2, hD2⟩
    have hS := hS2; clear hP2 hD2 hS2; have hP := hPD.1; have hD := hPD.2; clear hPD
    refine lv_iconst (v := 1) hx hb dX6_end_19 (by decide) ?_
    have hP9 := hP; have hD9 := hD
    subst hQ
    refine W.widen (k := 0) (n := 0) (Nat.le_of_ble_eq_true rfl) (Nat.le_of_ble_eq_true rfl) ?_
    exact W.zret (v := 1) (ty := .boolean) hx hb hr (rfl) (fun tS htS _ => ⟨⟨_, _, rfl, ⟨j_4, 1, rfl, rfl, (show j_4 ≤ 160 by omega), ed_yes (by omega) (by omega)⟩, by rw [htS]; exact hP9, hD9⟩, hS.F htS⟩) hS.2.2 dX6_end_20
  · skip
    have hq_8 : zn < 0 ∨ (nI tl) < zn := b01_1.mp cb_2
    refine lv_iconst (v := 0) hx hb dX6_end_12 (by decide) ?_
    have hP9 := hP; have hD9 := hD
    subst hQ
    refine W.widen (k := 0) (n := 0) (Nat.le_of_ble_eq_true rfl) (Nat.le_of_ble_eq_true rfl) ?_
    exact W.zret (v := 0) (ty := .boolean) hx hb hr (rfl) (fun tS htS _ => ⟨⟨_, _, rfl, ⟨tl, 0, rfl, rfl, (show tl ≤ 160 by omega), ed_cno cb_2⟩, by rw [htS]; exact hP9, hD9⟩, hS.F htS⟩) hS.2.2 dX6_end_13

set_option maxHeartbeats 4000000 in
set_option maxRecDepth 100000 in
theorem r_X4_hops (l : Launch) (D : va_G) (g : Nat → ClassId) (sz : Nat) (Rd : Nat) (Tp : Nat) (ln : Nat) (ax : Nat) (zfa : Int32) (ht : Nat) (ct : Nat) (Rv : Nat) (h0 : ht ≤ 3) (h1 : ct ≤ 3) : Met l yX4_hops wsX4_hops ({ frames := 1, cells := 0, slots := 0, locals := 24 }) (va_Pc [.ref Rd] (pre D g sz [(Rd, .inr (4, [.ref Tp, .int (nI ln), .int (nI ax), .int zfa, .int (nI ht), .int (nI ct), .ref Rv]))])) (va_Qi (fun (r : Int32) (u : va_W) => ∃ (nx : Nat), u = [(Rd, .inr (4, [.ref Tp, .int (nI ln), .int (nI ax), .int zfa, .int (nI ht), .int (nI ct), .ref Rv]))] ∧ r = (nI nx) ∧ (1 ≤ nx) ∧ (nx ≤ 3) ∧ (nx = mx1 ht)) (wd D (va_A [(Rd, .inr (4, [.ref Tp, .int (nI ln), .int (nI ax), .int zfa, .int (nI ht), .int (nI ct), .ref Rv]))] sz)) (va_A [(Rd, .inr (4, [.ref Tp, .int (nI ln), .int (nI ax), .int zfa, .int (nI ht), .int (nI ct), .ref Rv]))] sz)) 0 0 (va_A [(Rd, .inr (4, [.ref Tp, .int (nI ln), .int (nI ax), .int zfa, .int (nI ht), .int (nI ct), .ref Rv]))] sz) := by
  refine Met.ofW (cc := cX4_hops) (maxL := 1) (ret := (some .int)) (by decide) rfl ?_
  intro p e s m args below meth c s₁ B hml hv
  obtain ⟨rfl, hsz, hP, ⟨hK, hN⟩, hD0, hZ⟩ := hv
  have hx := B.exec
  have hb := B.bytes
  have hr := B.returns
  have hts := atoms_spec (ws := wsX4_hops) B.pre
  have hown : s.vm.findClass RX4 = some m.cls := findClass_of_methodNamed B.named
  have hlocks := B.notSynchronized
  clear B
  subst hsz
  have hD := hD0.self (sz := s.heap.size)
  clear hD0
  generalize hAe : va_A [(Rd, .inr (4, [.ref Tp, .int (nI ln), .int (nI ax), .int zfa, .int (nI ht), .int (nI ct), .ref Rv]))] s.heap.size = A at hD hZ ⊢
  have hA : ∀ q : Nat, s.heap.size ≤ q → A q := fun q h => by rw [← hAe]; exact Or.inr h
  have hS : va_S A s.heap s.heap [] := va_S.rf
  have f34 := hts (.fieldLink RX4 34 "HopCredits$Reading" "hopsTold" "I") (List.mem_of_getElem? (i := 1) rfl)
  have mcmax := hts (.code Lib.Math.max.name Lib.Math.max.code 2 (some .int)) (List.mem_of_getElem? (i := 5) rfl)
  have mi := hts (.initialized "java/lang/Math") (List.mem_of_getElem? (i := 4) rfl)
  have mmmax := hts (.methodLink RX4 94 Lib.Math.max.name) (List.mem_of_getElem? (i := 2) rfl)
  have mtmax := hts (.static Lib.Math.max.name) (List.mem_of_getElem? (i := 3) rfl)
  have iX4 : ∀ w ∈ u_ws RX4 TX4 7, w ∈ wsX4_hops := fun w h => List.mem_cons_of_mem _ (List.mem_append_right _ (h))
  have hl := lv_entry ([.ref Rd]) (n := 1) (Nat.le_of_ble_eq_true rfl)
  rw [lg_entry_eq]
  generalize (lg_sl ([.ref Rd]) ++ List.replicate (1 - (lg_sl ([.ref Rd])).length) Slot.unset).toArray = ls at hl ⊢
  have hl : lv_has ls 1 [(0, .ref Rd)] := hl
  generalize hQ : MQ below _ _ s _ _ _ = Q
  generalize hH : s.heap = H at hP ⊢
  have hS : va_S A s.heap H [] := by rw [← hH]; exact hS
  clear hH
  refine lv_iconst (v := 1) hx hb dX4_hops_0 (by decide) ?_
  refine lv_aload_n hx hb dX4_hops_1 rfl (lv_at hl 0 rfl) ?_
  refine va_get (D := D) (ci := 4) (v := .int (nI ht)) (C := RX4) (T := TX4) (N := 7) hx hb hts iX4 hown hK hP 0 rfl rfl 4 (by decide) f34 (fun _ h9 => h9) rfl dX4_hops_2 ?_
  refine va_mmax hx hb (hml.trans hl.1.symm) hown mmmax mtmax mi mcmax (Nat.le_of_ble_eq_true rfl) (Nat.le_of_ble_eq_true rfl) (Nat.le_of_ble_eq_true rfl) (Nat.le_of_ble_eq_true rfl) dX4_hops_5 ?_
  have hm_1 := mx1_e (show ht ≤ 3 by omega)
  have hm_1b := hm_1.2.1; have hm_1c := hm_1.2.2
  obtain ⟨m_2, hm_2⟩ : ∃ q : Nat, q = mx1 ht := ⟨_, rfl⟩
  refine lv_eqi (y := nI m_2) (hm_2 ▸ hm_1.1) ?_
  have hP9 := hP; have hD9 := hD
  subst hQ
  refine W.widen (k := 0) (n := 0) (Nat.le_of_ble_eq_true rfl) (Nat.le_of_ble_eq_true rfl) ?_
  exact W.iret (v := (nI m_2)) hx hb hr (fun tS htS _ => ⟨⟨_, _, rfl, ⟨m_2, rfl, rfl, (show 1 ≤ m_2 by omega), (show m_2 ≤ 3 by omega), (show m_2 = mx1 ht by omega)⟩, by rw [htS]; exact hP9, hD9⟩, hS.F htS⟩) hS.2.2 dX4_hops_8

set_option maxHeartbeats 4000000 in
set_option maxRecDepth 100000 in
theorem r_X4_circuits (l : Launch) (D : va_G) (g : Nat → ClassId) (sz : Nat) (Rd : Nat) (Tp : Nat) (ln : Nat) (ax : Nat) (zfa : Int32) (ht : Nat) (ct : Nat) (Rv : Nat) (h0 : ht ≤ 3) (h1 : ct ≤ 3) : Met l yX4_circuits wsX4_circuits ({ frames := 1, cells := 0, slots := 0, locals := 24 }) (va_Pc [.ref Rd] (pre D g sz [(Rd, .inr (4, [.ref Tp, .int (nI ln), .int (nI ax), .int zfa, .int (nI ht), .int (nI ct), .ref Rv]))])) (va_Qi (fun (r : Int32) (u : va_W) => ∃ (nx : Nat), u = [(Rd, .inr (4, [.ref Tp, .int (nI ln), .int (nI ax), .int zfa, .int (nI ht), .int (nI ct), .ref Rv]))] ∧ r = (nI nx) ∧ (1 ≤ nx) ∧ (nx ≤ 3) ∧ (nx = mx1 ct)) (wd D (va_A [(Rd, .inr (4, [.ref Tp, .int (nI ln), .int (nI ax), .int zfa, .int (nI ht), .int (nI ct), .ref Rv]))] sz)) (va_A [(Rd, .inr (4, [.ref Tp, .int (nI ln), .int (nI ax), .int zfa, .int (nI ht), .int (nI ct), .ref Rv]))] sz)) 0 0 (va_A [(Rd, .inr (4, [.ref Tp, .int (nI ln), .int (nI ax), .int zfa, .int (nI ht), .int (nI ct), .ref Rv]))] sz) := by
  refine Met.ofW (cc := cX4_circuits) (maxL := 1) (ret := (some .int)) (by decide) rfl ?_
  intro p e s m args below meth c s₁ B hml hv
  obtain ⟨rfl, hsz, hP, ⟨hK, hN⟩, hD0, hZ⟩ := hv
  have hx := B.exec
  have hb := B.bytes
  have hr := B.returns
  have hts := atoms_spec (ws := wsX4_circuits) B.pre
  have hown : s.vm.findClass RX4 = some m.cls := findClass_of_methodNamed B.named
  have hlocks := B.notSynchronized
  clear B
  subst hsz
  have hD := hD0.self (sz := s.heap.size)
  clear hD0
  generalize hAe : va_A [(Rd, .inr (4, [.ref Tp, .int (nI ln), .int (nI ax), .int zfa, .int (nI ht), .int (nI ct), .ref Rv]))] s.heap.size = A at hD hZ ⊢
  have hA : ∀ q : Nat, s.heap.size ≤ q → A q := fun q h => by rw [← hAe]; exact Or.inr h
  have hS : va_S A s.heap s.heap [] := va_S.rf
  have f37 := hts (.fieldLink RX4 37 "HopCredits$Reading" "circuitsTold" "I") (List.mem_of_getElem? (i := 1) rfl)
  have mcmax := hts (.code Lib.Math.max.name Lib.Math.max.code 2 (some .int)) (List.mem_of_getElem? (i := 5) rfl)
  have mi := hts (.initialized "java/lang/Math") (List.mem_of_getElem? (i := 4) rfl)
  have mmmax := hts (.methodLink RX4 94 Lib.Math.max.name) (List.mem_of_getElem? (i := 2) rfl)
  have mtmax := hts (.static Lib.Math.max.name) (List.mem_of_getElem? (i := 3) rfl)
  have iX4 : ∀ w ∈ u_ws RX4 TX4 7, w ∈ wsX4_circuits := fun w h => List.mem_cons_of_mem _ (List.mem_append_right _ (h))
  have hl := lv_entry ([.ref Rd]) (n := 1) (Nat.le_of_ble_eq_true rfl)
  rw [lg_entry_eq]
  generalize (lg_sl ([.ref Rd]) ++ List.replicate (1 - (lg_sl ([.ref Rd])).length) Slot.unset).toArray = ls at hl ⊢
  have hl : lv_has ls 1 [(0, .ref Rd)] := hl
  generalize hQ : MQ below _ _ s _ _ _ = Q
  generalize hH : s.heap = H at hP ⊢
  have hS : va_S A s.heap H [] := by rw [← hH]; exact hS
  clear hH
  refine lv_iconst (v := 1) hx hb dX4_circuits_0 (by decide) ?_
  refine lv_aload_n hx hb dX4_circuits_1 rfl (lv_at hl 0 rfl) ?_
  refine va_get (D := D) (ci := 4) (v := .int (nI ct)) (C := RX4) (T := TX4) (N := 7) hx hb hts iX4 hown hK hP 0 rfl rfl 5 (by decide) f37 (fun _ h9 => h9) rfl dX4_circuits_2 ?_
  refine va_mmax hx hb (hml.trans hl.1.symm) hown mmmax mtmax mi mcmax (Nat.le_of_ble_eq_true rfl) (Nat.le_of_ble_eq_true rfl) (Nat.le_of_ble_eq_true rfl) (Nat.le_of_ble_eq_true rfl) dX4_circuits_5 ?_
  have hm_1 := mx1_e (show ct ≤ 3 by omega)
  have hm_1b := hm_1.2.1; have hm_1c := hm_1.2.2
  obtain ⟨m_2, hm_2⟩ : ∃ q : Nat, q = mx1 ct := ⟨_, rfl⟩
  refine lv_eqi (y := nI m_2) (hm_2 ▸ hm_1.1) ?_
  have hP9 := hP; have hD9 := hD
  subst hQ
  refine W.widen (k := 0) (n := 0) (Nat.le_of_ble_eq_true rfl) (Nat.le_of_ble_eq_true rfl) ?_
  exact W.iret (v := (nI m_2)) hx hb hr (fun tS htS _ => ⟨⟨_, _, rfl, ⟨m_2, rfl, rfl, (show 1 ≤ m_2 by omega), (show m_2 ≤ 3 by omega), (show m_2 = mx1 ct by omega)⟩, by rw [htS]; exact hP9, hD9⟩, hS.F htS⟩) hS.2.2 dX4_circuits_8
