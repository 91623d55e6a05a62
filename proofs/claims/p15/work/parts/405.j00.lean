set_option maxHeartbeats 4000000 in
set_option maxRecDepth 100000 in
theorem k_J3_checkIndex_r (l : Launch) (D : va_G) (g : Nat → ClassId) (sz : Nat) (ix : Nat) (nx : Nat) (Aq : Nat) (h0 : ix < nx) (h1 : nx < 2 ^ 31) : Met l yJ3_checkIndex_8e157 wsJ3_checkIndex_8e157 ({ frames := 0, cells := 0, slots := 0, locals := 0 }) (va_Pc [.int (nI ix), .int (nI nx), .ref Aq] (pre D g sz [])) (va_Qi (fun (r : Int32) (u : va_W) => u = [] ∧ r = (nI ix)) (wd D (va_A [] sz)) (va_A [] sz)) 0 0 (va_A [] sz) := by
  refine Met.ofW (cc := cJ3_checkIndex_8e157) (maxL := 3) (ret := (some .int)) (by decide) rfl ?_
  intro p e s m args below meth c s₁ B hml hv
  obtain ⟨rfl, hsz, hP, ⟨hK, hN⟩, hD0, hZ⟩ := hv
  have hx := B.exec
  have hb := B.bytes
  have hr := B.returns
  have hts := atoms_spec (ws := wsJ3_checkIndex_8e157) B.pre
  have hown : s.vm.findClass RJ3 = some m.cls := findClass_of_methodNamed B.named
  have hlocks := B.notSynchronized
  clear B
  subst hsz
  have hD := hD0.self (sz := s.heap.size)
  clear hD0
  generalize hAe : va_A [] s.heap.size = A at hD hZ ⊢
  have hA : ∀ q : Nat, s.heap.size ≤ q → A q := fun q h => by rw [← hAe]; exact Or.inr h
  have hS : va_S A s.heap s.heap [] := va_S.rf
  have hl := lv_entry ([.int (nI ix), .int (nI nx), .ref Aq]) (n := 3) (Nat.le_of_ble_eq_true rfl)
  rw [lg_entry_eq]
  generalize (lg_sl ([.int (nI ix), .int (nI nx), .ref Aq]) ++ List.replicate (3 - (lg_sl ([.int (nI ix), .int (nI nx), .ref Aq])).length) Slot.unset).toArray = ls at hl ⊢
  have hl : lv_has ls 3 [(0, .int (nI ix)), (1, .int (nI nx)), (2, .ref Aq)] := hl
  generalize hQ : MQ below _ _ s _ _ _ = Q
  generalize hH : s.heap = H at hP ⊢
  have hS : va_S A s.heap H [] := by rw [← hH]; exact hS
  clear hH
  refine lv_iload_n hx hb dJ3_checkIndex_8e157_0 rfl (lv_at hl 0 rfl) ?_
  refine lv_if_lt (tgt := 9) hx hb dJ3_checkIndex_8e157_1 (by decide) (fun cb => absurd cb (nI_nlt (show 0 ≤ ix by omega) (show ix < 2 ^ 31 by omega))) (fun _ => ?_)
  refine lv_iload_n hx hb dJ3_checkIndex_8e157_4 rfl (lv_at hl 0 rfl) ?_
  refine lv_iload_n hx hb dJ3_checkIndex_8e157_5 rfl (lv_at hl 1 rfl) ?_
  refine lv_icmp_lt (tgt := 16) hx hb dJ3_checkIndex_8e157_6 (by decide) (fun _ => ?_) (fun cb => absurd (nI_lt (show ix < nx by omega) (show nx < 2 ^ 31 by omega)) cb)
  refine lv_iload_n hx hb dJ3_checkIndex_8e157_16 rfl (lv_at hl 0 rfl) ?_
  have hP9 := hP; have hD9 := hD
  subst hQ
  refine W.widen (k := 0) (n := 0) (Nat.le_of_ble_eq_true rfl) (Nat.le_of_ble_eq_true rfl) ?_
  exact W.iret (v := (nI ix)) hx hb hr (fun tS htS _ => ⟨⟨_, _, rfl, ⟨rfl, rfl⟩, by rw [htS]; exact hP9, hD9⟩, hS.F htS⟩) hS.2.2 dJ3_checkIndex_8e157_17

set_option maxHeartbeats 4000000 in
set_option maxRecDepth 100000 in
theorem k_J3_checkIndex_n (l : Launch) (D : va_G) (g : Nat → ClassId) (sz : Nat) (ix : Nat) (nx : Nat) (h0 : ix < nx) (h1 : nx < 2 ^ 31) : Met l yJ3_checkIndex_8e157 wsJ3_checkIndex_8e157 ({ frames := 0, cells := 0, slots := 0, locals := 0 }) (va_Pc [.int (nI ix), .int (nI nx), .null] (pre D g sz [])) (va_Qi (fun (r : Int32) (u : va_W) => u = [] ∧ r = (nI ix)) (wd D (va_A [] sz)) (va_A [] sz)) 0 0 (va_A [] sz) := by
  refine Met.ofW (cc := cJ3_checkIndex_8e157) (maxL := 3) (ret := (some .int)) (by decide) rfl ?_
  intro p e s m args below meth c s₁ B hml hv
  obtain ⟨rfl, hsz, hP, ⟨hK, hN⟩, hD0, hZ⟩ := hv
  have hx := B.exec
  have hb := B.bytes
  have hr := B.returns
  have hts := atoms_spec (ws := wsJ3_checkIndex_8e157) B.pre
  have hown : s.vm.findClass RJ3 = some m.cls := findClass_of_methodNamed B.named
  have hlocks := B.notSynchronized
  clear B
  subst hsz
  have hD := hD0.self (sz := s.heap.size)
  clear hD0
  generalize hAe : va_A [] s.heap.size = A at hD hZ ⊢
  have hA : ∀ q : Nat, s.heap.size ≤ q → A q := fun q h => by rw [← hAe]; exact Or.inr h
  have hS : va_S A s.heap s.heap [] := va_S.rf
  have hl := lv_entry ([.int (nI ix), .int (nI nx), .null]) (n := 3) (Nat.le_of_ble_eq_true rfl)
  rw [lg_entry_eq]
  generalize (lg_sl ([.int (nI ix), .int (nI nx), .null]) ++ List.replicate (3 - (lg_sl ([.int (nI ix), .int (nI nx), .null])).length) Slot.unset).toArray = ls at hl ⊢
  have hl : lv_has ls 3 [(0, .int (nI ix)), (1, .int (nI nx)), (2, .null)] := hl
  generalize hQ : MQ below _ _ s _ _ _ = Q
  generalize hH : s.heap = H at hP ⊢
  have hS : va_S A s.heap H [] := by rw [← hH]; exact hS
  clear hH
  refine lv_iload_n hx hb dJ3_checkIndex_8e157_0 rfl (lv_at hl 0 rfl) ?_
  refine lv_if_lt (tgt := 9) hx hb dJ3_checkIndex_8e157_1 (by decide) (fun cb => absurd cb (nI_nlt (show 0 ≤ ix by omega) (show ix < 2 ^ 31 by omega))) (fun _ => ?_)
  refine lv_iload_n hx hb dJ3_checkIndex_8e157_4 rfl (lv_at hl 0 rfl) ?_
  refine lv_iload_n hx hb dJ3_checkIndex_8e157_5 rfl (lv_at hl 1 rfl) ?_
  refine lv_icmp_lt (tgt := 16) hx hb dJ3_checkIndex_8e157_6 (by decide) (fun _ => ?_) (fun cb => absurd (nI_lt (show ix < nx by omega) (show nx < 2 ^ 31 by omega)) cb)
  refine lv_iload_n hx hb dJ3_checkIndex_8e157_16 rfl (lv_at hl 0 rfl) ?_
  have hP9 := hP; have hD9 := hD
  subst hQ
  refine W.widen (k := 0) (n := 0) (Nat.le_of_ble_eq_true rfl) (Nat.le_of_ble_eq_true rfl) ?_
  exact W.iret (v := (nI ix)) hx hb hr (fun tS htS _ => ⟨⟨_, _, rfl, ⟨rfl, rfl⟩, by rw [htS]; exact hP9, hD9⟩, hS.F htS⟩) hS.2.2 dJ3_checkIndex_8e157_17

set_option maxHeartbeats 4000000 in
set_option maxRecDepth 100000 in
theorem k_J0_checkIndex_df160 (l : Launch) (D : va_G) (g : Nat → ClassId) (sz : Nat) (ix : Nat) (nx : Nat) (h0 : ix < nx) (h1 : nx < 2 ^ 31) : Met l yJ0_checkIndex_df160 wsJ0_checkIndex_df160 ({ frames := 1, cells := 0, slots := 0, locals := 22 }) (va_Pc [.int (nI ix), .int (nI nx)] (pre D g sz [])) (va_Qv (fun (u : va_W) => u = []) (wd D (va_A [] sz)) (va_A [] sz)) 0 0 (va_A [] sz) := by
  refine Met.ofW (cc := cJ0_checkIndex_df160) (maxL := 2) (ret := none) (by decide) rfl ?_
  intro p e s m args below meth c s₁ B hml hv
  obtain ⟨rfl, hsz, hP, ⟨hK, hN⟩, hD0, hZ⟩ := hv
  have hx := B.exec
  have hb := B.bytes
  have hr := B.returns
  have hts := atoms_spec (ws := wsJ0_checkIndex_df160) B.pre
  have hown : s.vm.findClass RJ0 = some m.cls := findClass_of_methodNamed B.named
  have hlocks := B.notSynchronized
  clear B
  subst hsz
  have hD := hD0.self (sz := s.heap.size)
  clear hD0
  generalize hAe : va_A [] s.heap.size = A at hD hZ ⊢
  have hA : ∀ q : Nat, s.heap.size ≤ q → A q := fun q h => by rw [← hAe]; exact Or.inr h
  have hS : va_S A s.heap s.heap [] := va_S.rf
  have f1053 := hts (.fieldLink RJ0 1053 "jdk/internal/util/Preconditions" "SIOOBE_FORMATTER" "Ljava/util/function/BiFunction;") (List.mem_of_getElem? (i := 1) rfl)
  have hl := lv_entry ([.int (nI ix), .int (nI nx)]) (n := 2) (Nat.le_of_ble_eq_true rfl)
  rw [lg_entry_eq]
  generalize (lg_sl ([.int (nI ix), .int (nI nx)]) ++ List.replicate (2 - (lg_sl ([.int (nI ix), .int (nI nx)])).length) Slot.unset).toArray = ls at hl ⊢
  have hl : lv_has ls 2 [(0, .int (nI ix)), (1, .int (nI nx))] := hl
  generalize hQ : MQ below _ _ s _ _ _ = Q
  generalize hH : s.heap = H at hP ⊢
  have hS : va_S A s.heap H [] := by rw [← hH]; exact hS
  clear hH
  refine lv_iload_n hx hb dJ0_checkIndex_df160_0 rfl (lv_at hl 0 rfl) ?_
  refine lv_iload_n hx hb dJ0_checkIndex_df160_1 rfl (lv_at hl 1 rfl) ?_
  rcases hZ.2.2.2.2.2.2.2.2.2.1 with z9 | ⟨t_1, z9⟩
  · skip
    refine va_gets hx hb z9 hS hown f1053 (fun _ h9 => h9) dJ0_checkIndex_df160_2 ?_
    refine ky_Si (As := [.int (nI ix), .int (nI nx), .null]) (rest := []) ⟨hx, hb, hml, hown, hts⟩ ⟨hK, hN⟩ hZ hP hD hS hA [] [] (wc := []) (wr := []) rfl rfl rfl rfl (by decide) (k_J3_checkIndex_n l D g H.size ix nx (show ix < nx by omega) (show nx < 2 ^ 31 by omega)) (va_cwS 3 hts gJ0_checkIndex_df160_J3_checkIndex_8e157 rfl rfl rfl (by decide +kernel) ⟨(Nat.le_of_ble_eq_true rfl), (Nat.le_of_ble_eq_true rfl)⟩) rfl hl.1 rfl (Nat.le_of_ble_eq_true rfl) dJ0_checkIndex_df160_5 ⟨(Nat.le_of_ble_eq_true rfl), (Nat.le_of_ble_eq_true rfl)⟩ (fun r_2 u H locs hw hP2 hD2 hS2 => ?_)
    clear hP hD hS
    obtain ⟨rfl, rfl⟩ := hw
    have hPD : PD D A [] H := ⟨hP2, hD2⟩
    have hS := hS2; clear hP2 hD2 hS2; have hP := hPD.1; have hD := hPD.2; clear hPD
    refine W.widen (k := 0) (n := 0) (Nat.le_of_ble_eq_true rfl) (Nat.le_of_ble_eq_true rfl) ?_
    refine lv_pop hx hb dJ0_checkIndex_df160_8 rfl ?_
    have hP9 := hP; have hD9 := hD
    subst hQ
    refine W.widen (k := 0) (n := 0) (Nat.le_of_ble_eq_true rfl) (Nat.le_of_ble_eq_true rfl) ?_
    exact W.vret hx hb hr (fun tS htS _ => ⟨⟨_, rfl, rfl, by rw [htS]; exact hP9, hD9⟩, hS.F htS⟩) hS.2.2 dJ0_checkIndex_df160_9
  · skip
    refine va_gets hx hb z9 hS hown f1053 (fun _ h9 => h9) dJ0_checkIndex_df160_2 ?_
    refine ky_Si (As := [.int (nI ix), .int (nI nx), .ref t_1]) (rest := []) ⟨hx, hb, hml, hown, hts⟩ ⟨hK, hN⟩ hZ hP hD hS hA [] [] (wc := []) (wr := []) rfl rfl rfl rfl (by decide) (k_J3_checkIndex_r l D g H.size ix nx t_1 (show ix < nx by omega) (show nx < 2 ^ 31 by omega)) (va_cwS 3 hts gJ0_checkIndex_df160_J3_checkIndex_8e157 rfl rfl rfl (by decide +kernel) ⟨(Nat.le_of_ble_eq_true rfl), (Nat.le_of_ble_eq_true rfl)⟩) rfl hl.1 rfl (Nat.le_of_ble_eq_true rfl) dJ0_checkIndex_df160_5 ⟨(Nat.le_of_ble_eq_true rfl), (Nat.le_of_ble_eq_true rfl)⟩ (fun r_3 u H locs hw hP2 hD2 hS2 => ?_)
    clear hP hD hS
    obtain ⟨rfl, rfl⟩ := hw
    have hPD : PD D A [] H := ⟨hP2, hD2⟩
    have hS := hS2; clear hP2 hD2 hS2; have hP := hPD.1; have hD := hPD.2; clear hPD
    refine W.widen (k := 0) (n := 0) (Nat.le_of_ble_eq_true rfl) (Nat.le_of_ble_eq_true rfl) ?_
    refine lv_pop hx hb dJ0_checkIndex_df160_8 rfl ?_
    have hP9 := hP; have hD9 := hD
    subst hQ
    refine W.widen (k := 0) (n := 0) (Nat.le_of_ble_eq_true rfl) (Nat.le_of_ble_eq_true rfl) ?_
    exact W.vret hx hb hr (fun tS htS _ => ⟨⟨_, rfl, rfl, by rw [htS]; exact hP9, hD9⟩, hS.F htS⟩) hS.2.2 dJ0_checkIndex_df160_9

set_option maxHeartbeats 4000000 in
set_option maxRecDepth 100000 in
theorem k_J1_charAt_3b067 (l : Launch) (D : va_G) (g : Nat → ClassId) (sz : Nat) (ix : Nat) (h0 : ix < 9) : Met l yJ1_charAt_3b067 wsJ1_charAt_3b067 ({ frames := 2, cells := 0, slots := 0, locals := 43 }) (va_Pc [.ref (g 16), .int (nI ix)] (pre D g sz [])) (va_Qi (fun (r : Int32) (u : va_W) => ∃ (zr : Int32), u = [] ∧ r = zr ∧ (ch zr)) (wd D (va_A [] sz)) (va_A [] sz)) 0 0 (va_A [] sz) := by
  refine Met.ofW (cc := cJ1_charAt_3b067) (maxL := 2) (ret := (some .char)) (by decide) rfl ?_
  intro p e s m args below meth c s₁ B hml hv
  obtain ⟨rfl, hsz, hP, ⟨hK, hN⟩, hD0, hZ⟩ := hv
  have hx := B.exec
  have hb := B.bytes
  have hr := B.returns
  have hts := atoms_spec (ws := wsJ1_charAt_3b067) B.pre
  have hown : s.vm.findClass RJ1 = some m.cls := findClass_of_methodNamed B.named
  have hlocks := B.notSynchronized
  clear B
  subst hsz
  have hD := hD0.self (sz := s.heap.size)
  clear hD0
  generalize hAe : va_A [] s.heap.size = A at hD hZ ⊢
  have hA : ∀ q : Nat, s.heap.size ≤ q → A q := fun q h => by rw [← hAe]; exact Or.inr h
  have hS : va_S A s.heap s.heap [] := va_S.rf
  have hl := lv_entry ([.ref (g 16), .int (nI ix)]) (n := 2) (Nat.le_of_ble_eq_true rfl)
  rw [lg_entry_eq]
  generalize (lg_sl ([.ref (g 16), .int (nI ix)]) ++ List.replicate (2 - (lg_sl ([.ref (g 16), .int (nI ix)])).length) Slot.unset).toArray = ls at hl ⊢
  have hl : lv_has ls 2 [(0, .ref (g 16)), (1, .int (nI ix))] := hl
  generalize hQ : MQ below _ _ s _ _ _ = Q
  generalize hH : s.heap = H at hP ⊢
  have hS : va_S A s.heap H [] := by rw [← hH]; exact hS
  clear hH
  refine lv_iload_n hx hb dJ1_charAt_3b067_0 rfl (lv_at hl 1 rfl) ?_
  refine lv_aload_n hx hb dJ1_charAt_3b067_1 rfl (lv_at hl 0 rfl) ?_
  refine va_tlen (v := 9) hx hb ((hZ.2.2.2.2.2.2.2.2.2.2.1 0 (by decide)).2.2.2) hS rfl dJ1_charAt_3b067_2 ?_
  refine ky_Sv (As := [.int (nI ix), .int 9]) (rest := []) ⟨hx, hb, hml, hown, hts⟩ ⟨hK, hN⟩ hZ hP hD hS hA [] [] (wc := []) (wr := []) rfl rfl rfl rfl (by decide) (k_J0_checkIndex_df160 l D g H.size ix 9 (show ix < 9 by omega) (show 9 < 2 ^ 31 by omega)) (va_cwS 2 hts gJ1_charAt_3b067_J0_checkIndex_df160 rfl rfl rfl (by decide +kernel) ⟨(Nat.le_of_ble_eq_true rfl), (Nat.le_of_ble_eq_true rfl)⟩) rfl hl.1 rfl (Nat.le_of_ble_eq_true rfl) dJ1_charAt_3b067_3 ⟨(Nat.le_of_ble_eq_true rfl), (Nat.le_of_ble_eq_true rfl)⟩ (fun u H locs hw hP2 hD2 hS2 => ?_)
  clear hP hD hS
  obtain rfl := hw
  have hPD : PD D A [] H := ⟨hP2, hD2⟩
  have hS := hS2; clear hP2 hD2 hS2; have hP := hPD.1; have hD := hPD.2; clear hPD
  refine W.widen (k := 0) (n := 0) (Nat.le_of_ble_eq_true rfl) (Nat.le_of_ble_eq_true rfl) ?_
  refine lv_aload_n hx hb dJ1_charAt_3b067_6 rfl (lv_at hl 0 rfl) ?_
  refine lv_iload_n hx hb dJ1_charAt_3b067_7 rfl (lv_at hl 1 rfl) ?_
  refine va_tb hx hb ((hZ.2.2.2.2.2.2.2.2.2.2.1 0 (by decide)).2.2.2) hS (vp_in_nI (show ix < 9 by omega) (by decide)) rfl dJ1_charAt_3b067_8 ?_
  refine lv_topi (fun y_2 _ => ?_)
  refine lv_sipush (v := 255) hx hb dJ1_charAt_3b067_9 (by decide) ?_
  refine lv_iand hx hb dJ1_charAt_3b067_12 ?_
  refine lv_topi (fun y_3 _ => ?_)
  refine lv_i2c hx hb dJ1_charAt_3b067_13 rfl ?_
  refine lv_topP (P := ch) (pk_nc _) (fun y_4 hy_5 => ?_)
  have hP9 := hP; have hD9 := hD
  subst hQ
  refine W.widen (k := 0) (n := 0) (Nat.le_of_ble_eq_true rfl) (Nat.le_of_ble_eq_true rfl) ?_
  exact W.zret (v := y_4) (ty := .char) hx hb hr (hy_5) (fun tS htS _ => ⟨⟨_, _, rfl, ⟨y_4, rfl, rfl, (hy_5)⟩, by rw [htS]; exact hP9, hD9⟩, hS.F htS⟩) hS.2.2 dJ1_charAt_3b067_14

set_option maxHeartbeats 4000000 in
set_option maxRecDepth 100000 in
theorem k_J0_isLatin1_aae02 (l : Launch) (D : va_G) (g : Nat → ClassId) (sz : Nat) : Met l yJ0_isLatin1_aae02 wsJ0_isLatin1_aae02 ({ frames := 0, cells := 0, slots := 0, locals := 0 }) (va_Pc [.ref (g 15)] (pre D g sz [])) (va_Qi (fun (r : Int32) (u : va_W) => u = [] ∧ r = 1) (wd D (va_A [] sz)) (va_A [] sz)) 0 0 (va_A [] sz) := by
  refine Met.ofW (cc := cJ0_isLatin1_aae02) (maxL := 1) (ret := (some .boolean)) (by decide) rfl ?_
  intro p e s m args below meth c s₁ B hml hv
  obtain ⟨rfl, hsz, hP, ⟨hK, hN⟩, hD0, hZ⟩ := hv
  have hx := B.exec
  have hb := B.bytes
  have hr := B.returns
  have hts := atoms_spec (ws := wsJ0_isLatin1_aae02) B.pre
  have hown : s.vm.findClass RJ0 = some m.cls := findClass_of_methodNamed B.named
  have hlocks := B.notSynchronized
  clear B
  subst hsz
  have hD := hD0.self (sz := s.heap.size)
  clear hD0
  generalize hAe : va_A [] s.heap.size = A at hD hZ ⊢
  have hA : ∀ q : Nat, s.heap.size ≤ q → A q := fun q h => by rw [← hAe]; exact Or.inr h
  have hS : va_S A s.heap s.heap [] := va_S.rf
  have f15 := hts (.fieldLink RJ0 15 "java/lang/String" "coder" "B") (List.mem_of_getElem? (i := 2) rfl)
  have f38 := hts (.fieldLink RJ0 38 "java/lang/String" "COMPACT_STRINGS" "Z") (List.mem_of_getElem? (i := 1) rfl)
  have hl := lv_entry ([.ref (g 15)]) (n := 1) (Nat.le_of_ble_eq_true rfl)
  rw [lg_entry_eq]
  generalize (lg_sl ([.ref (g 15)]) ++ List.replicate (1 - (lg_sl ([.ref (g 15)])).length) Slot.unset).toArray = ls at hl ⊢
  have hl : lv_has ls 1 [(0, .ref (g 15))] := hl
  generalize hQ : MQ below _ _ s _ _ _ = Q
  generalize hH : s.heap = H at hP ⊢
  have hS : va_S A s.heap H [] := by rw [← hH]; exact hS
  clear hH
  refine va_gets hx hb hZ.2.2.2.2.2.2.2.2.1 hS hown f38 (fun _ h9 => h9) dJ0_isLatin1_aae02_0 ?_
  refine lv_if_eq (tgt := 17) hx hb dJ0_isLatin1_aae02_3 (by decide) (fun cb => absurd cb (by decide)) (fun _ => ?_)
  refine lv_aload_n hx hb dJ0_isLatin1_aae02_6 rfl (lv_at hl 0 rfl) ?_
  refine vk_getf hx hb ((hZ.2.2.2.2.2.2.2.2.2.2.1 0 (by decide)).2.1) hS hown f15 (fun _ h9 => h9) dJ0_isLatin1_aae02_7 ?_
  refine lv_if_ne (tgt := 17) hx hb dJ0_isLatin1_aae02_10 (by decide) (fun cb => absurd (by decide) cb) (fun _ => ?_)
  refine lv_iconst (v := 1) hx hb dJ0_isLatin1_aae02_13 (by decide) ?_
  refine lv_goto (tgt := 18) hx hb dJ0_isLatin1_aae02_14 (by decide) ?_
  have hP9 := hP; have hD9 := hD
  subst hQ
  refine W.widen (k := 0) (n := 0) (Nat.le_of_ble_eq_true rfl) (Nat.le_of_ble_eq_true rfl) ?_
  exact W.zret (v := 1) (ty := .boolean) hx hb hr (rfl) (fun tS htS _ => ⟨⟨_, _, rfl, ⟨rfl, rfl⟩, by rw [htS]; exact hP9, hD9⟩, hS.F htS⟩) hS.2.2 dJ0_isLatin1_aae02_18

set_option maxHeartbeats 4000000 in
set_option maxRecDepth 100000 in
theorem k_J0_charAt_5068e (l : Launch) (D : va_G) (g : Nat → ClassId) (sz : Nat) (ix : Nat) (h0 : ix < 9) : Met l yJ0_charAt_5068e wsJ0_charAt_5068e ({ frames := 3, cells := 0, slots := 0, locals := 64 }) (va_Pc [.ref (g 15), .int (nI ix)] (pre D g sz [])) (va_Qi (fun (r : Int32) (u : va_W) => u = []) (wd D (va_A [] sz)) (va_A [] sz)) 0 0 (va_A [] sz) := by
  refine Met.ofW (cc := cJ0_charAt_5068e) (maxL := 2) (ret := (some .char)) (by decide) rfl ?_
  intro p e s m args below meth c s₁ B hml hv
  obtain ⟨rfl, hsz, hP, ⟨hK, hN⟩, hD0, hZ⟩ := hv
  have hx := B.exec
  have hb := B.bytes
  have hr := B.returns
  have hts := atoms_spec (ws := wsJ0_charAt_5068e) B.pre
  have hown : s.vm.findClass RJ0 = some m.cls := findClass_of_methodNamed B.named
  have hlocks := B.notSynchronized
  clear B
  subst hsz
  have hD := hD0.self (sz := s.heap.size)
  clear hD0
  generalize hAe : va_A [] s.heap.size = A at hD hZ ⊢
  have hA : ∀ q : Nat, s.heap.size ≤ q → A q := fun q h => by rw [← hAe]; exact Or.inr h
  have hS : va_S A s.heap s.heap [] := va_S.rf
  have f9 := hts (.fieldLink RJ0 9 "java/lang/String" "value" "[B") (List.mem_of_getElem? (i := 1) rfl)
  have hl := lv_entry ([.ref (g 15), .int (nI ix)]) (n := 2) (Nat.le_of_ble_eq_true rfl)
  rw [lg_entry_eq]
  generalize (lg_sl ([.ref (g 15), .int (nI ix)]) ++ List.replicate (2 - (lg_sl ([.ref (g 15), .int (nI ix)])).length) Slot.unset).toArray = ls at hl ⊢
  have hl : lv_has ls 2 [(0, .ref (g 15)), (1, .int (nI ix))] := hl
  generalize hQ : MQ below _ _ s _ _ _ = Q
  generalize hH : s.heap = H at hP ⊢
  have hS : va_S A s.heap H [] := by rw [← hH]; exact hS
  clear hH
  refine lv_aload_n hx hb dJ0_charAt_5068e_0 rfl (lv_at hl 0 rfl) ?_
  refine ky_Ki (As := []) (rest := []) ⟨hx, hb, hml, hown, hts⟩ ⟨hK, hN⟩ hZ hP hD hS hA [] [] (wc := []) (wr := []) rfl rfl rfl rfl (by decide) (k_J0_isLatin1_aae02 l D g H.size) (cwV 0 hts gJ0_charAt_5068e_J0_isLatin1_aae02 rfl rfl rfl (by decide +kernel) ⟨(Nat.le_of_ble_eq_true rfl), (Nat.le_of_ble_eq_true rfl)⟩) (vk_recv hZ.2.2.2.2.2.2.2.2.2.2 (i := 0) (by decide) hS) rfl hl.1 rfl (Nat.le_of_ble_eq_true rfl) dJ0_charAt_5068e_1 ⟨(Nat.le_of_ble_eq_true rfl), (Nat.le_of_ble_eq_true rfl)⟩ (fun r_1 u H locs hw hP2 hD2 hS2 => ?_)
  clear hP hD hS
  obtain ⟨rfl, rfl⟩ := hw
  have hPD : PD D A [] H := ⟨hP2, hD2⟩
  have hS := hS2; clear hP2 hD2 hS2; have hP := hPD.1; have hD := hPD.2; clear hPD
  refine W.widen (k := 0) (n := 0) (Nat.le_of_ble_eq_true rfl) (Nat.le_of_ble_eq_true rfl) ?_
  refine lv_if_eq (tgt := 16) hx hb dJ0_charAt_5068e_4 (by decide) (fun cb => absurd cb (by decide)) (fun _ => ?_)
  refine lv_aload_n hx hb dJ0_charAt_5068e_7 rfl (lv_at hl 0 rfl) ?_
  refine vk_getf hx hb ((hZ.2.2.2.2.2.2.2.2.2.2.1 0 (by decide)).2.2.1) hS hown f9 (fun _ h9 => h9) dJ0_charAt_5068e_8 ?_
  refine lv_iload_n hx hb dJ0_charAt_5068e_11 rfl (lv_at hl 1 rfl) ?_
  refine ky_Si (As := [.ref (g 16), .int (nI ix)]) (rest := []) ⟨hx, hb, hml, hown, hts⟩ ⟨hK, hN⟩ hZ hP hD hS hA [] [] (wc := []) (wr := []) rfl rfl rfl rfl (by decide) (k_J1_charAt_3b067 l D g H.size ix (show ix < 9 by omega)) (va_cwS 2 hts gJ0_charAt_5068e_J1_charAt_3b067 rfl rfl rfl (by decide +kernel) ⟨(Nat.le_of_ble_eq_true rfl), (Nat.le_of_ble_eq_true rfl)⟩) rfl hl.1 rfl (Nat.le_of_ble_eq_true rfl) dJ0_charAt_5068e_12 ⟨(Nat.le_of_ble_eq_true rfl), (Nat.le_of_ble_eq_true rfl)⟩ (fun r_2 u H locs hw hP2 hD2 hS2 => ?_)
  clear hP hD hS
  obtain ⟨zr_3, rfl, rfl, hf_4⟩ := hw
  have hPD : PD D A [] H := ⟨hP2, hD2⟩
  have hS := hS2; clear hP2 hD2 hS2; have hP := hPD.1; have hD := hPD.2; clear hPD
  refine W.widen (k := 0) (n := 0) (Nat.le_of_ble_eq_true rfl) (Nat.le_of_ble_eq_true rfl) ?_
  have hP9 := hP; have hD9 := hD
  subst hQ
  refine W.widen (k := 0) (n := 0) (Nat.le_of_ble_eq_true rfl) (Nat.le_of_ble_eq_true rfl) ?_
  exact W.zret (v := r_2) (ty := .char) hx hb hr (hf_4) (fun tS htS _ => ⟨⟨_, _, rfl, rfl, by rw [htS]; exact hP9, hD9⟩, hS.F htS⟩) hS.2.2 dJ0_charAt_5068e_15
