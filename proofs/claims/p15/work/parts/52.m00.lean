set_option maxHeartbeats 4000000 in
set_option maxRecDepth 100000 in
theorem k_X7_has (l : Launch) (D : va_G) (g : Nat → ClassId) (sz : Nat) (zs : Int32) (zk : Int32) : Met l yX7_has wsX7_has ({ frames := 0, cells := 0, slots := 0, locals := 0 }) (va_Pc [.int zs, .int zk] (pre D g sz [])) (va_Qi (fun (r : Int32) (u : va_W) => u = []) (wd D (va_A [] sz)) (va_A [] sz)) 0 0 (va_A [] sz) := by
  refine Met.ofW (cc := cX7_has) (maxL := 2) (ret := (some .boolean)) (by decide) rfl ?_
  intro p e s m args below meth c s₁ B hml hv
  obtain ⟨rfl, hsz, hP, ⟨hK, hN⟩, hD0, hZ⟩ := hv
  have hx := B.exec
  have hb := B.bytes
  have hr := B.returns
  have hts := atoms_spec (ws := wsX7_has) B.pre
  have hown : s.vm.findClass RX7 = some m.cls := findClass_of_methodNamed B.named
  have hlocks := B.notSynchronized
  clear B
  subst hsz
  have hD := hD0.self (sz := s.heap.size)
  clear hD0
  generalize hAe : va_A [] s.heap.size = A at hD hZ ⊢
  have hA : ∀ q : Nat, s.heap.size ≤ q → A q := fun q h => by rw [← hAe]; exact Or.inr h
  have hS : va_S A s.heap s.heap [] := va_S.rf
  have hl := lv_entry ([.int zs, .int zk]) (n := 2) (Nat.le_of_ble_eq_true rfl)
  rw [lg_entry_eq]
  generalize (lg_sl ([.int zs, .int zk]) ++ List.replicate (2 - (lg_sl ([.int zs, .int zk])).length) Slot.unset).toArray = ls at hl ⊢
  have hl : lv_has ls 2 [(0, .int zs), (1, .int zk)] := hl
  generalize hQ : MQ below _ _ s _ _ _ = Q
  generalize hH : s.heap = H at hP ⊢
  have hS : va_S A s.heap H [] := by rw [← hH]; exact hS
  clear hH
  refine lv_iload_n hx hb dX7_has_0 rfl (lv_at hl 0 rfl) ?_
  refine lv_iload_n hx hb dX7_has_1 rfl (lv_at hl 1 rfl) ?_
  refine lv_ishr hx hb dX7_has_2 ?_
  refine lv_topi (fun y_1 _ => ?_)
  refine lv_iconst (v := 1) hx hb dX7_has_3 (by decide) ?_
  refine lv_iand hx hb dX7_has_4 ?_
  refine lv_topi (fun y_2 _ => ?_)
  refine lv_iconst (v := 1) hx hb dX7_has_5 (by decide) ?_
  refine lv_icmp_ne (tgt := 13) hx hb dX7_has_6 (by decide) (fun cb_3 => ?_) (fun cb_3 => ?_)
  · skip
    refine lv_iconst (v := 0) hx hb dX7_has_13 (by decide) ?_
    have hP9 := hP; have hD9 := hD
    subst hQ
    refine W.widen (k := 0) (n := 0) (Nat.le_of_ble_eq_true rfl) (Nat.le_of_ble_eq_true rfl) ?_
    exact W.zret (v := 0) (ty := .boolean) hx hb hr (rfl) (fun tS htS _ => ⟨⟨_, _, rfl, rfl, by rw [htS]; exact hP9, hD9⟩, hS.F htS⟩) hS.2.2 dX7_has_14
  · skip
    have hPq_4 := hP; have hDq_4 := hD; have hSq_4 := hS; have hlq_4 := hl; clear hP hD hS hl
    subst cb_3
    have hP := hPq_4; have hD := hDq_4; have hS := hSq_4; have hl := hlq_4; clear hPq_4 hDq_4 hSq_4 hlq_4
    refine lv_iconst (v := 1) hx hb dX7_has_9 (by decide) ?_
    refine lv_goto (tgt := 14) hx hb dX7_has_10 (by decide) ?_
    have hP9 := hP; have hD9 := hD
    subst hQ
    refine W.widen (k := 0) (n := 0) (Nat.le_of_ble_eq_true rfl) (Nat.le_of_ble_eq_true rfl) ?_
    exact W.zret (v := 1) (ty := .boolean) hx hb hr (rfl) (fun tS htS _ => ⟨⟨_, _, rfl, rfl, by rw [htS]; exact hP9, hD9⟩, hS.F htS⟩) hS.2.2 dX7_has_14

set_option maxHeartbeats 4000000 in
set_option maxRecDepth 100000 in
theorem k_X7_less (l : Launch) (D : va_G) (g : Nat → ClassId) (sz : Nat) (za : Int32) (zb : Int32) : Met l yX7_less wsX7_less ({ frames := 0, cells := 0, slots := 0, locals := 0 }) (va_Pc [.int za, .int zb] (pre D g sz [])) (va_Qi (fun (r : Int32) (u : va_W) => u = []) (wd D (va_A [] sz)) (va_A [] sz)) 0 0 (va_A [] sz) := by
  refine Met.ofW (cc := cX7_less) (maxL := 2) (ret := (some .int)) (by decide) rfl ?_
  intro p e s m args below meth c s₁ B hml hv
  obtain ⟨rfl, hsz, hP, ⟨hK, hN⟩, hD0, hZ⟩ := hv
  have hx := B.exec
  have hb := B.bytes
  have hr := B.returns
  have hts := atoms_spec (ws := wsX7_less) B.pre
  have hown : s.vm.findClass RX7 = some m.cls := findClass_of_methodNamed B.named
  have hlocks := B.notSynchronized
  clear B
  subst hsz
  have hD := hD0.self (sz := s.heap.size)
  clear hD0
  generalize hAe : va_A [] s.heap.size = A at hD hZ ⊢
  have hA : ∀ q : Nat, s.heap.size ≤ q → A q := fun q h => by rw [← hAe]; exact Or.inr h
  have hS : va_S A s.heap s.heap [] := va_S.rf
  have hl := lv_entry ([.int za, .int zb]) (n := 2) (Nat.le_of_ble_eq_true rfl)
  rw [lg_entry_eq]
  generalize (lg_sl ([.int za, .int zb]) ++ List.replicate (2 - (lg_sl ([.int za, .int zb])).length) Slot.unset).toArray = ls at hl ⊢
  have hl : lv_has ls 2 [(0, .int za), (1, .int zb)] := hl
  generalize hQ : MQ below _ _ s _ _ _ = Q
  generalize hH : s.heap = H at hP ⊢
  have hS : va_S A s.heap H [] := by rw [← hH]; exact hS
  clear hH
  refine lv_iload_n hx hb dX7_less_0 rfl (lv_at hl 0 rfl) ?_
  refine lv_iload_n hx hb dX7_less_1 rfl (lv_at hl 1 rfl) ?_
  refine lv_isub hx hb dX7_less_2 ?_
  refine lv_topi (fun y_1 _ => ?_)
  refine lv_bipush (v := 63) hx hb dX7_less_3 (by decide) ?_
  refine lv_iand hx hb dX7_less_5 ?_
  refine lv_topi (fun y_2 _ => ?_)
  have hP9 := hP; have hD9 := hD
  subst hQ
  refine W.widen (k := 0) (n := 0) (Nat.le_of_ble_eq_true rfl) (Nat.le_of_ble_eq_true rfl) ?_
  exact W.iret (v := y_2) hx hb hr (fun tS htS _ => ⟨⟨_, _, rfl, rfl, by rw [htS]; exact hP9, hD9⟩, hS.F htS⟩) hS.2.2 dX7_less_6

set_option maxHeartbeats 4000000 in
set_option maxRecDepth 100000 in
theorem k_X7_in (l : Launch) (D : va_G) (g : Nat → ClassId) (sz : Nat) (zv : Int32) (zl : Int32) (zu : Int32) : Met l yX7_in wsX7_in ({ frames := 0, cells := 0, slots := 0, locals := 0 }) (va_Pc [.int zv, .int zl, .int zu] (pre D g sz [])) (va_Qi (fun (r : Int32) (u : va_W) => u = [] ∧ r = (if zl ≤ zv ∧ zv ≤ zu then 1 else 0)) (wd D (va_A [] sz)) (va_A [] sz)) 0 0 (va_A [] sz) := by
  refine Met.ofW (cc := cX7_in) (maxL := 3) (ret := (some .boolean)) (by decide) rfl ?_
  intro p e s m args below meth c s₁ B hml hv
  obtain ⟨rfl, hsz, hP, ⟨hK, hN⟩, hD0, hZ⟩ := hv
  have hx := B.exec
  have hb := B.bytes
  have hr := B.returns
  have hts := atoms_spec (ws := wsX7_in) B.pre
  have hown : s.vm.findClass RX7 = some m.cls := findClass_of_methodNamed B.named
  have hlocks := B.notSynchronized
  clear B
  subst hsz
  have hD := hD0.self (sz := s.heap.size)
  clear hD0
  generalize hAe : va_A [] s.heap.size = A at hD hZ ⊢
  have hA : ∀ q : Nat, s.heap.size ≤ q → A q := fun q h => by rw [← hAe]; exact Or.inr h
  have hS : va_S A s.heap s.heap [] := va_S.rf
  have hl := lv_entry ([.int zv, .int zl, .int zu]) (n := 3) (Nat.le_of_ble_eq_true rfl)
  rw [lg_entry_eq]
  generalize (lg_sl ([.int zv, .int zl, .int zu]) ++ List.replicate (3 - (lg_sl ([.int zv, .int zl, .int zu])).length) Slot.unset).toArray = ls at hl ⊢
  have hl : lv_has ls 3 [(0, .int zv), (1, .int zl), (2, .int zu)] := hl
  generalize hQ : MQ below _ _ s _ _ _ = Q
  generalize hH : s.heap = H at hP ⊢
  have hS : va_S A s.heap H [] := by rw [← hH]; exact hS
  clear hH
  refine lv_iload_n hx hb dX7_in_0 rfl (lv_at hl 0 rfl) ?_
  refine lv_iload_n hx hb dX7_in_1 rfl (lv_at hl 1 rfl) ?_
  refine lv_icmp_lt (tgt := 14) hx hb dX7_in_2 (by decide) (fun cb_1 => ?_) (fun cb_1 => ?_)
  · skip
    refine lv_iconst (v := 0) hx hb dX7_in_14 (by decide) ?_
    have hP9 := hP; have hD9 := hD
    subst hQ
    refine W.widen (k := 0) (n := 0) (Nat.le_of_ble_eq_true rfl) (Nat.le_of_ble_eq_true rfl) ?_
    exact W.zret (v := 0) (ty := .boolean) hx hb hr (rfl) (fun tS htS _ => ⟨⟨_, _, rfl, ⟨rfl, (if_neg (fun q => absurd cb_1 (Int32.not_lt.mpr q.1))).symm⟩, by rw [htS]; exact hP9, hD9⟩, hS.F htS⟩) hS.2.2 dX7_in_15
  · skip
    refine lv_iload_n hx hb dX7_in_5 rfl (lv_at hl 0 rfl) ?_
    refine lv_iload_n hx hb dX7_in_6 rfl (lv_at hl 2 rfl) ?_
    refine lv_icmp_gt (tgt := 14) hx hb dX7_in_7 (by decide) (fun cb_2 => ?_) (fun cb_2 => ?_)
    · skip
      refine lv_iconst (v := 0) hx hb dX7_in_14 (by decide) ?_
      have hP9 := hP; have hD9 := hD
      subst hQ
      refine W.widen (k := 0) (n := 0) (Nat.le_of_ble_eq_true rfl) (Nat.le_of_ble_eq_true rfl) ?_
      exact W.zret (v := 0) (ty := .boolean) hx hb hr (rfl) (fun tS htS _ => ⟨⟨_, _, rfl, ⟨rfl, (if_neg (fun q => absurd cb_2 (Int32.not_lt.mpr q.2))).symm⟩, by rw [htS]; exact hP9, hD9⟩, hS.F htS⟩) hS.2.2 dX7_in_15
    · skip
      refine lv_iconst (v := 1) hx hb dX7_in_10 (by decide) ?_
      refine lv_goto (tgt := 15) hx hb dX7_in_11 (by decide) ?_
      have hP9 := hP; have hD9 := hD
      subst hQ
      refine W.widen (k := 0) (n := 0) (Nat.le_of_ble_eq_true rfl) (Nat.le_of_ble_eq_true rfl) ?_
      exact W.zret (v := 1) (ty := .boolean) hx hb hr (rfl) (fun tS htS _ => ⟨⟨_, _, rfl, ⟨rfl, (if_pos ⟨Int32.not_lt.mp cb_1, Int32.not_lt.mp cb_2⟩).symm⟩, by rw [htS]; exact hP9, hD9⟩, hS.F htS⟩) hS.2.2 dX7_in_15

set_option maxHeartbeats 4000000 in
set_option maxRecDepth 100000 in
theorem k_X7_isSpan (l : Launch) (D : va_G) (g : Nat → ClassId) (sz : Nat) (zv : Int32) (zl : Int32) : Met l yX7_isSpan wsX7_isSpan ({ frames := 1, cells := 0, slots := 0, locals := 22 }) (va_Pc [.int zv, .int zl] (pre D g sz [])) (va_Qi (fun (r : Int32) (u : va_W) => u = [] ∧ r = (if zl ≤ zv ∧ zv ≤ 200 then 1 else 0)) (wd D (va_A [] sz)) (va_A [] sz)) 0 0 (va_A [] sz) := by
  refine Met.ofW (cc := cX7_isSpan) (maxL := 2) (ret := (some .boolean)) (by decide) rfl ?_
  intro p e s m args below meth c s₁ B hml hv
  obtain ⟨rfl, hsz, hP, ⟨hK, hN⟩, hD0, hZ⟩ := hv
  have hx := B.exec
  have hb := B.bytes
  have hr := B.returns
  have hts := atoms_spec (ws := wsX7_isSpan) B.pre
  have hown : s.vm.findClass RX7 = some m.cls := findClass_of_methodNamed B.named
  have hlocks := B.notSynchronized
  clear B
  subst hsz
  have hD := hD0.self (sz := s.heap.size)
  clear hD0
  generalize hAe : va_A [] s.heap.size = A at hD hZ ⊢
  have hA : ∀ q : Nat, s.heap.size ≤ q → A q := fun q h => by rw [← hAe]; exact Or.inr h
  have hS : va_S A s.heap s.heap [] := va_S.rf
  have hl := lv_entry ([.int zv, .int zl]) (n := 2) (Nat.le_of_ble_eq_true rfl)
  rw [lg_entry_eq]
  generalize (lg_sl ([.int zv, .int zl]) ++ List.replicate (2 - (lg_sl ([.int zv, .int zl])).length) Slot.unset).toArray = ls at hl ⊢
  have hl : lv_has ls 2 [(0, .int zv), (1, .int zl)] := hl
  generalize hQ : MQ below _ _ s _ _ _ = Q
  generalize hH : s.heap = H at hP ⊢
  have hS : va_S A s.heap H [] := by rw [← hH]; exact hS
  clear hH
  refine lv_iload_n hx hb dX7_isSpan_0 rfl (lv_at hl 0 rfl) ?_
  refine lv_iload_n hx hb dX7_isSpan_1 rfl (lv_at hl 1 rfl) ?_
  refine lv_sipush (v := 200) hx hb dX7_isSpan_2 (by decide) ?_
  refine ky_Si (As := [.int zv, .int zl, .int 200]) (rest := []) ⟨hx, hb, hml, hown, hts⟩ ⟨hK, hN⟩ hZ hP hD hS hA [] [] (wc := []) (wr := []) rfl rfl rfl rfl (by decide) (k_X7_in l D g H.size zv zl 200) (va_cwS 3 hts gX7_isSpan_X7_in rfl rfl rfl (by decide +kernel) ⟨(Nat.le_of_ble_eq_true rfl), (Nat.le_of_ble_eq_true rfl)⟩) rfl hl.1 rfl (Nat.le_of_ble_eq_true rfl) dX7_isSpan_5 ⟨(Nat.le_of_ble_eq_true rfl), (Nat.le_of_ble_eq_true rfl)⟩ (fun r_1 u H locs hw hP2 hD2 hS2 => ?_)
  clear hP hD hS
  obtain ⟨rfl, rfl⟩ := hw
  have hPD : PD D A [] H := ⟨hP2, hD2⟩
  have hS := hS2; clear hP2 hD2 hS2; have hP := hPD.1; have hD := hPD.2; clear hPD
  refine W.widen (k := 0) (n := 0) (Nat.le_of_ble_eq_true rfl) (Nat.le_of_ble_eq_true rfl) ?_
  have hP9 := hP; have hD9 := hD
  subst hQ
  refine W.widen (k := 0) (n := 0) (Nat.le_of_ble_eq_true rfl) (Nat.le_of_ble_eq_true rfl) ?_
  exact W.zret (v := (if zl ≤ zv ∧ zv ≤ 200 then 1 else 0)) (ty := .boolean) hx hb hr (zb_nar (zb_ite)) (fun tS htS _ => ⟨⟨_, _, rfl, ⟨rfl, rfl⟩, by rw [htS]; exact hP9, hD9⟩, hS.F htS⟩) hS.2.2 dX7_isSpan_8

set_option maxHeartbeats 4000000 in
set_option maxRecDepth 100000 in
theorem k_X7_lane (l : Launch) (D : va_G) (g : Nat → ClassId) (sz : Nat) (hix : Nat) (cx : Nat) (h0 : hix < 3) (h1 : cx < 3) : Met l yX7_lane wsX7_lane ({ frames := 0, cells := 0, slots := 0, locals := 0 }) (va_Pc [.int (nI hix), .int (nI cx)] (pre D g sz [])) (va_Qi (fun (r : Int32) (u : va_W) => u = [] ∧ r = (nI (7 * (3 * hix + cx)))) (wd D (va_A [] sz)) (va_A [] sz)) 0 0 (va_A [] sz) := by
  refine Met.ofW (cc := cX7_lane) (maxL := 2) (ret := (some .int)) (by decide) rfl ?_
  intro p e s m args below meth c s₁ B hml hv
  obtain ⟨rfl, hsz, hP, ⟨hK, hN⟩, hD0, hZ⟩ := hv
  have hx := B.exec
  have hb := B.bytes
  have hr := B.returns
  have hts := atoms_spec (ws := wsX7_lane) B.pre
  have hown : s.vm.findClass RX7 = some m.cls := findClass_of_methodNamed B.named
  have hlocks := B.notSynchronized
  clear B
  subst hsz
  have hD := hD0.self (sz := s.heap.size)
  clear hD0
  generalize hAe : va_A [] s.heap.size = A at hD hZ ⊢
  have hA : ∀ q : Nat, s.heap.size ≤ q → A q := fun q h => by rw [← hAe]; exact Or.inr h
  have hS : va_S A s.heap s.heap [] := va_S.rf
  have hl := lv_entry ([.int (nI hix), .int (nI cx)]) (n := 2) (Nat.le_of_ble_eq_true rfl)
  rw [lg_entry_eq]
  generalize (lg_sl ([.int (nI hix), .int (nI cx)]) ++ List.replicate (2 - (lg_sl ([.int (nI hix), .int (nI cx)])).length) Slot.unset).toArray = ls at hl ⊢
  have hl : lv_has ls 2 [(0, .int (nI hix)), (1, .int (nI cx))] := hl
  generalize hQ : MQ below _ _ s _ _ _ = Q
  generalize hH : s.heap = H at hP ⊢
  have hS : va_S A s.heap H [] := by rw [← hH]; exact hS
  clear hH
  refine lv_bipush (v := 7) hx hb dX7_lane_0 (by decide) ?_
  refine lv_iconst (v := 3) hx hb dX7_lane_2 (by decide) ?_
  refine lv_iload_n hx hb dX7_lane_3 rfl (lv_at hl 0 rfl) ?_
  refine lv_imul hx hb dX7_lane_4 ?_
  refine lv_eqi (y := (nI (3 * hix))) (pk_mul (3) (hix)) ?_
  refine lv_iload_n hx hb dX7_lane_5 rfl (lv_at hl 1 rfl) ?_
  refine lv_iadd hx hb dX7_lane_6 ?_
  refine lv_eqi (y := (nI (3 * hix + cx))) (nI_add (3 * hix) (cx)) ?_
  refine lv_imul hx hb dX7_lane_7 ?_
  refine lv_eqi (y := (nI (7 * (3 * hix + cx)))) (pk_mul (7) (3 * hix + cx)) ?_
  have hP9 := hP; have hD9 := hD
  subst hQ
  refine W.widen (k := 0) (n := 0) (Nat.le_of_ble_eq_true rfl) (Nat.le_of_ble_eq_true rfl) ?_
  exact W.iret (v := (nI (7 * (3 * hix + cx)))) hx hb hr (fun tS htS _ => ⟨⟨_, _, rfl, ⟨rfl, rfl⟩, by rw [htS]; exact hP9, hD9⟩, hS.F htS⟩) hS.2.2 dX7_lane_8

set_option maxHeartbeats 4000000 in
set_option maxRecDepth 100000 in
theorem k_X7_bufferAt (l : Launch) (D : va_G) (g : Nat → ClassId) (sz : Nat) (nx : Nat) (cx : Nat) (h0 : nx ≤ 3) (h1 : cx < 3) : Met l yX7_bufferAt wsX7_bufferAt ({ frames := 0, cells := 0, slots := 0, locals := 0 }) (va_Pc [.int (nI nx), .int (nI cx)] (pre D g sz [])) (va_Qi (fun (r : Int32) (u : va_W) => u = [] ∧ r = (nI (189 + 3 * nx + cx))) (wd D (va_A [] sz)) (va_A [] sz)) 0 0 (va_A [] sz) := by
  refine Met.ofW (cc := cX7_bufferAt) (maxL := 2) (ret := (some .int)) (by decide) rfl ?_
  intro p e s m args below meth c s₁ B hml hv
  obtain ⟨rfl, hsz, hP, ⟨hK, hN⟩, hD0, hZ⟩ := hv
  have hx := B.exec
  have hb := B.bytes
  have hr := B.returns
  have hts := atoms_spec (ws := wsX7_bufferAt) B.pre
  have hown : s.vm.findClass RX7 = some m.cls := findClass_of_methodNamed B.named
  have hlocks := B.notSynchronized
  clear B
  subst hsz
  have hD := hD0.self (sz := s.heap.size)
  clear hD0
  generalize hAe : va_A [] s.heap.size = A at hD hZ ⊢
  have hA : ∀ q : Nat, s.heap.size ≤ q → A q := fun q h => by rw [← hAe]; exact Or.inr h
  have hS : va_S A s.heap s.heap [] := va_S.rf
  have hl := lv_entry ([.int (nI nx), .int (nI cx)]) (n := 2) (Nat.le_of_ble_eq_true rfl)
  rw [lg_entry_eq]
  generalize (lg_sl ([.int (nI nx), .int (nI cx)]) ++ List.replicate (2 - (lg_sl ([.int (nI nx), .int (nI cx)])).length) Slot.unset).toArray = ls at hl ⊢
  have hl : lv_has ls 2 [(0, .int (nI nx)), (1, .int (nI cx))] := hl
  generalize hQ : MQ below _ _ s _ _ _ = Q
  generalize hH : s.heap = H at hP ⊢
  have hS : va_S A s.heap H [] := by rw [← hH]; exact hS
  clear hH
  refine lv_sipush (v := 189) hx hb dX7_bufferAt_0 (by decide) ?_
  refine lv_iconst (v := 3) hx hb dX7_bufferAt_3 (by decide) ?_
  refine lv_iload_n hx hb dX7_bufferAt_4 rfl (lv_at hl 0 rfl) ?_
  refine lv_imul hx hb dX7_bufferAt_5 ?_
  refine lv_eqi (y := (nI (3 * nx))) (pk_mul (3) (nx)) ?_
  refine lv_iadd hx hb dX7_bufferAt_6 ?_
  refine lv_eqi (y := (nI (189 + (3 * nx)))) (nI_add (189) (3 * nx)) ?_
  refine lv_iload_n hx hb dX7_bufferAt_7 rfl (lv_at hl 1 rfl) ?_
  refine lv_iadd hx hb dX7_bufferAt_8 ?_
  refine lv_eqi (y := (nI (189 + (3 * nx) + cx))) (nI_add (189 + (3 * nx)) (cx)) ?_
  have hP9 := hP; have hD9 := hD
  subst hQ
  refine W.widen (k := 0) (n := 0) (Nat.le_of_ble_eq_true rfl) (Nat.le_of_ble_eq_true rfl) ?_
  exact W.iret (v := (nI (189 + (3 * nx) + cx))) hx hb hr (fun tS htS _ => ⟨⟨_, _, rfl, ⟨rfl, rfl⟩, by rw [htS]; exact hP9, hD9⟩, hS.F htS⟩) hS.2.2 dX7_bufferAt_9

set_option maxHeartbeats 4000000 in
set_option maxRecDepth 100000 in
theorem k_X7_circuitAt (l : Launch) (D : va_G) (g : Nat → ClassId) (sz : Nat) (cx : Nat) (h0 : cx < 3) : Met l yX7_circuitAt wsX7_circuitAt ({ frames := 0, cells := 0, slots := 0, locals := 0 }) (va_Pc [.int (nI cx)] (pre D g sz [])) (va_Qi (fun (r : Int32) (u : va_W) => u = [] ∧ r = (nI (201 + 9 * cx))) (wd D (va_A [] sz)) (va_A [] sz)) 0 0 (va_A [] sz) := by
  refine Met.ofW (cc := cX7_circuitAt) (maxL := 1) (ret := (some .int)) (by decide) rfl ?_
  intro p e s m args below meth c s₁ B hml hv
  obtain ⟨rfl, hsz, hP, ⟨hK, hN⟩, hD0, hZ⟩ := hv
  have hx := B.exec
  have hb := B.bytes
  have hr := B.returns
  have hts := atoms_spec (ws := wsX7_circuitAt) B.pre
  have hown : s.vm.findClass RX7 = some m.cls := findClass_of_methodNamed B.named
  have hlocks := B.notSynchronized
  clear B
  subst hsz
  have hD := hD0.self (sz := s.heap.size)
  clear hD0
  generalize hAe : va_A [] s.heap.size = A at hD hZ ⊢
  have hA : ∀ q : Nat, s.heap.size ≤ q → A q := fun q h => by rw [← hAe]; exact Or.inr h
  have hS : va_S A s.heap s.heap [] := va_S.rf
  have hl := lv_entry ([.int (nI cx)]) (n := 1) (Nat.le_of_ble_eq_true rfl)
  rw [lg_entry_eq]
  generalize (lg_sl ([.int (nI cx)]) ++ List.replicate (1 - (lg_sl ([.int (nI cx)])).length) Slot.unset).toArray = ls at hl ⊢
  have hl : lv_has ls 1 [(0, .int (nI cx))] := hl
  generalize hQ : MQ below _ _ s _ _ _ = Q
  generalize hH : s.heap = H at hP ⊢
  have hS : va_S A s.heap H [] := by rw [← hH]; exact hS
  clear hH
  refine lv_sipush (v := 201) hx hb dX7_circuitAt_0 (by decide) ?_
  refine lv_bipush (v := 9) hx hb dX7_circuitAt_3 (by decide) ?_
  refine lv_iload_n hx hb dX7_circuitAt_5 rfl (lv_at hl 0 rfl) ?_
  refine lv_imul hx hb dX7_circuitAt_6 ?_
  refine lv_eqi (y := (nI (9 * cx))) (pk_mul (9) (cx)) ?_
  refine lv_iadd hx hb dX7_circuitAt_7 ?_
  refine lv_eqi (y := (nI (201 + (9 * cx)))) (nI_add (201) (9 * cx)) ?_
  have hP9 := hP; have hD9 := hD
  subst hQ
  refine W.widen (k := 0) (n := 0) (Nat.le_of_ble_eq_true rfl) (Nat.le_of_ble_eq_true rfl) ?_
  exact W.iret (v := (nI (201 + (9 * cx)))) hx hb hr (fun tS htS _ => ⟨⟨_, _, rfl, ⟨rfl, rfl⟩, by rw [htS]; exact hP9, hD9⟩, hS.F htS⟩) hS.2.2 dX7_circuitAt_8

set_option maxHeartbeats 4000000 in
set_option maxRecDepth 100000 in
theorem k_X7_wayAt (l : Launch) (D : va_G) (g : Nat → ClassId) (sz : Nat) (hix : Nat) (tx : Nat) (h0 : hix < 3) (h1 : tx < 2 ^ 30) : Met l yX7_wayAt wsX7_wayAt ({ frames := 0, cells := 0, slots := 0, locals := 0 }) (va_Pc [.int (nI hix), .int (nI tx)] (pre D g sz [])) (va_Qi (fun (r : Int32) (u : va_W) => u = [] ∧ r = (nI (69 + 5 * (8 * hix + tx % 8)))) (wd D (va_A [] sz)) (va_A [] sz)) 0 0 (va_A [] sz) := by
  refine Met.ofW (cc := cX7_wayAt) (maxL := 2) (ret := (some .int)) (by decide) rfl ?_
  intro p e s m args below meth c s₁ B hml hv
  obtain ⟨rfl, hsz, hP, ⟨hK, hN⟩, hD0, hZ⟩ := hv
  have hx := B.exec
  have hb := B.bytes
  have hr := B.returns
  have hts := atoms_spec (ws := wsX7_wayAt) B.pre
  have hown : s.vm.findClass RX7 = some m.cls := findClass_of_methodNamed B.named
  have hlocks := B.notSynchronized
  clear B
  subst hsz
  have hD := hD0.self (sz := s.heap.size)
  clear hD0
  generalize hAe : va_A [] s.heap.size = A at hD hZ ⊢
  have hA : ∀ q : Nat, s.heap.size ≤ q → A q := fun q h => by rw [← hAe]; exact Or.inr h
  have hS : va_S A s.heap s.heap [] := va_S.rf
  have hl := lv_entry ([.int (nI hix), .int (nI tx)]) (n := 2) (Nat.le_of_ble_eq_true rfl)
  rw [lg_entry_eq]
  generalize (lg_sl ([.int (nI hix), .int (nI tx)]) ++ List.replicate (2 - (lg_sl ([.int (nI hix), .int (nI tx)])).length) Slot.unset).toArray = ls at hl ⊢
  have hl : lv_has ls 2 [(0, .int (nI hix)), (1, .int (nI tx))] := hl
  generalize hQ : MQ below _ _ s _ _ _ = Q
  generalize hH : s.heap = H at hP ⊢
  have hS : va_S A s.heap H [] := by rw [← hH]; exact hS
  clear hH
  refine lv_bipush (v := 69) hx hb dX7_wayAt_0 (by decide) ?_
  refine lv_iconst (v := 5) hx hb dX7_wayAt_2 (by decide) ?_
  refine lv_bipush (v := 8) hx hb dX7_wayAt_3 (by decide) ?_
  refine lv_iload_n hx hb dX7_wayAt_5 rfl (lv_at hl 0 rfl) ?_
  refine lv_imul hx hb dX7_wayAt_6 ?_
  refine lv_eqi (y := (nI (8 * hix))) (pk_mul (8) (hix)) ?_
  refine lv_iload_n hx hb dX7_wayAt_7 rfl (lv_at hl 1 rfl) ?_
  refine lv_bipush (v := 8) hx hb dX7_wayAt_8 (by decide) ?_
  refine lv_irem hx hb dX7_wayAt_10 (by decide) ?_
  refine lv_eqi (y := (nI ((tx) % 8))) (pk_rem (show tx < 2 ^ 31 by omega) (show 0 < 8 by omega) (show 8 < 2 ^ 31 by omega)) ?_
  refine lv_iadd hx hb dX7_wayAt_11 ?_
  refine lv_eqi (y := (nI (8 * hix + ((tx) % 8)))) (nI_add (8 * hix) ((tx) % 8)) ?_
  refine lv_imul hx hb dX7_wayAt_12 ?_
  refine lv_eqi (y := (nI (5 * (8 * hix + ((tx) % 8))))) (pk_mul (5) (8 * hix + ((tx) % 8))) ?_
  refine lv_iadd hx hb dX7_wayAt_13 ?_
  refine lv_eqi (y := (nI (69 + (5 * (8 * hix + ((tx) % 8)))))) (nI_add (69) (5 * (8 * hix + ((tx) % 8)))) ?_
  have hP9 := hP; have hD9 := hD
  subst hQ
  refine W.widen (k := 0) (n := 0) (Nat.le_of_ble_eq_true rfl) (Nat.le_of_ble_eq_true rfl) ?_
  exact W.iret (v := (nI (69 + (5 * (8 * hix + ((tx) % 8)))))) hx hb hr (fun tS htS _ => ⟨⟨_, _, rfl, ⟨rfl, rfl⟩, by rw [htS]; exact hP9, hD9⟩, hS.F htS⟩) hS.2.2 dX7_wayAt_14

set_option maxHeartbeats 4000000 in
set_option maxRecDepth 100000 in
theorem k_X7_delay (l : Launch) (D : va_G) (g : Nat → ClassId) (sz : Nat) (Mm : Nat) (hix : Nat) (zth : Int32) (Mt : Nat) (tp : Nat) (zma : Int32) (zwr : Int32) (Mrr : Nat) (Mrh : Nat) (Mrc : Nat) (zrh : Int32) (zrc : Int32) (Mn : Nat) (Mf : Nat) (Mr : Nat) (Mh : Nat) (hp : Nat) (cc : Nat) (Ma : Nat) (Mas : Nat) (Msn : Nat) (Mac : Nat) (Mat : Nat) (fmh : Nat → Int32) (h0 : hix < 3) (h1 : n3 fmh) : Met l yX7_delay wsX7_delay ({ frames := 0, cells := 0, slots := 0, locals := 0 }) (va_Pc [.ref Mm, .int (nI hix)] (pre D g sz [(Mm, .inr (7, [.int zth, .ref Mt, .int (nI tp), .int zma, .int zwr, .ref Mrr, .ref Mrh, .ref Mrc, .int zrh, .int zrc, .ref Mn, .ref Mf, .ref Mr, .ref Mh, .int (nI hp), .int (nI cc), .ref Ma, .ref Mas, .ref Msn, .ref Mac, .ref Mat])), (Mh, .inl (g 0, 9, .inl fmh))])) (va_Qi (fun (r : Int32) (u : va_W) => ∃ (dx : Nat), u = [(Mm, .inr (7, [.int zth, .ref Mt, .int (nI tp), .int zma, .int zwr, .ref Mrr, .ref Mrh, .ref Mrc, .int zrh, .int zrc, .ref Mn, .ref Mf, .ref Mr, .ref Mh, .int (nI hp), .int (nI cc), .ref Ma, .ref Mas, .ref Msn, .ref Mac, .ref Mat])), (Mh, .inl (g 0, 9, .inl fmh))] ∧ r = (nI dx) ∧ (dx ≤ 300)) (wd D (va_A [(Mm, .inr (7, [.int zth, .ref Mt, .int (nI tp), .int zma, .int zwr, .ref Mrr, .ref Mrh, .ref Mrc, .int zrh, .int zrc, .ref Mn, .ref Mf, .ref Mr, .ref Mh, .int (nI hp), .int (nI cc), .ref Ma, .ref Mas, .ref Msn, .ref Mac, .ref Mat])), (Mh, .inl (g 0, 9, .inl fmh))] sz)) (va_A [(Mm, .inr (7, [.int zth, .ref Mt, .int (nI tp), .int zma, .int zwr, .ref Mrr, .ref Mrh, .ref Mrc, .int zrh, .int zrc, .ref Mn, .ref Mf, .ref Mr, .ref Mh, .int (nI hp), .int (nI cc), .ref Ma, .ref Mas, .ref Msn, .ref Mac, .ref Mat])), (Mh, .inl (g 0, 9, .inl fmh))] sz)) 0 0 (va_A [(Mm, .inr (7, [.int zth, .ref Mt, .int (nI tp), .int zma, .int zwr, .ref Mrr, .ref Mrh, .ref Mrc, .int zrh, .int zrc, .ref Mn, .ref Mf, .ref Mr, .ref Mh, .int (nI hp), .int (nI cc), .ref Ma, .ref Mas, .ref Msn, .ref Mac, .ref Mat])), (Mh, .inl (g 0, 9, .inl fmh))] sz) := by
  refine Met.ofW (cc := cX7_delay) (maxL := 2) (ret := (some .int)) (by decide) rfl ?_
  intro p e s m args below meth c s₁ B hml hv
  obtain ⟨rfl, hsz, hP, ⟨hK, hN⟩, hD0, hZ⟩ := hv
  have hx := B.exec
  have hb := B.bytes
  have hr := B.returns
  have hts := atoms_spec (ws := wsX7_delay) B.pre
  have hown : s.vm.findClass RX7 = some m.cls := findClass_of_methodNamed B.named
  have hlocks := B.notSynchronized
  clear B
  subst hsz
  have hD := hD0.self (sz := s.heap.size)
  clear hD0
  generalize hAe : va_A [(Mm, .inr (7, [.int zth, .ref Mt, .int (nI tp), .int zma, .int zwr, .ref Mrr, .ref Mrh, .ref Mrc, .int zrh, .int zrc, .ref Mn, .ref Mf, .ref Mr, .ref Mh, .int (nI hp), .int (nI cc), .ref Ma, .ref Mas, .ref Msn, .ref Mac, .ref Mat])), (Mh, .inl (g 0, 9, .inl fmh))] s.heap.size = A at hD hZ ⊢
  have hA : ∀ q : Nat, s.heap.size ≤ q → A q := fun q h => by rw [← hAe]; exact Or.inr h
  have hS : va_S A s.heap s.heap [] := va_S.rf
  have f31 := hts (.fieldLink RX7 31 "HopCreditsModel" "hop" "[I") (List.mem_of_getElem? (i := 1) rfl)
  have iX7 : ∀ w ∈ u_ws RX7 TX7 21, w ∈ wsX7_delay := fun w h => List.mem_cons_of_mem _ (List.mem_append_right _ (h))
  have hl := lv_entry ([.ref Mm, .int (nI hix)]) (n := 2) (Nat.le_of_ble_eq_true rfl)
  rw [lg_entry_eq]
  generalize (lg_sl ([.ref Mm, .int (nI hix)]) ++ List.replicate (2 - (lg_sl ([.ref Mm, .int (nI hix)])).length) Slot.unset).toArray = ls at hl ⊢
  have hl : lv_has ls 2 [(0, .ref Mm), (1, .int (nI hix))] := hl
  generalize hQ : MQ below _ _ s _ _ _ = Q
  generalize hH : s.heap = H at hP ⊢
  have hS : va_S A s.heap H [] := by rw [← hH]; exact hS
  clear hH
  refine lv_aload_n hx hb dX7_delay_0 rfl (lv_at hl 0 rfl) ?_
  refine va_get (D := D) (ci := 7) (v := .ref Mh) (C := RX7) (T := TX7) (N := 21) hx hb hts iX7 hown hK hP 0 rfl rfl 13 (by decide) f31 (fun _ h9 => h9) rfl dX7_delay_1 ?_
  refine lv_iconst (v := 3) hx hb dX7_delay_4 (by decide) ?_
  refine lv_iload_n hx hb dX7_delay_5 rfl (lv_at hl 1 rfl) ?_
  refine lv_imul hx hb dX7_delay_6 ?_
  refine lv_eqi (y := (nI (3 * hix))) (pk_mul (3) (hix)) ?_
  refine lv_iconst (v := 0) hx hb dX7_delay_7 (by decide) ?_
  refine lv_iadd hx hb dX7_delay_8 ?_
  refine lv_eqi (y := (nI (3 * hix + 0))) (nI_add (3 * hix) (0)) ?_
  refine va_iald hx hb hK hP 1 0 rfl rfl (vp_in_nI (show 3 * hix + 0 < 9 by omega) (by decide)) dX7_delay_9 ?_
  refine lv_eqi (y := (fmh (3 * hix + 0))) (congrArg fmh (nI_clamp (show 3 * hix + 0 < 2 ^ 31 by omega))) ?_
  obtain ⟨n_1, hn_1, q9⟩ := h1 (3 * hix + 0)
  refine lv_eqi (y := nI n_1) q9 ?_
  have hP9 := hP; have hD9 := hD
  subst hQ
  refine W.widen (k := 0) (n := 0) (Nat.le_of_ble_eq_true rfl) (Nat.le_of_ble_eq_true rfl) ?_
  exact W.iret (v := (nI n_1)) hx hb hr (fun tS htS _ => ⟨⟨_, _, rfl, ⟨n_1, rfl, rfl, (show n_1 ≤ 300 by omega)⟩, by rw [htS]; exact hP9, hD9⟩, hS.F htS⟩) hS.2.2 dX7_delay_10

set_option maxHeartbeats 4000000 in
set_option maxRecDepth 100000 in
theorem k_X7_pool (l : Launch) (D : va_G) (g : Nat → ClassId) (sz : Nat) (Mm : Nat) (hix : Nat) (zth : Int32) (Mt : Nat) (tp : Nat) (zma : Int32) (zwr : Int32) (Mrr : Nat) (Mrh : Nat) (Mrc : Nat) (zrh : Int32) (zrc : Int32) (Mn : Nat) (Mf : Nat) (Mr : Nat) (Mh : Nat) (hp : Nat) (cc : Nat) (Ma : Nat) (Mas : Nat) (Msn : Nat) (Mac : Nat) (Mat : Nat) (fmh : Nat → Int32) (h0 : hix < 3) (h1 : n3 fmh) : Met l yX7_pool wsX7_pool ({ frames := 0, cells := 0, slots := 0, locals := 0 }) (va_Pc [.ref Mm, .int (nI hix)] (pre D g sz [(Mm, .inr (7, [.int zth, .ref Mt, .int (nI tp), .int zma, .int zwr, .ref Mrr, .ref Mrh, .ref Mrc, .int zrh, .int zrc, .ref Mn, .ref Mf, .ref Mr, .ref Mh, .int (nI hp), .int (nI cc), .ref Ma, .ref Mas, .ref Msn, .ref Mac, .ref Mat])), (Mh, .inl (g 0, 9, .inl fmh))])) (va_Qi (fun (r : Int32) (u : va_W) => ∃ (dx : Nat), u = [(Mm, .inr (7, [.int zth, .ref Mt, .int (nI tp), .int zma, .int zwr, .ref Mrr, .ref Mrh, .ref Mrc, .int zrh, .int zrc, .ref Mn, .ref Mf, .ref Mr, .ref Mh, .int (nI hp), .int (nI cc), .ref Ma, .ref Mas, .ref Msn, .ref Mac, .ref Mat])), (Mh, .inl (g 0, 9, .inl fmh))] ∧ r = (nI dx) ∧ (dx ≤ 300)) (wd D (va_A [(Mm, .inr (7, [.int zth, .ref Mt, .int (nI tp), .int zma, .int zwr, .ref Mrr, .ref Mrh, .ref Mrc, .int zrh, .int zrc, .ref Mn, .ref Mf, .ref Mr, .ref Mh, .int (nI hp), .int (nI cc), .ref Ma, .ref Mas, .ref Msn, .ref Mac, .ref Mat])), (Mh, .inl (g 0, 9, .inl fmh))] sz)) (va_A [(Mm, .inr (7, [.int zth, .ref Mt, .int (nI tp), .int zma, .int zwr, .ref Mrr, .ref Mrh, .ref Mrc, .int zrh, .int zrc, .ref Mn, .ref Mf, .ref Mr, .ref Mh, .int (nI hp), .int (nI cc), .ref Ma, .ref Mas, .ref Msn, .ref Mac, .ref Mat])), (Mh, .inl (g 0, 9, .inl fmh))] sz)) 0 0 (va_A [(Mm, .inr (7, [.int zth, .ref Mt, .int (nI tp), .int zma, .int zwr, .ref Mrr, .ref Mrh, .ref Mrc, .int zrh, .int zrc, .ref Mn, .ref Mf, .ref Mr, .ref Mh, .int (nI hp), .int (nI cc), .ref Ma, .ref Mas, .ref Msn, .ref Mac, .ref Mat])), (Mh, .inl (g 0, 9, .inl fmh))] sz) := by
  refine Met.ofW (cc := cX7_pool) (maxL := 2) (ret := (some .int)) (by decide) rfl ?_
  intro p e s m args below meth c s₁ B hml hv
  obtain ⟨rfl, hsz, hP, ⟨hK, hN⟩, hD0, hZ⟩ := hv
  have hx := B.exec
  have hb := B.bytes
  have hr := B.returns
  have hts := atoms_spec (ws := wsX7_pool) B.pre
  have hown : s.vm.findClass RX7 = some m.cls := findClass_of_methodNamed B.named
  have hlocks := B.notSynchronized
  clear B
  subst hsz
  have hD := hD0.self (sz := s.heap.size)
  clear hD0
  generalize hAe : va_A [(Mm, .inr (7, [.int zth, .ref Mt, .int (nI tp), .int zma, .int zwr, .ref Mrr, .ref Mrh, .ref Mrc, .int zrh, .int zrc, .ref Mn, .ref Mf, .ref Mr, .ref Mh, .int (nI hp), .int (nI cc), .ref Ma, .ref Mas, .ref Msn, .ref Mac, .ref Mat])), (Mh, .inl (g 0, 9, .inl fmh))] s.heap.size = A at hD hZ ⊢
  have hA : ∀ q : Nat, s.heap.size ≤ q → A q := fun q h => by rw [← hAe]; exact Or.inr h
  have hS : va_S A s.heap s.heap [] := va_S.rf
  have f31 := hts (.fieldLink RX7 31 "HopCreditsModel" "hop" "[I") (List.mem_of_getElem? (i := 1) rfl)
  have iX7 : ∀ w ∈ u_ws RX7 TX7 21, w ∈ wsX7_pool := fun w h => List.mem_cons_of_mem _ (List.mem_append_right _ (h))
  have hl := lv_entry ([.ref Mm, .int (nI hix)]) (n := 2) (Nat.le_of_ble_eq_true rfl)
  rw [lg_entry_eq]
  generalize (lg_sl ([.ref Mm, .int (nI hix)]) ++ List.replicate (2 - (lg_sl ([.ref Mm, .int (nI hix)])).length) Slot.unset).toArray = ls at hl ⊢
  have hl : lv_has ls 2 [(0, .ref Mm), (1, .int (nI hix))] := hl
  generalize hQ : MQ below _ _ s _ _ _ = Q
  generalize hH : s.heap = H at hP ⊢
  have hS : va_S A s.heap H [] := by rw [← hH]; exact hS
  clear hH
  refine lv_aload_n hx hb dX7_pool_0 rfl (lv_at hl 0 rfl) ?_
  refine va_get (D := D) (ci := 7) (v := .ref Mh) (C := RX7) (T := TX7) (N := 21) hx hb hts iX7 hown hK hP 0 rfl rfl 13 (by decide) f31 (fun _ h9 => h9) rfl dX7_pool_1 ?_
  refine lv_iconst (v := 3) hx hb dX7_pool_4 (by decide) ?_
  refine lv_iload_n hx hb dX7_pool_5 rfl (lv_at hl 1 rfl) ?_
  refine lv_imul hx hb dX7_pool_6 ?_
  refine lv_eqi (y := (nI (3 * hix))) (pk_mul (3) (hix)) ?_
  refine lv_iconst (v := 1) hx hb dX7_pool_7 (by decide) ?_
  refine lv_iadd hx hb dX7_pool_8 ?_
  refine lv_eqi (y := (nI (3 * hix + 1))) (nI_add (3 * hix) (1)) ?_
  refine va_iald hx hb hK hP 1 0 rfl rfl (vp_in_nI (show 3 * hix + 1 < 9 by omega) (by decide)) dX7_pool_9 ?_
  refine lv_eqi (y := (fmh (3 * hix + 1))) (congrArg fmh (nI_clamp (show 3 * hix + 1 < 2 ^ 31 by omega))) ?_
  obtain ⟨n_1, hn_1, q9⟩ := h1 (3 * hix + 1)
  refine lv_eqi (y := nI n_1) q9 ?_
  have hP9 := hP; have hD9 := hD
  subst hQ
  refine W.widen (k := 0) (n := 0) (Nat.le_of_ble_eq_true rfl) (Nat.le_of_ble_eq_true rfl) ?_
  exact W.iret (v := (nI n_1)) hx hb hr (fun tS htS _ => ⟨⟨_, _, rfl, ⟨n_1, rfl, rfl, (show n_1 ≤ 300 by omega)⟩, by rw [htS]; exact hP9, hD9⟩, hS.F htS⟩) hS.2.2 dX7_pool_10

set_option maxHeartbeats 4000000 in
set_option maxRecDepth 100000 in
theorem k_X7_clearsWay (l : Launch) (D : va_G) (g : Nat → ClassId) (sz : Nat) {gs : Nat → Int32} (Mm : Nat) (hix : Nat) (tx : Nat) (zth : Int32) (Mt : Nat) (tp : Nat) (zma : Int32) (zwr : Int32) (Mrr : Nat) (Mrh : Nat) (Mrc : Nat) (zrh : Int32) (zrc : Int32) (Mn : Nat) (Mf : Nat) (Mr : Nat) (Mh : Nat) (hp : Nat) (cc : Nat) (Ma : Nat) (Mas : Nat) (Msn : Nat) (Mac : Nat) (Mat : Nat) (fno : Nat → Int32) (tb : Nat) (ub : Nat) (h0 : tb < 2 ^ 29) (h1 : ub < 2 ^ 29) (h2 : mOK gs tb ub fno) (h3 : hix < 3) (h4 : tx < 2 ^ 30) : Met l yX7_clearsWay wsX7_clearsWay ({ frames := 1, cells := 0, slots := 0, locals := 21 }) (va_Pc [.ref Mm, .int (nI hix), .int (nI tx)] (pre D g sz [(Mm, .inr (7, [.int zth, .ref Mt, .int (nI tp), .int zma, .int zwr, .ref Mrr, .ref Mrh, .ref Mrc, .int zrh, .int zrc, .ref Mn, .ref Mf, .ref Mr, .ref Mh, .int (nI hp), .int (nI cc), .ref Ma, .ref Mas, .ref Msn, .ref Mac, .ref Mat])), (Mn, .inl (g 0, 1767, .inl fno))])) (va_Qv (fun (u : va_W) => ∃ (fnox : Nat → Int32), u = [(Mm, .inr (7, [.int zth, .ref Mt, .int (nI tp), .int zma, .int zwr, .ref Mrr, .ref Mrh, .ref Mrc, .int zrh, .int zrc, .ref Mn, .ref Mf, .ref Mr, .ref Mh, .int (nI hp), .int (nI cc), .ref Ma, .ref Mas, .ref Msn, .ref Mac, .ref Mat])), (Mn, .inl (g 0, 1767, .inl fnox))] ∧ (mOK gs tb ub fnox)) (wd D (va_A [(Mm, .inr (7, [.int zth, .ref Mt, .int (nI tp), .int zma, .int zwr, .ref Mrr, .ref Mrh, .ref Mrc, .int zrh, .int zrc, .ref Mn, .ref Mf, .ref Mr, .ref Mh, .int (nI hp), .int (nI cc), .ref Ma, .ref Mas, .ref Msn, .ref Mac, .ref Mat])), (Mn, .inl (g 0, 1767, .inl fno))] sz)) (va_A [(Mm, .inr (7, [.int zth, .ref Mt, .int (nI tp), .int zma, .int zwr, .ref Mrr, .ref Mrh, .ref Mrc, .int zrh, .int zrc, .ref Mn, .ref Mf, .ref Mr, .ref Mh, .int (nI hp), .int (nI cc), .ref Ma, .ref Mas, .ref Msn, .ref Mac, .ref Mat])), (Mn, .inl (g 0, 1767, .inl fno))] sz)) 0 0 (va_A [(Mm, .inr (7, [.int zth, .ref Mt, .int (nI tp), .int zma, .int zwr, .ref Mrr, .ref Mrh, .ref Mrc, .int zrh, .int zrc, .ref Mn, .ref Mf, .ref Mr, .ref Mh, .int (nI hp), .int (nI cc), .ref Ma, .ref Mas, .ref Msn, .ref Mac, .ref Mat])), (Mn, .inl (g 0, 1767, .inl fno))] sz) := by
  refine Met.ofW (cc := cX7_clearsWay) (maxL := 5) (ret := none) (by decide) rfl ?_
  intro p e s m args below meth c s₁ B hml hv
  obtain ⟨rfl, hsz, hP, ⟨hK, hN⟩, hD0, hZ⟩ := hv
  have hx := B.exec
  have hb := B.bytes
  have hr := B.returns
  have hts := atoms_spec (ws := wsX7_clearsWay) B.pre
  have hown : s.vm.findClass RX7 = some m.cls := findClass_of_methodNamed B.named
  have hlocks := B.notSynchronized
  clear B
  subst hsz
  have hD := hD0.self (sz := s.heap.size)
  clear hD0
  generalize hAe : va_A [(Mm, .inr (7, [.int zth, .ref Mt, .int (nI tp), .int zma, .int zwr, .ref Mrr, .ref Mrh, .ref Mrc, .int zrh, .int zrc, .ref Mn, .ref Mf, .ref Mr, .ref Mh, .int (nI hp), .int (nI cc), .ref Ma, .ref Mas, .ref Msn, .ref Mac, .ref Mat])), (Mn, .inl (g 0, 1767, .inl fno))] s.heap.size = A at hD hZ ⊢
  have hA : ∀ q : Nat, s.heap.size ≤ q → A q := fun q h => by rw [← hAe]; exact Or.inr h
  have hS : va_S A s.heap s.heap [] := va_S.rf
  have f22 := hts (.fieldLink RX7 22 "HopCreditsModel" "now" "[I") (List.mem_of_getElem? (i := 1) rfl)
  have iX7 : ∀ w ∈ u_ws RX7 TX7 21, w ∈ wsX7_clearsWay := fun w h => List.mem_cons_of_mem _ (List.mem_append_right _ (h))
  have hl := lv_entry ([.ref Mm, .int (nI hix), .int (nI tx)]) (n := 5) (Nat.le_of_ble_eq_true rfl)
  rw [lg_entry_eq]
  generalize (lg_sl ([.ref Mm, .int (nI hix), .int (nI tx)]) ++ List.replicate (5 - (lg_sl ([.ref Mm, .int (nI hix), .int (nI tx)])).length) Slot.unset).toArray = ls at hl ⊢
  have hl : lv_has ls 5 [(0, .ref Mm), (1, .int (nI hix)), (2, .int (nI tx))] := hl
  generalize hQ : MQ below _ _ s _ _ _ = Q
  generalize hH : s.heap = H at hP ⊢
  have hS : va_S A s.heap H [] := by rw [← hH]; exact hS
  clear hH
  refine lv_iload_n hx hb dX7_clearsWay_0 rfl (lv_at hl 1 rfl) ?_
  refine lv_iload_n hx hb dX7_clearsWay_1 rfl (lv_at hl 2 rfl) ?_
  refine ky_Si (As := [.int (nI hix), .int (nI tx)]) (rest := []) ⟨hx, hb, hml, hown, hts⟩ ⟨hK, hN⟩ hZ hP hD hS hA [] [0, 1] (wc := []) (wr := [(Mm, .inr (7, [.int zth, .ref Mt, .int (nI tp), .int zma, .int zwr, .ref Mrr, .ref Mrh, .ref Mrc, .int zrh, .int zrc, .ref Mn, .ref Mf, .ref Mr, .ref Mh, .int (nI hp), .int (nI cc), .ref Ma, .ref Mas, .ref Msn, .ref Mac, .ref Mat])), (Mn, .inl (g 0, 1767, .inl fno))]) rfl rfl rfl rfl (by decide) (k_X7_wayAt l D g H.size hix tx (show hix < 3 by omega) (show tx < 2 ^ 30 by omega)) (va_cwS 2 hts gX7_clearsWay_X7_wayAt rfl rfl rfl (by decide +kernel) ⟨(Nat.le_of_ble_eq_true rfl), (Nat.le_of_ble_eq_true rfl)⟩) rfl hl.1 rfl (Nat.le_of_ble_eq_true rfl) dX7_clearsWay_2 ⟨(Nat.le_of_ble_eq_true rfl), (Nat.le_of_ble_eq_true rfl)⟩ (fun r_1 u H locs hw hP2 hD2 hS2 => ?_)
  clear hP hD hS
  obtain ⟨rfl, rfl⟩ := hw
  have hPD : PD D A [(Mm, .inr (7, [.int zth, .ref Mt, .int (nI tp), .int zma, .int zwr, .ref Mrr, .ref Mrh, .ref Mrc, .int zrh, .int zrc, .ref Mn, .ref Mf, .ref Mr, .ref Mh, .int (nI hp), .int (nI cc), .ref Ma, .ref Mas, .ref Msn, .ref Mac, .ref Mat])), (Mn, .inl (g 0, 1767, .inl fno))] H := ⟨hP2, hD2⟩
  have hS := hS2; clear hP2 hD2 hS2; have hP := hPD.1; have hD := hPD.2; clear hPD
  refine W.widen (k := 0) (n := 0) (Nat.le_of_ble_eq_true rfl) (Nat.le_of_ble_eq_true rfl) ?_
  refine lv_istore_n (lv' := [(3, .int (nI (69 + 5 * (8 * hix + tx % 8)))), (0, .ref Mm), (1, .int (nI hix)), (2, .int (nI tx))]) hx hb dX7_clearsWay_5 rfl hl (by decide) rfl (fun ls hl => ?_)
  refine lv_aload_n hx hb dX7_clearsWay_6 rfl (lv_at hl 1 rfl) ?_
  refine va_get (D := D) (ci := 7) (v := .ref Mn) (C := RX7) (T := TX7) (N := 21) hx hb hts iX7 hown hK hP 0 rfl rfl 10 (by decide) f22 (fun _ h9 => h9) rfl dX7_clearsWay_7 ?_
  refine lv_iload_n hx hb dX7_clearsWay_10 rfl (lv_at hl 0 rfl) ?_
  refine lv_iconst (v := 0) hx hb dX7_clearsWay_11 (by decide) ?_
  refine lv_iadd hx hb dX7_clearsWay_12 ?_
  refine lv_eqi (y := (nI (69 + 5 * (8 * hix + tx % 8) + 0))) (nI_add (69 + 5 * (8 * hix + tx % 8)) (0)) ?_
  refine lv_iconst (v := (-1)) hx hb dX7_clearsWay_13 (by decide) ?_
  refine va_iast hx hb hK hP hD hS 1 0 rfl rfl (vp_in_nI (show 69 + 5 * (8 * hix + tx % 8) + 0 < 1767 by omega) (by decide)) dX7_clearsWay_14 (fun H locs hP2 hD2 hS2 => ?_)
  clear hP hD hS
  have hPD : PD D A [(Mm, .inr (7, [.int zth, .ref Mt, .int (nI tp), .int zma, .int zwr, .ref Mrr, .ref Mrh, .ref Mrc, .int zrh, .int zrc, .ref Mn, .ref Mf, .ref Mr, .ref Mh, .int (nI hp), .int (nI cc), .ref Ma, .ref Mas, .ref Msn, .ref Mac, .ref Mat])), (Mn, .inl (g 0, 1767, .inl (upd fno (nI (69 + 5 * (8 * hix + tx % 8) + 0)).toNatClampNeg (-1))))] H := ⟨hP2, hD2⟩
  have hS := hS2; clear hP2 hD2 hS2; have hP := hPD.1; have hD := hPD.2; clear hPD
  rw [nI_clamp (show 69 + 5 * (8 * hix + tx % 8) + 0 < 2 ^ 31 by omega)] at hP hD
  have hPD : PD D A [(Mm, .inr (7, [.int zth, .ref Mt, .int (nI tp), .int zma, .int zwr, .ref Mrr, .ref Mrh, .ref Mrc, .int zrh, .int zrc, .ref Mn, .ref Mf, .ref Mr, .ref Mh, .int (nI hp), .int (nI cc), .ref Ma, .ref Mas, .ref Msn, .ref Mac, .ref Mat])), (Mn, .inl (g 0, 1767, .inl (upd fno (69 + 5 * (8 * hix + tx % 8) + 0) (-1))))] H := ⟨hP, hD⟩
  clear hP hD; have hP := hPD.1; have hD := hPD.2; clear hPD
  have hF_2 : mOK gs tb ub (upd fno (69 + 5 * (8 * hix + tx % 8) + 0) (-1)) := mOK_okc h2 (okc_m) (show 69 + 5 * (8 * hix + tx % 8) + 0 < 189 by omega)
  generalize upd fno (69 + 5 * (8 * hix + tx % 8) + 0) (-1) = F_2 at hP hD hF_2
  refine lv_aload_n hx hb dX7_clearsWay_15 rfl (lv_at hl 1 rfl) ?_
  refine va_get (D := D) (ci := 7) (v := .ref Mn) (C := RX7) (T := TX7) (N := 21) hx hb hts iX7 hown hK hP 0 rfl rfl 10 (by decide) f22 (fun _ h9 => h9) rfl dX7_clearsWay_16 ?_
  refine lv_iload_n hx hb dX7_clearsWay_19 rfl (lv_at hl 0 rfl) ?_
  refine lv_iconst (v := 4) hx hb dX7_clearsWay_20 (by decide) ?_
  refine lv_iadd hx hb dX7_clearsWay_21 ?_
  refine lv_eqi (y := (nI (69 + 5 * (8 * hix + tx % 8) + 4))) (nI_add (69 + 5 * (8 * hix + tx % 8)) (4)) ?_
  refine lv_iconst (v := 0) hx hb dX7_clearsWay_22 (by decide) ?_
  refine va_iast hx hb hK hP hD hS 1 0 rfl rfl (vp_in_nI (show 69 + 5 * (8 * hix + tx % 8) + 4 < 1767 by omega) (by decide)) dX7_clearsWay_23 (fun H locs hP2 hD2 hS2 => ?_)
  clear hP hD hS
  have hPD : PD D A [(Mm, .inr (7, [.int zth, .ref Mt, .int (nI tp), .int zma, .int zwr, .ref Mrr, .ref Mrh, .ref Mrc, .int zrh, .int zrc, .ref Mn, .ref Mf, .ref Mr, .ref Mh, .int (nI hp), .int (nI cc), .ref Ma, .ref Mas, .ref Msn, .ref Mac, .ref Mat])), (Mn, .inl (g 0, 1767, .inl (upd F_2 (nI (69 + 5 * (8 * hix + tx % 8) + 4)).toNatClampNeg 0)))] H := ⟨hP2, hD2⟩
  have hS := hS2; clear hP2 hD2 hS2; have hP := hPD.1; have hD := hPD.2; clear hPD
  rw [nI_clamp (show 69 + 5 * (8 * hix + tx % 8) + 4 < 2 ^ 31 by omega)] at hP hD
  have hPD : PD D A [(Mm, .inr (7, [.int zth, .ref Mt, .int (nI tp), .int zma, .int zwr, .ref Mrr, .ref Mrh, .ref Mrc, .int zrh, .int zrc, .ref Mn, .ref Mf, .ref Mr, .ref Mh, .int (nI hp), .int (nI cc), .ref Ma, .ref Mas, .ref Msn, .ref Mac, .ref Mat])), (Mn, .inl (g 0, 1767, .inl (upd F_2 (69 + 5 * (8 * hix + tx % 8) + 4) 0)))] H := ⟨hP, hD⟩
  clear hP hD; have hP := hPD.1; have hD := hPD.2; clear hPD
  have hF_3 : mOK gs tb ub (upd F_2 (69 + 5 * (8 * hix + tx % 8) + 4) 0) := mOK_free hF_2 (show mfree (69 + 5 * (8 * hix + tx % 8) + 4) by unfold mfree; omega)
  generalize upd F_2 (69 + 5 * (8 * hix + tx % 8) + 4) 0 = F_3 at hP hD hF_3
  refine lv_iconst (v := 0) hx hb dX7_clearsWay_24 (by decide) ?_
  refine lv_istore (lv' := [(4, .int 0), (3, .int (nI (69 + 5 * (8 * hix + tx % 8)))), (0, .ref Mm), (1, .int (nI hix)), (2, .int (nI tx))]) hx hb dX7_clearsWay_25 hl (by decide) rfl (fun ls hl => ?_)
  have loop_11 : ∀ (Nloop_11 : Nat) (i_5 : Nat) (F_6 : Nat → Int32) (hF_6 : mOK gs tb ub F_6) (hbi_5 : i_5 ≤ 3) (hmloop_11 : 3 - i_5 < Nloop_11) (H : Heap) (locs : List Loc) (ls : Array Slot), va_P D vwCl [(Mm, .inr (7, [.int zth, .ref Mt, .int (nI tp), .int zma, .int zwr, .ref Mrr, .ref Mrh, .ref Mrc, .int zrh, .int zrc, .ref Mn, .ref Mf, .ref Mr, .ref Mh, .int (nI hp), .int (nI cc), .ref Ma, .ref Mas, .ref Msn, .ref Mac, .ref Mat])), (Mn, .inl (g 0, 1767, .inl F_6))] H → va_D A [(Mm, .inr (7, [.int zth, .ref Mt, .int (nI tp), .int zma, .int zwr, .ref Mrr, .ref Mrh, .ref Mrc, .int zrh, .int zrc, .ref Mn, .ref Mf, .ref Mr, .ref Mh, .int (nI hp), .int (nI cc), .ref Ma, .ref Mas, .ref Msn, .ref Mac, .ref Mat])), (Mn, .inl (g 0, 1767, .inl F_6))] → va_S A s.heap H locs → lv_has ls 5 [(4, .int (nI i_5)), (3, .int (nI (69 + 5 * (8 * hix + tx % 8)))), (0, .ref Mm)] → W p l e (headSpec wsX7_clearsWay ({ frames := 1, cells := 0, slots := 0, locals := 21 })).room s m ([.ref Mm, .int (nI hix), .int (nI tx)] : List Value).toArray below meth c H locs 0 0 Q (F0 m 27 ls []) := by
    clear hP hD hS hl
    intro Nloop_11
    induction Nloop_11 with
    | zero => intro i_5 F_6 hF_6 hbi_5 hm9; exact absurd hm9 (Nat.not_lt_zero _)
    | succ Nloop_11 loop_11_ih =>
      intro i_5 F_6 hF_6 hbi_5 hmloop_11 H locs ls hP hD hS hl
      refine lv_iload hx hb dX7_clearsWay_27 (lv_at hl 0 rfl) ?_
      refine lv_iconst (v := 3) hx hb dX7_clearsWay_29 (by decide) ?_
      refine lv_icmp_ge (tgt := 51) hx hb dX7_clearsWay_30 (by decide) (fun cb_12 => ?_) (fun cb_12 => ?_)
      · skip
        have cn_13 : 3 ≤ i_5 := (nI_leI (show 3 < 2 ^ 31 by omega) (show i_5 < 2 ^ 31 by omega)).mp cb_12
        have hP9 := hP; have hD9 := hD
        subst hQ
        refine W.widen (k := 0) (n := 0) (Nat.le_of_ble_eq_true rfl) (Nat.le_of_ble_eq_true rfl) ?_
        exact W.vret hx hb hr (fun tS htS _ => ⟨⟨_, rfl, ⟨F_6, rfl, (hF_6)⟩, by rw [htS]; exact hP9, hD9⟩, hS.F htS⟩) hS.2.2 dX7_clearsWay_51
      · skip
        have cn_14 : i_5 < 3 := Nat.lt_of_not_le (fun q9 => cb_12 ((nI_leI (show 3 < 2 ^ 31 by omega) (show i_5 < 2 ^ 31 by omega)).mpr q9))
        refine lv_aload_n hx hb dX7_clearsWay_33 rfl (lv_at hl 2 rfl) ?_
        refine va_get (D := D) (ci := 7) (v := .ref Mn) (C := RX7) (T := TX7) (N := 21) hx hb hts iX7 hown hK hP 0 rfl rfl 10 (by decide) f22 (fun _ h9 => h9) rfl dX7_clearsWay_34 ?_
        refine lv_iload_n hx hb dX7_clearsWay_37 rfl (lv_at hl 1 rfl) ?_
        refine lv_iconst (v := 1) hx hb dX7_clearsWay_38 (by decide) ?_
        refine lv_iadd hx hb dX7_clearsWay_39 ?_
        refine lv_eqi (y := (nI (69 + 5 * (8 * hix + tx % 8) + 1))) (nI_add (69 + 5 * (8 * hix + tx % 8)) (1)) ?_
        refine lv_iload hx hb dX7_clearsWay_40 (lv_at hl 0 rfl) ?_
        refine lv_iadd hx hb dX7_clearsWay_42 ?_
        refine lv_eqi (y := (nI (69 + 5 * (8 * hix + tx % 8) + 1 + i_5))) (nI_add (69 + 5 * (8 * hix + tx % 8) + 1) (i_5)) ?_
        refine lv_iconst (v := (-1)) hx hb dX7_clearsWay_43 (by decide) ?_
        refine va_iast hx hb hK hP hD hS 1 0 rfl rfl (vp_in_nI (show 69 + 5 * (8 * hix + tx % 8) + 1 + i_5 < 1767 by omega) (by decide)) dX7_clearsWay_44 (fun H locs hP2 hD2 hS2 => ?_)
        clear hP hD hS
        have hPD : PD D A [(Mm, .inr (7, [.int zth, .ref Mt, .int (nI tp), .int zma, .int zwr, .ref Mrr, .ref Mrh, .ref Mrc, .int zrh, .int zrc, .ref Mn, .ref Mf, .ref Mr, .ref Mh, .int (nI hp), .int (nI cc), .ref Ma, .ref Mas, .ref Msn, .ref Mac, .ref Mat])), (Mn, .inl (g 0, 1767, .inl (upd F_6 (nI (69 + 5 * (8 * hix + tx % 8) + 1 + i_5)).toNatClampNeg (-1))))] H := ⟨hP2, hD2⟩
        have hS := hS2; clear hP2 hD2 hS2; have hP := hPD.1; have hD := hPD.2; clear hPD
        rw [nI_clamp (show 69 + 5 * (8 * hix + tx % 8) + 1 + i_5 < 2 ^ 31 by omega)] at hP hD
        have hPD : PD D A [(Mm, .inr (7, [.int zth, .ref Mt, .int (nI tp), .int zma, .int zwr, .ref Mrr, .ref Mrh, .ref Mrc, .int zrh, .int zrc, .ref Mn, .ref Mf, .ref Mr, .ref Mh, .int (nI hp), .int (nI cc), .ref Ma, .ref Mas, .ref Msn, .ref Mac, .ref Mat])), (Mn, .inl (g 0, 1767, .inl (upd F_6 (69 + 5 * (8 * hix + tx % 8) + 1 + i_5) (-1))))] H := ⟨hP, hD⟩
        clear hP hD; have hP := hPD.1; have hD := hPD.2; clear hPD
        have hF_15 : mOK gs tb ub (upd F_6 (69 + 5 * (8 * hix + tx % 8) + 1 + i_5) (-1)) := mOK_free hF_6 (show mfree (69 + 5 * (8 * hix + tx % 8) + 1 + i_5) by unfold mfree; omega)
        generalize upd F_6 (69 + 5 * (8 * hix + tx % 8) + 1 + i_5) (-1) = F_15 at hP hD hF_15
        refine lv_iinc (v := (nI (i_5 + 1))) (lv' := [(4, .int (nI (i_5 + 1))), (3, .int (nI (69 + 5 * (8 * hix + tx % 8)))), (0, .ref Mm)]) hx hb dX7_clearsWay_45 hl (k := 0) rfl (nI_1 (i_5)) (by decide) rfl (fun ls hl => ?_)
        refine lv_goto (tgt := 27) hx hb dX7_clearsWay_48 (by decide) ?_
        exact loop_11_ih (i_5 + 1) F_15 (hF_15) (show (i_5 + 1) ≤ 3 by omega) (show 3 - (i_5 + 1) < Nloop_11 by omega) _ _ _ hP hD hS hl
  exact loop_11 _ 0 F_3 (hF_3) (show 0 ≤ 3 by omega) (Nat.lt_succ_self _) _ _ _ hP hD hS (lv_sub hl [0, 1, 2] rfl)

set_option maxHeartbeats 4000000 in
set_option maxRecDepth 100000 in
theorem k_X7_outOf (l : Launch) (D : va_G) (g : Nat → ClassId) (sz : Nat) (Mm : Nat) (hix : Nat) (cx : Nat) (zth : Int32) (Mt : Nat) (tp : Nat) (zma : Int32) (zwr : Int32) (Mrr : Nat) (Mrh : Nat) (Mrc : Nat) (zrh : Int32) (zrc : Int32) (Mn : Nat) (Mf : Nat) (Mr : Nat) (Mh : Nat) (hp : Nat) (cc : Nat) (Ma : Nat) (Mas : Nat) (Msn : Nat) (Mac : Nat) (Mat : Nat) (fno : Nat → Int32) (h0 : hix < 3) (h1 : cx < 3) : Met l yX7_outOf wsX7_outOf ({ frames := 1, cells := 0, slots := 0, locals := 21 }) (va_Pc [.ref Mm, .int (nI hix), .int (nI cx)] (pre D g sz [(Mm, .inr (7, [.int zth, .ref Mt, .int (nI tp), .int zma, .int zwr, .ref Mrr, .ref Mrh, .ref Mrc, .int zrh, .int zrc, .ref Mn, .ref Mf, .ref Mr, .ref Mh, .int (nI hp), .int (nI cc), .ref Ma, .ref Mas, .ref Msn, .ref Mac, .ref Mat])), (Mn, .inl (g 0, 1767, .inl fno))])) (va_Qi (fun (r : Int32) (u : va_W) => u = [(Mm, .inr (7, [.int zth, .ref Mt, .int (nI tp), .int zma, .int zwr, .ref Mrr, .ref Mrh, .ref Mrc, .int zrh, .int zrc, .ref Mn, .ref Mf, .ref Mr, .ref Mh, .int (nI hp), .int (nI cc), .ref Ma, .ref Mas, .ref Msn, .ref Mac, .ref Mat])), (Mn, .inl (g 0, 1767, .inl fno))]) (wd D (va_A [(Mm, .inr (7, [.int zth, .ref Mt, .int (nI tp), .int zma, .int zwr, .ref Mrr, .ref Mrh, .ref Mrc, .int zrh, .int zrc, .ref Mn, .ref Mf, .ref Mr, .ref Mh, .int (nI hp), .int (nI cc), .ref Ma, .ref Mas, .ref Msn, .ref Mac, .ref Mat])), (Mn, .inl (g 0, 1767, .inl fno))] sz)) (va_A [(Mm, .inr (7, [.int zth, .ref Mt, .int (nI tp), .int zma, .int zwr, .ref Mrr, .ref Mrh, .ref Mrc, .int zrh, .int zrc, .ref Mn, .ref Mf, .ref Mr, .ref Mh, .int (nI hp), .int (nI cc), .ref Ma, .ref Mas, .ref Msn, .ref Mac, .ref Mat])), (Mn, .inl (g 0, 1767, .inl fno))] sz)) 0 0 (va_A [(Mm, .inr (7, [.int zth, .ref Mt, .int (nI tp), .int zma, .int zwr, .ref Mrr, .ref Mrh, .ref Mrc, .int zrh, .int zrc, .ref Mn, .ref Mf, .ref Mr, .ref Mh, .int (nI hp), .int (nI cc), .ref Ma, .ref Mas, .ref Msn, .ref Mac, .ref Mat])), (Mn, .inl (g 0, 1767, .inl fno))] sz) := by
  refine Met.ofW (cc := cX7_outOf) (maxL := 3) (ret := (some .int)) (by decide) rfl ?_
  intro p e s m args below meth c s₁ B hml hv
  obtain ⟨rfl, hsz, hP, ⟨hK, hN⟩, hD0, hZ⟩ := hv
  have hx := B.exec
  have hb := B.bytes
  have hr := B.returns
  have hts := atoms_spec (ws := wsX7_outOf) B.pre
  have hown : s.vm.findClass RX7 = some m.cls := findClass_of_methodNamed B.named
  have hlocks := B.notSynchronized
  clear B
  subst hsz
  have hD := hD0.self (sz := s.heap.size)
  clear hD0
  generalize hAe : va_A [(Mm, .inr (7, [.int zth, .ref Mt, .int (nI tp), .int zma, .int zwr, .ref Mrr, .ref Mrh, .ref Mrc, .int zrh, .int zrc, .ref Mn, .ref Mf, .ref Mr, .ref Mh, .int (nI hp), .int (nI cc), .ref Ma, .ref Mas, .ref Msn, .ref Mac, .ref Mat])), (Mn, .inl (g 0, 1767, .inl fno))] s.heap.size = A at hD hZ ⊢
  have hA : ∀ q : Nat, s.heap.size ≤ q → A q := fun q h => by rw [← hAe]; exact Or.inr h
  have hS : va_S A s.heap s.heap [] := va_S.rf
  have f22 := hts (.fieldLink RX7 22 "HopCreditsModel" "now" "[I") (List.mem_of_getElem? (i := 1) rfl)
  have iX7 : ∀ w ∈ u_ws RX7 TX7 21, w ∈ wsX7_outOf := fun w h => List.mem_cons_of_mem _ (List.mem_append_right _ (h))
  have hl := lv_entry ([.ref Mm, .int (nI hix), .int (nI cx)]) (n := 3) (Nat.le_of_ble_eq_true rfl)
  rw [lg_entry_eq]
  generalize (lg_sl ([.ref Mm, .int (nI hix), .int (nI cx)]) ++ List.replicate (3 - (lg_sl ([.ref Mm, .int (nI hix), .int (nI cx)])).length) Slot.unset).toArray = ls at hl ⊢
  have hl : lv_has ls 3 [(0, .ref Mm), (1, .int (nI hix)), (2, .int (nI cx))] := hl
  generalize hQ : MQ below _ _ s _ _ _ = Q
  generalize hH : s.heap = H at hP ⊢
  have hS : va_S A s.heap H [] := by rw [← hH]; exact hS
  clear hH
  refine lv_aload_n hx hb dX7_outOf_0 rfl (lv_at hl 0 rfl) ?_
  refine va_get (D := D) (ci := 7) (v := .ref Mn) (C := RX7) (T := TX7) (N := 21) hx hb hts iX7 hown hK hP 0 rfl rfl 10 (by decide) f22 (fun _ h9 => h9) rfl dX7_outOf_1 ?_
  refine lv_iload_n hx hb dX7_outOf_4 rfl (lv_at hl 1 rfl) ?_
  refine lv_iload_n hx hb dX7_outOf_5 rfl (lv_at hl 2 rfl) ?_
  refine ky_Si (As := [.int (nI hix), .int (nI cx)]) (rest := [.ref Mn]) ⟨hx, hb, hml, hown, hts⟩ ⟨hK, hN⟩ hZ hP hD hS hA [] [0, 1] (wc := []) (wr := [(Mm, .inr (7, [.int zth, .ref Mt, .int (nI tp), .int zma, .int zwr, .ref Mrr, .ref Mrh, .ref Mrc, .int zrh, .int zrc, .ref Mn, .ref Mf, .ref Mr, .ref Mh, .int (nI hp), .int (nI cc), .ref Ma, .ref Mas, .ref Msn, .ref Mac, .ref Mat])), (Mn, .inl (g 0, 1767, .inl fno))]) rfl rfl rfl rfl (by decide) (k_X7_lane l D g H.size hix cx (show hix < 3 by omega) (show cx < 3 by omega)) (va_cwS 2 hts gX7_outOf_X7_lane rfl rfl rfl (by decide +kernel) ⟨(Nat.le_of_ble_eq_true rfl), (Nat.le_of_ble_eq_true rfl)⟩) rfl hl.1 rfl (Nat.le_of_ble_eq_true rfl) dX7_outOf_6 ⟨(Nat.le_of_ble_eq_true rfl), (Nat.le_of_ble_eq_true rfl)⟩ (fun r_1 u H locs hw hP2 hD2 hS2 => ?_)
  clear hP hD hS
  obtain ⟨rfl, rfl⟩ := hw
  have hPD : PD D A [(Mm, .inr (7, [.int zth, .ref Mt, .int (nI tp), .int zma, .int zwr, .ref Mrr, .ref Mrh, .ref Mrc, .int zrh, .int zrc, .ref Mn, .ref Mf, .ref Mr, .ref Mh, .int (nI hp), .int (nI cc), .ref Ma, .ref Mas, .ref Msn, .ref Mac, .ref Mat])), (Mn, .inl (g 0, 1767, .inl fno))] H := ⟨hP2, hD2⟩
  have hS := hS2; clear hP2 hD2 hS2; have hP := hPD.1; have hD := hPD.2; clear hPD
  refine W.widen (k := 0) (n := 0) (Nat.le_of_ble_eq_true rfl) (Nat.le_of_ble_eq_true rfl) ?_
  refine lv_iconst (v := 0) hx hb dX7_outOf_9 (by decide) ?_
  refine lv_iadd hx hb dX7_outOf_10 ?_
  refine lv_eqi (y := (nI (7 * (3 * hix + cx) + 0))) (nI_add (7 * (3 * hix + cx)) (0)) ?_
  refine va_iald hx hb hK hP 1 0 rfl rfl (vp_in_nI (show 7 * (3 * hix + cx) + 0 < 1767 by omega) (by decide)) dX7_outOf_11 ?_
  refine lv_eqi (y := (fno (7 * (3 * hix + cx) + 0))) (congrArg fno (nI_clamp (show 7 * (3 * hix + cx) + 0 < 2 ^ 31 by omega))) ?_
  refine lv_topi (fun y_2 _ => ?_)
  refine lv_aload_n hx hb dX7_outOf_12 rfl (lv_at hl 0 rfl) ?_
  refine va_get (D := D) (ci := 7) (v := .ref Mn) (C := RX7) (T := TX7) (N := 21) hx hb hts iX7 hown hK hP 0 rfl rfl 10 (by decide) f22 (fun _ h9 => h9) rfl dX7_outOf_13 ?_
  refine lv_iload_n hx hb dX7_outOf_16 rfl (lv_at hl 1 rfl) ?_
  refine lv_iload_n hx hb dX7_outOf_17 rfl (lv_at hl 2 rfl) ?_
  refine ky_Si (As := [.int (nI hix), .int (nI cx)]) (rest := [.ref Mn, .int y_2]) ⟨hx, hb, hml, hown, hts⟩ ⟨hK, hN⟩ hZ hP hD hS hA [] [0, 1] (wc := []) (wr := [(Mm, .inr (7, [.int zth, .ref Mt, .int (nI tp), .int zma, .int zwr, .ref Mrr, .ref Mrh, .ref Mrc, .int zrh, .int zrc, .ref Mn, .ref Mf, .ref Mr, .ref Mh, .int (nI hp), .int (nI cc), .ref Ma, .ref Mas, .ref Msn, .ref Mac, .ref Mat])), (Mn, .inl (g 0, 1767, .inl fno))]) rfl rfl rfl rfl (by decide) (k_X7_lane l D g H.size hix cx (show hix < 3 by omega) (show cx < 3 by omega)) (va_cwS 2 hts gX7_outOf_X7_lane rfl rfl rfl (by decide +kernel) ⟨(Nat.le_of_ble_eq_true rfl), (Nat.le_of_ble_eq_true rfl)⟩) rfl hl.1 rfl (Nat.le_of_ble_eq_true rfl) dX7_outOf_18 ⟨(Nat.le_of_ble_eq_true rfl), (Nat.le_of_ble_eq_true rfl)⟩ (fun r_3 u H locs hw hP2 hD2 hS2 => ?_)
  clear hP hD hS
  obtain ⟨rfl, rfl⟩ := hw
  have hPD : PD D A [(Mm, .inr (7, [.int zth, .ref Mt, .int (nI tp), .int zma, .int zwr, .ref Mrr, .ref Mrh, .ref Mrc, .int zrh, .int zrc, .ref Mn, .ref Mf, .ref Mr, .ref Mh, .int (nI hp), .int (nI cc), .ref Ma, .ref Mas, .ref Msn, .ref Mac, .ref Mat])), (Mn, .inl (g 0, 1767, .inl fno))] H := ⟨hP2, hD2⟩
  have hS := hS2; clear hP2 hD2 hS2; have hP := hPD.1; have hD := hPD.2; clear hPD
  refine W.widen (k := 0) (n := 0) (Nat.le_of_ble_eq_true rfl) (Nat.le_of_ble_eq_true rfl) ?_
  refine lv_iconst (v := 2) hx hb dX7_outOf_21 (by decide) ?_
  refine lv_iadd hx hb dX7_outOf_22 ?_
  refine lv_eqi (y := (nI (7 * (3 * hix + cx) + 2))) (nI_add (7 * (3 * hix + cx)) (2)) ?_
  refine va_iald hx hb hK hP 1 0 rfl rfl (vp_in_nI (show 7 * (3 * hix + cx) + 2 < 1767 by omega) (by decide)) dX7_outOf_23 ?_
  refine lv_eqi (y := (fno (7 * (3 * hix + cx) + 2))) (congrArg fno (nI_clamp (show 7 * (3 * hix + cx) + 2 < 2 ^ 31 by omega))) ?_
  refine lv_topi (fun y_4 _ => ?_)
  refine ky_Si (As := [.int y_2, .int y_4]) (rest := []) ⟨hx, hb, hml, hown, hts⟩ ⟨hK, hN⟩ hZ hP hD hS hA [] [0, 1] (wc := []) (wr := [(Mm, .inr (7, [.int zth, .ref Mt, .int (nI tp), .int zma, .int zwr, .ref Mrr, .ref Mrh, .ref Mrc, .int zrh, .int zrc, .ref Mn, .ref Mf, .ref Mr, .ref Mh, .int (nI hp), .int (nI cc), .ref Ma, .ref Mas, .ref Msn, .ref Mac, .ref Mat])), (Mn, .inl (g 0, 1767, .inl fno))]) rfl rfl rfl rfl (by decide) (k_X7_less l D g H.size y_2 y_4) (va_cwS 2 hts gX7_outOf_X7_less rfl rfl rfl (by decide +kernel) ⟨(Nat.le_of_ble_eq_true rfl), (Nat.le_of_ble_eq_true rfl)⟩) rfl hl.1 rfl (Nat.le_of_ble_eq_true rfl) dX7_outOf_24 ⟨(Nat.le_of_ble_eq_true rfl), (Nat.le_of_ble_eq_true rfl)⟩ (fun r_5 u H locs hw hP2 hD2 hS2 => ?_)
  clear hP hD hS
  obtain rfl := hw
  have hPD : PD D A [(Mm, .inr (7, [.int zth, .ref Mt, .int (nI tp), .int zma, .int zwr, .ref Mrr, .ref Mrh, .ref Mrc, .int zrh, .int zrc, .ref Mn, .ref Mf, .ref Mr, .ref Mh, .int (nI hp), .int (nI cc), .ref Ma, .ref Mas, .ref Msn, .ref Mac, .ref Mat])), (Mn, .inl (g 0, 1767, .inl fno))] H := ⟨hP2, hD2⟩
  have hS := hS2; clear hP2 hD2 hS2; have hP := hPD.1; have hD := hPD.2; clear hPD
  refine W.widen (k := 0) (n := 0) (Nat.le_of_ble_eq_true rfl) (Nat.le_of_ble_eq_true rfl) ?_
  have hP9 := hP; have hD9 := hD
  subst hQ
  refine W.widen (k := 0) (n := 0) (Nat.le_of_ble_eq_true rfl) (Nat.le_of_ble_eq_true rfl) ?_
  exact W.iret (v := r_5) hx hb hr (fun tS htS _ => ⟨⟨_, _, rfl, rfl, by rw [htS]; exact hP9, hD9⟩, hS.F htS⟩) hS.2.2 dX7_outOf_27

set_option maxHeartbeats 4000000 in
set_option maxRecDepth 100000 in
theorem k_X7_credit (l : Launch) (D : va_G) (g : Nat → ClassId) (sz : Nat) (Mm : Nat) (hix : Nat) (cx : Nat) (zth : Int32) (Mt : Nat) (tp : Nat) (zma : Int32) (zwr : Int32) (Mrr : Nat) (Mrh : Nat) (Mrc : Nat) (zrh : Int32) (zrc : Int32) (Mn : Nat) (Mf : Nat) (Mr : Nat) (Mh : Nat) (hp : Nat) (cc : Nat) (Ma : Nat) (Mas : Nat) (Msn : Nat) (Mac : Nat) (Mat : Nat) (fno : Nat → Int32) (h0 : hix < 3) (h1 : cx < 3) : Met l yX7_credit wsX7_credit ({ frames := 2, cells := 0, slots := 0, locals := 43 }) (va_Pc [.ref Mm, .int (nI hix), .int (nI cx)] (pre D g sz [(Mm, .inr (7, [.int zth, .ref Mt, .int (nI tp), .int zma, .int zwr, .ref Mrr, .ref Mrh, .ref Mrc, .int zrh, .int zrc, .ref Mn, .ref Mf, .ref Mr, .ref Mh, .int (nI hp), .int (nI cc), .ref Ma, .ref Mas, .ref Msn, .ref Mac, .ref Mat])), (Mn, .inl (g 0, 1767, .inl fno))])) (va_Qi (fun (r : Int32) (u : va_W) => u = [(Mm, .inr (7, [.int zth, .ref Mt, .int (nI tp), .int zma, .int zwr, .ref Mrr, .ref Mrh, .ref Mrc, .int zrh, .int zrc, .ref Mn, .ref Mf, .ref Mr, .ref Mh, .int (nI hp), .int (nI cc), .ref Ma, .ref Mas, .ref Msn, .ref Mac, .ref Mat])), (Mn, .inl (g 0, 1767, .inl fno))]) (wd D (va_A [(Mm, .inr (7, [.int zth, .ref Mt, .int (nI tp), .int zma, .int zwr, .ref Mrr, .ref Mrh, .ref Mrc, .int zrh, .int zrc, .ref Mn, .ref Mf, .ref Mr, .ref Mh, .int (nI hp), .int (nI cc), .ref Ma, .ref Mas, .ref Msn, .ref Mac, .ref Mat])), (Mn, .inl (g 0, 1767, .inl fno))] sz)) (va_A [(Mm, .inr (7, [.int zth, .ref Mt, .int (nI tp), .int zma, .int zwr, .ref Mrr, .ref Mrh, .ref Mrc, .int zrh, .int zrc, .ref Mn, .ref Mf, .ref Mr, .ref Mh, .int (nI hp), .int (nI cc), .ref Ma, .ref Mas, .ref Msn, .ref Mac, .ref Mat])), (Mn, .inl (g 0, 1767, .inl fno))] sz)) 0 0 (va_A [(Mm, .inr (7, [.int zth, .ref Mt, .int (nI tp), .int zma, .int zwr, .ref Mrr, .ref Mrh, .ref Mrc, .int zrh, .int zrc, .ref Mn, .ref Mf, .ref Mr, .ref Mh, .int (nI hp), .int (nI cc), .ref Ma, .ref Mas, .ref Msn, .ref Mac, .ref Mat])), (Mn, .inl (g 0, 1767, .inl fno))] sz) := by
  refine Met.ofW (cc := cX7_credit) (maxL := 3) (ret := (some .int)) (by decide) rfl ?_
  intro p e s m args below meth c s₁ B hml hv
  obtain ⟨rfl, hsz, hP, ⟨hK, hN⟩, hD0, hZ⟩ := hv
  have hx := B.exec
  have hb := B.bytes
  have hr := B.returns
  have hts := atoms_spec (ws := wsX7_credit) B.pre
  have hown : s.vm.findClass RX7 = some m.cls := findClass_of_methodNamed B.named
  have hlocks := B.notSynchronized
  clear B
  subst hsz
  have hD := hD0.self (sz := s.heap.size)
  clear hD0
  generalize hAe : va_A [(Mm, .inr (7, [.int zth, .ref Mt, .int (nI tp), .int zma, .int zwr, .ref Mrr, .ref Mrh, .ref Mrc, .int zrh, .int zrc, .ref Mn, .ref Mf, .ref Mr, .ref Mh, .int (nI hp), .int (nI cc), .ref Ma, .ref Mas, .ref Msn, .ref Mac, .ref Mat])), (Mn, .inl (g 0, 1767, .inl fno))] s.heap.size = A at hD hZ ⊢
  have hA : ∀ q : Nat, s.heap.size ≤ q → A q := fun q h => by rw [← hAe]; exact Or.inr h
  have hS : va_S A s.heap s.heap [] := va_S.rf
  have f22 := hts (.fieldLink RX7 22 "HopCreditsModel" "now" "[I") (List.mem_of_getElem? (i := 1) rfl)
  have mcmax := hts (.code Lib.Math.max.name Lib.Math.max.code 2 (some .int)) (List.mem_of_getElem? (i := 5) rfl)
  have mi := hts (.initialized "java/lang/Math") (List.mem_of_getElem? (i := 4) rfl)
  have mmmax := hts (.methodLink RX7 154 Lib.Math.max.name) (List.mem_of_getElem? (i := 2) rfl)
  have mtmax := hts (.static Lib.Math.max.name) (List.mem_of_getElem? (i := 3) rfl)
  have iX7 : ∀ w ∈ u_ws RX7 TX7 21, w ∈ wsX7_credit := fun w h => List.mem_cons_of_mem _ (List.mem_append_right _ (h))
  have hl := lv_entry ([.ref Mm, .int (nI hix), .int (nI cx)]) (n := 3) (Nat.le_of_ble_eq_true rfl)
  rw [lg_entry_eq]
  generalize (lg_sl ([.ref Mm, .int (nI hix), .int (nI cx)]) ++ List.replicate (3 - (lg_sl ([.ref Mm, .int (nI hix), .int (nI cx)])).length) Slot.unset).toArray = ls at hl ⊢
  have hl : lv_has ls 3 [(0, .ref Mm), (1, .int (nI hix)), (2, .int (nI cx))] := hl
  generalize hQ : MQ below _ _ s _ _ _ = Q
  generalize hH : s.heap = H at hP ⊢
  have hS : va_S A s.heap H [] := by rw [← hH]; exact hS
  clear hH
  refine lv_iconst (v := 0) hx hb dX7_credit_0 (by decide) ?_
  refine lv_aload_n hx hb dX7_credit_1 rfl (lv_at hl 0 rfl) ?_
  refine va_get (D := D) (ci := 7) (v := .ref Mn) (C := RX7) (T := TX7) (N := 21) hx hb hts iX7 hown hK hP 0 rfl rfl 10 (by decide) f22 (fun _ h9 => h9) rfl dX7_credit_2 ?_
  refine lv_iload_n hx hb dX7_credit_5 rfl (lv_at hl 1 rfl) ?_
  refine lv_iload_n hx hb dX7_credit_6 rfl (lv_at hl 2 rfl) ?_
  refine ky_Si (As := [.int (nI hix), .int (nI cx)]) (rest := [.ref Mn, .int 0]) ⟨hx, hb, hml, hown, hts⟩ ⟨hK, hN⟩ hZ hP hD hS hA [] [0, 1] (wc := []) (wr := [(Mm, .inr (7, [.int zth, .ref Mt, .int (nI tp), .int zma, .int zwr, .ref Mrr, .ref Mrh, .ref Mrc, .int zrh, .int zrc, .ref Mn, .ref Mf, .ref Mr, .ref Mh, .int (nI hp), .int (nI cc), .ref Ma, .ref Mas, .ref Msn, .ref Mac, .ref Mat])), (Mn, .inl (g 0, 1767, .inl fno))]) rfl rfl rfl rfl (by decide) (k_X7_lane l D g H.size hix cx (show hix < 3 by omega) (show cx < 3 by omega)) (va_cwS 2 hts gX7_credit_X7_lane rfl rfl rfl (by decide +kernel) ⟨(Nat.le_of_ble_eq_true rfl), (Nat.le_of_ble_eq_true rfl)⟩) rfl hl.1 rfl (Nat.le_of_ble_eq_true rfl) dX7_credit_7 ⟨(Nat.le_of_ble_eq_true rfl), (Nat.le_of_ble_eq_true rfl)⟩ (fun r_1 u H locs hw hP2 hD2 hS2 => ?_)
  clear hP hD hS
  obtain ⟨rfl, rfl⟩ := hw
  have hPD : PD D A [(Mm, .inr (7, [.int zth, .ref Mt, .int (nI tp), .int zma, .int zwr, .ref Mrr, .ref Mrh, .ref Mrc, .int zrh, .int zrc, .ref Mn, .ref Mf, .ref Mr, .ref Mh, .int (nI hp), .int (nI cc), .ref Ma, .ref Mas, .ref Msn, .ref Mac, .ref Mat])), (Mn, .inl (g 0, 1767, .inl fno))] H := ⟨hP2, hD2⟩
  have hS := hS2; clear hP2 hD2 hS2; have hP := hPD.1; have hD := hPD.2; clear hPD
  refine W.widen (k := 0) (n := 0) (Nat.le_of_ble_eq_true rfl) (Nat.le_of_ble_eq_true rfl) ?_
  refine lv_iconst (v := 3) hx hb dX7_credit_10 (by decide) ?_
  refine lv_iadd hx hb dX7_credit_11 ?_
  refine lv_eqi (y := (nI (7 * (3 * hix + cx) + 3))) (nI_add (7 * (3 * hix + cx)) (3)) ?_
  refine va_iald hx hb hK hP 1 0 rfl rfl (vp_in_nI (show 7 * (3 * hix + cx) + 3 < 1767 by omega) (by decide)) dX7_credit_12 ?_
  refine lv_eqi (y := (fno (7 * (3 * hix + cx) + 3))) (congrArg fno (nI_clamp (show 7 * (3 * hix + cx) + 3 < 2 ^ 31 by omega))) ?_
  refine lv_topi (fun y_2 _ => ?_)
  refine lv_aload_n hx hb dX7_credit_13 rfl (lv_at hl 0 rfl) ?_
  refine lv_iload_n hx hb dX7_credit_14 rfl (lv_at hl 1 rfl) ?_
  refine lv_iload_n hx hb dX7_credit_15 rfl (lv_at hl 2 rfl) ?_
  refine ky_Vi (As := [.int (nI hix), .int (nI cx)]) (rest := [.int y_2, .int 0]) ⟨hx, hb, hml, hown, hts⟩ ⟨hK, hN⟩ hZ hP hD hS hA [0, 1] [] (wc := [(Mm, .inr (7, [.int zth, .ref Mt, .int (nI tp), .int zma, .int zwr, .ref Mrr, .ref Mrh, .ref Mrc, .int zrh, .int zrc, .ref Mn, .ref Mf, .ref Mr, .ref Mh, .int (nI hp), .int (nI cc), .ref Ma, .ref Mas, .ref Msn, .ref Mac, .ref Mat])), (Mn, .inl (g 0, 1767, .inl fno))]) (wr := []) rfl rfl rfl rfl (by decide) (k_X7_outOf l D g H.size Mm hix cx zth Mt tp zma zwr Mrr Mrh Mrc zrh zrc Mn Mf Mr Mh hp cc Ma Mas Msn Mac Mat fno (show hix < 3 by omega) (show cx < 3 by omega)) (cwV 2 hts gX7_credit_X7_outOf rfl rfl rfl (by decide +kernel) ⟨(Nat.le_of_ble_eq_true rfl), (Nat.le_of_ble_eq_true rfl)⟩) 0 7 rfl rfl rfl rfl hl.1 rfl (Nat.le_of_ble_eq_true rfl) dX7_credit_16 ⟨(Nat.le_of_ble_eq_true rfl), (Nat.le_of_ble_eq_true rfl)⟩ (fun r_3 u H locs hw hP2 hD2 hS2 => ?_)
  clear hP hD hS
  obtain rfl := hw
  have hPD : PD D A [(Mm, .inr (7, [.int zth, .ref Mt, .int (nI tp), .int zma, .int zwr, .ref Mrr, .ref Mrh, .ref Mrc, .int zrh, .int zrc, .ref Mn, .ref Mf, .ref Mr, .ref Mh, .int (nI hp), .int (nI cc), .ref Ma, .ref Mas, .ref Msn, .ref Mac, .ref Mat])), (Mn, .inl (g 0, 1767, .inl fno))] H := ⟨hP2, hD2⟩
  have hS := hS2; clear hP2 hD2 hS2; have hP := hPD.1; have hD := hPD.2; clear hPD
  refine W.widen (k := 0) (n := 0) (Nat.le_of_ble_eq_true rfl) (Nat.le_of_ble_eq_true rfl) ?_
  refine lv_isub hx hb dX7_credit_19 ?_
  refine lv_topi (fun y_4 _ => ?_)
  refine va_mmax hx hb (hml.trans hl.1.symm) hown mmmax mtmax mi mcmax (Nat.le_of_ble_eq_true rfl) (Nat.le_of_ble_eq_true rfl) (Nat.le_of_ble_eq_true rfl) (Nat.le_of_ble_eq_true rfl) dX7_credit_20 ?_
  refine lv_topi (fun y_5 _ => ?_)
  have hP9 := hP; have hD9 := hD
  subst hQ
  refine W.widen (k := 0) (n := 0) (Nat.le_of_ble_eq_true rfl) (Nat.le_of_ble_eq_true rfl) ?_
  exact W.iret (v := y_5) hx hb hr (fun tS htS _ => ⟨⟨_, _, rfl, rfl, by rw [htS]; exact hP9, hD9⟩, hS.F htS⟩) hS.2.2 dX7_credit_23

set_option maxHeartbeats 4000000 in
set_option maxRecDepth 100000 in
theorem k_X7_leftFor (l : Launch) (D : va_G) (g : Nat → ClassId) (sz : Nat) (Mm : Nat) (hix : Nat) (zc : Int32) (zth : Int32) (Mt : Nat) (tp : Nat) (zma : Int32) (zwr : Int32) (Mrr : Nat) (Mrh : Nat) (Mrc : Nat) (zrh : Int32) (zrc : Int32) (Mn : Nat) (Mf : Nat) (Mr : Nat) (Mh : Nat) (hp : Nat) (cc : Nat) (Ma : Nat) (Mas : Nat) (Msn : Nat) (Mac : Nat) (Mat : Nat) (fno : Nat → Int32) (fmh : Nat → Int32) (h0 : 1 ≤ cc) (h1 : cc ≤ 3) (h2 : hix < 3) (h3 : n3 fmh) : Met l yX7_leftFor wsX7_leftFor ({ frames := 2, cells := 0, slots := 0, locals := 43 }) (va_Pc [.ref Mm, .int (nI hix), .int zc] (pre D g sz [(Mm, .inr (7, [.int zth, .ref Mt, .int (nI tp), .int zma, .int zwr, .ref Mrr, .ref Mrh, .ref Mrc, .int zrh, .int zrc, .ref Mn, .ref Mf, .ref Mr, .ref Mh, .int (nI hp), .int (nI cc), .ref Ma, .ref Mas, .ref Msn, .ref Mac, .ref Mat])), (Mn, .inl (g 0, 1767, .inl fno)), (Mh, .inl (g 0, 9, .inl fmh))])) (va_Qi (fun (r : Int32) (u : va_W) => u = [(Mm, .inr (7, [.int zth, .ref Mt, .int (nI tp), .int zma, .int zwr, .ref Mrr, .ref Mrh, .ref Mrc, .int zrh, .int zrc, .ref Mn, .ref Mf, .ref Mr, .ref Mh, .int (nI hp), .int (nI cc), .ref Ma, .ref Mas, .ref Msn, .ref Mac, .ref Mat])), (Mn, .inl (g 0, 1767, .inl fno)), (Mh, .inl (g 0, 9, .inl fmh))]) (wd D (va_A [(Mm, .inr (7, [.int zth, .ref Mt, .int (nI tp), .int zma, .int zwr, .ref Mrr, .ref Mrh, .ref Mrc, .int zrh, .int zrc, .ref Mn, .ref Mf, .ref Mr, .ref Mh, .int (nI hp), .int (nI cc), .ref Ma, .ref Mas, .ref Msn, .ref Mac, .ref Mat])), (Mn, .inl (g 0, 1767, .inl fno)), (Mh, .inl (g 0, 9, .inl fmh))] sz)) (va_A [(Mm, .inr (7, [.int zth, .ref Mt, .int (nI tp), .int zma, .int zwr, .ref Mrr, .ref Mrh, .ref Mrc, .int zrh, .int zrc, .ref Mn, .ref Mf, .ref Mr, .ref Mh, .int (nI hp), .int (nI cc), .ref Ma, .ref Mas, .ref Msn, .ref Mac, .ref Mat])), (Mn, .inl (g 0, 1767, .inl fno)), (Mh, .inl (g 0, 9, .inl fmh))] sz)) 0 0 (va_A [(Mm, .inr (7, [.int zth, .ref Mt, .int (nI tp), .int zma, .int zwr, .ref Mrr, .ref Mrh, .ref Mrc, .int zrh, .int zrc, .ref Mn, .ref Mf, .ref Mr, .ref Mh, .int (nI hp), .int (nI cc), .ref Ma, .ref Mas, .ref Msn, .ref Mac, .ref Mat])), (Mn, .inl (g 0, 1767, .inl fno)), (Mh, .inl (g 0, 9, .inl fmh))] sz) := by
  refine Met.ofW (cc := cX7_leftFor) (maxL := 5) (ret := (some .int)) (by decide) rfl ?_
  intro p e s m args below meth c s₁ B hml hv
  obtain ⟨rfl, hsz, hP, ⟨hK, hN⟩, hD0, hZ⟩ := hv
  have hx := B.exec
  have hb := B.bytes
  have hr := B.returns
  have hts := atoms_spec (ws := wsX7_leftFor) B.pre
  have hown : s.vm.findClass RX7 = some m.cls := findClass_of_methodNamed B.named
  have hlocks := B.notSynchronized
  clear B
  subst hsz
  have hD := hD0.self (sz := s.heap.size)
  clear hD0
  generalize hAe : va_A [(Mm, .inr (7, [.int zth, .ref Mt, .int (nI tp), .int zma, .int zwr, .ref Mrr, .ref Mrh, .ref Mrc, .int zrh, .int zrc, .ref Mn, .ref Mf, .ref Mr, .ref Mh, .int (nI hp), .int (nI cc), .ref Ma, .ref Mas, .ref Msn, .ref Mac, .ref Mat])), (Mn, .inl (g 0, 1767, .inl fno)), (Mh, .inl (g 0, 9, .inl fmh))] s.heap.size = A at hD hZ ⊢
  have hA : ∀ q : Nat, s.heap.size ≤ q → A q := fun q h => by rw [← hAe]; exact Or.inr h
  have hS : va_S A s.heap s.heap [] := va_S.rf
  have f127 := hts (.fieldLink RX7 127 "HopCreditsModel" "circuits" "I") (List.mem_of_getElem? (i := 1) rfl)
  have f22 := hts (.fieldLink RX7 22 "HopCreditsModel" "now" "[I") (List.mem_of_getElem? (i := 2) rfl)
  have mcmax := hts (.code Lib.Math.max.name Lib.Math.max.code 2 (some .int)) (List.mem_of_getElem? (i := 6) rfl)
  have mi := hts (.initialized "java/lang/Math") (List.mem_of_getElem? (i := 5) rfl)
  have mmmax := hts (.methodLink RX7 154 Lib.Math.max.name) (List.mem_of_getElem? (i := 3) rfl)
  have mtmax := hts (.static Lib.Math.max.name) (List.mem_of_getElem? (i := 4) rfl)
  have iX7 : ∀ w ∈ u_ws RX7 TX7 21, w ∈ wsX7_leftFor := fun w h => List.mem_cons_of_mem _ (List.mem_append_right _ (h))
  have hl := lv_entry ([.ref Mm, .int (nI hix), .int zc]) (n := 5) (Nat.le_of_ble_eq_true rfl)
  rw [lg_entry_eq]
  generalize (lg_sl ([.ref Mm, .int (nI hix), .int zc]) ++ List.replicate (5 - (lg_sl ([.ref Mm, .int (nI hix), .int zc])).length) Slot.unset).toArray = ls at hl ⊢
  have hl : lv_has ls 5 [(0, .ref Mm), (1, .int (nI hix)), (2, .int zc)] := hl
  generalize hQ : MQ below _ _ s _ _ _ = Q
  generalize hH : s.heap = H at hP ⊢
  have hS : va_S A s.heap H [] := by rw [← hH]; exact hS
  clear hH
  refine lv_aload_n hx hb dX7_leftFor_0 rfl (lv_at hl 0 rfl) ?_
  refine lv_iload_n hx hb dX7_leftFor_1 rfl (lv_at hl 1 rfl) ?_
  refine ky_Vi (As := [.int (nI hix)]) (rest := []) ⟨hx, hb, hml, hown, hts⟩ ⟨hK, hN⟩ hZ hP hD hS hA [0, 2] [1] (wc := [(Mm, .inr (7, [.int zth, .ref Mt, .int (nI tp), .int zma, .int zwr, .ref Mrr, .ref Mrh, .ref Mrc, .int zrh, .int zrc, .ref Mn, .ref Mf, .ref Mr, .ref Mh, .int (nI hp), .int (nI cc), .ref Ma, .ref Mas, .ref Msn, .ref Mac, .ref Mat])), (Mh, .inl (g 0, 9, .inl fmh))]) (wr := [(Mn, .inl (g 0, 1767, .inl fno))]) rfl rfl rfl rfl (by decide) (k_X7_pool l D g H.size Mm hix zth Mt tp zma zwr Mrr Mrh Mrc zrh zrc Mn Mf Mr Mh hp cc Ma Mas Msn Mac Mat fmh (show hix < 3 by omega) (h3)) (cwV 1 hts gX7_leftFor_X7_pool rfl rfl rfl (by decide +kernel) ⟨(Nat.le_of_ble_eq_true rfl), (Nat.le_of_ble_eq_true rfl)⟩) 0 7 rfl rfl rfl rfl hl.1 rfl (Nat.le_of_ble_eq_true rfl) dX7_leftFor_2 ⟨(Nat.le_of_ble_eq_true rfl), (Nat.le_of_ble_eq_true rfl)⟩ (fun r_1 u H locs hw hP2 hD2 hS2 => ?_)
  clear hP hD hS
  obtain ⟨dx_2, rfl, rfl, hf_3⟩ := hw
  have hPD : PD D A [(Mn, .inl (g 0, 1767, .inl fno)), (Mm, .inr (7, [.int zth, .ref Mt, .int (nI tp), .int zma, .int zwr, .ref Mrr, .ref Mrh, .ref Mrc, .int zrh, .int zrc, .ref Mn, .ref Mf, .ref Mr, .ref Mh, .int (nI hp), .int (nI cc), .ref Ma, .ref Mas, .ref Msn, .ref Mac, .ref Mat])), (Mh, .inl (g 0, 9, .inl fmh))] H := ⟨hP2, hD2⟩
  have hS := hS2; clear hP2 hD2 hS2; have hP := hPD.1; have hD := hPD.2; clear hPD
  refine W.widen (k := 0) (n := 0) (Nat.le_of_ble_eq_true rfl) (Nat.le_of_ble_eq_true rfl) ?_
  refine lv_istore_n (lv' := [(3, .int (nI dx_2)), (0, .ref Mm), (1, .int (nI hix)), (2, .int zc)]) hx hb dX7_leftFor_5 rfl hl (by decide) rfl (fun ls hl => ?_)
  refine lv_iconst (v := 0) hx hb dX7_leftFor_6 (by decide) ?_
  refine lv_istore (lv' := [(4, .int 0), (3, .int (nI dx_2)), (0, .ref Mm), (1, .int (nI hix)), (2, .int zc)]) hx hb dX7_leftFor_7 hl (by decide) rfl (fun ls hl => ?_)
  have loop_22 : ∀ (Nloop_22 : Nat) (i_10 : Nat) (i_11 : Int32) (hbi_10 : i_10 ≤ cc) (hmloop_22 : cc - i_10 < Nloop_22) (H : Heap) (locs : List Loc) (ls : Array Slot), va_P D vwCl [(Mn, .inl (g 0, 1767, .inl fno)), (Mm, .inr (7, [.int zth, .ref Mt, .int (nI tp), .int zma, .int zwr, .ref Mrr, .ref Mrh, .ref Mrc, .int zrh, .int zrc, .ref Mn, .ref Mf, .ref Mr, .ref Mh, .int (nI hp), .int (nI cc), .ref Ma, .ref Mas, .ref Msn, .ref Mac, .ref Mat])), (Mh, .inl (g 0, 9, .inl fmh))] H → va_D A [(Mn, .inl (g 0, 1767, .inl fno)), (Mm, .inr (7, [.int zth, .ref Mt, .int (nI tp), .int zma, .int zwr, .ref Mrr, .ref Mrh, .ref Mrc, .int zrh, .int zrc, .ref Mn, .ref Mf, .ref Mr, .ref Mh, .int (nI hp), .int (nI cc), .ref Ma, .ref Mas, .ref Msn, .ref Mac, .ref Mat])), (Mh, .inl (g 0, 9, .inl fmh))] → va_S A s.heap H locs → lv_has ls 5 [(4, .int (nI i_10)), (3, .int i_11), (0, .ref Mm), (1, .int (nI hix)), (2, .int zc)] → W p l e (headSpec wsX7_leftFor ({ frames := 2, cells := 0, slots := 0, locals := 43 })).room s m ([.ref Mm, .int (nI hix), .int zc] : List Value).toArray below meth c H locs 0 0 Q (F0 m 9 ls []) := by
    clear hP hD hS hl
    intro Nloop_22
    induction Nloop_22 with
    | zero => intro i_10 i_11 hbi_10 hm9; exact absurd hm9 (Nat.not_lt_zero _)
    | succ Nloop_22 loop_22_ih =>
      intro i_10 i_11 hbi_10 hmloop_22 H locs ls hP hD hS hl
      refine lv_iload hx hb dX7_leftFor_9 (lv_at hl 0 rfl) ?_
      refine lv_aload_n hx hb dX7_leftFor_11 rfl (lv_at hl 2 rfl) ?_
      refine va_get (D := D) (ci := 7) (v := .int (nI cc)) (C := RX7) (T := TX7) (N := 21) hx hb hts iX7 hown hK hP 1 rfl rfl 15 (by decide) f127 (fun _ h9 => h9) rfl dX7_leftFor_12 ?_
      refine lv_icmp_ge (tgt := 60) hx hb dX7_leftFor_15 (by decide) (fun cb_23 => ?_) (fun cb_23 => ?_)
      · skip
        have cn_24 : cc ≤ i_10 := (nI_leI (show cc < 2 ^ 31 by omega) (show i_10 < 2 ^ 31 by omega)).mp cb_23
        refine lv_iload_n hx hb dX7_leftFor_60 rfl (lv_at hl 1 rfl) ?_
        have hPD9 : PD D A [(Mm, .inr (7, [.int zth, .ref Mt, .int (nI tp), .int zma, .int zwr, .ref Mrr, .ref Mrh, .ref Mrc, .int zrh, .int zrc, .ref Mn, .ref Mf, .ref Mr, .ref Mh, .int (nI hp), .int (nI cc), .ref Ma, .ref Mas, .ref Msn, .ref Mac, .ref Mat])), (Mn, .inl (g 0, 1767, .inl fno)), (Mh, .inl (g 0, 9, .inl fmh))] H := ⟨hP.sub [1, 0, 2] rfl, hD.sub [1, 0, 2] (by decide) rfl⟩
        have hP9 := hPD9.1; have hD9 := hPD9.2
        subst hQ
        refine W.widen (k := 0) (n := 0) (Nat.le_of_ble_eq_true rfl) (Nat.le_of_ble_eq_true rfl) ?_
        exact W.iret (v := i_11) hx hb hr (fun tS htS _ => ⟨⟨_, _, rfl, rfl, by rw [htS]; exact hP9, hD9⟩, hS.F htS⟩) hS.2.2 dX7_leftFor_61
      · skip
        have cn_25 : i_10 < cc := Nat.lt_of_not_le (fun q9 => cb_23 ((nI_leI (show cc < 2 ^ 31 by omega) (show i_10 < 2 ^ 31 by omega)).mpr q9))
        refine lv_iload_n hx hb dX7_leftFor_18 rfl (lv_at hl 1 rfl) ?_
        refine lv_iload hx hb dX7_leftFor_19 (lv_at hl 0 rfl) ?_
        refine lv_iload_n hx hb dX7_leftFor_21 rfl (lv_at hl 4 rfl) ?_
        refine lv_icmp_ne (tgt := 29) hx hb dX7_leftFor_22 (by decide) (fun cb_26 => ?_) (fun cb_26 => ?_)
        · skip
          refine lv_aload_n hx hb dX7_leftFor_29 rfl (lv_at hl 2 rfl) ?_
          refine va_get (D := D) (ci := 7) (v := .ref Mn) (C := RX7) (T := TX7) (N := 21) hx hb hts iX7 hown hK hP 1 rfl rfl 10 (by decide) f22 (fun _ h9 => h9) rfl dX7_leftFor_30 ?_
          refine lv_iload_n hx hb dX7_leftFor_33 rfl (lv_at hl 3 rfl) ?_
          refine lv_iload hx hb dX7_leftFor_34 (lv_at hl 0 rfl) ?_
          refine ky_Si (As := [.int (nI hix), .int (nI i_10)]) (rest := [.ref Mn, .int i_11]) ⟨hx, hb, hml, hown, hts⟩ ⟨hK, hN⟩ hZ hP hD hS hA [] [0, 1, 2] (wc := []) (wr := [(Mn, .inl (g 0, 1767, .inl fno)), (Mm, .inr (7, [.int zth, .ref Mt, .int (nI tp), .int zma, .int zwr, .ref Mrr, .ref Mrh, .ref Mrc, .int zrh, .int zrc, .ref Mn, .ref Mf, .ref Mr, .ref Mh, .int (nI hp), .int (nI cc), .ref Ma, .ref Mas, .ref Msn, .ref Mac, .ref Mat])), (Mh, .inl (g 0, 9, .inl fmh))]) rfl rfl rfl rfl (by decide) (k_X7_lane l D g H.size hix i_10 (show hix < 3 by omega) (show i_10 < 3 by omega)) (va_cwS 2 hts gX7_leftFor_X7_lane rfl rfl rfl (by decide +kernel) ⟨(Nat.le_of_ble_eq_true rfl), (Nat.le_of_ble_eq_true rfl)⟩) rfl hl.1 rfl (Nat.le_of_ble_eq_true rfl) dX7_leftFor_36 ⟨(Nat.le_of_ble_eq_true rfl), (Nat.le_of_ble_eq_true rfl)⟩ (fun r_27 u H locs hw hP2 hD2 hS2 => ?_)
          clear hP hD hS
          obtain ⟨rfl, rfl⟩ := hw
          have hPD : PD D A [(Mn, .inl (g 0, 1767, .inl fno)), (Mm, .inr (7, [.int zth, .ref Mt, .int (nI tp), .int zma, .int zwr, .ref Mrr, .ref Mrh, .ref Mrc, .int zrh, .int zrc, .ref Mn, .ref Mf, .ref Mr, .ref Mh, .int (nI hp), .int (nI cc), .ref Ma, .ref Mas, .ref Msn, .ref Mac, .ref Mat])), (Mh, .inl (g 0, 9, .inl fmh))] H := ⟨hP2, hD2⟩
          have hS := hS2; clear hP2 hD2 hS2; have hP := hPD.1; have hD := hPD.2; clear hPD
          refine W.widen (k := 0) (n := 0) (Nat.le_of_ble_eq_true rfl) (Nat.le_of_ble_eq_true rfl) ?_
          refine lv_iconst (v := 3) hx hb dX7_leftFor_39 (by decide) ?_
          refine lv_iadd hx hb dX7_leftFor_40 ?_
          refine lv_eqi (y := (nI (7 * (3 * hix + i_10) + 3))) (nI_add (7 * (3 * hix + i_10)) (3)) ?_
          refine va_iald hx hb hK hP 0 0 rfl rfl (vp_in_nI (show 7 * (3 * hix + i_10) + 3 < 1767 by omega) (by decide)) dX7_leftFor_41 ?_
          refine lv_eqi (y := (fno (7 * (3 * hix + i_10) + 3))) (congrArg fno (nI_clamp (show 7 * (3 * hix + i_10) + 3 < 2 ^ 31 by omega))) ?_
          refine lv_topi (fun y_28 _ => ?_)
          refine lv_aload_n hx hb dX7_leftFor_42 rfl (lv_at hl 2 rfl) ?_
          refine lv_iload_n hx hb dX7_leftFor_43 rfl (lv_at hl 3 rfl) ?_
          refine lv_iload hx hb dX7_leftFor_44 (lv_at hl 0 rfl) ?_
          refine ky_Vi (As := [.int (nI hix), .int (nI i_10)]) (rest := [.int y_28, .int i_11]) ⟨hx, hb, hml, hown, hts⟩ ⟨hK, hN⟩ hZ hP hD hS hA [1, 0] [2] (wc := [(Mm, .inr (7, [.int zth, .ref Mt, .int (nI tp), .int zma, .int zwr, .ref Mrr, .ref Mrh, .ref Mrc, .int zrh, .int zrc, .ref Mn, .ref Mf, .ref Mr, .ref Mh, .int (nI hp), .int (nI cc), .ref Ma, .ref Mas, .ref Msn, .ref Mac, .ref Mat])), (Mn, .inl (g 0, 1767, .inl fno))]) (wr := [(Mh, .inl (g 0, 9, .inl fmh))]) rfl rfl rfl rfl (by decide) (k_X7_outOf l D g H.size Mm hix i_10 zth Mt tp zma zwr Mrr Mrh Mrc zrh zrc Mn Mf Mr Mh hp cc Ma Mas Msn Mac Mat fno (show hix < 3 by omega) (show i_10 < 3 by omega)) (cwV 2 hts gX7_leftFor_X7_outOf rfl rfl rfl (by decide +kernel) ⟨(Nat.le_of_ble_eq_true rfl), (Nat.le_of_ble_eq_true rfl)⟩) 1 7 rfl rfl rfl rfl hl.1 rfl (Nat.le_of_ble_eq_true rfl) dX7_leftFor_46 ⟨(Nat.le_of_ble_eq_true rfl), (Nat.le_of_ble_eq_true rfl)⟩ (fun r_29 u H locs hw hP2 hD2 hS2 => ?_)
          clear hP hD hS
          obtain rfl := hw
          have hPD : PD D A [(Mh, .inl (g 0, 9, .inl fmh)), (Mm, .inr (7, [.int zth, .ref Mt, .int (nI tp), .int zma, .int zwr, .ref Mrr, .ref Mrh, .ref Mrc, .int zrh, .int zrc, .ref Mn, .ref Mf, .ref Mr, .ref Mh, .int (nI hp), .int (nI cc), .ref Ma, .ref Mas, .ref Msn, .ref Mac, .ref Mat])), (Mn, .inl (g 0, 1767, .inl fno))] H := ⟨hP2, hD2⟩
          have hS := hS2; clear hP2 hD2 hS2; have hP := hPD.1; have hD := hPD.2; clear hPD
          refine W.widen (k := 0) (n := 0) (Nat.le_of_ble_eq_true rfl) (Nat.le_of_ble_eq_true rfl) ?_
          refine va_mmax hx hb (hml.trans hl.1.symm) hown mmmax mtmax mi mcmax (Nat.le_of_ble_eq_true rfl) (Nat.le_of_ble_eq_true rfl) (Nat.le_of_ble_eq_true rfl) (Nat.le_of_ble_eq_true rfl) dX7_leftFor_49 ?_
          refine lv_topi (fun y_30 _ => ?_)
          refine lv_isub hx hb dX7_leftFor_52 ?_
          refine lv_topi (fun y_31 _ => ?_)
          refine lv_istore_n (lv' := [(3, .int y_31), (4, .int (nI i_10)), (0, .ref Mm), (1, .int (nI hix)), (2, .int zc)]) hx hb dX7_leftFor_53 rfl hl (by decide) rfl (fun ls hl => ?_)
          refine lv_iinc (v := (nI (i_10 + 1))) (lv' := [(4, .int (nI (i_10 + 1))), (3, .int y_31), (0, .ref Mm), (1, .int (nI hix)), (2, .int zc)]) hx hb dX7_leftFor_54 hl (k := 1) rfl (nI_1 (i_10)) (by decide) rfl (fun ls hl => ?_)
          refine lv_goto (tgt := 9) hx hb dX7_leftFor_57 (by decide) ?_
          exact loop_22_ih (i_10 + 1) y_31 (show (i_10 + 1) ≤ cc by omega) (show cc - (i_10 + 1) < Nloop_22 by omega) _ _ _ (hP.sub [2, 1, 0] rfl) (hD.sub [2, 1, 0] (by decide) rfl) hS hl
        · skip
          refine lv_iconst (v := 0) hx hb dX7_leftFor_25 (by decide) ?_
          refine lv_goto (tgt := 52) hx hb dX7_leftFor_26 (by decide) ?_
          refine lv_isub hx hb dX7_leftFor_52 ?_
          refine lv_topi (fun y_32 _ => ?_)
          refine lv_istore_n (lv' := [(3, .int y_32), (4, .int (nI i_10)), (0, .ref Mm), (1, .int (nI hix)), (2, .int zc)]) hx hb dX7_leftFor_53 rfl hl (by decide) rfl (fun ls hl => ?_)
          refine lv_iinc (v := (nI (i_10 + 1))) (lv' := [(4, .int (nI (i_10 + 1))), (3, .int y_32), (0, .ref Mm), (1, .int (nI hix)), (2, .int zc)]) hx hb dX7_leftFor_54 hl (k := 1) rfl (nI_1 (i_10)) (by decide) rfl (fun ls hl => ?_)
          refine lv_goto (tgt := 9) hx hb dX7_leftFor_57 (by decide) ?_
          exact loop_22_ih (i_10 + 1) y_32 (show (i_10 + 1) ≤ cc by omega) (show cc - (i_10 + 1) < Nloop_22 by omega) _ _ _ hP hD hS hl
  exact loop_22 _ 0 (nI dx_2) (show 0 ≤ cc by omega) (Nat.lt_succ_self _) _ _ _ hP hD hS hl

set_option maxHeartbeats 4000000 in
set_option maxRecDepth 100000 in
theorem k_X7_roomFor (l : Launch) (D : va_G) (g : Nat → ClassId) (sz : Nat) (Mm : Nat) (hix : Nat) (cx : Nat) (zth : Int32) (Mt : Nat) (tp : Nat) (zma : Int32) (zwr : Int32) (Mrr : Nat) (Mrh : Nat) (Mrc : Nat) (zrh : Int32) (zrc : Int32) (Mn : Nat) (Mf : Nat) (Mr : Nat) (Mh : Nat) (hp : Nat) (cc : Nat) (Ma : Nat) (Mas : Nat) (Msn : Nat) (Mac : Nat) (Mat : Nat) (fno : Nat → Int32) (fmh : Nat → Int32) (h0 : 1 ≤ cc) (h1 : cc ≤ 3) (h2 : hix < 3) (h3 : cx < 3) (h4 : n3 fmh) : Met l yX7_roomFor wsX7_roomFor ({ frames := 3, cells := 0, slots := 0, locals := 67 }) (va_Pc [.ref Mm, .int (nI hix), .int (nI cx)] (pre D g sz [(Mm, .inr (7, [.int zth, .ref Mt, .int (nI tp), .int zma, .int zwr, .ref Mrr, .ref Mrh, .ref Mrc, .int zrh, .int zrc, .ref Mn, .ref Mf, .ref Mr, .ref Mh, .int (nI hp), .int (nI cc), .ref Ma, .ref Mas, .ref Msn, .ref Mac, .ref Mat])), (Mn, .inl (g 0, 1767, .inl fno)), (Mh, .inl (g 0, 9, .inl fmh))])) (va_Qi (fun (r : Int32) (u : va_W) => u = [(Mm, .inr (7, [.int zth, .ref Mt, .int (nI tp), .int zma, .int zwr, .ref Mrr, .ref Mrh, .ref Mrc, .int zrh, .int zrc, .ref Mn, .ref Mf, .ref Mr, .ref Mh, .int (nI hp), .int (nI cc), .ref Ma, .ref Mas, .ref Msn, .ref Mac, .ref Mat])), (Mn, .inl (g 0, 1767, .inl fno)), (Mh, .inl (g 0, 9, .inl fmh))]) (wd D (va_A [(Mm, .inr (7, [.int zth, .ref Mt, .int (nI tp), .int zma, .int zwr, .ref Mrr, .ref Mrh, .ref Mrc, .int zrh, .int zrc, .ref Mn, .ref Mf, .ref Mr, .ref Mh, .int (nI hp), .int (nI cc), .ref Ma, .ref Mas, .ref Msn, .ref Mac, .ref Mat])), (Mn, .inl (g 0, 1767, .inl fno)), (Mh, .inl (g 0, 9, .inl fmh))] sz)) (va_A [(Mm, .inr (7, [.int zth, .ref Mt, .int (nI tp), .int zma, .int zwr, .ref Mrr, .ref Mrh, .ref Mrc, .int zrh, .int zrc, .ref Mn, .ref Mf, .ref Mr, .ref Mh, .int (nI hp), .int (nI cc), .ref Ma, .ref Mas, .ref Msn, .ref Mac, .ref Mat])), (Mn, .inl (g 0, 1767, .inl fno)), (Mh, .inl (g 0, 9, .inl fmh))] sz)) 0 0 (va_A [(Mm, .inr (7, [.int zth, .ref Mt, .int (nI tp), .int zma, .int zwr, .ref Mrr, .ref Mrh, .ref Mrc, .int zrh, .int zrc, .ref Mn, .ref Mf, .ref Mr, .ref Mh, .int (nI hp), .int (nI cc), .ref Ma, .ref Mas, .ref Msn, .ref Mac, .ref Mat])), (Mn, .inl (g 0, 1767, .inl fno)), (Mh, .inl (g 0, 9, .inl fmh))] sz) := by
  refine Met.ofW (cc := cX7_roomFor) (maxL := 3) (ret := (some .int)) (by decide) rfl ?_
  intro p e s m args below meth c s₁ B hml hv
  obtain ⟨rfl, hsz, hP, ⟨hK, hN⟩, hD0, hZ⟩ := hv
  have hx := B.exec
  have hb := B.bytes
  have hr := B.returns
  have hts := atoms_spec (ws := wsX7_roomFor) B.pre
  have hown : s.vm.findClass RX7 = some m.cls := findClass_of_methodNamed B.named
  have hlocks := B.notSynchronized
  clear B
  subst hsz
  have hD := hD0.self (sz := s.heap.size)
  clear hD0
  generalize hAe : va_A [(Mm, .inr (7, [.int zth, .ref Mt, .int (nI tp), .int zma, .int zwr, .ref Mrr, .ref Mrh, .ref Mrc, .int zrh, .int zrc, .ref Mn, .ref Mf, .ref Mr, .ref Mh, .int (nI hp), .int (nI cc), .ref Ma, .ref Mas, .ref Msn, .ref Mac, .ref Mat])), (Mn, .inl (g 0, 1767, .inl fno)), (Mh, .inl (g 0, 9, .inl fmh))] s.heap.size = A at hD hZ ⊢
  have hA : ∀ q : Nat, s.heap.size ≤ q → A q := fun q h => by rw [← hAe]; exact Or.inr h
  have hS : va_S A s.heap s.heap [] := va_S.rf
  have f22 := hts (.fieldLink RX7 22 "HopCreditsModel" "now" "[I") (List.mem_of_getElem? (i := 1) rfl)
  have mcmax := hts (.code Lib.Math.max.name Lib.Math.max.code 2 (some .int)) (List.mem_of_getElem? (i := 8) rfl)
  have mcmin := hts (.code Lib.Math.min.name Lib.Math.min.code 2 (some .int)) (List.mem_of_getElem? (i := 5) rfl)
  have mi := hts (.initialized "java/lang/Math") (List.mem_of_getElem? (i := 4) rfl)
  have mmmax := hts (.methodLink RX7 154 Lib.Math.max.name) (List.mem_of_getElem? (i := 6) rfl)
  have mmmin := hts (.methodLink RX7 175 Lib.Math.min.name) (List.mem_of_getElem? (i := 2) rfl)
  have mtmax := hts (.static Lib.Math.max.name) (List.mem_of_getElem? (i := 7) rfl)
  have mtmin := hts (.static Lib.Math.min.name) (List.mem_of_getElem? (i := 3) rfl)
  have iX7 : ∀ w ∈ u_ws RX7 TX7 21, w ∈ wsX7_roomFor := fun w h => List.mem_cons_of_mem _ (List.mem_append_right _ (h))
  have hl := lv_entry ([.ref Mm, .int (nI hix), .int (nI cx)]) (n := 3) (Nat.le_of_ble_eq_true rfl)
  rw [lg_entry_eq]
  generalize (lg_sl ([.ref Mm, .int (nI hix), .int (nI cx)]) ++ List.replicate (3 - (lg_sl ([.ref Mm, .int (nI hix), .int (nI cx)])).length) Slot.unset).toArray = ls at hl ⊢
  have hl : lv_has ls 3 [(0, .ref Mm), (1, .int (nI hix)), (2, .int (nI cx))] := hl
  generalize hQ : MQ below _ _ s _ _ _ = Q
  generalize hH : s.heap = H at hP ⊢
  have hS : va_S A s.heap H [] := by rw [← hH]; exact hS
  clear hH
  refine lv_aload_n hx hb dX7_roomFor_0 rfl (lv_at hl 0 rfl) ?_
  refine va_get (D := D) (ci := 7) (v := .ref Mn) (C := RX7) (T := TX7) (N := 21) hx hb hts iX7 hown hK hP 0 rfl rfl 10 (by decide) f22 (fun _ h9 => h9) rfl dX7_roomFor_1 ?_
  refine lv_iload_n hx hb dX7_roomFor_4 rfl (lv_at hl 1 rfl) ?_
  refine lv_iload_n hx hb dX7_roomFor_5 rfl (lv_at hl 2 rfl) ?_
  refine ky_Si (As := [.int (nI hix), .int (nI cx)]) (rest := [.ref Mn]) ⟨hx, hb, hml, hown, hts⟩ ⟨hK, hN⟩ hZ hP hD hS hA [] [0, 1, 2] (wc := []) (wr := [(Mm, .inr (7, [.int zth, .ref Mt, .int (nI tp), .int zma, .int zwr, .ref Mrr, .ref Mrh, .ref Mrc, .int zrh, .int zrc, .ref Mn, .ref Mf, .ref Mr, .ref Mh, .int (nI hp), .int (nI cc), .ref Ma, .ref Mas, .ref Msn, .ref Mac, .ref Mat])), (Mn, .inl (g 0, 1767, .inl fno)), (Mh, .inl (g 0, 9, .inl fmh))]) rfl rfl rfl rfl (by decide) (k_X7_lane l D g H.size hix cx (show hix < 3 by omega) (show cx < 3 by omega)) (va_cwS 2 hts gX7_roomFor_X7_lane rfl rfl rfl (by decide +kernel) ⟨(Nat.le_of_ble_eq_true rfl), (Nat.le_of_ble_eq_true rfl)⟩) rfl hl.1 rfl (Nat.le_of_ble_eq_true rfl) dX7_roomFor_6 ⟨(Nat.le_of_ble_eq_true rfl), (Nat.le_of_ble_eq_true rfl)⟩ (fun r_1 u H locs hw hP2 hD2 hS2 => ?_)
  clear hP hD hS
  obtain ⟨rfl, rfl⟩ := hw
  have hPD : PD D A [(Mm, .inr (7, [.int zth, .ref Mt, .int (nI tp), .int zma, .int zwr, .ref Mrr, .ref Mrh, .ref Mrc, .int zrh, .int zrc, .ref Mn, .ref Mf, .ref Mr, .ref Mh, .int (nI hp), .int (nI cc), .ref Ma, .ref Mas, .ref Msn, .ref Mac, .ref Mat])), (Mn, .inl (g 0, 1767, .inl fno)), (Mh, .inl (g 0, 9, .inl fmh))] H := ⟨hP2, hD2⟩
  have hS := hS2; clear hP2 hD2 hS2; have hP := hPD.1; have hD := hPD.2; clear hPD
  refine W.widen (k := 0) (n := 0) (Nat.le_of_ble_eq_true rfl) (Nat.le_of_ble_eq_true rfl) ?_
  refine lv_iconst (v := 3) hx hb dX7_roomFor_9 (by decide) ?_
  refine lv_iadd hx hb dX7_roomFor_10 ?_
  refine lv_eqi (y := (nI (7 * (3 * hix + cx) + 3))) (nI_add (7 * (3 * hix + cx)) (3)) ?_
  refine va_iald hx hb hK hP 1 0 rfl rfl (vp_in_nI (show 7 * (3 * hix + cx) + 3 < 1767 by omega) (by decide)) dX7_roomFor_11 ?_
  refine lv_eqi (y := (fno (7 * (3 * hix + cx) + 3))) (congrArg fno (nI_clamp (show 7 * (3 * hix + cx) + 3 < 2 ^ 31 by omega))) ?_
  refine lv_topi (fun y_2 _ => ?_)
  refine lv_aload_n hx hb dX7_roomFor_12 rfl (lv_at hl 0 rfl) ?_
  refine lv_iload_n hx hb dX7_roomFor_13 rfl (lv_at hl 1 rfl) ?_
  refine ky_Vi (As := [.int (nI hix)]) (rest := [.int y_2]) ⟨hx, hb, hml, hown, hts⟩ ⟨hK, hN⟩ hZ hP hD hS hA [0, 2] [1] (wc := [(Mm, .inr (7, [.int zth, .ref Mt, .int (nI tp), .int zma, .int zwr, .ref Mrr, .ref Mrh, .ref Mrc, .int zrh, .int zrc, .ref Mn, .ref Mf, .ref Mr, .ref Mh, .int (nI hp), .int (nI cc), .ref Ma, .ref Mas, .ref Msn, .ref Mac, .ref Mat])), (Mh, .inl (g 0, 9, .inl fmh))]) (wr := [(Mn, .inl (g 0, 1767, .inl fno))]) rfl rfl rfl rfl (by decide) (k_X7_pool l D g H.size Mm hix zth Mt tp zma zwr Mrr Mrh Mrc zrh zrc Mn Mf Mr Mh hp cc Ma Mas Msn Mac Mat fmh (show hix < 3 by omega) (h4)) (cwV 1 hts gX7_roomFor_X7_pool rfl rfl rfl (by decide +kernel) ⟨(Nat.le_of_ble_eq_true rfl), (Nat.le_of_ble_eq_true rfl)⟩) 0 7 rfl rfl rfl rfl hl.1 rfl (Nat.le_of_ble_eq_true rfl) dX7_roomFor_14 ⟨(Nat.le_of_ble_eq_true rfl), (Nat.le_of_ble_eq_true rfl)⟩ (fun r_3 u H locs hw hP2 hD2 hS2 => ?_)
  clear hP hD hS
  obtain ⟨dx_4, rfl, rfl, hf_5⟩ := hw
  have hPD : PD D A [(Mn, .inl (g 0, 1767, .inl fno)), (Mm, .inr (7, [.int zth, .ref Mt, .int (nI tp), .int zma, .int zwr, .ref Mrr, .ref Mrh, .ref Mrc, .int zrh, .int zrc, .ref Mn, .ref Mf, .ref Mr, .ref Mh, .int (nI hp), .int (nI cc), .ref Ma, .ref Mas, .ref Msn, .ref Mac, .ref Mat])), (Mh, .inl (g 0, 9, .inl fmh))] H := ⟨hP2, hD2⟩
  have hS := hS2; clear hP2 hD2 hS2; have hP := hPD.1; have hD := hPD.2; clear hPD
  refine W.widen (k := 0) (n := 0) (Nat.le_of_ble_eq_true rfl) (Nat.le_of_ble_eq_true rfl) ?_
  refine lv_aload_n hx hb dX7_roomFor_17 rfl (lv_at hl 0 rfl) ?_
  refine lv_iload_n hx hb dX7_roomFor_18 rfl (lv_at hl 1 rfl) ?_
  refine lv_iload_n hx hb dX7_roomFor_19 rfl (lv_at hl 2 rfl) ?_
  refine ky_Vi (As := [.int (nI hix), .int (nI cx)]) (rest := [.int (nI dx_4), .int y_2]) ⟨hx, hb, hml, hown, hts⟩ ⟨hK, hN⟩ hZ hP hD hS hA [1, 0, 2] [] (wc := [(Mm, .inr (7, [.int zth, .ref Mt, .int (nI tp), .int zma, .int zwr, .ref Mrr, .ref Mrh, .ref Mrc, .int zrh, .int zrc, .ref Mn, .ref Mf, .ref Mr, .ref Mh, .int (nI hp), .int (nI cc), .ref Ma, .ref Mas, .ref Msn, .ref Mac, .ref Mat])), (Mn, .inl (g 0, 1767, .inl fno)), (Mh, .inl (g 0, 9, .inl fmh))]) (wr := []) rfl rfl rfl rfl (by decide) (k_X7_leftFor l D g H.size Mm hix (nI cx) zth Mt tp zma zwr Mrr Mrh Mrc zrh zrc Mn Mf Mr Mh hp cc Ma Mas Msn Mac Mat fno fmh (show 1 ≤ cc by omega) (show cc ≤ 3 by omega) (show hix < 3 by omega) (h4)) (cwV 2 hts gX7_roomFor_X7_leftFor rfl rfl rfl (by decide +kernel) ⟨(Nat.le_of_ble_eq_true rfl), (Nat.le_of_ble_eq_true rfl)⟩) 1 7 rfl rfl rfl rfl hl.1 rfl (Nat.le_of_ble_eq_true rfl) dX7_roomFor_20 ⟨(Nat.le_of_ble_eq_true rfl), (Nat.le_of_ble_eq_true rfl)⟩ (fun r_6 u H locs hw hP2 hD2 hS2 => ?_)
  clear hP hD hS
  obtain rfl := hw
  have hPD : PD D A [(Mm, .inr (7, [.int zth, .ref Mt, .int (nI tp), .int zma, .int zwr, .ref Mrr, .ref Mrh, .ref Mrc, .int zrh, .int zrc, .ref Mn, .ref Mf, .ref Mr, .ref Mh, .int (nI hp), .int (nI cc), .ref Ma, .ref Mas, .ref Msn, .ref Mac, .ref Mat])), (Mn, .inl (g 0, 1767, .inl fno)), (Mh, .inl (g 0, 9, .inl fmh))] H := ⟨hP2, hD2⟩
  have hS := hS2; clear hP2 hD2 hS2; have hP := hPD.1; have hD := hPD.2; clear hPD
  refine W.widen (k := 0) (n := 0) (Nat.le_of_ble_eq_true rfl) (Nat.le_of_ble_eq_true rfl) ?_
  refine va_mmin hx hb (hml.trans hl.1.symm) hown mmmin mtmin mi mcmin (Nat.le_of_ble_eq_true rfl) (Nat.le_of_ble_eq_true rfl) (Nat.le_of_ble_eq_true rfl) (Nat.le_of_ble_eq_true rfl) dX7_roomFor_23 ?_
  refine lv_topi (fun y_7 _ => ?_)
  refine va_mmax hx hb (hml.trans hl.1.symm) hown mmmax mtmax mi mcmax (Nat.le_of_ble_eq_true rfl) (Nat.le_of_ble_eq_true rfl) (Nat.le_of_ble_eq_true rfl) (Nat.le_of_ble_eq_true rfl) dX7_roomFor_26 ?_
  refine lv_topi (fun y_8 _ => ?_)
  have hP9 := hP; have hD9 := hD
  subst hQ
  refine W.widen (k := 0) (n := 0) (Nat.le_of_ble_eq_true rfl) (Nat.le_of_ble_eq_true rfl) ?_
  exact W.iret (v := y_8) hx hb hr (fun tS htS _ => ⟨⟨_, _, rfl, rfl, by rw [htS]; exact hP9, hD9⟩, hS.F htS⟩) hS.2.2 dX7_roomFor_29

set_option maxHeartbeats 4000000 in
set_option maxRecDepth 100000 in
theorem k_X7_aimOf (l : Launch) (D : va_G) (g : Nat → ClassId) (sz : Nat) (Mm : Nat) (hix : Nat) (cx : Nat) (zth : Int32) (Mt : Nat) (tp : Nat) (zma : Int32) (zwr : Int32) (Mrr : Nat) (Mrh : Nat) (Mrc : Nat) (zrh : Int32) (zrc : Int32) (Mn : Nat) (Mf : Nat) (Mr : Nat) (Mh : Nat) (hp : Nat) (cc : Nat) (Ma : Nat) (Mas : Nat) (Msn : Nat) (Mac : Nat) (Mat : Nat) (fno : Nat → Int32) (fmh : Nat → Int32) (fmr : Nat → Int32) (h0 : 1 ≤ cc) (h1 : cc ≤ 3) (h2 : hix < 3) (h3 : cx < 3) (h4 : n3 fmh) : Met l yX7_aimOf wsX7_aimOf ({ frames := 1, cells := 0, slots := 0, locals := 21 }) (va_Pc [.ref Mm, .int (nI hix), .int (nI cx)] (pre D g sz [(Mm, .inr (7, [.int zth, .ref Mt, .int (nI tp), .int zma, .int zwr, .ref Mrr, .ref Mrh, .ref Mrc, .int zrh, .int zrc, .ref Mn, .ref Mf, .ref Mr, .ref Mh, .int (nI hp), .int (nI cc), .ref Ma, .ref Mas, .ref Msn, .ref Mac, .ref Mat])), (Mn, .inl (g 0, 1767, .inl fno)), (Mh, .inl (g 0, 9, .inl fmh)), (Mr, .inl (g 0, 3, .inl fmr))])) (va_Qi (fun (r : Int32) (u : va_W) => u = [(Mm, .inr (7, [.int zth, .ref Mt, .int (nI tp), .int zma, .int zwr, .ref Mrr, .ref Mrh, .ref Mrc, .int zrh, .int zrc, .ref Mn, .ref Mf, .ref Mr, .ref Mh, .int (nI hp), .int (nI cc), .ref Ma, .ref Mas, .ref Msn, .ref Mac, .ref Mat])), (Mn, .inl (g 0, 1767, .inl fno)), (Mh, .inl (g 0, 9, .inl fmh)), (Mr, .inl (g 0, 3, .inl fmr))]) (wd D (va_A [(Mm, .inr (7, [.int zth, .ref Mt, .int (nI tp), .int zma, .int zwr, .ref Mrr, .ref Mrh, .ref Mrc, .int zrh, .int zrc, .ref Mn, .ref Mf, .ref Mr, .ref Mh, .int (nI hp), .int (nI cc), .ref Ma, .ref Mas, .ref Msn, .ref Mac, .ref Mat])), (Mn, .inl (g 0, 1767, .inl fno)), (Mh, .inl (g 0, 9, .inl fmh)), (Mr, .inl (g 0, 3, .inl fmr))] sz)) (va_A [(Mm, .inr (7, [.int zth, .ref Mt, .int (nI tp), .int zma, .int zwr, .ref Mrr, .ref Mrh, .ref Mrc, .int zrh, .int zrc, .ref Mn, .ref Mf, .ref Mr, .ref Mh, .int (nI hp), .int (nI cc), .ref Ma, .ref Mas, .ref Msn, .ref Mac, .ref Mat])), (Mn, .inl (g 0, 1767, .inl fno)), (Mh, .inl (g 0, 9, .inl fmh)), (Mr, .inl (g 0, 3, .inl fmr))] sz)) 0 0 (va_A [(Mm, .inr (7, [.int zth, .ref Mt, .int (nI tp), .int zma, .int zwr, .ref Mrr, .ref Mrh, .ref Mrc, .int zrh, .int zrc, .ref Mn, .ref Mf, .ref Mr, .ref Mh, .int (nI hp), .int (nI cc), .ref Ma, .ref Mas, .ref Msn, .ref Mac, .ref Mat])), (Mn, .inl (g 0, 1767, .inl fno)), (Mh, .inl (g 0, 9, .inl fmh)), (Mr, .inl (g 0, 3, .inl fmr))] sz) := by
  refine Met.ofW (cc := cX7_aimOf) (maxL := 5) (ret := (some .int)) (by decide) rfl ?_
  intro p e s m args below meth c s₁ B hml hv
  obtain ⟨rfl, hsz, hP, ⟨hK, hN⟩, hD0, hZ⟩ := hv
  have hx := B.exec
  have hb := B.bytes
  have hr := B.returns
  have hts := atoms_spec (ws := wsX7_aimOf) B.pre
  have hown : s.vm.findClass RX7 = some m.cls := findClass_of_methodNamed B.named
  have hlocks := B.notSynchronized
  clear B
  subst hsz
  have hD := hD0.self (sz := s.heap.size)
  clear hD0
  generalize hAe : va_A [(Mm, .inr (7, [.int zth, .ref Mt, .int (nI tp), .int zma, .int zwr, .ref Mrr, .ref Mrh, .ref Mrc, .int zrh, .int zrc, .ref Mn, .ref Mf, .ref Mr, .ref Mh, .int (nI hp), .int (nI cc), .ref Ma, .ref Mas, .ref Msn, .ref Mac, .ref Mat])), (Mn, .inl (g 0, 1767, .inl fno)), (Mh, .inl (g 0, 9, .inl fmh)), (Mr, .inl (g 0, 3, .inl fmr))] s.heap.size = A at hD hZ ⊢
  have hA : ∀ q : Nat, s.heap.size ≤ q → A q := fun q h => by rw [← hAe]; exact Or.inr h
  have hS : va_S A s.heap s.heap [] := va_S.rf
  have f127 := hts (.fieldLink RX7 127 "HopCreditsModel" "circuits" "I") (List.mem_of_getElem? (i := 1) rfl)
  have f22 := hts (.fieldLink RX7 22 "HopCreditsModel" "now" "[I") (List.mem_of_getElem? (i := 2) rfl)
  have f28 := hts (.fieldLink RX7 28 "HopCreditsModel" "rule" "[I") (List.mem_of_getElem? (i := 3) rfl)
  have iX7 : ∀ w ∈ u_ws RX7 TX7 21, w ∈ wsX7_aimOf := fun w h => List.mem_cons_of_mem _ (List.mem_append_right _ (h))
  have hl := lv_entry ([.ref Mm, .int (nI hix), .int (nI cx)]) (n := 5) (Nat.le_of_ble_eq_true rfl)
  rw [lg_entry_eq]
  generalize (lg_sl ([.ref Mm, .int (nI hix), .int (nI cx)]) ++ List.replicate (5 - (lg_sl ([.ref Mm, .int (nI hix), .int (nI cx)])).length) Slot.unset).toArray = ls at hl ⊢
  have hl : lv_has ls 5 [(0, .ref Mm), (1, .int (nI hix)), (2, .int (nI cx))] := hl
  generalize hQ : MQ below _ _ s _ _ _ = Q
  generalize hH : s.heap = H at hP ⊢
  have hS : va_S A s.heap H [] := by rw [← hH]; exact hS
  clear hH
  refine lv_iconst (v := 0) hx hb dX7_aimOf_0 (by decide) ?_
  refine lv_istore_n (lv' := [(3, .int 0), (0, .ref Mm), (1, .int (nI hix)), (2, .int (nI cx))]) hx hb dX7_aimOf_1 rfl hl (by decide) rfl (fun ls hl => ?_)
  refine lv_iconst (v := 0) hx hb dX7_aimOf_2 (by decide) ?_
  refine lv_istore (lv' := [(4, .int 0), (3, .int 0), (0, .ref Mm), (1, .int (nI hix)), (2, .int (nI cx))]) hx hb dX7_aimOf_3 hl (by decide) rfl (fun ls hl => ?_)
  have loop_12 : ∀ (Nloop_12 : Nat) (i_4 : Nat) (i_5 : Int32) (hbi_4 : i_4 ≤ cc) (hmloop_12 : cc - i_4 < Nloop_12) (H : Heap) (locs : List Loc) (ls : Array Slot), va_P D vwCl [(Mm, .inr (7, [.int zth, .ref Mt, .int (nI tp), .int zma, .int zwr, .ref Mrr, .ref Mrh, .ref Mrc, .int zrh, .int zrc, .ref Mn, .ref Mf, .ref Mr, .ref Mh, .int (nI hp), .int (nI cc), .ref Ma, .ref Mas, .ref Msn, .ref Mac, .ref Mat])), (Mn, .inl (g 0, 1767, .inl fno)), (Mh, .inl (g 0, 9, .inl fmh)), (Mr, .inl (g 0, 3, .inl fmr))] H → va_D A [(Mm, .inr (7, [.int zth, .ref Mt, .int (nI tp), .int zma, .int zwr, .ref Mrr, .ref Mrh, .ref Mrc, .int zrh, .int zrc, .ref Mn, .ref Mf, .ref Mr, .ref Mh, .int (nI hp), .int (nI cc), .ref Ma, .ref Mas, .ref Msn, .ref Mac, .ref Mat])), (Mn, .inl (g 0, 1767, .inl fno)), (Mh, .inl (g 0, 9, .inl fmh)), (Mr, .inl (g 0, 3, .inl fmr))] → va_S A s.heap H locs → lv_has ls 5 [(4, .int (nI i_4)), (3, .int i_5), (0, .ref Mm), (1, .int (nI hix)), (2, .int (nI cx))] → W p l e (headSpec wsX7_aimOf ({ frames := 1, cells := 0, slots := 0, locals := 21 })).room s m ([.ref Mm, .int (nI hix), .int (nI cx)] : List Value).toArray below meth c H locs 0 0 Q (F0 m 5 ls []) := by
    clear hP hD hS hl
    intro Nloop_12
    induction Nloop_12 with
    | zero => intro i_4 i_5 hbi_4 hm9; exact absurd hm9 (Nat.not_lt_zero _)
    | succ Nloop_12 loop_12_ih =>
      intro i_4 i_5 hbi_4 hmloop_12 H locs ls hP hD hS hl
      refine lv_iload hx hb dX7_aimOf_5 (lv_at hl 0 rfl) ?_
      refine lv_aload_n hx hb dX7_aimOf_7 rfl (lv_at hl 2 rfl) ?_
      refine va_get (D := D) (ci := 7) (v := .int (nI cc)) (C := RX7) (T := TX7) (N := 21) hx hb hts iX7 hown hK hP 0 rfl rfl 15 (by decide) f127 (fun _ h9 => h9) rfl dX7_aimOf_8 ?_
      refine lv_icmp_ge (tgt := 37) hx hb dX7_aimOf_11 (by decide) (fun cb_13 => ?_) (fun cb_13 => ?_)
      · skip
        have cn_14 : cc ≤ i_4 := (nI_leI (show cc < 2 ^ 31 by omega) (show i_4 < 2 ^ 31 by omega)).mp cb_13
        refine lv_aload_n hx hb dX7_aimOf_37 rfl (lv_at hl 2 rfl) ?_
        refine lv_iload_n hx hb dX7_aimOf_38 rfl (lv_at hl 3 rfl) ?_
        refine ky_Vi (As := [.int (nI hix)]) (rest := []) ⟨hx, hb, hml, hown, hts⟩ ⟨hK, hN⟩ hZ hP hD hS hA [0, 2] [1, 3] (wc := [(Mm, .inr (7, [.int zth, .ref Mt, .int (nI tp), .int zma, .int zwr, .ref Mrr, .ref Mrh, .ref Mrc, .int zrh, .int zrc, .ref Mn, .ref Mf, .ref Mr, .ref Mh, .int (nI hp), .int (nI cc), .ref Ma, .ref Mas, .ref Msn, .ref Mac, .ref Mat])), (Mh, .inl (g 0, 9, .inl fmh))]) (wr := [(Mn, .inl (g 0, 1767, .inl fno)), (Mr, .inl (g 0, 3, .inl fmr))]) rfl rfl rfl rfl (by decide) (k_X7_pool l D g H.size Mm hix zth Mt tp zma zwr Mrr Mrh Mrc zrh zrc Mn Mf Mr Mh hp cc Ma Mas Msn Mac Mat fmh (show hix < 3 by omega) (h4)) (cwV 1 hts gX7_aimOf_X7_pool rfl rfl rfl (by decide +kernel) ⟨(Nat.le_of_ble_eq_true rfl), (Nat.le_of_ble_eq_true rfl)⟩) 0 7 rfl rfl rfl rfl hl.1 rfl (Nat.le_of_ble_eq_true rfl) dX7_aimOf_39 ⟨(Nat.le_of_ble_eq_true rfl), (Nat.le_of_ble_eq_true rfl)⟩ (fun r_15 u H locs hw hP2 hD2 hS2 => ?_)
        clear hP hD hS
        obtain ⟨dx_16, rfl, rfl, hf_17⟩ := hw
        have hPD : PD D A [(Mn, .inl (g 0, 1767, .inl fno)), (Mr, .inl (g 0, 3, .inl fmr)), (Mm, .inr (7, [.int zth, .ref Mt, .int (nI tp), .int zma, .int zwr, .ref Mrr, .ref Mrh, .ref Mrc, .int zrh, .int zrc, .ref Mn, .ref Mf, .ref Mr, .ref Mh, .int (nI hp), .int (nI cc), .ref Ma, .ref Mas, .ref Msn, .ref Mac, .ref Mat])), (Mh, .inl (g 0, 9, .inl fmh))] H := ⟨hP2, hD2⟩
        have hS := hS2; clear hP2 hD2 hS2; have hP := hPD.1; have hD := hPD.2; clear hPD
        refine W.widen (k := 0) (n := 0) (Nat.le_of_ble_eq_true rfl) (Nat.le_of_ble_eq_true rfl) ?_
        refine lv_aload_n hx hb dX7_aimOf_42 rfl (lv_at hl 2 rfl) ?_
        refine va_get (D := D) (ci := 7) (v := .ref Mr) (C := RX7) (T := TX7) (N := 21) hx hb hts iX7 hown hK hP 2 rfl rfl 12 (by decide) f28 (fun _ h9 => h9) rfl dX7_aimOf_43 ?_
        refine lv_iconst (v := 0) hx hb dX7_aimOf_46 (by decide) ?_
        refine va_iald hx hb hK hP 1 0 rfl rfl (by unfold vp_in; decide) dX7_aimOf_47 ?_
        refine lv_eqi (y := (fmr 0)) (rfl) ?_
        refine lv_topi (fun y_18 _ => ?_)
        refine lv_aload_n hx hb dX7_aimOf_48 rfl (lv_at hl 2 rfl) ?_
        refine va_get (D := D) (ci := 7) (v := .int (nI cc)) (C := RX7) (T := TX7) (N := 21) hx hb hts iX7 hown hK hP 2 rfl rfl 15 (by decide) f127 (fun _ h9 => h9) rfl dX7_aimOf_49 ?_
        refine lv_imul hx hb dX7_aimOf_52 ?_
        refine lv_topi (fun y_19 _ => ?_)
        refine lv_isub hx hb dX7_aimOf_53 ?_
        refine lv_topi (fun y_20 _ => ?_)
        refine lv_istore (lv' := [(4, .int y_20), (3, .int i_5), (0, .ref Mm), (1, .int (nI hix)), (2, .int (nI cx))]) hx hb dX7_aimOf_54 hl (by decide) rfl (fun ls hl => ?_)
        refine lv_aload_n hx hb dX7_aimOf_56 rfl (lv_at hl 2 rfl) ?_
        refine va_get (D := D) (ci := 7) (v := .ref Mr) (C := RX7) (T := TX7) (N := 21) hx hb hts iX7 hown hK hP 2 rfl rfl 12 (by decide) f28 (fun _ h9 => h9) rfl dX7_aimOf_57 ?_
        refine lv_iconst (v := 0) hx hb dX7_aimOf_60 (by decide) ?_
        refine va_iald hx hb hK hP 1 0 rfl rfl (by unfold vp_in; decide) dX7_aimOf_61 ?_
        refine lv_eqi (y := (fmr 0)) (rfl) ?_
        refine lv_topi (fun y_21 _ => ?_)
        refine lv_iload_n hx hb dX7_aimOf_62 rfl (lv_at hl 1 rfl) ?_
        refine lv_if_ne (tgt := 76) hx hb dX7_aimOf_63 (by decide) (fun cb_22 => ?_) (fun cb_22 => ?_)
        · skip
          refine lv_iload hx hb dX7_aimOf_76 (lv_at hl 0 rfl) ?_
          refine lv_aload_n hx hb dX7_aimOf_78 rfl (lv_at hl 2 rfl) ?_
          refine va_get (D := D) (ci := 7) (v := .ref Mn) (C := RX7) (T := TX7) (N := 21) hx hb hts iX7 hown hK hP 2 rfl rfl 10 (by decide) f22 (fun _ h9 => h9) rfl dX7_aimOf_79 ?_
          refine lv_iload_n hx hb dX7_aimOf_82 rfl (lv_at hl 3 rfl) ?_
          refine lv_iload_n hx hb dX7_aimOf_83 rfl (lv_at hl 4 rfl) ?_
          refine ky_Si (As := [.int (nI hix), .int (nI cx)]) (rest := [.ref Mn, .int y_20, .int y_21]) ⟨hx, hb, hml, hown, hts⟩ ⟨hK, hN⟩ hZ hP hD hS hA [] [0, 1, 2, 3] (wc := []) (wr := [(Mn, .inl (g 0, 1767, .inl fno)), (Mr, .inl (g 0, 3, .inl fmr)), (Mm, .inr (7, [.int zth, .ref Mt, .int (nI tp), .int zma, .int zwr, .ref Mrr, .ref Mrh, .ref Mrc, .int zrh, .int zrc, .ref Mn, .ref Mf, .ref Mr, .ref Mh, .int (nI hp), .int (nI cc), .ref Ma, .ref Mas, .ref Msn, .ref Mac, .ref Mat])), (Mh, .inl (g 0, 9, .inl fmh))]) rfl rfl rfl rfl (by decide) (k_X7_lane l D g H.size hix cx (show hix < 3 by omega) (show cx < 3 by omega)) (va_cwS 2 hts gX7_aimOf_X7_lane rfl rfl rfl (by decide +kernel) ⟨(Nat.le_of_ble_eq_true rfl), (Nat.le_of_ble_eq_true rfl)⟩) rfl hl.1 rfl (Nat.le_of_ble_eq_true rfl) dX7_aimOf_84 ⟨(Nat.le_of_ble_eq_true rfl), (Nat.le_of_ble_eq_true rfl)⟩ (fun r_23 u H locs hw hP2 hD2 hS2 => ?_)
          clear hP hD hS
          obtain ⟨rfl, rfl⟩ := hw
          have hPD : PD D A [(Mn, .inl (g 0, 1767, .inl fno)), (Mr, .inl (g 0, 3, .inl fmr)), (Mm, .inr (7, [.int zth, .ref Mt, .int (nI tp), .int zma, .int zwr, .ref Mrr, .ref Mrh, .ref Mrc, .int zrh, .int zrc, .ref Mn, .ref Mf, .ref Mr, .ref Mh, .int (nI hp), .int (nI cc), .ref Ma, .ref Mas, .ref Msn, .ref Mac, .ref Mat])), (Mh, .inl (g 0, 9, .inl fmh))] H := ⟨hP2, hD2⟩
          have hS := hS2; clear hP2 hD2 hS2; have hP := hPD.1; have hD := hPD.2; clear hPD
          refine W.widen (k := 0) (n := 0) (Nat.le_of_ble_eq_true rfl) (Nat.le_of_ble_eq_true rfl) ?_
          refine lv_bipush (v := 6) hx hb dX7_aimOf_87 (by decide) ?_
          refine lv_iadd hx hb dX7_aimOf_89 ?_
          refine lv_eqi (y := (nI (7 * (3 * hix + cx) + 6))) (nI_add (7 * (3 * hix + cx)) (6)) ?_
          refine va_iald hx hb hK hP 0 0 rfl rfl (vp_in_nI (show 7 * (3 * hix + cx) + 6 < 1767 by omega) (by decide)) dX7_aimOf_90 ?_
          refine lv_eqi (y := (fno (7 * (3 * hix + cx) + 6))) (congrArg fno (nI_clamp (show 7 * (3 * hix + cx) + 6 < 2 ^ 31 by omega))) ?_
          refine lv_topi (fun y_24 _ => ?_)
          refine lv_imul hx hb dX7_aimOf_91 ?_
          refine lv_topi (fun y_25 _ => ?_)
          refine lv_iload_n hx hb dX7_aimOf_92 rfl (lv_at hl 1 rfl) ?_
          refine lv_idiv hx hb dX7_aimOf_93 (cb_22) ?_
          refine lv_topi (fun y_26 _ => ?_)
          refine lv_iadd hx hb dX7_aimOf_94 ?_
          refine lv_topi (fun y_27 _ => ?_)
          have hPD9 : PD D A [(Mm, .inr (7, [.int zth, .ref Mt, .int (nI tp), .int zma, .int zwr, .ref Mrr, .ref Mrh, .ref Mrc, .int zrh, .int zrc, .ref Mn, .ref Mf, .ref Mr, .ref Mh, .int (nI hp), .int (nI cc), .ref Ma, .ref Mas, .ref Msn, .ref Mac, .ref Mat])), (Mn, .inl (g 0, 1767, .inl fno)), (Mh, .inl (g 0, 9, .inl fmh)), (Mr, .inl (g 0, 3, .inl fmr))] H := ⟨hP.sub [2, 0, 3, 1] rfl, hD.sub [2, 0, 3, 1] (by decide) rfl⟩
          have hP9 := hPD9.1; have hD9 := hPD9.2
          subst hQ
          refine W.widen (k := 0) (n := 0) (Nat.le_of_ble_eq_true rfl) (Nat.le_of_ble_eq_true rfl) ?_
          exact W.iret (v := y_27) hx hb hr (fun tS htS _ => ⟨⟨_, _, rfl, rfl, by rw [htS]; exact hP9, hD9⟩, hS.F htS⟩) hS.2.2 dX7_aimOf_95
        · skip
          have hPq_28 := hP; have hDq_28 := hD; have hSq_28 := hS; have hlq_28 := hl; clear hP hD hS hl
          subst cb_22
          have hP := hPq_28; have hD := hDq_28; have hS := hSq_28; have hl := hlq_28; clear hPq_28 hDq_28 hSq_28 hlq_28
          refine lv_iload hx hb dX7_aimOf_66 (lv_at hl 0 rfl) ?_
          refine lv_aload_n hx hb dX7_aimOf_68 rfl (lv_at hl 2 rfl) ?_
          refine va_get (D := D) (ci := 7) (v := .int (nI cc)) (C := RX7) (T := TX7) (N := 21) hx hb hts iX7 hown hK hP 2 rfl rfl 15 (by decide) f127 (fun _ h9 => h9) rfl dX7_aimOf_69 ?_
          refine lv_idiv hx hb dX7_aimOf_72 (nI_ne0 (show 0 < cc by omega) (show cc < 2 ^ 31 by omega)) ?_
          refine lv_topi (fun y_29 _ => ?_)
          refine lv_goto (tgt := 94) hx hb dX7_aimOf_73 (by decide) ?_
          refine lv_iadd hx hb dX7_aimOf_94 ?_
          refine lv_topi (fun y_30 _ => ?_)
          have hPD9 : PD D A [(Mm, .inr (7, [.int zth, .ref Mt, .int (nI tp), .int zma, .int zwr, .ref Mrr, .ref Mrh, .ref Mrc, .int zrh, .int zrc, .ref Mn, .ref Mf, .ref Mr, .ref Mh, .int (nI hp), .int (nI cc), .ref Ma, .ref Mas, .ref Msn, .ref Mac, .ref Mat])), (Mn, .inl (g 0, 1767, .inl fno)), (Mh, .inl (g 0, 9, .inl fmh)), (Mr, .inl (g 0, 3, .inl fmr))] H := ⟨hP.sub [2, 0, 3, 1] rfl, hD.sub [2, 0, 3, 1] (by decide) rfl⟩
          have hP9 := hPD9.1; have hD9 := hPD9.2
          subst hQ
          refine W.widen (k := 0) (n := 0) (Nat.le_of_ble_eq_true rfl) (Nat.le_of_ble_eq_true rfl) ?_
          exact W.iret (v := y_30) hx hb hr (fun tS htS _ => ⟨⟨_, _, rfl, rfl, by rw [htS]; exact hP9, hD9⟩, hS.F htS⟩) hS.2.2 dX7_aimOf_95
      · skip
        have cn_31 : i_4 < cc := Nat.lt_of_not_le (fun q9 => cb_13 ((nI_leI (show cc < 2 ^ 31 by omega) (show i_4 < 2 ^ 31 by omega)).mpr q9))
        refine lv_iload_n hx hb dX7_aimOf_14 rfl (lv_at hl 1 rfl) ?_
        refine lv_aload_n hx hb dX7_aimOf_15 rfl (lv_at hl 2 rfl) ?_
        refine va_get (D := D) (ci := 7) (v := .ref Mn) (C := RX7) (T := TX7) (N := 21) hx hb hts iX7 hown hK hP 0 rfl rfl 10 (by decide) f22 (fun _ h9 => h9) rfl dX7_aimOf_16 ?_
        refine lv_iload_n hx hb dX7_aimOf_19 rfl (lv_at hl 3 rfl) ?_
        refine lv_iload hx hb dX7_aimOf_20 (lv_at hl 0 rfl) ?_
        refine ky_Si (As := [.int (nI hix), .int (nI i_4)]) (rest := [.ref Mn, .int i_5]) ⟨hx, hb, hml, hown, hts⟩ ⟨hK, hN⟩ hZ hP hD hS hA [] [0, 1, 2, 3] (wc := []) (wr := [(Mm, .inr (7, [.int zth, .ref Mt, .int (nI tp), .int zma, .int zwr, .ref Mrr, .ref Mrh, .ref Mrc, .int zrh, .int zrc, .ref Mn, .ref Mf, .ref Mr, .ref Mh, .int (nI hp), .int (nI cc), .ref Ma, .ref Mas, .ref Msn, .ref Mac, .ref Mat])), (Mn, .inl (g 0, 1767, .inl fno)), (Mh, .inl (g 0, 9, .inl fmh)), (Mr, .inl (g 0, 3, .inl fmr))]) rfl rfl rfl rfl (by decide) (k_X7_lane l D g H.size hix i_4 (show hix < 3 by omega) (show i_4 < 3 by omega)) (va_cwS 2 hts gX7_aimOf_X7_lane rfl rfl rfl (by decide +kernel) ⟨(Nat.le_of_ble_eq_true rfl), (Nat.le_of_ble_eq_true rfl)⟩) rfl hl.1 rfl (Nat.le_of_ble_eq_true rfl) dX7_aimOf_22 ⟨(Nat.le_of_ble_eq_true rfl), (Nat.le_of_ble_eq_true rfl)⟩ (fun r_32 u H locs hw hP2 hD2 hS2 => ?_)
        clear hP hD hS
        obtain ⟨rfl, rfl⟩ := hw
        have hPD : PD D A [(Mm, .inr (7, [.int zth, .ref Mt, .int (nI tp), .int zma, .int zwr, .ref Mrr, .ref Mrh, .ref Mrc, .int zrh, .int zrc, .ref Mn, .ref Mf, .ref Mr, .ref Mh, .int (nI hp), .int (nI cc), .ref Ma, .ref Mas, .ref Msn, .ref Mac, .ref Mat])), (Mn, .inl (g 0, 1767, .inl fno)), (Mh, .inl (g 0, 9, .inl fmh)), (Mr, .inl (g 0, 3, .inl fmr))] H := ⟨hP2, hD2⟩
        have hS := hS2; clear hP2 hD2 hS2; have hP := hPD.1; have hD := hPD.2; clear hPD
        refine W.widen (k := 0) (n := 0) (Nat.le_of_ble_eq_true rfl) (Nat.le_of_ble_eq_true rfl) ?_
        refine lv_bipush (v := 6) hx hb dX7_aimOf_25 (by decide) ?_
        refine lv_iadd hx hb dX7_aimOf_27 ?_
        refine lv_eqi (y := (nI (7 * (3 * hix + i_4) + 6))) (nI_add (7 * (3 * hix + i_4)) (6)) ?_
        refine va_iald hx hb hK hP 1 0 rfl rfl (vp_in_nI (show 7 * (3 * hix + i_4) + 6 < 1767 by omega) (by decide)) dX7_aimOf_28 ?_
        refine lv_eqi (y := (fno (7 * (3 * hix + i_4) + 6))) (congrArg fno (nI_clamp (show 7 * (3 * hix + i_4) + 6 < 2 ^ 31 by omega))) ?_
        refine lv_topi (fun y_33 _ => ?_)
        refine lv_iadd hx hb dX7_aimOf_29 ?_
        refine lv_topi (fun y_34 _ => ?_)
        refine lv_istore_n (lv' := [(3, .int y_34), (4, .int (nI i_4)), (0, .ref Mm), (1, .int (nI hix)), (2, .int (nI cx))]) hx hb dX7_aimOf_30 rfl hl (by decide) rfl (fun ls hl => ?_)
        refine lv_iinc (v := (nI (i_4 + 1))) (lv' := [(4, .int (nI (i_4 + 1))), (3, .int y_34), (0, .ref Mm), (1, .int (nI hix)), (2, .int (nI cx))]) hx hb dX7_aimOf_31 hl (k := 1) rfl (nI_1 (i_4)) (by decide) rfl (fun ls hl => ?_)
        refine lv_goto (tgt := 5) hx hb dX7_aimOf_34 (by decide) ?_
        exact loop_12_ih (i_4 + 1) y_34 (show (i_4 + 1) ≤ cc by omega) (show cc - (i_4 + 1) < Nloop_12 by omega) _ _ _ hP hD hS hl
  exact loop_12 _ 0 0 (show 0 ≤ cc by omega) (Nat.lt_succ_self _) _ _ _ hP hD hS hl

set_option maxHeartbeats 4000000 in
set_option maxRecDepth 100000 in
theorem k_X7_updates (l : Launch) (D : va_G) (g : Nat → ClassId) (sz : Nat) {gs : Nat → Int32} (Mm : Nat) (hix : Nat) (cx : Nat) (zth : Int32) (Mt : Nat) (tp : Nat) (zma : Int32) (zwr : Int32) (Mrr : Nat) (Mrh : Nat) (Mrc : Nat) (zrh : Int32) (zrc : Int32) (Mn : Nat) (Mf : Nat) (Mr : Nat) (Mh : Nat) (hp : Nat) (cc : Nat) (Ma : Nat) (Mas : Nat) (Msn : Nat) (Mac : Nat) (Mat : Nat) (fno : Nat → Int32) (fmh : Nat → Int32) (tb : Nat) (ub : Nat) (h0 : tb < 2 ^ 29) (h1 : ub < 2 ^ 29) (h2 : mOK gs tb ub fno) (h3 : hix < 3) (h4 : cx < 3) (h5 : n3 fmh) : Met l yX7_updates wsX7_updates ({ frames := 1, cells := 0, slots := 0, locals := 21 }) (va_Pc [.ref Mm, .int (nI hix), .int (nI cx)] (pre D g sz [(Mm, .inr (7, [.int zth, .ref Mt, .int (nI tp), .int zma, .int zwr, .ref Mrr, .ref Mrh, .ref Mrc, .int zrh, .int zrc, .ref Mn, .ref Mf, .ref Mr, .ref Mh, .int (nI hp), .int (nI cc), .ref Ma, .ref Mas, .ref Msn, .ref Mac, .ref Mat])), (Mn, .inl (g 0, 1767, .inl fno)), (Mh, .inl (g 0, 9, .inl fmh))])) (va_Qv (fun (u : va_W) => ∃ (fnox : Nat → Int32), u = [(Mm, .inr (7, [.int zth, .ref Mt, .int (nI tp), .int zma, .int zwr, .ref Mrr, .ref Mrh, .ref Mrc, .int zrh, .int zrc, .ref Mn, .ref Mf, .ref Mr, .ref Mh, .int (nI hp), .int (nI cc), .ref Ma, .ref Mas, .ref Msn, .ref Mac, .ref Mat])), (Mn, .inl (g 0, 1767, .inl fnox)), (Mh, .inl (g 0, 9, .inl fmh))] ∧ (mOK gs tb ub fnox)) (wd D (va_A [(Mm, .inr (7, [.int zth, .ref Mt, .int (nI tp), .int zma, .int zwr, .ref Mrr, .ref Mrh, .ref Mrc, .int zrh, .int zrc, .ref Mn, .ref Mf, .ref Mr, .ref Mh, .int (nI hp), .int (nI cc), .ref Ma, .ref Mas, .ref Msn, .ref Mac, .ref Mat])), (Mn, .inl (g 0, 1767, .inl fno)), (Mh, .inl (g 0, 9, .inl fmh))] sz)) (va_A [(Mm, .inr (7, [.int zth, .ref Mt, .int (nI tp), .int zma, .int zwr, .ref Mrr, .ref Mrh, .ref Mrc, .int zrh, .int zrc, .ref Mn, .ref Mf, .ref Mr, .ref Mh, .int (nI hp), .int (nI cc), .ref Ma, .ref Mas, .ref Msn, .ref Mac, .ref Mat])), (Mn, .inl (g 0, 1767, .inl fno)), (Mh, .inl (g 0, 9, .inl fmh))] sz)) 0 0 (va_A [(Mm, .inr (7, [.int zth, .ref Mt, .int (nI tp), .int zma, .int zwr, .ref Mrr, .ref Mrh, .ref Mrc, .int zrh, .int zrc, .ref Mn, .ref Mf, .ref Mr, .ref Mh, .int (nI hp), .int (nI cc), .ref Ma, .ref Mas, .ref Msn, .ref Mac, .ref Mat])), (Mn, .inl (g 0, 1767, .inl fno)), (Mh, .inl (g 0, 9, .inl fmh))] sz) := by
  refine Met.ofW (cc := cX7_updates) (maxL := 3) (ret := none) (by decide) rfl ?_
  intro p e s m args below meth c s₁ B hml hv
  obtain ⟨rfl, hsz, hP, ⟨hK, hN⟩, hD0, hZ⟩ := hv
  have hx := B.exec
  have hb := B.bytes
  have hr := B.returns
  have hts := atoms_spec (ws := wsX7_updates) B.pre
  have hown : s.vm.findClass RX7 = some m.cls := findClass_of_methodNamed B.named
  have hlocks := B.notSynchronized
  clear B
  subst hsz
  have hD := hD0.self (sz := s.heap.size)
  clear hD0
  generalize hAe : va_A [(Mm, .inr (7, [.int zth, .ref Mt, .int (nI tp), .int zma, .int zwr, .ref Mrr, .ref Mrh, .ref Mrc, .int zrh, .int zrc, .ref Mn, .ref Mf, .ref Mr, .ref Mh, .int (nI hp), .int (nI cc), .ref Ma, .ref Mas, .ref Msn, .ref Mac, .ref Mat])), (Mn, .inl (g 0, 1767, .inl fno)), (Mh, .inl (g 0, 9, .inl fmh))] s.heap.size = A at hD hZ ⊢
  have hA : ∀ q : Nat, s.heap.size ≤ q → A q := fun q h => by rw [← hAe]; exact Or.inr h
  have hS : va_S A s.heap s.heap [] := va_S.rf
  have f22 := hts (.fieldLink RX7 22 "HopCreditsModel" "now" "[I") (List.mem_of_getElem? (i := 1) rfl)
  have iX7 : ∀ w ∈ u_ws RX7 TX7 21, w ∈ wsX7_updates := fun w h => List.mem_cons_of_mem _ (List.mem_append_right _ (h))
  have hl := lv_entry ([.ref Mm, .int (nI hix), .int (nI cx)]) (n := 3) (Nat.le_of_ble_eq_true rfl)
  rw [lg_entry_eq]
  generalize (lg_sl ([.ref Mm, .int (nI hix), .int (nI cx)]) ++ List.replicate (3 - (lg_sl ([.ref Mm, .int (nI hix), .int (nI cx)])).length) Slot.unset).toArray = ls at hl ⊢
  have hl : lv_has ls 3 [(0, .ref Mm), (1, .int (nI hix)), (2, .int (nI cx))] := hl
  generalize hQ : MQ below _ _ s _ _ _ = Q
  generalize hH : s.heap = H at hP ⊢
  have hS : va_S A s.heap H [] := by rw [← hH]; exact hS
  clear hH
  refine lv_aload_n hx hb dX7_updates_0 rfl (lv_at hl 0 rfl) ?_
  refine va_get (D := D) (ci := 7) (v := .ref Mn) (C := RX7) (T := TX7) (N := 21) hx hb hts iX7 hown hK hP 0 rfl rfl 10 (by decide) f22 (fun _ h9 => h9) rfl dX7_updates_1 ?_
  refine lv_bipush (v := 63) hx hb dX7_updates_4 (by decide) ?_
  refine lv_iload_n hx hb dX7_updates_6 rfl (lv_at hl 1 rfl) ?_
  refine lv_iadd hx hb dX7_updates_7 ?_
  refine lv_eqi (y := (nI (63 + hix))) (nI_add (63) (hix)) ?_
  refine va_iald hx hb hK hP 1 0 rfl rfl (vp_in_nI (show 63 + hix < 1767 by omega) (by decide)) dX7_updates_8 ?_
  refine lv_eqi (y := (fno (63 + hix))) (congrArg fno (nI_clamp (show 63 + hix < 2 ^ 31 by omega))) ?_
  refine lv_topi (fun y_1 _ => ?_)
  refine lv_if_le (tgt := 40) hx hb dX7_updates_9 (by decide) (fun cb_2 => ?_) (fun cb_2 => ?_)
  · skip
    refine lv_aload_n hx hb dX7_updates_40 rfl (lv_at hl 0 rfl) ?_
    refine va_get (D := D) (ci := 7) (v := .ref Mn) (C := RX7) (T := TX7) (N := 21) hx hb hts iX7 hown hK hP 0 rfl rfl 10 (by decide) f22 (fun _ h9 => h9) rfl dX7_updates_41 ?_
    refine lv_iload_n hx hb dX7_updates_44 rfl (lv_at hl 1 rfl) ?_
    refine lv_aload_n hx hb dX7_updates_45 rfl (lv_at hl 0 rfl) ?_
    refine va_get (D := D) (ci := 7) (v := .ref Mn) (C := RX7) (T := TX7) (N := 21) hx hb hts iX7 hown hK hP 0 rfl rfl 10 (by decide) f22 (fun _ h9 => h9) rfl dX7_updates_46 ?_
    refine lv_sipush (v := 1764) hx hb dX7_updates_49 (by decide) ?_
    refine va_iald hx hb hK hP 1 0 rfl rfl (by unfold vp_in; decide) dX7_updates_52 ?_
    refine lv_eqi (y := (fno 1764)) (rfl) ?_
    obtain ⟨t_3, ht_3, q9⟩ := mOK_t h2
    refine lv_eqi (y := nI t_3) q9 ?_
    refine lv_aload_n hx hb dX7_updates_53 rfl (lv_at hl 0 rfl) ?_
    refine lv_iload_n hx hb dX7_updates_54 rfl (lv_at hl 1 rfl) ?_
    refine ky_Vi (As := [.int (nI hix)]) (rest := [.int (nI t_3), .int (nI hix), .ref Mn]) ⟨hx, hb, hml, hown, hts⟩ ⟨hK, hN⟩ hZ hP hD hS hA [0, 2] [1] (wc := [(Mm, .inr (7, [.int zth, .ref Mt, .int (nI tp), .int zma, .int zwr, .ref Mrr, .ref Mrh, .ref Mrc, .int zrh, .int zrc, .ref Mn, .ref Mf, .ref Mr, .ref Mh, .int (nI hp), .int (nI cc), .ref Ma, .ref Mas, .ref Msn, .ref Mac, .ref Mat])), (Mh, .inl (g 0, 9, .inl fmh))]) (wr := [(Mn, .inl (g 0, 1767, .inl fno))]) rfl rfl rfl rfl (by decide) (k_X7_delay l D g H.size Mm hix zth Mt tp zma zwr Mrr Mrh Mrc zrh zrc Mn Mf Mr Mh hp cc Ma Mas Msn Mac Mat fmh (show hix < 3 by omega) (h5)) (cwV 1 hts gX7_updates_X7_delay rfl rfl rfl (by decide +kernel) ⟨(Nat.le_of_ble_eq_true rfl), (Nat.le_of_ble_eq_true rfl)⟩) 0 7 rfl rfl rfl rfl hl.1 rfl (Nat.le_of_ble_eq_true rfl) dX7_updates_55 ⟨(Nat.le_of_ble_eq_true rfl), (Nat.le_of_ble_eq_true rfl)⟩ (fun r_4 u H locs hw hP2 hD2 hS2 => ?_)
    clear hP hD hS
    obtain ⟨dx_5, rfl, rfl, hf_6⟩ := hw
    have hPD : PD D A [(Mn, .inl (g 0, 1767, .inl fno)), (Mm, .inr (7, [.int zth, .ref Mt, .int (nI tp), .int zma, .int zwr, .ref Mrr, .ref Mrh, .ref Mrc, .int zrh, .int zrc, .ref Mn, .ref Mf, .ref Mr, .ref Mh, .int (nI hp), .int (nI cc), .ref Ma, .ref Mas, .ref Msn, .ref Mac, .ref Mat])), (Mh, .inl (g 0, 9, .inl fmh))] H := ⟨hP2, hD2⟩
    have hS := hS2; clear hP2 hD2 hS2; have hP := hPD.1; have hD := hPD.2; clear hPD
    refine W.widen (k := 0) (n := 0) (Nat.le_of_ble_eq_true rfl) (Nat.le_of_ble_eq_true rfl) ?_
    refine lv_iadd hx hb dX7_updates_58 ?_
    refine lv_eqi (y := (nI (t_3 + dx_5))) (nI_add (t_3) (dx_5)) ?_
    refine ky_Si (As := [.int (nI hix), .int (nI (t_3 + dx_5))]) (rest := [.ref Mn]) ⟨hx, hb, hml, hown, hts⟩ ⟨hK, hN⟩ hZ hP hD hS hA [] [0, 1, 2] (wc := []) (wr := [(Mn, .inl (g 0, 1767, .inl fno)), (Mm, .inr (7, [.int zth, .ref Mt, .int (nI tp), .int zma, .int zwr, .ref Mrr, .ref Mrh, .ref Mrc, .int zrh, .int zrc, .ref Mn, .ref Mf, .ref Mr, .ref Mh, .int (nI hp), .int (nI cc), .ref Ma, .ref Mas, .ref Msn, .ref Mac, .ref Mat])), (Mh, .inl (g 0, 9, .inl fmh))]) rfl rfl rfl rfl (by decide) (k_X7_wayAt l D g H.size hix (t_3 + dx_5) (show hix < 3 by omega) (show (t_3 + dx_5) < 2 ^ 30 by omega)) (va_cwS 2 hts gX7_updates_X7_wayAt rfl rfl rfl (by decide +kernel) ⟨(Nat.le_of_ble_eq_true rfl), (Nat.le_of_ble_eq_true rfl)⟩) rfl hl.1 rfl (Nat.le_of_ble_eq_true rfl) dX7_updates_59 ⟨(Nat.le_of_ble_eq_true rfl), (Nat.le_of_ble_eq_true rfl)⟩ (fun r_7 u H locs hw hP2 hD2 hS2 => ?_)
    clear hP hD hS
    obtain ⟨rfl, rfl⟩ := hw
    have hPD : PD D A [(Mn, .inl (g 0, 1767, .inl fno)), (Mm, .inr (7, [.int zth, .ref Mt, .int (nI tp), .int zma, .int zwr, .ref Mrr, .ref Mrh, .ref Mrc, .int zrh, .int zrc, .ref Mn, .ref Mf, .ref Mr, .ref Mh, .int (nI hp), .int (nI cc), .ref Ma, .ref Mas, .ref Msn, .ref Mac, .ref Mat])), (Mh, .inl (g 0, 9, .inl fmh))] H := ⟨hP2, hD2⟩
    have hS := hS2; clear hP2 hD2 hS2; have hP := hPD.1; have hD := hPD.2; clear hPD
    refine W.widen (k := 0) (n := 0) (Nat.le_of_ble_eq_true rfl) (Nat.le_of_ble_eq_true rfl) ?_
    refine lv_iconst (v := 1) hx hb dX7_updates_62 (by decide) ?_
    refine lv_iadd hx hb dX7_updates_63 ?_
    refine lv_eqi (y := (nI (69 + 5 * (8 * hix + (t_3 + dx_5) % 8) + 1))) (nI_add (69 + 5 * (8 * hix + (t_3 + dx_5) % 8)) (1)) ?_
    refine lv_iload_n hx hb dX7_updates_64 rfl (lv_at hl 2 rfl) ?_
    refine lv_iadd hx hb dX7_updates_65 ?_
    refine lv_eqi (y := (nI (69 + 5 * (8 * hix + (t_3 + dx_5) % 8) + 1 + cx))) (nI_add (69 + 5 * (8 * hix + (t_3 + dx_5) % 8) + 1) (cx)) ?_
    refine lv_aload_n hx hb dX7_updates_66 rfl (lv_at hl 0 rfl) ?_
    refine va_get (D := D) (ci := 7) (v := .ref Mn) (C := RX7) (T := TX7) (N := 21) hx hb hts iX7 hown hK hP 1 rfl rfl 10 (by decide) f22 (fun _ h9 => h9) rfl dX7_updates_67 ?_
    refine lv_iload_n hx hb dX7_updates_70 rfl (lv_at hl 1 rfl) ?_
    refine lv_iload_n hx hb dX7_updates_71 rfl (lv_at hl 2 rfl) ?_
    refine ky_Si (As := [.int (nI hix), .int (nI cx)]) (rest := [.ref Mn, .int (nI (69 + 5 * (8 * hix + (t_3 + dx_5) % 8) + 1 + cx)), .ref Mn]) ⟨hx, hb, hml, hown, hts⟩ ⟨hK, hN⟩ hZ hP hD hS hA [] [0, 1, 2] (wc := []) (wr := [(Mn, .inl (g 0, 1767, .inl fno)), (Mm, .inr (7, [.int zth, .ref Mt, .int (nI tp), .int zma, .int zwr, .ref Mrr, .ref Mrh, .ref Mrc, .int zrh, .int zrc, .ref Mn, .ref Mf, .ref Mr, .ref Mh, .int (nI hp), .int (nI cc), .ref Ma, .ref Mas, .ref Msn, .ref Mac, .ref Mat])), (Mh, .inl (g 0, 9, .inl fmh))]) rfl rfl rfl rfl (by decide) (k_X7_lane l D g H.size hix cx (show hix < 3 by omega) (show cx < 3 by omega)) (va_cwS 2 hts gX7_updates_X7_lane rfl rfl rfl (by decide +kernel) ⟨(Nat.le_of_ble_eq_true rfl), (Nat.le_of_ble_eq_true rfl)⟩) rfl hl.1 rfl (Nat.le_of_ble_eq_true rfl) dX7_updates_72 ⟨(Nat.le_of_ble_eq_true rfl), (Nat.le_of_ble_eq_true rfl)⟩ (fun r_8 u H locs hw hP2 hD2 hS2 => ?_)
    clear hP hD hS
    obtain ⟨rfl, rfl⟩ := hw
    have hPD : PD D A [(Mn, .inl (g 0, 1767, .inl fno)), (Mm, .inr (7, [.int zth, .ref Mt, .int (nI tp), .int zma, .int zwr, .ref Mrr, .ref Mrh, .ref Mrc, .int zrh, .int zrc, .ref Mn, .ref Mf, .ref Mr, .ref Mh, .int (nI hp), .int (nI cc), .ref Ma, .ref Mas, .ref Msn, .ref Mac, .ref Mat])), (Mh, .inl (g 0, 9, .inl fmh))] H := ⟨hP2, hD2⟩
    have hS := hS2; clear hP2 hD2 hS2; have hP := hPD.1; have hD := hPD.2; clear hPD
    refine W.widen (k := 0) (n := 0) (Nat.le_of_ble_eq_true rfl) (Nat.le_of_ble_eq_true rfl) ?_
    refine lv_iconst (v := 1) hx hb dX7_updates_75 (by decide) ?_
    refine lv_iadd hx hb dX7_updates_76 ?_
    refine lv_eqi (y := (nI (7 * (3 * hix + cx) + 1))) (nI_add (7 * (3 * hix + cx)) (1)) ?_
    refine va_iald hx hb hK hP 0 0 rfl rfl (vp_in_nI (show 7 * (3 * hix + cx) + 1 < 1767 by omega) (by decide)) dX7_updates_77 ?_
    refine lv_eqi (y := (fno (7 * (3 * hix + cx) + 1))) (congrArg fno (nI_clamp (show 7 * (3 * hix + cx) + 1 < 2 ^ 31 by omega))) ?_
    refine lv_topi (fun y_9 _ => ?_)
    refine va_iast hx hb hK hP hD hS 0 0 rfl rfl (vp_in_nI (show 69 + 5 * (8 * hix + (t_3 + dx_5) % 8) + 1 + cx < 1767 by omega) (by decide)) dX7_updates_78 (fun H locs hP2 hD2 hS2 => ?_)
    clear hP hD hS
    have hPD : PD D A [(Mn, .inl (g 0, 1767, .inl (upd fno (nI (69 + 5 * (8 * hix + (t_3 + dx_5) % 8) + 1 + cx)).toNatClampNeg y_9))), (Mm, .inr (7, [.int zth, .ref Mt, .int (nI tp), .int zma, .int zwr, .ref Mrr, .ref Mrh, .ref Mrc, .int zrh, .int zrc, .ref Mn, .ref Mf, .ref Mr, .ref Mh, .int (nI hp), .int (nI cc), .ref Ma, .ref Mas, .ref Msn, .ref Mac, .ref Mat])), (Mh, .inl (g 0, 9, .inl fmh))] H := ⟨hP2, hD2⟩
    have hS := hS2; clear hP2 hD2 hS2; have hP := hPD.1; have hD := hPD.2; clear hPD
    rw [nI_clamp (show 69 + 5 * (8 * hix + (t_3 + dx_5) % 8) + 1 + cx < 2 ^ 31 by omega)] at hP hD
    have hPD : PD D A [(Mn, .inl (g 0, 1767, .inl (upd fno (69 + 5 * (8 * hix + (t_3 + dx_5) % 8) + 1 + cx) y_9))), (Mm, .inr (7, [.int zth, .ref Mt, .int (nI tp), .int zma, .int zwr, .ref Mrr, .ref Mrh, .ref Mrc, .int zrh, .int zrc, .ref Mn, .ref Mf, .ref Mr, .ref Mh, .int (nI hp), .int (nI cc), .ref Ma, .ref Mas, .ref Msn, .ref Mac, .ref Mat])), (Mh, .inl (g 0, 9, .inl fmh))] H := ⟨hP, hD⟩
    clear hP hD; have hP := hPD.1; have hD := hPD.2; clear hPD
    have hF_10 : mOK gs tb ub (upd fno (69 + 5 * (8 * hix + (t_3 + dx_5) % 8) + 1 + cx) y_9) := mOK_free h2 (show mfree (69 + 5 * (8 * hix + (t_3 + dx_5) % 8) + 1 + cx) by unfold mfree; omega)
    generalize upd fno (69 + 5 * (8 * hix + (t_3 + dx_5) % 8) + 1 + cx) y_9 = F_10 at hP hD hF_10
    have hPD9 : PD D A [(Mm, .inr (7, [.int zth, .ref Mt, .int (nI tp), .int zma, .int zwr, .ref Mrr, .ref Mrh, .ref Mrc, .int zrh, .int zrc, .ref Mn, .ref Mf, .ref Mr, .ref Mh, .int (nI hp), .int (nI cc), .ref Ma, .ref Mas, .ref Msn, .ref Mac, .ref Mat])), (Mn, .inl (g 0, 1767, .inl F_10)), (Mh, .inl (g 0, 9, .inl fmh))] H := ⟨hP.sub [1, 0, 2] rfl, hD.sub [1, 0, 2] (by decide) rfl⟩
    have hP9 := hPD9.1; have hD9 := hPD9.2
    subst hQ
    refine W.widen (k := 0) (n := 0) (Nat.le_of_ble_eq_true rfl) (Nat.le_of_ble_eq_true rfl) ?_
    exact W.vret hx hb hr (fun tS htS _ => ⟨⟨_, rfl, ⟨F_10, rfl, (hF_10)⟩, by rw [htS]; exact hP9, hD9⟩, hS.F htS⟩) hS.2.2 dX7_updates_79
  · skip
    refine lv_aload_n hx hb dX7_updates_12 rfl (lv_at hl 0 rfl) ?_
    refine va_get (D := D) (ci := 7) (v := .ref Mn) (C := RX7) (T := TX7) (N := 21) hx hb hts iX7 hown hK hP 0 rfl rfl 10 (by decide) f22 (fun _ h9 => h9) rfl dX7_updates_13 ?_
    refine lv_bipush (v := 63) hx hb dX7_updates_16 (by decide) ?_
    refine lv_iload_n hx hb dX7_updates_18 rfl (lv_at hl 1 rfl) ?_
    refine lv_iadd hx hb dX7_updates_19 ?_
    refine lv_eqi (y := (nI (63 + hix))) (nI_add (63) (hix)) ?_
    refine lv_dup2_11 hx hb dX7_updates_20 rfl rfl ?_
    refine va_iald hx hb hK hP 1 0 rfl rfl (vp_in_nI (show 63 + hix < 1767 by omega) (by decide)) dX7_updates_21 ?_
    refine lv_eqi (y := (fno (63 + hix))) (congrArg fno (nI_clamp (show 63 + hix < 2 ^ 31 by omega))) ?_
    refine lv_topi (fun y_11 _ => ?_)
    refine lv_iconst (v := 1) hx hb dX7_updates_22 (by decide) ?_
    refine lv_isub hx hb dX7_updates_23 ?_
    refine lv_topi (fun y_12 _ => ?_)
    refine va_iast hx hb hK hP hD hS 1 0 rfl rfl (vp_in_nI (show 63 + hix < 1767 by omega) (by decide)) dX7_updates_24 (fun H locs hP2 hD2 hS2 => ?_)
    clear hP hD hS
    have hPD : PD D A [(Mm, .inr (7, [.int zth, .ref Mt, .int (nI tp), .int zma, .int zwr, .ref Mrr, .ref Mrh, .ref Mrc, .int zrh, .int zrc, .ref Mn, .ref Mf, .ref Mr, .ref Mh, .int (nI hp), .int (nI cc), .ref Ma, .ref Mas, .ref Msn, .ref Mac, .ref Mat])), (Mn, .inl (g 0, 1767, .inl (upd fno (nI (63 + hix)).toNatClampNeg y_12))), (Mh, .inl (g 0, 9, .inl fmh))] H := ⟨hP2, hD2⟩
    have hS := hS2; clear hP2 hD2 hS2; have hP := hPD.1; have hD := hPD.2; clear hPD
    rw [nI_clamp (show 63 + hix < 2 ^ 31 by omega)] at hP hD
    have hPD : PD D A [(Mm, .inr (7, [.int zth, .ref Mt, .int (nI tp), .int zma, .int zwr, .ref Mrr, .ref Mrh, .ref Mrc, .int zrh, .int zrc, .ref Mn, .ref Mf, .ref Mr, .ref Mh, .int (nI hp), .int (nI cc), .ref Ma, .ref Mas, .ref Msn, .ref Mac, .ref Mat])), (Mn, .inl (g 0, 1767, .inl (upd fno (63 + hix) y_12))), (Mh, .inl (g 0, 9, .inl fmh))] H := ⟨hP, hD⟩
    clear hP hD; have hP := hPD.1; have hD := hPD.2; clear hPD
    have hF_13 : mOK gs tb ub (upd fno (63 + hix) y_12) := mOK_free h2 (show mfree (63 + hix) by unfold mfree; omega)
    generalize upd fno (63 + hix) y_12 = F_13 at hP hD hF_13
    refine lv_aload_n hx hb dX7_updates_25 rfl (lv_at hl 0 rfl) ?_
    refine va_get (D := D) (ci := 7) (v := .ref Mn) (C := RX7) (T := TX7) (N := 21) hx hb hts iX7 hown hK hP 0 rfl rfl 10 (by decide) f22 (fun _ h9 => h9) rfl dX7_updates_26 ?_
    refine lv_sipush (v := 1765) hx hb dX7_updates_29 (by decide) ?_
    refine lv_dup2_11 hx hb dX7_updates_32 rfl rfl ?_
    refine va_iald hx hb hK hP 1 0 rfl rfl (by unfold vp_in; decide) dX7_updates_33 ?_
    refine lv_eqi (y := (F_13 1765)) (rfl) ?_
    refine lv_topi (fun y_14 _ => ?_)
    refine lv_iconst (v := 1) hx hb dX7_updates_34 (by decide) ?_
    refine lv_iadd hx hb dX7_updates_35 ?_
    refine lv_topi (fun y_15 _ => ?_)
    refine va_iast hx hb hK hP hD hS 1 0 rfl rfl (by unfold vp_in; decide) dX7_updates_36 (fun H locs hP2 hD2 hS2 => ?_)
    clear hP hD hS
    have hPD : PD D A [(Mm, .inr (7, [.int zth, .ref Mt, .int (nI tp), .int zma, .int zwr, .ref Mrr, .ref Mrh, .ref Mrc, .int zrh, .int zrc, .ref Mn, .ref Mf, .ref Mr, .ref Mh, .int (nI hp), .int (nI cc), .ref Ma, .ref Mas, .ref Msn, .ref Mac, .ref Mat])), (Mn, .inl (g 0, 1767, .inl (upd F_13 1765 y_15))), (Mh, .inl (g 0, 9, .inl fmh))] H := ⟨hP2, hD2⟩
    have hS := hS2; clear hP2 hD2 hS2; have hP := hPD.1; have hD := hPD.2; clear hPD
    have hF_16 : mOK gs tb ub (upd F_13 1765 y_15) := mOK_free hF_13 (show mfree (1765) by unfold mfree; omega)
    generalize upd F_13 1765 y_15 = F_16 at hP hD hF_16
    refine lv_goto (tgt := 79) hx hb dX7_updates_37 (by decide) ?_
    have hP9 := hP; have hD9 := hD
    subst hQ
    refine W.widen (k := 0) (n := 0) (Nat.le_of_ble_eq_true rfl) (Nat.le_of_ble_eq_true rfl) ?_
    exact W.vret hx hb hr (fun tS htS _ => ⟨⟨_, rfl, ⟨F_16, rfl, (hF_16)⟩, by rw [htS]; exact hP9, hD9⟩, hS.F htS⟩) hS.2.2 dX7_updates_79

set_option maxHeartbeats 4000000 in
set_option maxRecDepth 100000 in
theorem k_X7_goesFrom (l : Launch) (D : va_G) (g : Nat → ClassId) (sz : Nat) {gs : Nat → Int32} (Mm : Nat) (hix : Nat) (cx : Nat) (zth : Int32) (Mt : Nat) (tp : Nat) (zma : Int32) (zwr : Int32) (Mrr : Nat) (Mrh : Nat) (Mrc : Nat) (zrh : Int32) (zrc : Int32) (Mn : Nat) (Mf : Nat) (Mr : Nat) (Mh : Nat) (hp : Nat) (cc : Nat) (Ma : Nat) (Mas : Nat) (Msn : Nat) (Mac : Nat) (Mat : Nat) (fno : Nat → Int32) (fmh : Nat → Int32) (tb : Nat) (ub : Nat) (h0 : tb < 2 ^ 29) (h1 : ub < 2 ^ 29) (h2 : mOK gs tb ub fno) (h3 : hix < 3) (h4 : cx < 3) (h5 : n3 fmh) : Met l yX7_goesFrom wsX7_goesFrom ({ frames := 2, cells := 0, slots := 0, locals := 43 }) (va_Pc [.ref Mm, .int (nI hix), .int (nI cx)] (pre D g sz [(Mm, .inr (7, [.int zth, .ref Mt, .int (nI tp), .int zma, .int zwr, .ref Mrr, .ref Mrh, .ref Mrc, .int zrh, .int zrc, .ref Mn, .ref Mf, .ref Mr, .ref Mh, .int (nI hp), .int (nI cc), .ref Ma, .ref Mas, .ref Msn, .ref Mac, .ref Mat])), (Mn, .inl (g 0, 1767, .inl fno)), (Mh, .inl (g 0, 9, .inl fmh))])) (va_Qv (fun (u : va_W) => ∃ (fnox : Nat → Int32), u = [(Mm, .inr (7, [.int zth, .ref Mt, .int (nI tp), .int zma, .int zwr, .ref Mrr, .ref Mrh, .ref Mrc, .int zrh, .int zrc, .ref Mn, .ref Mf, .ref Mr, .ref Mh, .int (nI hp), .int (nI cc), .ref Ma, .ref Mas, .ref Msn, .ref Mac, .ref Mat])), (Mn, .inl (g 0, 1767, .inl fnox)), (Mh, .inl (g 0, 9, .inl fmh))] ∧ (mOK gs tb ub fnox)) (wd D (va_A [(Mm, .inr (7, [.int zth, .ref Mt, .int (nI tp), .int zma, .int zwr, .ref Mrr, .ref Mrh, .ref Mrc, .int zrh, .int zrc, .ref Mn, .ref Mf, .ref Mr, .ref Mh, .int (nI hp), .int (nI cc), .ref Ma, .ref Mas, .ref Msn, .ref Mac, .ref Mat])), (Mn, .inl (g 0, 1767, .inl fno)), (Mh, .inl (g 0, 9, .inl fmh))] sz)) (va_A [(Mm, .inr (7, [.int zth, .ref Mt, .int (nI tp), .int zma, .int zwr, .ref Mrr, .ref Mrh, .ref Mrc, .int zrh, .int zrc, .ref Mn, .ref Mf, .ref Mr, .ref Mh, .int (nI hp), .int (nI cc), .ref Ma, .ref Mas, .ref Msn, .ref Mac, .ref Mat])), (Mn, .inl (g 0, 1767, .inl fno)), (Mh, .inl (g 0, 9, .inl fmh))] sz)) 0 0 (va_A [(Mm, .inr (7, [.int zth, .ref Mt, .int (nI tp), .int zma, .int zwr, .ref Mrr, .ref Mrh, .ref Mrc, .int zrh, .int zrc, .ref Mn, .ref Mf, .ref Mr, .ref Mh, .int (nI hp), .int (nI cc), .ref Ma, .ref Mas, .ref Msn, .ref Mac, .ref Mat])), (Mn, .inl (g 0, 1767, .inl fno)), (Mh, .inl (g 0, 9, .inl fmh))] sz) := by
  refine Met.ofW (cc := cX7_goesFrom) (maxL := 4) (ret := none) (by decide) rfl ?_
  intro p e s m args below meth c s₁ B hml hv
  obtain ⟨rfl, hsz, hP, ⟨hK, hN⟩, hD0, hZ⟩ := hv
  have hx := B.exec
  have hb := B.bytes
  have hr := B.returns
  have hts := atoms_spec (ws := wsX7_goesFrom) B.pre
  have hown : s.vm.findClass RX7 = some m.cls := findClass_of_methodNamed B.named
  have hlocks := B.notSynchronized
  clear B
  subst hsz
  have hD := hD0.self (sz := s.heap.size)
  clear hD0
  generalize hAe : va_A [(Mm, .inr (7, [.int zth, .ref Mt, .int (nI tp), .int zma, .int zwr, .ref Mrr, .ref Mrh, .ref Mrc, .int zrh, .int zrc, .ref Mn, .ref Mf, .ref Mr, .ref Mh, .int (nI hp), .int (nI cc), .ref Ma, .ref Mas, .ref Msn, .ref Mac, .ref Mat])), (Mn, .inl (g 0, 1767, .inl fno)), (Mh, .inl (g 0, 9, .inl fmh))] s.heap.size = A at hD hZ ⊢
  have hA : ∀ q : Nat, s.heap.size ≤ q → A q := fun q h => by rw [← hAe]; exact Or.inr h
  have hS : va_S A s.heap s.heap [] := va_S.rf
  have f22 := hts (.fieldLink RX7 22 "HopCreditsModel" "now" "[I") (List.mem_of_getElem? (i := 1) rfl)
  have f31 := hts (.fieldLink RX7 31 "HopCreditsModel" "hop" "[I") (List.mem_of_getElem? (i := 2) rfl)
  have iX7 : ∀ w ∈ u_ws RX7 TX7 21, w ∈ wsX7_goesFrom := fun w h => List.mem_cons_of_mem _ (List.mem_append_right _ (h))
  have hl := lv_entry ([.ref Mm, .int (nI hix), .int (nI cx)]) (n := 4) (Nat.le_of_ble_eq_true rfl)
  rw [lg_entry_eq]
  generalize (lg_sl ([.ref Mm, .int (nI hix), .int (nI cx)]) ++ List.replicate (4 - (lg_sl ([.ref Mm, .int (nI hix), .int (nI cx)])).length) Slot.unset).toArray = ls at hl ⊢
  have hl : lv_has ls 4 [(0, .ref Mm), (1, .int (nI hix)), (2, .int (nI cx))] := hl
  generalize hQ : MQ below _ _ s _ _ _ = Q
  generalize hH : s.heap = H at hP ⊢
  have hS : va_S A s.heap H [] := by rw [← hH]; exact hS
  clear hH
  refine lv_iload_n hx hb dX7_goesFrom_0 rfl (lv_at hl 1 rfl) ?_
  refine lv_iload_n hx hb dX7_goesFrom_1 rfl (lv_at hl 2 rfl) ?_
  refine ky_Si (As := [.int (nI hix), .int (nI cx)]) (rest := []) ⟨hx, hb, hml, hown, hts⟩ ⟨hK, hN⟩ hZ hP hD hS hA [] [0, 1, 2] (wc := []) (wr := [(Mm, .inr (7, [.int zth, .ref Mt, .int (nI tp), .int zma, .int zwr, .ref Mrr, .ref Mrh, .ref Mrc, .int zrh, .int zrc, .ref Mn, .ref Mf, .ref Mr, .ref Mh, .int (nI hp), .int (nI cc), .ref Ma, .ref Mas, .ref Msn, .ref Mac, .ref Mat])), (Mn, .inl (g 0, 1767, .inl fno)), (Mh, .inl (g 0, 9, .inl fmh))]) rfl rfl rfl rfl (by decide) (k_X7_lane l D g H.size hix cx (show hix < 3 by omega) (show cx < 3 by omega)) (va_cwS 2 hts gX7_goesFrom_X7_lane rfl rfl rfl (by decide +kernel) ⟨(Nat.le_of_ble_eq_true rfl), (Nat.le_of_ble_eq_true rfl)⟩) rfl hl.1 rfl (Nat.le_of_ble_eq_true rfl) dX7_goesFrom_2 ⟨(Nat.le_of_ble_eq_true rfl), (Nat.le_of_ble_eq_true rfl)⟩ (fun r_1 u H locs hw hP2 hD2 hS2 => ?_)
  clear hP hD hS
  obtain ⟨rfl, rfl⟩ := hw
  have hPD : PD D A [(Mm, .inr (7, [.int zth, .ref Mt, .int (nI tp), .int zma, .int zwr, .ref Mrr, .ref Mrh, .ref Mrc, .int zrh, .int zrc, .ref Mn, .ref Mf, .ref Mr, .ref Mh, .int (nI hp), .int (nI cc), .ref Ma, .ref Mas, .ref Msn, .ref Mac, .ref Mat])), (Mn, .inl (g 0, 1767, .inl fno)), (Mh, .inl (g 0, 9, .inl fmh))] H := ⟨hP2, hD2⟩
  have hS := hS2; clear hP2 hD2 hS2; have hP := hPD.1; have hD := hPD.2; clear hPD
  refine W.widen (k := 0) (n := 0) (Nat.le_of_ble_eq_true rfl) (Nat.le_of_ble_eq_true rfl) ?_
  refine lv_istore_n (lv' := [(3, .int (nI (7 * (3 * hix + cx)))), (0, .ref Mm), (1, .int (nI hix)), (2, .int (nI cx))]) hx hb dX7_goesFrom_5 rfl hl (by decide) rfl (fun ls hl => ?_)
  refine lv_aload_n hx hb dX7_goesFrom_6 rfl (lv_at hl 1 rfl) ?_
  refine va_get (D := D) (ci := 7) (v := .ref Mn) (C := RX7) (T := TX7) (N := 21) hx hb hts iX7 hown hK hP 0 rfl rfl 10 (by decide) f22 (fun _ h9 => h9) rfl dX7_goesFrom_7 ?_
  refine lv_iload_n hx hb dX7_goesFrom_10 rfl (lv_at hl 0 rfl) ?_
  refine lv_iconst (v := 1) hx hb dX7_goesFrom_11 (by decide) ?_
  refine lv_iadd hx hb dX7_goesFrom_12 ?_
  refine lv_eqi (y := (nI (7 * (3 * hix + cx) + 1))) (nI_add (7 * (3 * hix + cx)) (1)) ?_
  refine lv_aload_n hx hb dX7_goesFrom_13 rfl (lv_at hl 1 rfl) ?_
  refine va_get (D := D) (ci := 7) (v := .ref Mn) (C := RX7) (T := TX7) (N := 21) hx hb hts iX7 hown hK hP 0 rfl rfl 10 (by decide) f22 (fun _ h9 => h9) rfl dX7_goesFrom_14 ?_
  refine lv_iload_n hx hb dX7_goesFrom_17 rfl (lv_at hl 0 rfl) ?_
  refine lv_iconst (v := 1) hx hb dX7_goesFrom_18 (by decide) ?_
  refine lv_iadd hx hb dX7_goesFrom_19 ?_
  refine lv_eqi (y := (nI (7 * (3 * hix + cx) + 1))) (nI_add (7 * (3 * hix + cx)) (1)) ?_
  refine va_iald hx hb hK hP 1 0 rfl rfl (vp_in_nI (show 7 * (3 * hix + cx) + 1 < 1767 by omega) (by decide)) dX7_goesFrom_20 ?_
  refine lv_eqi (y := (fno (7 * (3 * hix + cx) + 1))) (congrArg fno (nI_clamp (show 7 * (3 * hix + cx) + 1 < 2 ^ 31 by omega))) ?_
  refine lv_topi (fun y_2 _ => ?_)
  refine lv_iconst (v := 1) hx hb dX7_goesFrom_21 (by decide) ?_
  refine lv_iadd hx hb dX7_goesFrom_22 ?_
  refine lv_topi (fun y_3 _ => ?_)
  refine lv_bipush (v := 64) hx hb dX7_goesFrom_23 (by decide) ?_
  refine lv_irem hx hb dX7_goesFrom_25 (by decide) ?_
  refine lv_topi (fun y_4 _ => ?_)
  refine va_iast hx hb hK hP hD hS 1 0 rfl rfl (vp_in_nI (show 7 * (3 * hix + cx) + 1 < 1767 by omega) (by decide)) dX7_goesFrom_26 (fun H locs hP2 hD2 hS2 => ?_)
  clear hP hD hS
  have hPD : PD D A [(Mm, .inr (7, [.int zth, .ref Mt, .int (nI tp), .int zma, .int zwr, .ref Mrr, .ref Mrh, .ref Mrc, .int zrh, .int zrc, .ref Mn, .ref Mf, .ref Mr, .ref Mh, .int (nI hp), .int (nI cc), .ref Ma, .ref Mas, .ref Msn, .ref Mac, .ref Mat])), (Mn, .inl (g 0, 1767, .inl (upd fno (nI (7 * (3 * hix + cx) + 1)).toNatClampNeg y_4))), (Mh, .inl (g 0, 9, .inl fmh))] H := ⟨hP2, hD2⟩
  have hS := hS2; clear hP2 hD2 hS2; have hP := hPD.1; have hD := hPD.2; clear hPD
  rw [nI_clamp (show 7 * (3 * hix + cx) + 1 < 2 ^ 31 by omega)] at hP hD
  have hPD : PD D A [(Mm, .inr (7, [.int zth, .ref Mt, .int (nI tp), .int zma, .int zwr, .ref Mrr, .ref Mrh, .ref Mrc, .int zrh, .int zrc, .ref Mn, .ref Mf, .ref Mr, .ref Mh, .int (nI hp), .int (nI cc), .ref Ma, .ref Mas, .ref Msn, .ref Mac, .ref Mat])), (Mn, .inl (g 0, 1767, .inl (upd fno (7 * (3 * hix + cx) + 1) y_4))), (Mh, .inl (g 0, 9, .inl fmh))] H := ⟨hP, hD⟩
  clear hP hD; have hP := hPD.1; have hD := hPD.2; clear hPD
  have hF_5 : mOK gs tb ub (upd fno (7 * (3 * hix + cx) + 1) y_4) := mOK_free h2 (show mfree (7 * (3 * hix + cx) + 1) by unfold mfree; omega)
  generalize upd fno (7 * (3 * hix + cx) + 1) y_4 = F_5 at hP hD hF_5
  refine lv_aload_n hx hb dX7_goesFrom_27 rfl (lv_at hl 1 rfl) ?_
  refine va_get (D := D) (ci := 7) (v := .ref Mn) (C := RX7) (T := TX7) (N := 21) hx hb hts iX7 hown hK hP 0 rfl rfl 10 (by decide) f22 (fun _ h9 => h9) rfl dX7_goesFrom_28 ?_
  refine lv_iload_n hx hb dX7_goesFrom_31 rfl (lv_at hl 0 rfl) ?_
  refine lv_iconst (v := 5) hx hb dX7_goesFrom_32 (by decide) ?_
  refine lv_iadd hx hb dX7_goesFrom_33 ?_
  refine lv_eqi (y := (nI (7 * (3 * hix + cx) + 5))) (nI_add (7 * (3 * hix + cx)) (5)) ?_
  refine lv_dup2_11 hx hb dX7_goesFrom_34 rfl rfl ?_
  refine va_iald hx hb hK hP 1 0 rfl rfl (vp_in_nI (show 7 * (3 * hix + cx) + 5 < 1767 by omega) (by decide)) dX7_goesFrom_35 ?_
  refine lv_eqi (y := (F_5 (7 * (3 * hix + cx) + 5))) (congrArg F_5 (nI_clamp (show 7 * (3 * hix + cx) + 5 < 2 ^ 31 by omega))) ?_
  refine lv_topi (fun y_6 _ => ?_)
  refine lv_iconst (v := 1) hx hb dX7_goesFrom_36 (by decide) ?_
  refine lv_iadd hx hb dX7_goesFrom_37 ?_
  refine lv_topi (fun y_7 _ => ?_)
  refine va_iast hx hb hK hP hD hS 1 0 rfl rfl (vp_in_nI (show 7 * (3 * hix + cx) + 5 < 1767 by omega) (by decide)) dX7_goesFrom_38 (fun H locs hP2 hD2 hS2 => ?_)
  clear hP hD hS
  have hPD : PD D A [(Mm, .inr (7, [.int zth, .ref Mt, .int (nI tp), .int zma, .int zwr, .ref Mrr, .ref Mrh, .ref Mrc, .int zrh, .int zrc, .ref Mn, .ref Mf, .ref Mr, .ref Mh, .int (nI hp), .int (nI cc), .ref Ma, .ref Mas, .ref Msn, .ref Mac, .ref Mat])), (Mn, .inl (g 0, 1767, .inl (upd F_5 (nI (7 * (3 * hix + cx) + 5)).toNatClampNeg y_7))), (Mh, .inl (g 0, 9, .inl fmh))] H := ⟨hP2, hD2⟩
  have hS := hS2; clear hP2 hD2 hS2; have hP := hPD.1; have hD := hPD.2; clear hPD
  rw [nI_clamp (show 7 * (3 * hix + cx) + 5 < 2 ^ 31 by omega)] at hP hD
  have hPD : PD D A [(Mm, .inr (7, [.int zth, .ref Mt, .int (nI tp), .int zma, .int zwr, .ref Mrr, .ref Mrh, .ref Mrc, .int zrh, .int zrc, .ref Mn, .ref Mf, .ref Mr, .ref Mh, .int (nI hp), .int (nI cc), .ref Ma, .ref Mas, .ref Msn, .ref Mac, .ref Mat])), (Mn, .inl (g 0, 1767, .inl (upd F_5 (7 * (3 * hix + cx) + 5) y_7))), (Mh, .inl (g 0, 9, .inl fmh))] H := ⟨hP, hD⟩
  clear hP hD; have hP := hPD.1; have hD := hPD.2; clear hPD
  have hF_8 : mOK gs tb ub (upd F_5 (7 * (3 * hix + cx) + 5) y_7) := mOK_free hF_5 (show mfree (7 * (3 * hix + cx) + 5) by unfold mfree; omega)
  generalize upd F_5 (7 * (3 * hix + cx) + 5) y_7 = F_8 at hP hD hF_8
  refine lv_aload_n hx hb dX7_goesFrom_39 rfl (lv_at hl 1 rfl) ?_
  refine va_get (D := D) (ci := 7) (v := .ref Mn) (C := RX7) (T := TX7) (N := 21) hx hb hts iX7 hown hK hP 0 rfl rfl 10 (by decide) f22 (fun _ h9 => h9) rfl dX7_goesFrom_40 ?_
  refine lv_iload_n hx hb dX7_goesFrom_43 rfl (lv_at hl 0 rfl) ?_
  refine lv_iconst (v := 5) hx hb dX7_goesFrom_44 (by decide) ?_
  refine lv_iadd hx hb dX7_goesFrom_45 ?_
  refine lv_eqi (y := (nI (7 * (3 * hix + cx) + 5))) (nI_add (7 * (3 * hix + cx)) (5)) ?_
  refine va_iald hx hb hK hP 1 0 rfl rfl (vp_in_nI (show 7 * (3 * hix + cx) + 5 < 1767 by omega) (by decide)) dX7_goesFrom_46 ?_
  refine lv_eqi (y := (F_8 (7 * (3 * hix + cx) + 5))) (congrArg F_8 (nI_clamp (show 7 * (3 * hix + cx) + 5 < 2 ^ 31 by omega))) ?_
  refine lv_topi (fun y_9 _ => ?_)
  refine lv_aload_n hx hb dX7_goesFrom_47 rfl (lv_at hl 1 rfl) ?_
  refine va_get (D := D) (ci := 7) (v := .ref Mh) (C := RX7) (T := TX7) (N := 21) hx hb hts iX7 hown hK hP 0 rfl rfl 13 (by decide) f31 (fun _ h9 => h9) rfl dX7_goesFrom_48 ?_
  refine lv_iconst (v := 3) hx hb dX7_goesFrom_51 (by decide) ?_
  refine lv_iload_n hx hb dX7_goesFrom_52 rfl (lv_at hl 2 rfl) ?_
  refine lv_imul hx hb dX7_goesFrom_53 ?_
  refine lv_eqi (y := (nI (3 * hix))) (pk_mul (3) (hix)) ?_
  refine lv_iconst (v := 2) hx hb dX7_goesFrom_54 (by decide) ?_
  refine lv_iadd hx hb dX7_goesFrom_55 ?_
  refine lv_eqi (y := (nI (3 * hix + 2))) (nI_add (3 * hix) (2)) ?_
  refine va_iald hx hb hK hP 2 0 rfl rfl (vp_in_nI (show 3 * hix + 2 < 9 by omega) (by decide)) dX7_goesFrom_56 ?_
  refine lv_eqi (y := (fmh (3 * hix + 2))) (congrArg fmh (nI_clamp (show 3 * hix + 2 < 2 ^ 31 by omega))) ?_
  obtain ⟨n_10, hn_10, q9⟩ := h5 (3 * hix + 2)
  refine lv_eqi (y := nI n_10) q9 ?_
  refine lv_icmp_ne (tgt := 75) hx hb dX7_goesFrom_57 (by decide) (fun cb_11 => ?_) (fun cb_11 => ?_)
  · skip
    have hP9 := hP; have hD9 := hD
    subst hQ
    refine W.widen (k := 0) (n := 0) (Nat.le_of_ble_eq_true rfl) (Nat.le_of_ble_eq_true rfl) ?_
    exact W.vret hx hb hr (fun tS htS _ => ⟨⟨_, rfl, ⟨F_8, rfl, (hF_8)⟩, by rw [htS]; exact hP9, hD9⟩, hS.F htS⟩) hS.2.2 dX7_goesFrom_75
  · skip
    refine lv_aload_n hx hb dX7_goesFrom_60 rfl (lv_at hl 1 rfl) ?_
    refine va_get (D := D) (ci := 7) (v := .ref Mn) (C := RX7) (T := TX7) (N := 21) hx hb hts iX7 hown hK hP 0 rfl rfl 10 (by decide) f22 (fun _ h9 => h9) rfl dX7_goesFrom_61 ?_
    refine lv_iload_n hx hb dX7_goesFrom_64 rfl (lv_at hl 0 rfl) ?_
    refine lv_iconst (v := 5) hx hb dX7_goesFrom_65 (by decide) ?_
    refine lv_iadd hx hb dX7_goesFrom_66 ?_
    refine lv_eqi (y := (nI (7 * (3 * hix + cx) + 5))) (nI_add (7 * (3 * hix + cx)) (5)) ?_
    refine lv_iconst (v := 0) hx hb dX7_goesFrom_67 (by decide) ?_
    refine va_iast hx hb hK hP hD hS 1 0 rfl rfl (vp_in_nI (show 7 * (3 * hix + cx) + 5 < 1767 by omega) (by decide)) dX7_goesFrom_68 (fun H locs hP2 hD2 hS2 => ?_)
    clear hP hD hS
    have hPD : PD D A [(Mm, .inr (7, [.int zth, .ref Mt, .int (nI tp), .int zma, .int zwr, .ref Mrr, .ref Mrh, .ref Mrc, .int zrh, .int zrc, .ref Mn, .ref Mf, .ref Mr, .ref Mh, .int (nI hp), .int (nI cc), .ref Ma, .ref Mas, .ref Msn, .ref Mac, .ref Mat])), (Mn, .inl (g 0, 1767, .inl (upd F_8 (nI (7 * (3 * hix + cx) + 5)).toNatClampNeg 0))), (Mh, .inl (g 0, 9, .inl fmh))] H := ⟨hP2, hD2⟩
    have hS := hS2; clear hP2 hD2 hS2; have hP := hPD.1; have hD := hPD.2; clear hPD
    rw [nI_clamp (show 7 * (3 * hix + cx) + 5 < 2 ^ 31 by omega)] at hP hD
    have hPD : PD D A [(Mm, .inr (7, [.int zth, .ref Mt, .int (nI tp), .int zma, .int zwr, .ref Mrr, .ref Mrh, .ref Mrc, .int zrh, .int zrc, .ref Mn, .ref Mf, .ref Mr, .ref Mh, .int (nI hp), .int (nI cc), .ref Ma, .ref Mas, .ref Msn, .ref Mac, .ref Mat])), (Mn, .inl (g 0, 1767, .inl (upd F_8 (7 * (3 * hix + cx) + 5) 0))), (Mh, .inl (g 0, 9, .inl fmh))] H := ⟨hP, hD⟩
    clear hP hD; have hP := hPD.1; have hD := hPD.2; clear hPD
    have hF_12 : mOK gs tb ub (upd F_8 (7 * (3 * hix + cx) + 5) 0) := mOK_free hF_8 (show mfree (7 * (3 * hix + cx) + 5) by unfold mfree; omega)
    generalize upd F_8 (7 * (3 * hix + cx) + 5) 0 = F_12 at hP hD hF_12
    refine lv_aload_n hx hb dX7_goesFrom_69 rfl (lv_at hl 1 rfl) ?_
    refine lv_iload_n hx hb dX7_goesFrom_70 rfl (lv_at hl 2 rfl) ?_
    refine lv_iload_n hx hb dX7_goesFrom_71 rfl (lv_at hl 3 rfl) ?_
    refine ky_Vv (As := [.int (nI hix), .int (nI cx)]) (rest := []) ⟨hx, hb, hml, hown, hts⟩ ⟨hK, hN⟩ hZ hP hD hS hA [0, 1, 2] [] (wc := [(Mm, .inr (7, [.int zth, .ref Mt, .int (nI tp), .int zma, .int zwr, .ref Mrr, .ref Mrh, .ref Mrc, .int zrh, .int zrc, .ref Mn, .ref Mf, .ref Mr, .ref Mh, .int (nI hp), .int (nI cc), .ref Ma, .ref Mas, .ref Msn, .ref Mac, .ref Mat])), (Mn, .inl (g 0, 1767, .inl F_12)), (Mh, .inl (g 0, 9, .inl fmh))]) (wr := []) rfl rfl rfl rfl (by decide) (k_X7_updates l D g H.size Mm hix cx zth Mt tp zma zwr Mrr Mrh Mrc zrh zrc Mn Mf Mr Mh hp cc Ma Mas Msn Mac Mat F_12 fmh tb ub (show tb < 2 ^ 29 by omega) (show ub < 2 ^ 29 by omega) (hF_12) (show hix < 3 by omega) (show cx < 3 by omega) (h5)) (cwV 2 hts gX7_goesFrom_X7_updates rfl rfl rfl (by decide +kernel) ⟨(Nat.le_of_ble_eq_true rfl), (Nat.le_of_ble_eq_true rfl)⟩) 0 7 rfl rfl rfl rfl hl.1 rfl (Nat.le_of_ble_eq_true rfl) dX7_goesFrom_72 ⟨(Nat.le_of_ble_eq_true rfl), (Nat.le_of_ble_eq_true rfl)⟩ (fun u H locs hw hP2 hD2 hS2 => ?_)
    clear hP hD hS
    obtain ⟨fnox_14, rfl, hf_15⟩ := hw
    have hPD : PD D A [(Mm, .inr (7, [.int zth, .ref Mt, .int (nI tp), .int zma, .int zwr, .ref Mrr, .ref Mrh, .ref Mrc, .int zrh, .int zrc, .ref Mn, .ref Mf, .ref Mr, .ref Mh, .int (nI hp), .int (nI cc), .ref Ma, .ref Mas, .ref Msn, .ref Mac, .ref Mat])), (Mn, .inl (g 0, 1767, .inl fnox_14)), (Mh, .inl (g 0, 9, .inl fmh))] H := ⟨hP2, hD2⟩
    have hS := hS2; clear hP2 hD2 hS2; have hP := hPD.1; have hD := hPD.2; clear hPD
    refine W.widen (k := 0) (n := 0) (Nat.le_of_ble_eq_true rfl) (Nat.le_of_ble_eq_true rfl) ?_
    have hP9 := hP; have hD9 := hD
    subst hQ
    refine W.widen (k := 0) (n := 0) (Nat.le_of_ble_eq_true rfl) (Nat.le_of_ble_eq_true rfl) ?_
    exact W.vret hx hb hr (fun tS htS _ => ⟨⟨_, rfl, ⟨fnox_14, rfl, (hf_15)⟩, by rw [htS]; exact hP9, hD9⟩, hS.F htS⟩) hS.2.2 dX7_goesFrom_75
