set_option maxHeartbeats 4000000 in
set_option maxRecDepth 100000 in
theorem r_X4_itemOf_2 (l : Launch) (D : va_G) (g : Nat → ClassId) (sz : Nat) (zs : Int32) : Met l yX4_itemOf wsX4_itemOf ({ frames := 4, cells := 0, slots := 0, locals := 85 }) (va_Pc [.int 2, .int zs] (pre D g sz [])) (va_Qi (fun (r : Int32) (u : va_W) => u = [] ∧ r = (it2 zs)) (wd D (va_A [] sz)) (va_A [] sz)) 0 0 (va_A [] sz) := by
  refine Met.ofW (cc := cX4_itemOf) (maxL := 3) (ret := (some .int)) (by decide) rfl ?_
  intro p e s m args below meth c s₁ B hml hv
  obtain ⟨rfl, hsz, hP, ⟨hK, hN⟩, hD0, hZ⟩ := hv
  have hx := B.exec
  have hb := B.bytes
  have hr := B.returns
  have hts := atoms_spec (ws := wsX4_itemOf) B.pre
  have hown : s.vm.findClass RX4 = some m.cls := findClass_of_methodNamed B.named
  have hlocks := B.notSynchronized
  clear B
  subst hsz
  have hD := hD0.self (sz := s.heap.size)
  clear hD0
  generalize hAe : va_A [] s.heap.size = A at hD hZ ⊢
  have hA : ∀ q : Nat, s.heap.size ≤ q → A q := fun q h => by rw [← hAe]; exact Or.inr h
  have hS : va_S A s.heap s.heap [] := va_S.rf
  have hl := lv_entry ([.int 2, .int zs]) (n := 3) (Nat.le_of_ble_eq_true rfl)
  rw [lg_entry_eq]
  generalize (lg_sl ([.int 2, .int zs]) ++ List.replicate (3 - (lg_sl ([.int 2, .int zs])).length) Slot.unset).toArray = ls at hl ⊢
  have hl : lv_has ls 3 [(0, .int 2), (1, .int zs)] := hl
  generalize hQ : MQ below _ _ s _ _ _ = Q
  generalize hH : s.heap = H at hP ⊢
  have hS : va_S A s.heap H [] := by rw [← hH]; exact hS
  clear hH
  refine lv_iconst (v := 0) hx hb dX4_itemOf_0 (by decide) ?_
  refine lv_istore_n (lv' := [(2, .int 0), (0, .int 2), (1, .int zs)]) hx hb dX4_itemOf_1 rfl hl (by decide) rfl (fun ls hl => ?_)
  refine lv_iload_n hx hb dX4_itemOf_2 rfl (lv_at hl 0 rfl) ?_
  refine lv_iconst (v := 3) hx hb dX4_itemOf_3 (by decide) ?_
  refine lv_icmp_ge (tgt := 29) hx hb dX4_itemOf_4 (by decide) (fun cb => absurd cb (by decide)) (fun _ => ?_)
  refine va_ldcS hx hb hown hN.2.2.2.2.2.2.2.2.2.2.2.2.2 dX4_itemOf_7 ?_
  refine lv_iload_n hx hb dX4_itemOf_9 rfl (lv_at hl 1 rfl) ?_
  refine lv_iconst (v := 3) hx hb dX4_itemOf_10 (by decide) ?_
  refine lv_imul hx hb dX4_itemOf_11 ?_
  refine lv_eqi (y := 6) (by decide) ?_
  refine lv_iload_n hx hb dX4_itemOf_12 rfl (lv_at hl 0 rfl) ?_
  refine lv_iadd hx hb dX4_itemOf_13 ?_
  refine lv_eqi (y := 6) (by decide) ?_
  refine ky_Ki (As := [.int 6]) (rest := []) ⟨hx, hb, hml, hown, hts⟩ ⟨hK, hN⟩ hZ hP hD hS hA [] [] (wc := []) (wr := []) rfl rfl rfl rfl (by decide) (r_J0_charAt_6 l D g H.size) (cwV 1 hts gX4_itemOf_J0_charAt_5068e rfl rfl rfl (by decide +kernel) ⟨(Nat.le_of_ble_eq_true rfl), (Nat.le_of_ble_eq_true rfl)⟩) (vk_recv hZ.2.2.2.2.2.2.2.2.2.2 (i := 0) (by decide) hS) rfl hl.1 rfl (Nat.le_of_ble_eq_true rfl) dX4_itemOf_14 ⟨(Nat.le_of_ble_eq_true rfl), (Nat.le_of_ble_eq_true rfl)⟩ (fun r_1 u H locs hw hP2 hD2 hS2 => ?_)
  clear hP hD hS
  obtain ⟨rfl, rfl⟩ := hw
  have hPD : PD D A [] H := ⟨hP2, hD2⟩
  have hS := hS2; clear hP2 hD2 hS2; have hP := hPD.1; have hD := hPD.2; clear hPD
  refine W.widen (k := 0) (n := 0) (Nat.le_of_ble_eq_true rfl) (Nat.le_of_ble_eq_true rfl) ?_
  refine lv_iload_n hx hb dX4_itemOf_17 rfl (lv_at hl 2 rfl) ?_
  refine lv_icmp_ne (tgt := 23) hx hb dX4_itemOf_18 (by decide) (fun cb_2 => ?_) (fun cb_2 => ?_)
  · skip
    refine lv_iinc (v := 1) (lv' := [(2, .int 1), (0, .int 2), (1, .int zs)]) hx hb dX4_itemOf_23 hl (k := 0) rfl (by decide) (by decide) rfl (fun ls hl => ?_)
    refine lv_goto (tgt := 2) hx hb dX4_itemOf_26 (by decide) ?_
    refine lv_iload_n hx hb dX4_itemOf_2 rfl (lv_at hl 0 rfl) ?_
    refine lv_iconst (v := 3) hx hb dX4_itemOf_3 (by decide) ?_
    refine lv_icmp_ge (tgt := 29) hx hb dX4_itemOf_4 (by decide) (fun cb => absurd cb (by decide)) (fun _ => ?_)
    refine va_ldcS hx hb hown hN.2.2.2.2.2.2.2.2.2.2.2.2.2 dX4_itemOf_7 ?_
    refine lv_iload_n hx hb dX4_itemOf_9 rfl (lv_at hl 1 rfl) ?_
    refine lv_iconst (v := 3) hx hb dX4_itemOf_10 (by decide) ?_
    refine lv_imul hx hb dX4_itemOf_11 ?_
    refine lv_eqi (y := 6) (by decide) ?_
    refine lv_iload_n hx hb dX4_itemOf_12 rfl (lv_at hl 0 rfl) ?_
    refine lv_iadd hx hb dX4_itemOf_13 ?_
    refine lv_eqi (y := 7) (by decide) ?_
    refine ky_Ki (As := [.int 7]) (rest := []) ⟨hx, hb, hml, hown, hts⟩ ⟨hK, hN⟩ hZ hP hD hS hA [] [] (wc := []) (wr := []) rfl rfl rfl rfl (by decide) (r_J0_charAt_7 l D g H.size) (cwV 1 hts gX4_itemOf_J0_charAt_5068e rfl rfl rfl (by decide +kernel) ⟨(Nat.le_of_ble_eq_true rfl), (Nat.le_of_ble_eq_true rfl)⟩) (vk_recv hZ.2.2.2.2.2.2.2.2.2.2 (i := 0) (by decide) hS) rfl hl.1 rfl (Nat.le_of_ble_eq_true rfl) dX4_itemOf_14 ⟨(Nat.le_of_ble_eq_true rfl), (Nat.le_of_ble_eq_true rfl)⟩ (fun r_3 u H locs hw hP2 hD2 hS2 => ?_)
    clear hP hD hS
    obtain ⟨rfl, rfl⟩ := hw
    have hPD : PD D A [] H := ⟨hP2, hD2⟩
    have hS := hS2; clear hP2 hD2 hS2; have hP := hPD.1; have hD := hPD.2; clear hPD
    refine W.widen (k := 0) (n := 0) (Nat.le_of_ble_eq_true rfl) (Nat.le_of_ble_eq_true rfl) ?_
    refine lv_iload_n hx hb dX4_itemOf_17 rfl (lv_at hl 2 rfl) ?_
    refine lv_icmp_ne (tgt := 23) hx hb dX4_itemOf_18 (by decide) (fun cb_4 => ?_) (fun cb_4 => ?_)
    · skip
      refine lv_iinc (v := 2) (lv' := [(2, .int 2), (0, .int 2), (1, .int zs)]) hx hb dX4_itemOf_23 hl (k := 0) rfl (by decide) (by decide) rfl (fun ls hl => ?_)
      refine lv_goto (tgt := 2) hx hb dX4_itemOf_26 (by decide) ?_
      refine lv_iload_n hx hb dX4_itemOf_2 rfl (lv_at hl 0 rfl) ?_
      refine lv_iconst (v := 3) hx hb dX4_itemOf_3 (by decide) ?_
      refine lv_icmp_ge (tgt := 29) hx hb dX4_itemOf_4 (by decide) (fun cb => absurd cb (by decide)) (fun _ => ?_)
      refine va_ldcS hx hb hown hN.2.2.2.2.2.2.2.2.2.2.2.2.2 dX4_itemOf_7 ?_
      refine lv_iload_n hx hb dX4_itemOf_9 rfl (lv_at hl 1 rfl) ?_
      refine lv_iconst (v := 3) hx hb dX4_itemOf_10 (by decide) ?_
      refine lv_imul hx hb dX4_itemOf_11 ?_
      refine lv_eqi (y := 6) (by decide) ?_
      refine lv_iload_n hx hb dX4_itemOf_12 rfl (lv_at hl 0 rfl) ?_
      refine lv_iadd hx hb dX4_itemOf_13 ?_
      refine lv_eqi (y := 8) (by decide) ?_
      refine ky_Ki (As := [.int 8]) (rest := []) ⟨hx, hb, hml, hown, hts⟩ ⟨hK, hN⟩ hZ hP hD hS hA [] [] (wc := []) (wr := []) rfl rfl rfl rfl (by decide) (r_J0_charAt_8 l D g H.size) (cwV 1 hts gX4_itemOf_J0_charAt_5068e rfl rfl rfl (by decide +kernel) ⟨(Nat.le_of_ble_eq_true rfl), (Nat.le_of_ble_eq_true rfl)⟩) (vk_recv hZ.2.2.2.2.2.2.2.2.2.2 (i := 0) (by decide) hS) rfl hl.1 rfl (Nat.le_of_ble_eq_true rfl) dX4_itemOf_14 ⟨(Nat.le_of_ble_eq_true rfl), (Nat.le_of_ble_eq_true rfl)⟩ (fun r_5 u H locs hw hP2 hD2 hS2 => ?_)
      clear hP hD hS
      obtain ⟨rfl, rfl⟩ := hw
      have hPD : PD D A [] H := ⟨hP2, hD2⟩
      have hS := hS2; clear hP2 hD2 hS2; have hP := hPD.1; have hD := hPD.2; clear hPD
      refine W.widen (k := 0) (n := 0) (Nat.le_of_ble_eq_true rfl) (Nat.le_of_ble_eq_true rfl) ?_
      refine lv_iload_n hx hb dX4_itemOf_17 rfl (lv_at hl 2 rfl) ?_
      refine lv_icmp_ne (tgt := 23) hx hb dX4_itemOf_18 (by decide) (fun cb_6 => ?_) (fun cb_6 => ?_)
      · skip
        refine lv_iinc (v := 3) (lv' := [(2, .int 3), (0, .int 2), (1, .int zs)]) hx hb dX4_itemOf_23 hl (k := 0) rfl (by decide) (by decide) rfl (fun ls hl => ?_)
        refine lv_goto (tgt := 2) hx hb dX4_itemOf_26 (by decide) ?_
        refine lv_iload_n hx hb dX4_itemOf_2 rfl (lv_at hl 0 rfl) ?_
        refine lv_iconst (v := 3) hx hb dX4_itemOf_3 (by decide) ?_
        refine lv_icmp_ge (tgt := 29) hx hb dX4_itemOf_4 (by decide) (fun _ => ?_) (fun cb => absurd (by decide) cb)
        refine lv_iconst (v := (-1)) hx hb dX4_itemOf_29 (by decide) ?_
        have hP9 := hP; have hD9 := hD
        subst hQ
        refine W.widen (k := 0) (n := 0) (Nat.le_of_ble_eq_true rfl) (Nat.le_of_ble_eq_true rfl) ?_
        exact W.iret (v := (-1)) hx hb hr (fun tS htS _ => ⟨⟨_, _, rfl, ⟨rfl, (by unfold it2; rw [if_neg (fun q => cb_2 q.symm), if_neg (fun q => cb_4 q.symm), if_neg (fun q => cb_6 q.symm)])⟩, by rw [htS]; exact hP9, hD9⟩, hS.F htS⟩) hS.2.2 dX4_itemOf_30
      · skip
        refine lv_iload_n hx hb dX4_itemOf_21 rfl (lv_at hl 0 rfl) ?_
        have hP9 := hP; have hD9 := hD
        subst hQ
        refine W.widen (k := 0) (n := 0) (Nat.le_of_ble_eq_true rfl) (Nat.le_of_ble_eq_true rfl) ?_
        exact W.iret (v := 2) hx hb hr (fun tS htS _ => ⟨⟨_, _, rfl, ⟨rfl, (by unfold it2; rw [if_neg (fun q => cb_2 q.symm), if_neg (fun q => cb_4 q.symm), if_pos cb_6.symm])⟩, by rw [htS]; exact hP9, hD9⟩, hS.F htS⟩) hS.2.2 dX4_itemOf_22
    · skip
      refine lv_iload_n hx hb dX4_itemOf_21 rfl (lv_at hl 0 rfl) ?_
      have hP9 := hP; have hD9 := hD
      subst hQ
      refine W.widen (k := 0) (n := 0) (Nat.le_of_ble_eq_true rfl) (Nat.le_of_ble_eq_true rfl) ?_
      exact W.iret (v := 1) hx hb hr (fun tS htS _ => ⟨⟨_, _, rfl, ⟨rfl, (by unfold it2; rw [if_neg (fun q => cb_2 q.symm), if_pos cb_4.symm])⟩, by rw [htS]; exact hP9, hD9⟩, hS.F htS⟩) hS.2.2 dX4_itemOf_22
  · skip
    refine lv_iload_n hx hb dX4_itemOf_21 rfl (lv_at hl 0 rfl) ?_
    have hP9 := hP; have hD9 := hD
    subst hQ
    refine W.widen (k := 0) (n := 0) (Nat.le_of_ble_eq_true rfl) (Nat.le_of_ble_eq_true rfl) ?_
    exact W.iret (v := 0) hx hb hr (fun tS htS _ => ⟨⟨_, _, rfl, ⟨rfl, (by unfold it2; rw [if_pos cb_2.symm])⟩, by rw [htS]; exact hP9, hD9⟩, hS.F htS⟩) hS.2.2 dX4_itemOf_22
