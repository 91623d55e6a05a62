set_option maxHeartbeats 4000000 in
set_option maxRecDepth 100000 in
/-- an update is sent, no jam -/
theorem c_X3_sendUpdate (l : Launch) (D : va_G) (g : Nat → ClassId) (sz : Nat) (n : Nat) (nl : Nat) (nf : Nat) (nb : Nat) (L : Nat) (ca : Nat) (ua : Nat) (pa : Nat) (la : Nat) (a0 : Nat) (a1 : Nat) (a2 : Nat) (f0 : Int32) (f1 : Int32) (f2 : Int32) (f3 : Int32) (f4 : Int32) (f5 : Int32) (f6 : Int32) (t : Nat) (d : Nat) (ev : Nat) (lt : Int32) (se : Int32) (fu : Nat → Int32) (ht : t < 2 ^ 30) (hd : d < 5) : Met l yX3_sendUpdate wsX3_sendUpdate ({ frames := 0, cells := 0, slots := 0, locals := 0 }) (va_Pc [.ref n, .ref L, .int 0] (pre D g sz [(n, .inr (3, [.int 1, .int 1, .int 1, .int 0, .int 0, .int (nI t), .int 0, .int 0, .ref nl, .ref nf, .ref nb])), (L, .inr (2, [.int (nI d), .int 30, .int (nI ev), .int 0, .int lt, .int se, .ref ca, .ref ua, .ref pa, .ref la])), (ua, .inl (g 0, 15, .inl fu)), (la, .inl (g 2, 3, .inr (.inr (.inr (.inr (rf3 a0 a1 a2)))))), (a0, .inr (1, [.int f0, .int f1, .int f2, .int f3, .int f4, .int f5, .int f6]))])) (va_Qv (fun (u : va_W) => u = [(n, .inr (3, [.int 1, .int 1, .int 1, .int 0, .int 0, .int (nI t), .int 0, .int 0, .ref nl, .ref nf, .ref nb])), (L, .inr (2, [.int (nI d), .int 30, .int (nI ev), .int 0, .int lt, .int se, .ref ca, .ref ua, .ref pa, .ref la])), (ua, .inl (g 0, 15, .inl (upd fu ((t + d) % 5 * 3 + 0) f1))), (la, .inl (g 2, 3, .inr (.inr (.inr (.inr (rf3 a0 a1 a2)))))), (a0, .inr (1, [.int f0, .int f1, .int f2, .int f3, .int f4, .int f5, .int f6]))]) (wd D (va_A [(n, .inr (3, [.int 1, .int 1, .int 1, .int 0, .int 0, .int (nI t), .int 0, .int 0, .ref nl, .ref nf, .ref nb])), (L, .inr (2, [.int (nI d), .int 30, .int (nI ev), .int 0, .int lt, .int se, .ref ca, .ref ua, .ref pa, .ref la])), (ua, .inl (g 0, 15, .inl fu)), (la, .inl (g 2, 3, .inr (.inr (.inr (.inr (rf3 a0 a1 a2)))))), (a0, .inr (1, [.int f0, .int f1, .int f2, .int f3, .int f4, .int f5, .int f6]))] sz)) (va_A [(n, .inr (3, [.int 1, .int 1, .int 1, .int 0, .int 0, .int (nI t), .int 0, .int 0, .ref nl, .ref nf, .ref nb])), (L, .inr (2, [.int (nI d), .int 30, .int (nI ev), .int 0, .int lt, .int se, .ref ca, .ref ua, .ref pa, .ref la])), (ua, .inl (g 0, 15, .inl fu)), (la, .inl (g 2, 3, .inr (.inr (.inr (.inr (rf3 a0 a1 a2)))))), (a0, .inr (1, [.int f0, .int f1, .int f2, .int f3, .int f4, .int f5, .int f6]))] sz)) 0 0 (va_A [(n, .inr (3, [.int 1, .int 1, .int 1, .int 0, .int 0, .int (nI t), .int 0, .int 0, .ref nl, .ref nf, .ref nb])), (L, .inr (2, [.int (nI d), .int 30, .int (nI ev), .int 0, .int lt, .int se, .ref ca, .ref ua, .ref pa, .ref la])), (ua, .inl (g 0, 15, .inl fu)), (la, .inl (g 2, 3, .inr (.inr (.inr (.inr (rf3 a0 a1 a2)))))), (a0, .inr (1, [.int f0, .int f1, .int f2, .int f3, .int f4, .int f5, .int f6]))] sz) := by
  refine Met.ofW (cc := cX3_sendUpdate) (maxL := 3) (ret := none) (by decide) rfl ?_
  intro p e s m args below meth c s₁ B hml hv
  obtain ⟨rfl, hsz, hP, ⟨hK, hN⟩, hD0, hZ⟩ := hv
  have hx := B.exec
  have hb := B.bytes
  have hr := B.returns
  have hts := atoms_spec (ws := wsX3_sendUpdate) B.pre
  have hown : s.vm.findClass RX3 = some m.cls := findClass_of_methodNamed B.named
  have hlocks := B.notSynchronized
  clear B
  subst hsz
  have hD := hD0.self (sz := s.heap.size)
  clear hD0
  generalize hAe : va_A [(n, .inr (3, [.int 1, .int 1, .int 1, .int 0, .int 0, .int (nI t), .int 0, .int 0, .ref nl, .ref nf, .ref nb])), (L, .inr (2, [.int (nI d), .int 30, .int (nI ev), .int 0, .int lt, .int se, .ref ca, .ref ua, .ref pa, .ref la])), (ua, .inl (g 0, 15, .inl fu)), (la, .inl (g 2, 3, .inr (.inr (.inr (.inr (rf3 a0 a1 a2)))))), (a0, .inr (1, [.int f0, .int f1, .int f2, .int f3, .int f4, .int f5, .int f6]))] s.heap.size = A at hD hZ ⊢
  have hA : ∀ q : Nat, s.heap.size ≤ q → A q := fun q h => by rw [← hAe]; exact Or.inr h
  have hS : va_S A s.heap s.heap [] := va_S.rf
  have f125 := hts (.fieldLink RX3 125 "HopCredits$Link" "updateAt" "[I") (by decide +kernel)
  have f128 := hts (.fieldLink RX3 128 "HopCredits$Link" "lanes" "[LHopCredits$Lane;") (by decide +kernel)
  have f183 := hts (.fieldLink RX3 183 "HopCredits$Link" "delay" "I") (by decide +kernel)
  have f198 := hts (.fieldLink RX3 198 "HopCredits$Lane" "gone" "I") (by decide +kernel)
  have f207 := hts (.fieldLink RX3 207 "HopCredits$Link" "jammed" "I") (by decide +kernel)
  have f78 := hts (.fieldLink RX3 78 "HopCredits$Net" "tick" "I") (by decide +kernel)
  have iX1 : ∀ w ∈ u_ws RX1 TX1 7, w ∈ wsX3_sendUpdate := by decide +kernel
  have iX2 : ∀ w ∈ u_ws RX2 TX2 10, w ∈ wsX3_sendUpdate := by decide +kernel
  have iX3 : ∀ w ∈ u_ws RX3 TX3 11, w ∈ wsX3_sendUpdate := by decide +kernel
  have hl := lv_entry ([.ref n, .ref L, .int 0]) (n := 3) (Nat.le_of_ble_eq_true rfl)
  rw [lg_entry_eq]
  generalize (lg_sl ([.ref n, .ref L, .int 0]) ++ List.replicate (3 - (lg_sl ([.ref n, .ref L, .int 0])).length) Slot.unset).toArray = ls at hl ⊢
  have hl : lv_has ls 3 [(0, .ref n), (1, .ref L), (2, .int 0)] := hl
  generalize hQ : MQ below _ _ s _ _ _ = Q
  generalize hH : s.heap = H at hP ⊢
  have hS : va_S A s.heap H [] := by rw [← hH]; exact hS
  clear hH
  refine lv_aload_n hx hb dX3_sendUpdate_0 rfl (lv_at hl 1 rfl) ?_
  refine va_get (D := D) (ci := 2) (v := .int 0) (C := RX2) (T := TX2) (N := 10) hx hb hts iX2 hown hK hP 1 rfl rfl 3 (by decide) f207 (fun _ h9 => h9) rfl dX3_sendUpdate_1 ?_
  refine lv_if_le (tgt := 28) hx hb dX3_sendUpdate_4 (by decide) (fun _ => ?_) (fun cb => absurd (by decide) cb)
  refine lv_aload_n hx hb dX3_sendUpdate_28 rfl (lv_at hl 1 rfl) ?_
  refine va_get (D := D) (ci := 2) (v := .ref ua) (C := RX2) (T := TX2) (N := 10) hx hb hts iX2 hown hK hP 1 rfl rfl 7 (by decide) f125 (fun _ h9 => h9) rfl dX3_sendUpdate_29 ?_
  refine lv_aload_n hx hb dX3_sendUpdate_32 rfl (lv_at hl 0 rfl) ?_
  refine va_get (D := D) (ci := 3) (v := .int (nI t)) (C := RX3) (T := TX3) (N := 11) hx hb hts iX3 hown hK hP 0 rfl rfl 5 (by decide) f78 (fun _ h9 => h9) rfl dX3_sendUpdate_33 ?_
  refine lv_aload_n hx hb dX3_sendUpdate_36 rfl (lv_at hl 1 rfl) ?_
  refine va_get (D := D) (ci := 2) (v := .int (nI d)) (C := RX2) (T := TX2) (N := 10) hx hb hts iX2 hown hK hP 1 rfl rfl 0 (by decide) f183 (fun _ h9 => h9) rfl dX3_sendUpdate_37 ?_
  refine lv_iadd hx hb dX3_sendUpdate_40 ?_
  refine lv_eqi (y := (nI (t + d))) (nI_add (t) (d)) ?_
  refine lv_iconst (v := 5) hx hb dX3_sendUpdate_41 (by decide) ?_
  refine lv_irem hx hb dX3_sendUpdate_42 (by decide) ?_
  refine lv_eqi (y := (nI ((t + d) % 5))) (pk_rem (show t + d < 2 ^ 31 by omega) (show 0 < 5 by omega) (show 5 < 2 ^ 31 by omega)) ?_
  refine lv_iconst (v := 3) hx hb dX3_sendUpdate_43 (by decide) ?_
  refine lv_imul hx hb dX3_sendUpdate_44 ?_
  refine lv_eqi (y := (nI (((t + d) % 5) * 3))) (pk_mul ((t + d) % 5) (3)) ?_
  refine lv_iload_n hx hb dX3_sendUpdate_45 rfl (lv_at hl 2 rfl) ?_
  refine lv_iadd hx hb dX3_sendUpdate_46 ?_
  refine lv_eqi (y := (nI (((t + d) % 5) * 3 + 0))) (nI_add (((t + d) % 5) * 3) (0)) ?_
  refine lv_aload_n hx hb dX3_sendUpdate_47 rfl (lv_at hl 1 rfl) ?_
  refine va_get (D := D) (ci := 2) (v := .ref la) (C := RX2) (T := TX2) (N := 10) hx hb hts iX2 hown hK hP 1 rfl rfl 9 (by decide) f128 (fun _ h9 => h9) rfl dX3_sendUpdate_48 ?_
  refine lv_iload_n hx hb dX3_sendUpdate_51 rfl (lv_at hl 2 rfl) ?_
  refine va_aldq (C := "HopCredits$Lane") hx hb hK hP 3 2 rfl rfl (by unfold vp_in; decide) dX3_sendUpdate_52 ?_
  refine lv_eqv (v2 := .ref a0) rfl ?_
  refine va_get (D := D) (ci := 1) (v := .int f1) (C := RX1) (T := TX1) (N := 7) hx hb hts iX1 hown hK hP 4 rfl rfl 1 (by decide) f198 (fun _ h9 => h9) rfl dX3_sendUpdate_53 ?_
  refine va_iast hx hb hK hP hD hS 2 0 rfl rfl (vp_in_nI (show ((t + d) % 5) * 3 + 0 < 15 by omega) (by decide)) dX3_sendUpdate_56 (fun H locs hP hD hS => ?_)
  have hP : va_P D vwCl [(n, .inr (3, [.int 1, .int 1, .int 1, .int 0, .int 0, .int (nI t), .int 0, .int 0, .ref nl, .ref nf, .ref nb])), (L, .inr (2, [.int (nI d), .int 30, .int (nI ev), .int 0, .int lt, .int se, .ref ca, .ref ua, .ref pa, .ref la])), (ua, .inl (g 0, 15, .inl (upd fu (nI (((t + d) % 5) * 3 + 0)).toNatClampNeg f1))), (la, .inl (g 2, 3, .inr (.inr (.inr (.inr (rf3 a0 a1 a2)))))), (a0, .inr (1, [.int f0, .int f1, .int f2, .int f3, .int f4, .int f5, .int f6]))] H := hP
  have hD : va_D A [(n, .inr (3, [.int 1, .int 1, .int 1, .int 0, .int 0, .int (nI t), .int 0, .int 0, .ref nl, .ref nf, .ref nb])), (L, .inr (2, [.int (nI d), .int 30, .int (nI ev), .int 0, .int lt, .int se, .ref ca, .ref ua, .ref pa, .ref la])), (ua, .inl (g 0, 15, .inl (upd fu (nI (((t + d) % 5) * 3 + 0)).toNatClampNeg f1))), (la, .inl (g 2, 3, .inr (.inr (.inr (.inr (rf3 a0 a1 a2)))))), (a0, .inr (1, [.int f0, .int f1, .int f2, .int f3, .int f4, .int f5, .int f6]))] := hD
  rw [nI_clamp (show ((t + d) % 5) * 3 + 0 < 2 ^ 31 by omega)] at hP hD
  have hP : va_P D vwCl [(n, .inr (3, [.int 1, .int 1, .int 1, .int 0, .int 0, .int (nI t), .int 0, .int 0, .ref nl, .ref nf, .ref nb])), (L, .inr (2, [.int (nI d), .int 30, .int (nI ev), .int 0, .int lt, .int se, .ref ca, .ref ua, .ref pa, .ref la])), (ua, .inl (g 0, 15, .inl (upd fu (((t + d) % 5) * 3 + 0) f1))), (la, .inl (g 2, 3, .inr (.inr (.inr (.inr (rf3 a0 a1 a2)))))), (a0, .inr (1, [.int f0, .int f1, .int f2, .int f3, .int f4, .int f5, .int f6]))] H := hP
  have hD : va_D A [(n, .inr (3, [.int 1, .int 1, .int 1, .int 0, .int 0, .int (nI t), .int 0, .int 0, .ref nl, .ref nf, .ref nb])), (L, .inr (2, [.int (nI d), .int 30, .int (nI ev), .int 0, .int lt, .int se, .ref ca, .ref ua, .ref pa, .ref la])), (ua, .inl (g 0, 15, .inl (upd fu (((t + d) % 5) * 3 + 0) f1))), (la, .inl (g 2, 3, .inr (.inr (.inr (.inr (rf3 a0 a1 a2)))))), (a0, .inr (1, [.int f0, .int f1, .int f2, .int f3, .int f4, .int f5, .int f6]))] := hD
  have hP9 := hP.sub (ws' := [(n, .inr (3, [.int 1, .int 1, .int 1, .int 0, .int 0, .int (nI t), .int 0, .int 0, .ref nl, .ref nf, .ref nb])), (L, .inr (2, [.int (nI d), .int 30, .int (nI ev), .int 0, .int lt, .int se, .ref ca, .ref ua, .ref pa, .ref la])), (ua, .inl (g 0, 15, .inl (upd fu (((t + d) % 5) * 3 + 0) f1))), (la, .inl (g 2, 3, .inr (.inr (.inr (.inr (rf3 a0 a1 a2)))))), (a0, .inr (1, [.int f0, .int f1, .int f2, .int f3, .int f4, .int f5, .int f6]))]) [0, 1, 2, 3, 4] rfl
  have hD9 := hD.sub (ws' := [(n, .inr (3, [.int 1, .int 1, .int 1, .int 0, .int 0, .int (nI t), .int 0, .int 0, .ref nl, .ref nf, .ref nb])), (L, .inr (2, [.int (nI d), .int 30, .int (nI ev), .int 0, .int lt, .int se, .ref ca, .ref ua, .ref pa, .ref la])), (ua, .inl (g 0, 15, .inl (upd fu (((t + d) % 5) * 3 + 0) f1))), (la, .inl (g 2, 3, .inr (.inr (.inr (.inr (rf3 a0 a1 a2)))))), (a0, .inr (1, [.int f0, .int f1, .int f2, .int f3, .int f4, .int f5, .int f6]))]) [0, 1, 2, 3, 4] (by decide) rfl
  subst hQ
  refine W.widen (k := 0) (n := 0) (Nat.le_of_ble_eq_true rfl) (Nat.le_of_ble_eq_true rfl) ?_
  exact W.vret hx hb hr (fun tS htS _ => ⟨⟨_, rfl, rfl, by rw [htS]; exact hP9, hD9⟩, hS.F htS⟩) hS.2.2 dX3_sendUpdate_57
set_option maxHeartbeats 4000000 in
set_option maxRecDepth 100000 in
/-- GONE is one more -/
theorem c_X3_goneFrom (l : Launch) (D : va_G) (g : Nat → ClassId) (sz : Nat) (n : Nat) (nl : Nat) (nf : Nat) (nb : Nat) (L : Nat) (L1 : Nat) (L2 : Nat) (ca : Nat) (ua : Nat) (pa : Nat) (la : Nat) (a0 : Nat) (a1 : Nat) (a2 : Nat) (f0 : Int32) (f1 : Int32) (f2 : Int32) (f3 : Int32) (f4 : Int32) (f5 : Int32) (f6 : Int32) (t : Nat) (d : Nat) (ev : Nat) (lt : Int32) (se : Int32) (fu : Nat → Int32) (ht : t < 2 ^ 30) (hd : d < 5) : Met l yX3_goneFrom wsX3_goneFrom ({ frames := 1, cells := 0, slots := 0, locals := 22 }) (va_Pc [.ref n, .int 0, .int 0] (pre D g sz [(n, .inr (3, [.int 1, .int 1, .int 1, .int 0, .int 0, .int (nI t), .int 0, .int 0, .ref nl, .ref nf, .ref nb])), (nl, .inl (g 1, 3, .inr (.inr (.inr (.inr (rf3 L L1 L2)))))), (L, .inr (2, [.int (nI d), .int 30, .int (nI ev), .int 0, .int lt, .int se, .ref ca, .ref ua, .ref pa, .ref la])), (ua, .inl (g 0, 15, .inl fu)), (la, .inl (g 2, 3, .inr (.inr (.inr (.inr (rf3 a0 a1 a2)))))), (a0, .inr (1, [.int f0, .int f1, .int f2, .int f3, .int f4, .int f5, .int f6]))])) (va_Qv (fun (u : va_W) => ∃ (su2 : Int32) (fu2 : Nat → Int32), u = [(n, .inr (3, [.int 1, .int 1, .int 1, .int 0, .int 0, .int (nI t), .int 0, .int 0, .ref nl, .ref nf, .ref nb])), (nl, .inl (g 1, 3, .inr (.inr (.inr (.inr (rf3 L L1 L2)))))), (L, .inr (2, [.int (nI d), .int 30, .int (nI ev), .int 0, .int lt, .int se, .ref ca, .ref ua, .ref pa, .ref la])), (ua, .inl (g 0, 15, .inl fu2)), (la, .inl (g 2, 3, .inr (.inr (.inr (.inr (rf3 a0 a1 a2)))))), (a0, .inr (1, [.int f0, .int ((f1 + 1) &&& 63), .int f2, .int f3, .int f4, .int su2, .int f6]))] ∧ (f5 + 1 < nI ev → su2 = f5 + 1 ∧ fu2 = fu) ∧ (¬ f5 + 1 < nI ev → su2 = 0 ∧ fu2 = upd fu ((t + d) % 5 * 3 + 0) ((f1 + 1) &&& 63))) (wd D (va_A [(n, .inr (3, [.int 1, .int 1, .int 1, .int 0, .int 0, .int (nI t), .int 0, .int 0, .ref nl, .ref nf, .ref nb])), (nl, .inl (g 1, 3, .inr (.inr (.inr (.inr (rf3 L L1 L2)))))), (L, .inr (2, [.int (nI d), .int 30, .int (nI ev), .int 0, .int lt, .int se, .ref ca, .ref ua, .ref pa, .ref la])), (ua, .inl (g 0, 15, .inl fu)), (la, .inl (g 2, 3, .inr (.inr (.inr (.inr (rf3 a0 a1 a2)))))), (a0, .inr (1, [.int f0, .int f1, .int f2, .int f3, .int f4, .int f5, .int f6]))] sz)) (va_A [(n, .inr (3, [.int 1, .int 1, .int 1, .int 0, .int 0, .int (nI t), .int 0, .int 0, .ref nl, .ref nf, .ref nb])), (nl, .inl (g 1, 3, .inr (.inr (.inr (.inr (rf3 L L1 L2)))))), (L, .inr (2, [.int (nI d), .int 30, .int (nI ev), .int 0, .int lt, .int se, .ref ca, .ref ua, .ref pa, .ref la])), (ua, .inl (g 0, 15, .inl fu)), (la, .inl (g 2, 3, .inr (.inr (.inr (.inr (rf3 a0 a1 a2)))))), (a0, .inr (1, [.int f0, .int f1, .int f2, .int f3, .int f4, .int f5, .int f6]))] sz)) 0 0 (va_A [(n, .inr (3, [.int 1, .int 1, .int 1, .int 0, .int 0, .int (nI t), .int 0, .int 0, .ref nl, .ref nf, .ref nb])), (nl, .inl (g 1, 3, .inr (.inr (.inr (.inr (rf3 L L1 L2)))))), (L, .inr (2, [.int (nI d), .int 30, .int (nI ev), .int 0, .int lt, .int se, .ref ca, .ref ua, .ref pa, .ref la])), (ua, .inl (g 0, 15, .inl fu)), (la, .inl (g 2, 3, .inr (.inr (.inr (.inr (rf3 a0 a1 a2)))))), (a0, .inr (1, [.int f0, .int f1, .int f2, .int f3, .int f4, .int f5, .int f6]))] sz) := by
  refine Met.ofW (cc := cX3_goneFrom) (maxL := 5) (ret := none) (by decide) rfl ?_
  intro p e s m args below meth c s₁ B hml hv
  obtain ⟨rfl, hsz, hP, ⟨hK, hN⟩, hD0, hZ⟩ := hv
  have hx := B.exec
  have hb := B.bytes
  have hr := B.returns
  have hts := atoms_spec (ws := wsX3_goneFrom) B.pre
  have hown : s.vm.findClass RX3 = some m.cls := findClass_of_methodNamed B.named
  have hlocks := B.notSynchronized
  clear B
  subst hsz
  have hD := hD0.self (sz := s.heap.size)
  clear hD0
  generalize hAe : va_A [(n, .inr (3, [.int 1, .int 1, .int 1, .int 0, .int 0, .int (nI t), .int 0, .int 0, .ref nl, .ref nf, .ref nb])), (nl, .inl (g 1, 3, .inr (.inr (.inr (.inr (rf3 L L1 L2)))))), (L, .inr (2, [.int (nI d), .int 30, .int (nI ev), .int 0, .int lt, .int se, .ref ca, .ref ua, .ref pa, .ref la])), (ua, .inl (g 0, 15, .inl fu)), (la, .inl (g 2, 3, .inr (.inr (.inr (.inr (rf3 a0 a1 a2)))))), (a0, .inr (1, [.int f0, .int f1, .int f2, .int f3, .int f4, .int f5, .int f6]))] s.heap.size = A at hD hZ ⊢
  have hA : ∀ q : Nat, s.heap.size ≤ q → A q := fun q h => by rw [← hAe]; exact Or.inr h
  have hS : va_S A s.heap s.heap [] := va_S.rf
  have f11 := hts (.fieldLink RX3 11 "HopCredits$Net" "links" "[LHopCredits$Link;") (by decide +kernel)
  have f128 := hts (.fieldLink RX3 128 "HopCredits$Link" "lanes" "[LHopCredits$Lane;") (by decide +kernel)
  have f198 := hts (.fieldLink RX3 198 "HopCredits$Lane" "gone" "I") (by decide +kernel)
  have f201 := hts (.fieldLink RX3 201 "HopCredits$Lane" "sinceUpdate" "I") (by decide +kernel)
  have f204 := hts (.fieldLink RX3 204 "HopCredits$Link" "every" "I") (by decide +kernel)
  have iX1 : ∀ w ∈ u_ws RX1 TX1 7, w ∈ wsX3_goneFrom := by decide +kernel
  have iX2 : ∀ w ∈ u_ws RX2 TX2 10, w ∈ wsX3_goneFrom := by decide +kernel
  have iX3 : ∀ w ∈ u_ws RX3 TX3 11, w ∈ wsX3_goneFrom := by decide +kernel
  have hl := lv_entry ([.ref n, .int 0, .int 0]) (n := 5) (Nat.le_of_ble_eq_true rfl)
  rw [lg_entry_eq]
  generalize (lg_sl ([.ref n, .int 0, .int 0]) ++ List.replicate (5 - (lg_sl ([.ref n, .int 0, .int 0])).length) Slot.unset).toArray = ls at hl ⊢
  have hl : lv_has ls 5 [(0, .ref n), (1, .int 0), (2, .int 0)] := hl
  generalize hQ : MQ below _ _ s _ _ _ = Q
  generalize hH : s.heap = H at hP ⊢
  have hS : va_S A s.heap H [] := by rw [← hH]; exact hS
  clear hH
  refine lv_aload_n hx hb dX3_goneFrom_0 rfl (lv_at hl 0 rfl) ?_
  refine va_get (D := D) (ci := 3) (v := .ref nl) (C := RX3) (T := TX3) (N := 11) hx hb hts iX3 hown hK hP 0 rfl rfl 8 (by decide) f11 (fun _ h9 => h9) rfl dX3_goneFrom_1 ?_
  refine lv_iload_n hx hb dX3_goneFrom_4 rfl (lv_at hl 1 rfl) ?_
  refine va_aldq (C := "HopCredits$Link") hx hb hK hP 1 1 rfl rfl (by unfold vp_in; decide) dX3_goneFrom_5 ?_
  refine lv_eqv (v2 := .ref L) rfl ?_
  refine lv_astore_n (lv' := [(3, .ref L), (0, .ref n), (1, .int 0), (2, .int 0)]) hx hb dX3_goneFrom_6 rfl hl (by decide) rfl (fun ls hl => ?_)
  refine lv_aload_n hx hb dX3_goneFrom_7 rfl (lv_at hl 0 rfl) ?_
  refine va_get (D := D) (ci := 2) (v := .ref la) (C := RX2) (T := TX2) (N := 10) hx hb hts iX2 hown hK hP 2 rfl rfl 9 (by decide) f128 (fun _ h9 => h9) rfl dX3_goneFrom_8 ?_
  refine lv_iload_n hx hb dX3_goneFrom_11 rfl (lv_at hl 3 rfl) ?_
  refine va_aldq (C := "HopCredits$Lane") hx hb hK hP 4 2 rfl rfl (by unfold vp_in; decide) dX3_goneFrom_12 ?_
  refine lv_eqv (v2 := .ref a0) rfl ?_
  refine lv_astore (lv' := [(4, .ref a0), (3, .ref L), (0, .ref n), (1, .int 0), (2, .int 0)]) hx hb dX3_goneFrom_13 hl (by decide) rfl (fun ls hl => ?_)
  refine lv_aload hx hb dX3_goneFrom_15 (lv_at hl 0 rfl) ?_
  refine lv_aload hx hb dX3_goneFrom_17 (lv_at hl 0 rfl) ?_
  refine va_get (D := D) (ci := 1) (v := .int f1) (C := RX1) (T := TX1) (N := 7) hx hb hts iX1 hown hK hP 5 rfl rfl 1 (by decide) f198 (fun _ h9 => h9) rfl dX3_goneFrom_19 ?_
  refine lv_iconst (v := 1) hx hb dX3_goneFrom_22 (by decide) ?_
  refine lv_iadd hx hb dX3_goneFrom_23 ?_
  refine lv_bipush (v := 63) hx hb dX3_goneFrom_24 (by decide) ?_
  refine lv_iand hx hb dX3_goneFrom_26 ?_
  refine va_put (D := D) (ci := 1) (v := .int ((f1 + 1) &&& 63)) (ty := .int) (C := RX1) (T := TX1) (N := 7) hx hb hts iX1 tyX1 tyX1_ok nmX1 hown hK hP hD hS 5 rfl rfl 1 (by decide) f198 (fun _ h9 => h9) rfl (by decide +kernel) (rfl) (rfl) (Nat.le_of_ble_eq_true rfl) dX3_goneFrom_27 (fun H locs hP hD hS => ?_)
  have hP : va_P D vwCl [(n, .inr (3, [.int 1, .int 1, .int 1, .int 0, .int 0, .int (nI t), .int 0, .int 0, .ref nl, .ref nf, .ref nb])), (nl, .inl (g 1, 3, .inr (.inr (.inr (.inr (rf3 L L1 L2)))))), (L, .inr (2, [.int (nI d), .int 30, .int (nI ev), .int 0, .int lt, .int se, .ref ca, .ref ua, .ref pa, .ref la])), (ua, .inl (g 0, 15, .inl fu)), (la, .inl (g 2, 3, .inr (.inr (.inr (.inr (rf3 a0 a1 a2)))))), (a0, .inr (1, [.int f0, .int ((f1 + 1) &&& 63), .int f2, .int f3, .int f4, .int f5, .int f6]))] H := hP
  have hD : va_D A [(n, .inr (3, [.int 1, .int 1, .int 1, .int 0, .int 0, .int (nI t), .int 0, .int 0, .ref nl, .ref nf, .ref nb])), (nl, .inl (g 1, 3, .inr (.inr (.inr (.inr (rf3 L L1 L2)))))), (L, .inr (2, [.int (nI d), .int 30, .int (nI ev), .int 0, .int lt, .int se, .ref ca, .ref ua, .ref pa, .ref la])), (ua, .inl (g 0, 15, .inl fu)), (la, .inl (g 2, 3, .inr (.inr (.inr (.inr (rf3 a0 a1 a2)))))), (a0, .inr (1, [.int f0, .int ((f1 + 1) &&& 63), .int f2, .int f3, .int f4, .int f5, .int f6]))] := hD
  refine lv_aload hx hb dX3_goneFrom_30 (lv_at hl 0 rfl) ?_
  refine lv_dup hx hb dX3_goneFrom_32 rfl ?_
  refine va_get (D := D) (ci := 1) (v := .int f5) (C := RX1) (T := TX1) (N := 7) hx hb hts iX1 hown hK hP 5 rfl rfl 5 (by decide) f201 (fun _ h9 => h9) rfl dX3_goneFrom_33 ?_
  refine lv_iconst (v := 1) hx hb dX3_goneFrom_36 (by decide) ?_
  refine lv_iadd hx hb dX3_goneFrom_37 ?_
  refine va_put (D := D) (ci := 1) (v := .int (f5 + 1)) (ty := .int) (C := RX1) (T := TX1) (N := 7) hx hb hts iX1 tyX1 tyX1_ok nmX1 hown hK hP hD hS 5 rfl rfl 5 (by decide) f201 (fun _ h9 => h9) rfl (by decide +kernel) (rfl) (rfl) (Nat.le_of_ble_eq_true rfl) dX3_goneFrom_38 (fun H locs hP hD hS => ?_)
  have hP : va_P D vwCl [(n, .inr (3, [.int 1, .int 1, .int 1, .int 0, .int 0, .int (nI t), .int 0, .int 0, .ref nl, .ref nf, .ref nb])), (nl, .inl (g 1, 3, .inr (.inr (.inr (.inr (rf3 L L1 L2)))))), (L, .inr (2, [.int (nI d), .int 30, .int (nI ev), .int 0, .int lt, .int se, .ref ca, .ref ua, .ref pa, .ref la])), (ua, .inl (g 0, 15, .inl fu)), (la, .inl (g 2, 3, .inr (.inr (.inr (.inr (rf3 a0 a1 a2)))))), (a0, .inr (1, [.int f0, .int ((f1 + 1) &&& 63), .int f2, .int f3, .int f4, .int (f5 + 1), .int f6]))] H := hP
  have hD : va_D A [(n, .inr (3, [.int 1, .int 1, .int 1, .int 0, .int 0, .int (nI t), .int 0, .int 0, .ref nl, .ref nf, .ref nb])), (nl, .inl (g 1, 3, .inr (.inr (.inr (.inr (rf3 L L1 L2)))))), (L, .inr (2, [.int (nI d), .int 30, .int (nI ev), .int 0, .int lt, .int se, .ref ca, .ref ua, .ref pa, .ref la])), (ua, .inl (g 0, 15, .inl fu)), (la, .inl (g 2, 3, .inr (.inr (.inr (.inr (rf3 a0 a1 a2)))))), (a0, .inr (1, [.int f0, .int ((f1 + 1) &&& 63), .int f2, .int f3, .int f4, .int (f5 + 1), .int f6]))] := hD
  refine lv_aload hx hb dX3_goneFrom_41 (lv_at hl 0 rfl) ?_
  refine va_get (D := D) (ci := 1) (v := .int (f5 + 1)) (C := RX1) (T := TX1) (N := 7) hx hb hts iX1 hown hK hP 5 rfl rfl 5 (by decide) f201 (fun _ h9 => h9) rfl dX3_goneFrom_43 ?_
  refine lv_aload_n hx hb dX3_goneFrom_46 rfl (lv_at hl 1 rfl) ?_
  refine va_get (D := D) (ci := 2) (v := .int (nI ev)) (C := RX2) (T := TX2) (N := 10) hx hb hts iX2 hown hK hP 2 rfl rfl 2 (by decide) f204 (fun _ h9 => h9) rfl dX3_goneFrom_47 ?_
  refine lv_icmp_lt (tgt := 65) hx hb dX3_goneFrom_50 (by decide) (fun cb_1 => ?_) (fun cb_1 => ?_)
  · skip
    have hP9 := hP.sub (ws' := [(n, .inr (3, [.int 1, .int 1, .int 1, .int 0, .int 0, .int (nI t), .int 0, .int 0, .ref nl, .ref nf, .ref nb])), (nl, .inl (g 1, 3, .inr (.inr (.inr (.inr (rf3 L L1 L2)))))), (L, .inr (2, [.int (nI d), .int 30, .int (nI ev), .int 0, .int lt, .int se, .ref ca, .ref ua, .ref pa, .ref la])), (ua, .inl (g 0, 15, .inl fu)), (la, .inl (g 2, 3, .inr (.inr (.inr (.inr (rf3 a0 a1 a2)))))), (a0, .inr (1, [.int f0, .int ((f1 + 1) &&& 63), .int f2, .int f3, .int f4, .int (f5 + 1), .int f6]))]) [0, 1, 2, 3, 4, 5] rfl
    have hD9 := hD.sub (ws' := [(n, .inr (3, [.int 1, .int 1, .int 1, .int 0, .int 0, .int (nI t), .int 0, .int 0, .ref nl, .ref nf, .ref nb])), (nl, .inl (g 1, 3, .inr (.inr (.inr (.inr (rf3 L L1 L2)))))), (L, .inr (2, [.int (nI d), .int 30, .int (nI ev), .int 0, .int lt, .int se, .ref ca, .ref ua, .ref pa, .ref la])), (ua, .inl (g 0, 15, .inl fu)), (la, .inl (g 2, 3, .inr (.inr (.inr (.inr (rf3 a0 a1 a2)))))), (a0, .inr (1, [.int f0, .int ((f1 + 1) &&& 63), .int f2, .int f3, .int f4, .int (f5 + 1), .int f6]))]) [0, 1, 2, 3, 4, 5] (by decide) rfl
    subst hQ
    refine W.widen (k := 0) (n := 0) (Nat.le_of_ble_eq_true rfl) (Nat.le_of_ble_eq_true rfl) ?_
    exact W.vret hx hb hr (fun tS htS _ => ⟨⟨_, rfl, ⟨(f5 + 1), fu, rfl, fun _ => ⟨rfl, rfl⟩, fun h => absurd cb_1 h⟩, by rw [htS]; exact hP9, hD9⟩, hS.F htS⟩) hS.2.2 dX3_goneFrom_65
  · skip
    refine lv_aload hx hb dX3_goneFrom_53 (lv_at hl 0 rfl) ?_
    refine lv_iconst (v := 0) hx hb dX3_goneFrom_55 (by decide) ?_
    refine va_put (D := D) (ci := 1) (v := .int 0) (ty := .int) (C := RX1) (T := TX1) (N := 7) hx hb hts iX1 tyX1 tyX1_ok nmX1 hown hK hP hD hS 5 rfl rfl 5 (by decide) f201 (fun _ h9 => h9) rfl (by decide +kernel) (rfl) (rfl) (Nat.le_of_ble_eq_true rfl) dX3_goneFrom_56 (fun H locs hP hD hS => ?_)
    have hP : va_P D vwCl [(n, .inr (3, [.int 1, .int 1, .int 1, .int 0, .int 0, .int (nI t), .int 0, .int 0, .ref nl, .ref nf, .ref nb])), (nl, .inl (g 1, 3, .inr (.inr (.inr (.inr (rf3 L L1 L2)))))), (L, .inr (2, [.int (nI d), .int 30, .int (nI ev), .int 0, .int lt, .int se, .ref ca, .ref ua, .ref pa, .ref la])), (ua, .inl (g 0, 15, .inl fu)), (la, .inl (g 2, 3, .inr (.inr (.inr (.inr (rf3 a0 a1 a2)))))), (a0, .inr (1, [.int f0, .int ((f1 + 1) &&& 63), .int f2, .int f3, .int f4, .int 0, .int f6]))] H := hP
    have hD : va_D A [(n, .inr (3, [.int 1, .int 1, .int 1, .int 0, .int 0, .int (nI t), .int 0, .int 0, .ref nl, .ref nf, .ref nb])), (nl, .inl (g 1, 3, .inr (.inr (.inr (.inr (rf3 L L1 L2)))))), (L, .inr (2, [.int (nI d), .int 30, .int (nI ev), .int 0, .int lt, .int se, .ref ca, .ref ua, .ref pa, .ref la])), (ua, .inl (g 0, 15, .inl fu)), (la, .inl (g 2, 3, .inr (.inr (.inr (.inr (rf3 a0 a1 a2)))))), (a0, .inr (1, [.int f0, .int ((f1 + 1) &&& 63), .int f2, .int f3, .int f4, .int 0, .int f6]))] := hD
    refine lv_aload_n hx hb dX3_goneFrom_59 rfl (lv_at hl 2 rfl) ?_
    refine lv_aload_n hx hb dX3_goneFrom_60 rfl (lv_at hl 1 rfl) ?_
    refine lv_iload_n hx hb dX3_goneFrom_61 rfl (lv_at hl 4 rfl) ?_
    refine ky_Vv (As := [.ref L, .int 0]) (rest := []) ⟨hx, hb, hml, hown, hts⟩ ⟨hK, hN⟩ hZ hP hD hS hA [0, 2, 3, 4, 5] [1] (wc := [(n, .inr (3, [.int 1, .int 1, .int 1, .int 0, .int 0, .int (nI t), .int 0, .int 0, .ref nl, .ref nf, .ref nb])), (L, .inr (2, [.int (nI d), .int 30, .int (nI ev), .int 0, .int lt, .int se, .ref ca, .ref ua, .ref pa, .ref la])), (ua, .inl (g 0, 15, .inl fu)), (la, .inl (g 2, 3, .inr (.inr (.inr (.inr (rf3 a0 a1 a2)))))), (a0, .inr (1, [.int f0, .int ((f1 + 1) &&& 63), .int f2, .int f3, .int f4, .int 0, .int f6]))]) (wr := [(nl, .inl (g 1, 3, .inr (.inr (.inr (.inr (rf3 L L1 L2))))))]) rfl rfl rfl rfl (by decide) (c_X3_sendUpdate l D g H.size n nl nf nb L ca ua pa la a0 a1 a2 f0 ((f1 + 1) &&& 63) f2 f3 f4 0 f6 t d ev lt se fu (ht) (hd)) (cwV 2 hts gX3_goneFrom_X3_sendUpdate rfl rfl rfl (by decide +kernel) ⟨(Nat.le_of_ble_eq_true rfl), (Nat.le_of_ble_eq_true rfl)⟩) 0 3 rfl rfl rfl rfl hl.1 rfl (Nat.le_of_ble_eq_true rfl) dX3_goneFrom_62 ⟨(Nat.le_of_ble_eq_true rfl), (Nat.le_of_ble_eq_true rfl)⟩ (fun u H locs hw hP hD hS => ?_)
    obtain rfl := hw
    have hP : va_P D vwCl [(nl, .inl (g 1, 3, .inr (.inr (.inr (.inr (rf3 L L1 L2)))))), (n, .inr (3, [.int 1, .int 1, .int 1, .int 0, .int 0, .int (nI t), .int 0, .int 0, .ref nl, .ref nf, .ref nb])), (L, .inr (2, [.int (nI d), .int 30, .int (nI ev), .int 0, .int lt, .int se, .ref ca, .ref ua, .ref pa, .ref la])), (ua, .inl (g 0, 15, .inl (upd fu ((t + d) % 5 * 3 + 0) ((f1 + 1) &&& 63)))), (la, .inl (g 2, 3, .inr (.inr (.inr (.inr (rf3 a0 a1 a2)))))), (a0, .inr (1, [.int f0, .int ((f1 + 1) &&& 63), .int f2, .int f3, .int f4, .int 0, .int f6]))] H := hP
    have hD : va_D A [(nl, .inl (g 1, 3, .inr (.inr (.inr (.inr (rf3 L L1 L2)))))), (n, .inr (3, [.int 1, .int 1, .int 1, .int 0, .int 0, .int (nI t), .int 0, .int 0, .ref nl, .ref nf, .ref nb])), (L, .inr (2, [.int (nI d), .int 30, .int (nI ev), .int 0, .int lt, .int se, .ref ca, .ref ua, .ref pa, .ref la])), (ua, .inl (g 0, 15, .inl (upd fu ((t + d) % 5 * 3 + 0) ((f1 + 1) &&& 63)))), (la, .inl (g 2, 3, .inr (.inr (.inr (.inr (rf3 a0 a1 a2)))))), (a0, .inr (1, [.int f0, .int ((f1 + 1) &&& 63), .int f2, .int f3, .int f4, .int 0, .int f6]))] := hD
    refine W.widen (k := 0) (n := 0) (Nat.le_of_ble_eq_true rfl) (Nat.le_of_ble_eq_true rfl) ?_
    have hP9 := hP.sub (ws' := [(n, .inr (3, [.int 1, .int 1, .int 1, .int 0, .int 0, .int (nI t), .int 0, .int 0, .ref nl, .ref nf, .ref nb])), (nl, .inl (g 1, 3, .inr (.inr (.inr (.inr (rf3 L L1 L2)))))), (L, .inr (2, [.int (nI d), .int 30, .int (nI ev), .int 0, .int lt, .int se, .ref ca, .ref ua, .ref pa, .ref la])), (ua, .inl (g 0, 15, .inl (upd fu ((t + d) % 5 * 3 + 0) ((f1 + 1) &&& 63)))), (la, .inl (g 2, 3, .inr (.inr (.inr (.inr (rf3 a0 a1 a2)))))), (a0, .inr (1, [.int f0, .int ((f1 + 1) &&& 63), .int f2, .int f3, .int f4, .int 0, .int f6]))]) [1, 0, 2, 3, 4, 5] rfl
    have hD9 := hD.sub (ws' := [(n, .inr (3, [.int 1, .int 1, .int 1, .int 0, .int 0, .int (nI t), .int 0, .int 0, .ref nl, .ref nf, .ref nb])), (nl, .inl (g 1, 3, .inr (.inr (.inr (.inr (rf3 L L1 L2)))))), (L, .inr (2, [.int (nI d), .int 30, .int (nI ev), .int 0, .int lt, .int se, .ref ca, .ref ua, .ref pa, .ref la])), (ua, .inl (g 0, 15, .inl (upd fu ((t + d) % 5 * 3 + 0) ((f1 + 1) &&& 63)))), (la, .inl (g 2, 3, .inr (.inr (.inr (.inr (rf3 a0 a1 a2)))))), (a0, .inr (1, [.int f0, .int ((f1 + 1) &&& 63), .int f2, .int f3, .int f4, .int 0, .int f6]))]) [1, 0, 2, 3, 4, 5] (by decide) rfl
    subst hQ
    refine W.widen (k := 0) (n := 0) (Nat.le_of_ble_eq_true rfl) (Nat.le_of_ble_eq_true rfl) ?_
    exact W.vret hx hb hr (fun tS htS _ => ⟨⟨_, rfl, ⟨0, (upd fu ((t + d) % 5 * 3 + 0) ((f1 + 1) &&& 63)), rfl, fun h => absurd h cb_1, fun _ => ⟨rfl, rfl⟩⟩, by rw [htS]; exact hP9, hD9⟩, hS.F htS⟩) hS.2.2 dX3_goneFrom_65
set_option maxHeartbeats 4000000 in
set_option maxRecDepth 100000 in
theorem c_X0_comesIn (l : Launch) (D : va_G) (g : Nat → ClassId) (sz : Nat) (w0 : Nat) (k : Nat) (g3 : Int32) (g4 : Int32) (g5 : Int32) (g6 : Int32) (g7 : Int32) (tt : Int32) : Met l yX0_comesIn wsX0_comesIn ({ frames := 0, cells := 0, slots := 0, locals := 0 }) (va_Pc [.ref w0, .int tt] (pre D g sz [(w0, .inr (0, [.int 0, .int 0, .int (nI k), .int g3, .int g4, .int g5, .int g6, .int g7]))])) (va_Qi (fun (r : Int32) (u : va_W) => u = [(w0, .inr (0, [.int 0, .int 0, .int (nI k), .int g3, .int g4, .int g5, .int g6, .int g7]))] ∧ r = 0) (wd D (va_A [(w0, .inr (0, [.int 0, .int 0, .int (nI k), .int g3, .int g4, .int g5, .int g6, .int g7]))] sz)) (va_A [(w0, .inr (0, [.int 0, .int 0, .int (nI k), .int g3, .int g4, .int g5, .int g6, .int g7]))] sz)) 0 0 (va_A [(w0, .inr (0, [.int 0, .int 0, .int (nI k), .int g3, .int g4, .int g5, .int g6, .int g7]))] sz) := by
  refine Met.ofW (cc := cX0_comesIn) (maxL := 2) (ret := (some .boolean)) (by decide) rfl ?_
  intro p e s m args below meth c s₁ B hml hv
  obtain ⟨rfl, hsz, hP, ⟨hK, hN⟩, hD0, hZ⟩ := hv
  have hx := B.exec
  have hb := B.bytes
  have hr := B.returns
  have hts := atoms_spec (ws := wsX0_comesIn) B.pre
  have hown : s.vm.findClass RX0 = some m.cls := findClass_of_methodNamed B.named
  have hlocks := B.notSynchronized
  clear B
  subst hsz
  have hD := hD0.self (sz := s.heap.size)
  clear hD0
  generalize hAe : va_A [(w0, .inr (0, [.int 0, .int 0, .int (nI k), .int g3, .int g4, .int g5, .int g6, .int g7]))] s.heap.size = A at hD hZ ⊢
  have hA : ∀ q : Nat, s.heap.size ≤ q → A q := fun q h => by rw [← hAe]; exact Or.inr h
  have hS : va_S A s.heap s.heap [] := va_S.rf
  have f7 := hts (.fieldLink RX0 7 "HopCredits$Flow" "gap" "I") (by decide +kernel)
  have iX0 : ∀ w ∈ u_ws RX0 TX0 8, w ∈ wsX0_comesIn := by decide +kernel
  have hl := lv_entry ([.ref w0, .int tt]) (n := 2) (Nat.le_of_ble_eq_true rfl)
  rw [lg_entry_eq]
  generalize (lg_sl ([.ref w0, .int tt]) ++ List.replicate (2 - (lg_sl ([.ref w0, .int tt])).length) Slot.unset).toArray = ls at hl ⊢
  have hl : lv_has ls 2 [(0, .ref w0), (1, .int tt)] := hl
  generalize hQ : MQ below _ _ s _ _ _ = Q
  generalize hH : s.heap = H at hP ⊢
  have hS : va_S A s.heap H [] := by rw [← hH]; exact hS
  clear hH
  refine lv_aload_n hx hb dX0_comesIn_0 rfl (lv_at hl 0 rfl) ?_
  refine va_get (D := D) (ci := 0) (v := .int 0) (C := RX0) (T := TX0) (N := 8) hx hb hts iX0 hown hK hP 0 rfl rfl 0 (by decide) f7 (fun _ h9 => h9) rfl dX0_comesIn_1 ?_
  refine lv_if_le (tgt := 33) hx hb dX0_comesIn_4 (by decide) (fun _ => ?_) (fun cb => absurd (by decide) cb)
  refine lv_iconst (v := 0) hx hb dX0_comesIn_33 (by decide) ?_
  have hP9 := hP.sub (ws' := [(w0, .inr (0, [.int 0, .int 0, .int (nI k), .int g3, .int g4, .int g5, .int g6, .int g7]))]) [0] rfl
  have hD9 := hD.sub (ws' := [(w0, .inr (0, [.int 0, .int 0, .int (nI k), .int g3, .int g4, .int g5, .int g6, .int g7]))]) [0] (by decide) rfl
  subst hQ
  refine W.widen (k := 0) (n := 0) (Nat.le_of_ble_eq_true rfl) (Nat.le_of_ble_eq_true rfl) ?_
  exact W.zret (v := 0) (ty := .boolean) hx hb hr (rfl) (fun tS htS _ => ⟨⟨_, _, rfl, ⟨rfl, rfl⟩, by rw [htS]; exact hP9, hD9⟩, hS.F htS⟩) hS.2.2 dX0_comesIn_34
set_option maxHeartbeats 4000000 in
set_option maxRecDepth 100000 in
theorem c_X3_come (l : Launch) (D : va_G) (g : Nat → ClassId) (sz : Nat) (n : Nat) (nl : Nat) (nf : Nat) (nb : Nat) (w0 : Nat) (w1 : Nat) (w2 : Nat) (k : Nat) (g3 : Int32) (g4 : Int32) (g5 : Int32) (g6 : Int32) (g7 : Int32) (t : Nat) : Met l yX3_come wsX3_come ({ frames := 1, cells := 0, slots := 0, locals := 21 }) (va_Pc [.ref n, .int 0] (pre D g sz [(n, .inr (3, [.int 1, .int 1, .int 1, .int 0, .int 0, .int (nI t), .int 0, .int 0, .ref nl, .ref nf, .ref nb])), (nf, .inl (g 3, 3, .inr (.inr (.inr (.inr (rf3 w0 w1 w2)))))), (w0, .inr (0, [.int 0, .int 0, .int (nI k), .int g3, .int g4, .int g5, .int g6, .int g7]))])) (va_Qv (fun (u : va_W) => u = [(n, .inr (3, [.int 1, .int 1, .int 1, .int 0, .int 0, .int (nI t), .int 0, .int 0, .ref nl, .ref nf, .ref nb])), (nf, .inl (g 3, 3, .inr (.inr (.inr (.inr (rf3 w0 w1 w2)))))), (w0, .inr (0, [.int 0, .int 0, .int (nI k), .int g3, .int g4, .int g5, .int 0, .int g7]))]) (wd D (va_A [(n, .inr (3, [.int 1, .int 1, .int 1, .int 0, .int 0, .int (nI t), .int 0, .int 0, .ref nl, .ref nf, .ref nb])), (nf, .inl (g 3, 3, .inr (.inr (.inr (.inr (rf3 w0 w1 w2)))))), (w0, .inr (0, [.int 0, .int 0, .int (nI k), .int g3, .int g4, .int g5, .int g6, .int g7]))] sz)) (va_A [(n, .inr (3, [.int 1, .int 1, .int 1, .int 0, .int 0, .int (nI t), .int 0, .int 0, .ref nl, .ref nf, .ref nb])), (nf, .inl (g 3, 3, .inr (.inr (.inr (.inr (rf3 w0 w1 w2)))))), (w0, .inr (0, [.int 0, .int 0, .int (nI k), .int g3, .int g4, .int g5, .int g6, .int g7]))] sz)) 0 0 (va_A [(n, .inr (3, [.int 1, .int 1, .int 1, .int 0, .int 0, .int (nI t), .int 0, .int 0, .ref nl, .ref nf, .ref nb])), (nf, .inl (g 3, 3, .inr (.inr (.inr (.inr (rf3 w0 w1 w2)))))), (w0, .inr (0, [.int 0, .int 0, .int (nI k), .int g3, .int g4, .int g5, .int g6, .int g7]))] sz) := by
  refine Met.ofW (cc := cX3_come) (maxL := 3) (ret := none) (by decide) rfl ?_
  intro p e s m args below meth c s₁ B hml hv
  obtain ⟨rfl, hsz, hP, ⟨hK, hN⟩, hD0, hZ⟩ := hv
  have hx := B.exec
  have hb := B.bytes
  have hr := B.returns
  have hts := atoms_spec (ws := wsX3_come) B.pre
  have hown : s.vm.findClass RX3 = some m.cls := findClass_of_methodNamed B.named
  have hlocks := B.notSynchronized
  clear B
  subst hsz
  have hD := hD0.self (sz := s.heap.size)
  clear hD0
  generalize hAe : va_A [(n, .inr (3, [.int 1, .int 1, .int 1, .int 0, .int 0, .int (nI t), .int 0, .int 0, .ref nl, .ref nf, .ref nb])), (nf, .inl (g 3, 3, .inr (.inr (.inr (.inr (rf3 w0 w1 w2)))))), (w0, .inr (0, [.int 0, .int 0, .int (nI k), .int g3, .int g4, .int g5, .int g6, .int g7]))] s.heap.size = A at hD hZ ⊢
  have hA : ∀ q : Nat, s.heap.size ≤ q → A q := fun q h => by rw [← hAe]; exact Or.inr h
  have hS : va_S A s.heap s.heap [] := va_S.rf
  have f147 := hts (.fieldLink RX3 147 "HopCredits$Flow" "cameNow" "Z") (by decide +kernel)
  have f19 := hts (.fieldLink RX3 19 "HopCredits$Net" "flows" "[LHopCredits$Flow;") (by decide +kernel)
  have f78 := hts (.fieldLink RX3 78 "HopCredits$Net" "tick" "I") (by decide +kernel)
  have iX0 : ∀ w ∈ u_ws RX0 TX0 8, w ∈ wsX3_come := by decide +kernel
  have iX3 : ∀ w ∈ u_ws RX3 TX3 11, w ∈ wsX3_come := by decide +kernel
  have hl := lv_entry ([.ref n, .int 0]) (n := 3) (Nat.le_of_ble_eq_true rfl)
  rw [lg_entry_eq]
  generalize (lg_sl ([.ref n, .int 0]) ++ List.replicate (3 - (lg_sl ([.ref n, .int 0])).length) Slot.unset).toArray = ls at hl ⊢
  have hl : lv_has ls 3 [(0, .ref n), (1, .int 0)] := hl
  generalize hQ : MQ below _ _ s _ _ _ = Q
  generalize hH : s.heap = H at hP ⊢
  have hS : va_S A s.heap H [] := by rw [← hH]; exact hS
  clear hH
  refine lv_aload_n hx hb dX3_come_0 rfl (lv_at hl 0 rfl) ?_
  refine va_get (D := D) (ci := 3) (v := .ref nf) (C := RX3) (T := TX3) (N := 11) hx hb hts iX3 hown hK hP 0 rfl rfl 9 (by decide) f19 (fun _ h9 => h9) rfl dX3_come_1 ?_
  refine lv_iload_n hx hb dX3_come_4 rfl (lv_at hl 1 rfl) ?_
  refine va_aldq (C := "HopCredits$Flow") hx hb hK hP 1 3 rfl rfl (by unfold vp_in; decide) dX3_come_5 ?_
  refine lv_eqv (v2 := .ref w0) rfl ?_
  refine lv_astore_n (lv' := [(2, .ref w0), (0, .ref n), (1, .int 0)]) hx hb dX3_come_6 rfl hl (by decide) rfl (fun ls hl => ?_)
  refine lv_aload_n hx hb dX3_come_7 rfl (lv_at hl 0 rfl) ?_
  refine lv_iconst (v := 0) hx hb dX3_come_8 (by decide) ?_
  refine va_put (D := D) (ci := 0) (v := .int 0) (ty := .boolean) (C := RX0) (T := TX0) (N := 8) hx hb hts iX0 tyX0 tyX0_ok nmX0 hown hK hP hD hS 2 rfl rfl 6 (by decide) f147 (fun _ h9 => h9) rfl (by decide +kernel) (rfl) (rfl) (Nat.le_of_ble_eq_true rfl) dX3_come_9 (fun H locs hP hD hS => ?_)
  have hP : va_P D vwCl [(n, .inr (3, [.int 1, .int 1, .int 1, .int 0, .int 0, .int (nI t), .int 0, .int 0, .ref nl, .ref nf, .ref nb])), (nf, .inl (g 3, 3, .inr (.inr (.inr (.inr (rf3 w0 w1 w2)))))), (w0, .inr (0, [.int 0, .int 0, .int (nI k), .int g3, .int g4, .int g5, .int 0, .int g7]))] H := hP
  have hD : va_D A [(n, .inr (3, [.int 1, .int 1, .int 1, .int 0, .int 0, .int (nI t), .int 0, .int 0, .ref nl, .ref nf, .ref nb])), (nf, .inl (g 3, 3, .inr (.inr (.inr (.inr (rf3 w0 w1 w2)))))), (w0, .inr (0, [.int 0, .int 0, .int (nI k), .int g3, .int g4, .int g5, .int 0, .int g7]))] := hD
  refine lv_aload_n hx hb dX3_come_12 rfl (lv_at hl 0 rfl) ?_
  refine lv_aload_n hx hb dX3_come_13 rfl (lv_at hl 1 rfl) ?_
  refine va_get (D := D) (ci := 3) (v := .int (nI t)) (C := RX3) (T := TX3) (N := 11) hx hb hts iX3 hown hK hP 0 rfl rfl 5 (by decide) f78 (fun _ h9 => h9) rfl dX3_come_14 ?_
  refine ky_Vi (As := [.int (nI t)]) (rest := []) ⟨hx, hb, hml, hown, hts⟩ ⟨hK, hN⟩ hZ hP hD hS hA [2] [0, 1] (wc := [(w0, .inr (0, [.int 0, .int 0, .int (nI k), .int g3, .int g4, .int g5, .int 0, .int g7]))]) (wr := [(n, .inr (3, [.int 1, .int 1, .int 1, .int 0, .int 0, .int (nI t), .int 0, .int 0, .ref nl, .ref nf, .ref nb])), (nf, .inl (g 3, 3, .inr (.inr (.inr (.inr (rf3 w0 w1 w2))))))]) rfl rfl rfl rfl (by decide) (c_X0_comesIn l D g H.size w0 k g3 g4 g5 0 g7 (nI t)) (cwV 1 hts gX3_come_X0_comesIn rfl rfl rfl (by decide +kernel) ⟨(Nat.le_of_ble_eq_true rfl), (Nat.le_of_ble_eq_true rfl)⟩) 2 0 rfl rfl rfl rfl hl.1 rfl (Nat.le_of_ble_eq_true rfl) dX3_come_17 ⟨(Nat.le_of_ble_eq_true rfl), (Nat.le_of_ble_eq_true rfl)⟩ (fun r_1 u H locs hw hP hD hS => ?_)
  obtain ⟨rfl, rfl⟩ := hw
  have hP : va_P D vwCl [(n, .inr (3, [.int 1, .int 1, .int 1, .int 0, .int 0, .int (nI t), .int 0, .int 0, .ref nl, .ref nf, .ref nb])), (nf, .inl (g 3, 3, .inr (.inr (.inr (.inr (rf3 w0 w1 w2)))))), (w0, .inr (0, [.int 0, .int 0, .int (nI k), .int g3, .int g4, .int g5, .int 0, .int g7]))] H := hP
  have hD : va_D A [(n, .inr (3, [.int 1, .int 1, .int 1, .int 0, .int 0, .int (nI t), .int 0, .int 0, .ref nl, .ref nf, .ref nb])), (nf, .inl (g 3, 3, .inr (.inr (.inr (.inr (rf3 w0 w1 w2)))))), (w0, .inr (0, [.int 0, .int 0, .int (nI k), .int g3, .int g4, .int g5, .int 0, .int g7]))] := hD
  refine W.widen (k := 0) (n := 0) (Nat.le_of_ble_eq_true rfl) (Nat.le_of_ble_eq_true rfl) ?_
  refine lv_if_ne (tgt := 24) hx hb dX3_come_20 (by decide) (fun cb => absurd (by decide) cb) (fun _ => ?_)
  have hP9 := hP.sub (ws' := [(n, .inr (3, [.int 1, .int 1, .int 1, .int 0, .int 0, .int (nI t), .int 0, .int 0, .ref nl, .ref nf, .ref nb])), (nf, .inl (g 3, 3, .inr (.inr (.inr (.inr (rf3 w0 w1 w2)))))), (w0, .inr (0, [.int 0, .int 0, .int (nI k), .int g3, .int g4, .int g5, .int 0, .int g7]))]) [0, 1, 2] rfl
  have hD9 := hD.sub (ws' := [(n, .inr (3, [.int 1, .int 1, .int 1, .int 0, .int 0, .int (nI t), .int 0, .int 0, .ref nl, .ref nf, .ref nb])), (nf, .inl (g 3, 3, .inr (.inr (.inr (.inr (rf3 w0 w1 w2)))))), (w0, .inr (0, [.int 0, .int 0, .int (nI k), .int g3, .int g4, .int g5, .int 0, .int g7]))]) [0, 1, 2] (by decide) rfl
  subst hQ
  refine W.widen (k := 0) (n := 0) (Nat.le_of_ble_eq_true rfl) (Nat.le_of_ble_eq_true rfl) ?_
  exact W.vret hx hb hr (fun tS htS _ => ⟨⟨_, rfl, rfl, by rw [htS]; exact hP9, hD9⟩, hS.F htS⟩) hS.2.2 dX3_come_23
set_option maxHeartbeats 4000000 in
set_option maxRecDepth 100000 in
theorem c_X0_takesIn (l : Launch) (D : va_G) (g : Nat → ClassId) (sz : Nat) (w0 : Nat) (k : Nat) (g3 : Int32) (g4 : Int32) (g5 : Int32) (g6 : Int32) (g7 : Int32) (t : Nat) (ht : t < 2 ^ 30) (hk0 : 0 < k) (hk1 : k < 10) : Met l yX0_takesIn wsX0_takesIn ({ frames := 0, cells := 0, slots := 0, locals := 0 }) (va_Pc [.ref w0, .int (nI t)] (pre D g sz [(w0, .inr (0, [.int 0, .int 0, .int (nI k), .int g3, .int g4, .int g5, .int g6, .int g7]))])) (va_Qi (fun (r : Int32) (u : va_W) => u = [(w0, .inr (0, [.int 0, .int 0, .int (nI k), .int g3, .int g4, .int g5, .int g6, .int g7]))] ∧ r = (if t % k = 0 then 1 else 0)) (wd D (va_A [(w0, .inr (0, [.int 0, .int 0, .int (nI k), .int g3, .int g4, .int g5, .int g6, .int g7]))] sz)) (va_A [(w0, .inr (0, [.int 0, .int 0, .int (nI k), .int g3, .int g4, .int g5, .int g6, .int g7]))] sz)) 0 0 (va_A [(w0, .inr (0, [.int 0, .int 0, .int (nI k), .int g3, .int g4, .int g5, .int g6, .int g7]))] sz) := by
  refine Met.ofW (cc := cX0_takesIn) (maxL := 2) (ret := (some .boolean)) (by decide) rfl ?_
  intro p e s m args below meth c s₁ B hml hv
  obtain ⟨rfl, hsz, hP, ⟨hK, hN⟩, hD0, hZ⟩ := hv
  have hx := B.exec
  have hb := B.bytes
  have hr := B.returns
  have hts := atoms_spec (ws := wsX0_takesIn) B.pre
  have hown : s.vm.findClass RX0 = some m.cls := findClass_of_methodNamed B.named
  have hlocks := B.notSynchronized
  clear B
  subst hsz
  have hD := hD0.self (sz := s.heap.size)
  clear hD0
  generalize hAe : va_A [(w0, .inr (0, [.int 0, .int 0, .int (nI k), .int g3, .int g4, .int g5, .int g6, .int g7]))] s.heap.size = A at hD hZ ⊢
  have hA : ∀ q : Nat, s.heap.size ≤ q → A q := fun q h => by rw [← hAe]; exact Or.inr h
  have hS : va_S A s.heap s.heap [] := va_S.rf
  have f16 := hts (.fieldLink RX0 16 "HopCredits$Flow" "takes" "I") (by decide +kernel)
  have iX0 : ∀ w ∈ u_ws RX0 TX0 8, w ∈ wsX0_takesIn := by decide +kernel
  have hl := lv_entry ([.ref w0, .int (nI t)]) (n := 2) (Nat.le_of_ble_eq_true rfl)
  rw [lg_entry_eq]
  generalize (lg_sl ([.ref w0, .int (nI t)]) ++ List.replicate (2 - (lg_sl ([.ref w0, .int (nI t)])).length) Slot.unset).toArray = ls at hl ⊢
  have hl : lv_has ls 2 [(0, .ref w0), (1, .int (nI t))] := hl
  generalize hQ : MQ below _ _ s _ _ _ = Q
  generalize hH : s.heap = H at hP ⊢
  have hS : va_S A s.heap H [] := by rw [← hH]; exact hS
  clear hH
  have hmk : t % k < k := Nat.mod_lt _ hk0
  refine lv_aload_n hx hb dX0_takesIn_0 rfl (lv_at hl 0 rfl) ?_
  refine va_get (D := D) (ci := 0) (v := .int (nI k)) (C := RX0) (T := TX0) (N := 8) hx hb hts iX0 hown hK hP 0 rfl rfl 2 (by decide) f16 (fun _ h9 => h9) rfl dX0_takesIn_1 ?_
  refine lv_if_le (tgt := 20) hx hb dX0_takesIn_4 (by decide) (fun cb => absurd cb (nI_nle hk0 (by omega))) (fun _ => ?_)
  refine lv_iload_n hx hb dX0_takesIn_7 rfl (lv_at hl 1 rfl) ?_
  refine lv_aload_n hx hb dX0_takesIn_8 rfl (lv_at hl 0 rfl) ?_
  refine va_get (D := D) (ci := 0) (v := .int (nI k)) (C := RX0) (T := TX0) (N := 8) hx hb hts iX0 hown hK hP 0 rfl rfl 2 (by decide) f16 (fun _ h9 => h9) rfl dX0_takesIn_9 ?_
  refine lv_irem hx hb dX0_takesIn_12 (nI_ne0 (show 0 < k by omega) (show k < 2 ^ 31 by omega)) ?_
  refine lv_eqi (y := (nI ((t) % k))) (pk_rem (show t < 2 ^ 31 by omega) (show 0 < k by omega) (show k < 2 ^ 31 by omega)) ?_
  refine lv_if_ne (tgt := 20) hx hb dX0_takesIn_13 (by decide) (fun cb_1 => ?_) (fun cb_1 => ?_)
  · skip
    refine lv_iconst (v := 0) hx hb dX0_takesIn_20 (by decide) ?_
    have hP9 := hP.sub (ws' := [(w0, .inr (0, [.int 0, .int 0, .int (nI k), .int g3, .int g4, .int g5, .int g6, .int g7]))]) [0] rfl
    have hD9 := hD.sub (ws' := [(w0, .inr (0, [.int 0, .int 0, .int (nI k), .int g3, .int g4, .int g5, .int g6, .int g7]))]) [0] (by decide) rfl
    subst hQ
    refine W.widen (k := 0) (n := 0) (Nat.le_of_ble_eq_true rfl) (Nat.le_of_ble_eq_true rfl) ?_
    exact W.zret (v := 0) (ty := .boolean) hx hb hr (rfl) (fun tS htS _ => ⟨⟨_, _, rfl, ⟨rfl, (if_neg (fun h => cb_1 (by rw [h]; rfl))).symm⟩, by rw [htS]; exact hP9, hD9⟩, hS.F htS⟩) hS.2.2 dX0_takesIn_21
  · skip
    refine lv_iconst (v := 1) hx hb dX0_takesIn_16 (by decide) ?_
    refine lv_goto (tgt := 21) hx hb dX0_takesIn_17 (by decide) ?_
    have hP9 := hP.sub (ws' := [(w0, .inr (0, [.int 0, .int 0, .int (nI k), .int g3, .int g4, .int g5, .int g6, .int g7]))]) [0] rfl
    have hD9 := hD.sub (ws' := [(w0, .inr (0, [.int 0, .int 0, .int (nI k), .int g3, .int g4, .int g5, .int g6, .int g7]))]) [0] (by decide) rfl
    subst hQ
    refine W.widen (k := 0) (n := 0) (Nat.le_of_ble_eq_true rfl) (Nat.le_of_ble_eq_true rfl) ?_
    exact W.zret (v := 1) (ty := .boolean) hx hb hr (rfl) (fun tS htS _ => ⟨⟨_, _, rfl, ⟨rfl, (if_pos ((nI_eq (by omega) (by omega)).mp (cb_1.trans nI_0.symm))).symm⟩, by rw [htS]; exact hP9, hD9⟩, hS.F htS⟩) hS.2.2 dX0_takesIn_21
set_option maxHeartbeats 4000000 in
set_option maxRecDepth 100000 in
theorem c_X3_take (l : Launch) (D : va_G) (g : Nat → ClassId) (sz : Nat) (n : Nat) (nl : Nat) (nf : Nat) (nb : Nat) (L : Nat) (L1 : Nat) (L2 : Nat) (ca : Nat) (ua : Nat) (pa : Nat) (la : Nat) (a0 : Nat) (a1 : Nat) (a2 : Nat) (f0 : Int32) (f1 : Int32) (f2 : Int32) (f3 : Int32) (f4 : Int32) (f5 : Int32) (f6 : Int32) (t : Nat) (d : Nat) (ev : Nat) (lt : Int32) (se : Int32) (fu : Nat → Int32) (fb : Nat → Int32) (w0 : Nat) (w1 : Nat) (w2 : Nat) (k : Nat) (g3 : Int32) (g4 : Int32) (g5 : Int32) (g6 : Int32) (g7 : Int32) (ht : t < 2 ^ 30) (hd : d < 5) (hk0 : 0 < k) (hk1 : k < 10) : Met l yX3_take wsX3_take ({ frames := 2, cells := 0, slots := 0, locals := 46 }) (va_Pc [.ref n, .int 0] (pre D g sz [(n, .inr (3, [.int 1, .int 1, .int 1, .int 0, .int 0, .int (nI t), .int 0, .int 0, .ref nl, .ref nf, .ref nb])), (nl, .inl (g 1, 3, .inr (.inr (.inr (.inr (rf3 L L1 L2)))))), (nf, .inl (g 3, 3, .inr (.inr (.inr (.inr (rf3 w0 w1 w2)))))), (nb, .inl (g 0, 12, .inl fb)), (L, .inr (2, [.int (nI d), .int 30, .int (nI ev), .int 0, .int lt, .int se, .ref ca, .ref ua, .ref pa, .ref la])), (ua, .inl (g 0, 15, .inl fu)), (la, .inl (g 2, 3, .inr (.inr (.inr (.inr (rf3 a0 a1 a2)))))), (a0, .inr (1, [.int f0, .int f1, .int f2, .int f3, .int f4, .int f5, .int f6])), (w0, .inr (0, [.int 0, .int 0, .int (nI k), .int g3, .int g4, .int g5, .int g6, .int g7]))])) (va_Qv (fun (u : va_W) => ∃ (fb2 : Nat → Int32) (g52 : Int32) (g72 : Int32) (f12 : Int32) (su2 : Int32) (fu2 : Nat → Int32), u = [(n, .inr (3, [.int 1, .int 1, .int 1, .int 0, .int 0, .int (nI t), .int 0, .int 0, .ref nl, .ref nf, .ref nb])), (nl, .inl (g 1, 3, .inr (.inr (.inr (.inr (rf3 L L1 L2)))))), (nf, .inl (g 3, 3, .inr (.inr (.inr (.inr (rf3 w0 w1 w2)))))), (nb, .inl (g 0, 12, .inl fb2)), (L, .inr (2, [.int (nI d), .int 30, .int (nI ev), .int 0, .int lt, .int se, .ref ca, .ref ua, .ref pa, .ref la])), (ua, .inl (g 0, 15, .inl fu2)), (la, .inl (g 2, 3, .inr (.inr (.inr (.inr (rf3 a0 a1 a2)))))), (a0, .inr (1, [.int f0, .int f12, .int f2, .int f3, .int f4, .int su2, .int f6])), (w0, .inr (0, [.int 0, .int 0, .int (nI k), .int g3, .int g4, .int g52, .int g6, .int g72]))] ∧ ((t % k = 0 ∧ 0 < fb 3) → fb2 = upd fb 3 (fb 3 - 1) ∧ g52 = g5 + 1 ∧ f12 = ((f1 + 1) &&& 63) ∧ (f5 + 1 < nI ev → su2 = f5 + 1 ∧ fu2 = fu) ∧ (¬ f5 + 1 < nI ev → su2 = 0 ∧ fu2 = upd fu ((t + d) % 5 * 3 + 0) ((f1 + 1) &&& 63))) ∧ (¬ (t % k = 0 ∧ 0 < fb 3) → fb2 = fb ∧ g52 = g5 ∧ f12 = f1 ∧ su2 = f5 ∧ fu2 = fu)) (wd D (va_A [(n, .inr (3, [.int 1, .int 1, .int 1, .int 0, .int 0, .int (nI t), .int 0, .int 0, .ref nl, .ref nf, .ref nb])), (nl, .inl (g 1, 3, .inr (.inr (.inr (.inr (rf3 L L1 L2)))))), (nf, .inl (g 3, 3, .inr (.inr (.inr (.inr (rf3 w0 w1 w2)))))), (nb, .inl (g 0, 12, .inl fb)), (L, .inr (2, [.int (nI d), .int 30, .int (nI ev), .int 0, .int lt, .int se, .ref ca, .ref ua, .ref pa, .ref la])), (ua, .inl (g 0, 15, .inl fu)), (la, .inl (g 2, 3, .inr (.inr (.inr (.inr (rf3 a0 a1 a2)))))), (a0, .inr (1, [.int f0, .int f1, .int f2, .int f3, .int f4, .int f5, .int f6])), (w0, .inr (0, [.int 0, .int 0, .int (nI k), .int g3, .int g4, .int g5, .int g6, .int g7]))] sz)) (va_A [(n, .inr (3, [.int 1, .int 1, .int 1, .int 0, .int 0, .int (nI t), .int 0, .int 0, .ref nl, .ref nf, .ref nb])), (nl, .inl (g 1, 3, .inr (.inr (.inr (.inr (rf3 L L1 L2)))))), (nf, .inl (g 3, 3, .inr (.inr (.inr (.inr (rf3 w0 w1 w2)))))), (nb, .inl (g 0, 12, .inl fb)), (L, .inr (2, [.int (nI d), .int 30, .int (nI ev), .int 0, .int lt, .int se, .ref ca, .ref ua, .ref pa, .ref la])), (ua, .inl (g 0, 15, .inl fu)), (la, .inl (g 2, 3, .inr (.inr (.inr (.inr (rf3 a0 a1 a2)))))), (a0, .inr (1, [.int f0, .int f1, .int f2, .int f3, .int f4, .int f5, .int f6])), (w0, .inr (0, [.int 0, .int 0, .int (nI k), .int g3, .int g4, .int g5, .int g6, .int g7]))] sz)) 0 0 (va_A [(n, .inr (3, [.int 1, .int 1, .int 1, .int 0, .int 0, .int (nI t), .int 0, .int 0, .ref nl, .ref nf, .ref nb])), (nl, .inl (g 1, 3, .inr (.inr (.inr (.inr (rf3 L L1 L2)))))), (nf, .inl (g 3, 3, .inr (.inr (.inr (.inr (rf3 w0 w1 w2)))))), (nb, .inl (g 0, 12, .inl fb)), (L, .inr (2, [.int (nI d), .int 30, .int (nI ev), .int 0, .int lt, .int se, .ref ca, .ref ua, .ref pa, .ref la])), (ua, .inl (g 0, 15, .inl fu)), (la, .inl (g 2, 3, .inr (.inr (.inr (.inr (rf3 a0 a1 a2)))))), (a0, .inr (1, [.int f0, .int f1, .int f2, .int f3, .int f4, .int f5, .int f6])), (w0, .inr (0, [.int 0, .int 0, .int (nI k), .int g3, .int g4, .int g5, .int g6, .int g7]))] sz) := by
  refine Met.ofW (cc := cX3_take) (maxL := 4) (ret := none) (by decide) rfl ?_
  intro p e s m args below meth c s₁ B hml hv
  obtain ⟨rfl, hsz, hP, ⟨hK, hN⟩, hD0, hZ⟩ := hv
  have hx := B.exec
  have hb := B.bytes
  have hr := B.returns
  have hts := atoms_spec (ws := wsX3_take) B.pre
  have hown : s.vm.findClass RX3 = some m.cls := findClass_of_methodNamed B.named
  have hlocks := B.notSynchronized
  clear B
  subst hsz
  have hD := hD0.self (sz := s.heap.size)
  clear hD0
  generalize hAe : va_A [(n, .inr (3, [.int 1, .int 1, .int 1, .int 0, .int 0, .int (nI t), .int 0, .int 0, .ref nl, .ref nf, .ref nb])), (nl, .inl (g 1, 3, .inr (.inr (.inr (.inr (rf3 L L1 L2)))))), (nf, .inl (g 3, 3, .inr (.inr (.inr (.inr (rf3 w0 w1 w2)))))), (nb, .inl (g 0, 12, .inl fb)), (L, .inr (2, [.int (nI d), .int 30, .int (nI ev), .int 0, .int lt, .int se, .ref ca, .ref ua, .ref pa, .ref la])), (ua, .inl (g 0, 15, .inl fu)), (la, .inl (g 2, 3, .inr (.inr (.inr (.inr (rf3 a0 a1 a2)))))), (a0, .inr (1, [.int f0, .int f1, .int f2, .int f3, .int f4, .int f5, .int f6])), (w0, .inr (0, [.int 0, .int 0, .int (nI k), .int g3, .int g4, .int g5, .int g6, .int g7]))] s.heap.size = A at hD hZ ⊢
  have hA : ∀ q : Nat, s.heap.size ≤ q → A q := fun q h => by rw [← hAe]; exact Or.inr h
  have hS : va_S A s.heap s.heap [] := va_S.rf
  have f164 := hts (.fieldLink RX3 164 "HopCredits$Flow" "deliveredNow" "Z") (by decide +kernel)
  have f167 := hts (.fieldLink RX3 167 "HopCredits$Flow" "delivered" "I") (by decide +kernel)
  have f19 := hts (.fieldLink RX3 19 "HopCredits$Net" "flows" "[LHopCredits$Flow;") (by decide +kernel)
  have f23 := hts (.fieldLink RX3 23 "HopCredits$Net" "buffers" "[I") (by decide +kernel)
  have f53 := hts (.fieldLink RX3 53 "HopCredits$Net" "hops" "I") (by decide +kernel)
  have f78 := hts (.fieldLink RX3 78 "HopCredits$Net" "tick" "I") (by decide +kernel)
  have iX0 : ∀ w ∈ u_ws RX0 TX0 8, w ∈ wsX3_take := by decide +kernel
  have iX3 : ∀ w ∈ u_ws RX3 TX3 11, w ∈ wsX3_take := by decide +kernel
  have hl := lv_entry ([.ref n, .int 0]) (n := 4) (Nat.le_of_ble_eq_true rfl)
  rw [lg_entry_eq]
  generalize (lg_sl ([.ref n, .int 0]) ++ List.replicate (4 - (lg_sl ([.ref n, .int 0])).length) Slot.unset).toArray = ls at hl ⊢
  have hl : lv_has ls 4 [(0, .ref n), (1, .int 0)] := hl
  generalize hQ : MQ below _ _ s _ _ _ = Q
  generalize hH : s.heap = H at hP ⊢
  have hS : va_S A s.heap H [] := by rw [← hH]; exact hS
  clear hH
  refine lv_aload_n hx hb dX3_take_0 rfl (lv_at hl 0 rfl) ?_
  refine va_get (D := D) (ci := 3) (v := .ref nf) (C := RX3) (T := TX3) (N := 11) hx hb hts iX3 hown hK hP 0 rfl rfl 9 (by decide) f19 (fun _ h9 => h9) rfl dX3_take_1 ?_
  refine lv_iload_n hx hb dX3_take_4 rfl (lv_at hl 1 rfl) ?_
  refine va_aldq (C := "HopCredits$Flow") hx hb hK hP 2 3 rfl rfl (by unfold vp_in; decide) dX3_take_5 ?_
  refine lv_eqv (v2 := .ref w0) rfl ?_
  refine lv_astore_n (lv' := [(2, .ref w0), (0, .ref n), (1, .int 0)]) hx hb dX3_take_6 rfl hl (by decide) rfl (fun ls hl => ?_)
  refine lv_aload_n hx hb dX3_take_7 rfl (lv_at hl 1 rfl) ?_
  refine va_get (D := D) (ci := 3) (v := .int 1) (C := RX3) (T := TX3) (N := 11) hx hb hts iX3 hown hK hP 0 rfl rfl 0 (by decide) f53 (fun _ h9 => h9) rfl dX3_take_8 ?_
  refine lv_iconst (v := 3) hx hb dX3_take_11 (by decide) ?_
  refine lv_imul hx hb dX3_take_12 ?_
  refine lv_eqi (y := 3) (by decide) ?_
  refine lv_iload_n hx hb dX3_take_13 rfl (lv_at hl 2 rfl) ?_
  refine lv_iadd hx hb dX3_take_14 ?_
  refine lv_eqi (y := 3) (by decide) ?_
  refine lv_istore_n (lv' := [(3, .int 3), (2, .ref w0), (0, .ref n), (1, .int 0)]) hx hb dX3_take_15 rfl hl (by decide) rfl (fun ls hl => ?_)
  refine lv_aload_n hx hb dX3_take_16 rfl (lv_at hl 1 rfl) ?_
  refine lv_aload_n hx hb dX3_take_17 rfl (lv_at hl 1 rfl) ?_
  refine lv_aload_n hx hb dX3_take_18 rfl (lv_at hl 2 rfl) ?_
  refine va_get (D := D) (ci := 3) (v := .int (nI t)) (C := RX3) (T := TX3) (N := 11) hx hb hts iX3 hown hK hP 0 rfl rfl 5 (by decide) f78 (fun _ h9 => h9) rfl dX3_take_19 ?_
  refine ky_Vi (As := [.int (nI t)]) (rest := [.ref w0]) ⟨hx, hb, hml, hown, hts⟩ ⟨hK, hN⟩ hZ hP hD hS hA [8] [0, 1, 2, 3, 4, 5, 6, 7] (wc := [(w0, .inr (0, [.int 0, .int 0, .int (nI k), .int g3, .int g4, .int g5, .int g6, .int g7]))]) (wr := [(n, .inr (3, [.int 1, .int 1, .int 1, .int 0, .int 0, .int (nI t), .int 0, .int 0, .ref nl, .ref nf, .ref nb])), (nl, .inl (g 1, 3, .inr (.inr (.inr (.inr (rf3 L L1 L2)))))), (nf, .inl (g 3, 3, .inr (.inr (.inr (.inr (rf3 w0 w1 w2)))))), (nb, .inl (g 0, 12, .inl fb)), (L, .inr (2, [.int (nI d), .int 30, .int (nI ev), .int 0, .int lt, .int se, .ref ca, .ref ua, .ref pa, .ref la])), (ua, .inl (g 0, 15, .inl fu)), (la, .inl (g 2, 3, .inr (.inr (.inr (.inr (rf3 a0 a1 a2)))))), (a0, .inr (1, [.int f0, .int f1, .int f2, .int f3, .int f4, .int f5, .int f6]))]) rfl rfl rfl rfl (by decide) (c_X0_takesIn l D g H.size w0 k g3 g4 g5 g6 g7 t (ht) (hk0) (hk1)) (cwV 1 hts gX3_take_X0_takesIn rfl rfl rfl (by decide +kernel) ⟨(Nat.le_of_ble_eq_true rfl), (Nat.le_of_ble_eq_true rfl)⟩) 8 0 rfl rfl rfl rfl hl.1 rfl (Nat.le_of_ble_eq_true rfl) dX3_take_22 ⟨(Nat.le_of_ble_eq_true rfl), (Nat.le_of_ble_eq_true rfl)⟩ (fun r_1 u H locs hw hP hD hS => ?_)
  obtain ⟨rfl, rfl⟩ := hw
  have hP : va_P D vwCl [(n, .inr (3, [.int 1, .int 1, .int 1, .int 0, .int 0, .int (nI t), .int 0, .int 0, .ref nl, .ref nf, .ref nb])), (nl, .inl (g 1, 3, .inr (.inr (.inr (.inr (rf3 L L1 L2)))))), (nf, .inl (g 3, 3, .inr (.inr (.inr (.inr (rf3 w0 w1 w2)))))), (nb, .inl (g 0, 12, .inl fb)), (L, .inr (2, [.int (nI d), .int 30, .int (nI ev), .int 0, .int lt, .int se, .ref ca, .ref ua, .ref pa, .ref la])), (ua, .inl (g 0, 15, .inl fu)), (la, .inl (g 2, 3, .inr (.inr (.inr (.inr (rf3 a0 a1 a2)))))), (a0, .inr (1, [.int f0, .int f1, .int f2, .int f3, .int f4, .int f5, .int f6])), (w0, .inr (0, [.int 0, .int 0, .int (nI k), .int g3, .int g4, .int g5, .int g6, .int g7]))] H := hP
  have hD : va_D A [(n, .inr (3, [.int 1, .int 1, .int 1, .int 0, .int 0, .int (nI t), .int 0, .int 0, .ref nl, .ref nf, .ref nb])), (nl, .inl (g 1, 3, .inr (.inr (.inr (.inr (rf3 L L1 L2)))))), (nf, .inl (g 3, 3, .inr (.inr (.inr (.inr (rf3 w0 w1 w2)))))), (nb, .inl (g 0, 12, .inl fb)), (L, .inr (2, [.int (nI d), .int 30, .int (nI ev), .int 0, .int lt, .int se, .ref ca, .ref ua, .ref pa, .ref la])), (ua, .inl (g 0, 15, .inl fu)), (la, .inl (g 2, 3, .inr (.inr (.inr (.inr (rf3 a0 a1 a2)))))), (a0, .inr (1, [.int f0, .int f1, .int f2, .int f3, .int f4, .int f5, .int f6])), (w0, .inr (0, [.int 0, .int 0, .int (nI k), .int g3, .int g4, .int g5, .int g6, .int g7]))] := hD
  refine W.widen (k := 0) (n := 0) (Nat.le_of_ble_eq_true rfl) (Nat.le_of_ble_eq_true rfl) ?_
  refine lv_if_eq (tgt := 41) hx hb dX3_take_25 (by decide) (fun cb_2 => ?_) (fun cb_2 => ?_)
  · skip
    refine lv_iconst (v := 0) hx hb dX3_take_41 (by decide) ?_
    refine va_put (D := D) (ci := 0) (v := .int 0) (ty := .boolean) (C := RX0) (T := TX0) (N := 8) hx hb hts iX0 tyX0 tyX0_ok nmX0 hown hK hP hD hS 8 rfl rfl 7 (by decide) f164 (fun _ h9 => h9) rfl (by decide +kernel) (rfl) (rfl) (Nat.le_of_ble_eq_true rfl) dX3_take_42 (fun H locs hP hD hS => ?_)
    have hP : va_P D vwCl [(n, .inr (3, [.int 1, .int 1, .int 1, .int 0, .int 0, .int (nI t), .int 0, .int 0, .ref nl, .ref nf, .ref nb])), (nl, .inl (g 1, 3, .inr (.inr (.inr (.inr (rf3 L L1 L2)))))), (nf, .inl (g 3, 3, .inr (.inr (.inr (.inr (rf3 w0 w1 w2)))))), (nb, .inl (g 0, 12, .inl fb)), (L, .inr (2, [.int (nI d), .int 30, .int (nI ev), .int 0, .int lt, .int se, .ref ca, .ref ua, .ref pa, .ref la])), (ua, .inl (g 0, 15, .inl fu)), (la, .inl (g 2, 3, .inr (.inr (.inr (.inr (rf3 a0 a1 a2)))))), (a0, .inr (1, [.int f0, .int f1, .int f2, .int f3, .int f4, .int f5, .int f6])), (w0, .inr (0, [.int 0, .int 0, .int (nI k), .int g3, .int g4, .int g5, .int g6, .int 0]))] H := hP
    have hD : va_D A [(n, .inr (3, [.int 1, .int 1, .int 1, .int 0, .int 0, .int (nI t), .int 0, .int 0, .ref nl, .ref nf, .ref nb])), (nl, .inl (g 1, 3, .inr (.inr (.inr (.inr (rf3 L L1 L2)))))), (nf, .inl (g 3, 3, .inr (.inr (.inr (.inr (rf3 w0 w1 w2)))))), (nb, .inl (g 0, 12, .inl fb)), (L, .inr (2, [.int (nI d), .int 30, .int (nI ev), .int 0, .int lt, .int se, .ref ca, .ref ua, .ref pa, .ref la])), (ua, .inl (g 0, 15, .inl fu)), (la, .inl (g 2, 3, .inr (.inr (.inr (.inr (rf3 a0 a1 a2)))))), (a0, .inr (1, [.int f0, .int f1, .int f2, .int f3, .int f4, .int f5, .int f6])), (w0, .inr (0, [.int 0, .int 0, .int (nI k), .int g3, .int g4, .int g5, .int g6, .int 0]))] := hD
    refine lv_aload_n hx hb dX3_take_45 rfl (lv_at hl 1 rfl) ?_
    refine va_get (D := D) (ci := 0) (v := .int 0) (C := RX0) (T := TX0) (N := 8) hx hb hts iX0 hown hK hP 8 rfl rfl 7 (by decide) f164 (fun _ h9 => h9) rfl dX3_take_46 ?_
    refine lv_if_eq (tgt := 83) hx hb dX3_take_49 (by decide) (fun _ => ?_) (fun cb => absurd (by decide) cb)
    have hP9 := hP.sub (ws' := [(n, .inr (3, [.int 1, .int 1, .int 1, .int 0, .int 0, .int (nI t), .int 0, .int 0, .ref nl, .ref nf, .ref nb])), (nl, .inl (g 1, 3, .inr (.inr (.inr (.inr (rf3 L L1 L2)))))), (nf, .inl (g 3, 3, .inr (.inr (.inr (.inr (rf3 w0 w1 w2)))))), (nb, .inl (g 0, 12, .inl fb)), (L, .inr (2, [.int (nI d), .int 30, .int (nI ev), .int 0, .int lt, .int se, .ref ca, .ref ua, .ref pa, .ref la])), (ua, .inl (g 0, 15, .inl fu)), (la, .inl (g 2, 3, .inr (.inr (.inr (.inr (rf3 a0 a1 a2)))))), (a0, .inr (1, [.int f0, .int f1, .int f2, .int f3, .int f4, .int f5, .int f6])), (w0, .inr (0, [.int 0, .int 0, .int (nI k), .int g3, .int g4, .int g5, .int g6, .int 0]))]) [0, 1, 2, 3, 4, 5, 6, 7, 8] rfl
    have hD9 := hD.sub (ws' := [(n, .inr (3, [.int 1, .int 1, .int 1, .int 0, .int 0, .int (nI t), .int 0, .int 0, .ref nl, .ref nf, .ref nb])), (nl, .inl (g 1, 3, .inr (.inr (.inr (.inr (rf3 L L1 L2)))))), (nf, .inl (g 3, 3, .inr (.inr (.inr (.inr (rf3 w0 w1 w2)))))), (nb, .inl (g 0, 12, .inl fb)), (L, .inr (2, [.int (nI d), .int 30, .int (nI ev), .int 0, .int lt, .int se, .ref ca, .ref ua, .ref pa, .ref la])), (ua, .inl (g 0, 15, .inl fu)), (la, .inl (g 2, 3, .inr (.inr (.inr (.inr (rf3 a0 a1 a2)))))), (a0, .inr (1, [.int f0, .int f1, .int f2, .int f3, .int f4, .int f5, .int f6])), (w0, .inr (0, [.int 0, .int 0, .int (nI k), .int g3, .int g4, .int g5, .int g6, .int 0]))]) [0, 1, 2, 3, 4, 5, 6, 7, 8] (by decide) rfl
    subst hQ
    refine W.widen (k := 0) (n := 0) (Nat.le_of_ble_eq_true rfl) (Nat.le_of_ble_eq_true rfl) ?_
    exact W.vret hx hb hr (fun tS htS _ => ⟨⟨_, rfl, ⟨fb, g5, 0, f1, f5, fu, rfl, fun h => absurd h (fun h => absurd h.1 (b01_0.mp cb_2)), fun _ => ⟨rfl, rfl, rfl, rfl, rfl⟩⟩, by rw [htS]; exact hP9, hD9⟩, hS.F htS⟩) hS.2.2 dX3_take_83
  · skip
    refine lv_aload_n hx hb dX3_take_28 rfl (lv_at hl 2 rfl) ?_
    refine va_get (D := D) (ci := 3) (v := .ref nb) (C := RX3) (T := TX3) (N := 11) hx hb hts iX3 hown hK hP 0 rfl rfl 10 (by decide) f23 (fun _ h9 => h9) rfl dX3_take_29 ?_
    refine lv_iload_n hx hb dX3_take_32 rfl (lv_at hl 0 rfl) ?_
    refine va_iald hx hb hK hP 3 0 rfl rfl (by unfold vp_in; decide) dX3_take_33 ?_
    refine lv_eqi (y := (fb 3)) (rfl) ?_
    refine lv_if_le (tgt := 41) hx hb dX3_take_34 (by decide) (fun cb_3 => ?_) (fun cb_3 => ?_)
    · skip
      refine lv_iconst (v := 0) hx hb dX3_take_41 (by decide) ?_
      refine va_put (D := D) (ci := 0) (v := .int 0) (ty := .boolean) (C := RX0) (T := TX0) (N := 8) hx hb hts iX0 tyX0 tyX0_ok nmX0 hown hK hP hD hS 8 rfl rfl 7 (by decide) f164 (fun _ h9 => h9) rfl (by decide +kernel) (rfl) (rfl) (Nat.le_of_ble_eq_true rfl) dX3_take_42 (fun H locs hP hD hS => ?_)
      have hP : va_P D vwCl [(n, .inr (3, [.int 1, .int 1, .int 1, .int 0, .int 0, .int (nI t), .int 0, .int 0, .ref nl, .ref nf, .ref nb])), (nl, .inl (g 1, 3, .inr (.inr (.inr (.inr (rf3 L L1 L2)))))), (nf, .inl (g 3, 3, .inr (.inr (.inr (.inr (rf3 w0 w1 w2)))))), (nb, .inl (g 0, 12, .inl fb)), (L, .inr (2, [.int (nI d), .int 30, .int (nI ev), .int 0, .int lt, .int se, .ref ca, .ref ua, .ref pa, .ref la])), (ua, .inl (g 0, 15, .inl fu)), (la, .inl (g 2, 3, .inr (.inr (.inr (.inr (rf3 a0 a1 a2)))))), (a0, .inr (1, [.int f0, .int f1, .int f2, .int f3, .int f4, .int f5, .int f6])), (w0, .inr (0, [.int 0, .int 0, .int (nI k), .int g3, .int g4, .int g5, .int g6, .int 0]))] H := hP
      have hD : va_D A [(n, .inr (3, [.int 1, .int 1, .int 1, .int 0, .int 0, .int (nI t), .int 0, .int 0, .ref nl, .ref nf, .ref nb])), (nl, .inl (g 1, 3, .inr (.inr (.inr (.inr (rf3 L L1 L2)))))), (nf, .inl (g 3, 3, .inr (.inr (.inr (.inr (rf3 w0 w1 w2)))))), (nb, .inl (g 0, 12, .inl fb)), (L, .inr (2, [.int (nI d), .int 30, .int (nI ev), .int 0, .int lt, .int se, .ref ca, .ref ua, .ref pa, .ref la])), (ua, .inl (g 0, 15, .inl fu)), (la, .inl (g 2, 3, .inr (.inr (.inr (.inr (rf3 a0 a1 a2)))))), (a0, .inr (1, [.int f0, .int f1, .int f2, .int f3, .int f4, .int f5, .int f6])), (w0, .inr (0, [.int 0, .int 0, .int (nI k), .int g3, .int g4, .int g5, .int g6, .int 0]))] := hD
      refine lv_aload_n hx hb dX3_take_45 rfl (lv_at hl 1 rfl) ?_
      refine va_get (D := D) (ci := 0) (v := .int 0) (C := RX0) (T := TX0) (N := 8) hx hb hts iX0 hown hK hP 8 rfl rfl 7 (by decide) f164 (fun _ h9 => h9) rfl dX3_take_46 ?_
      refine lv_if_eq (tgt := 83) hx hb dX3_take_49 (by decide) (fun _ => ?_) (fun cb => absurd (by decide) cb)
      have hP9 := hP.sub (ws' := [(n, .inr (3, [.int 1, .int 1, .int 1, .int 0, .int 0, .int (nI t), .int 0, .int 0, .ref nl, .ref nf, .ref nb])), (nl, .inl (g 1, 3, .inr (.inr (.inr (.inr (rf3 L L1 L2)))))), (nf, .inl (g 3, 3, .inr (.inr (.inr (.inr (rf3 w0 w1 w2)))))), (nb, .inl (g 0, 12, .inl fb)), (L, .inr (2, [.int (nI d), .int 30, .int (nI ev), .int 0, .int lt, .int se, .ref ca, .ref ua, .ref pa, .ref la])), (ua, .inl (g 0, 15, .inl fu)), (la, .inl (g 2, 3, .inr (.inr (.inr (.inr (rf3 a0 a1 a2)))))), (a0, .inr (1, [.int f0, .int f1, .int f2, .int f3, .int f4, .int f5, .int f6])), (w0, .inr (0, [.int 0, .int 0, .int (nI k), .int g3, .int g4, .int g5, .int g6, .int 0]))]) [0, 1, 2, 3, 4, 5, 6, 7, 8] rfl
      have hD9 := hD.sub (ws' := [(n, .inr (3, [.int 1, .int 1, .int 1, .int 0, .int 0, .int (nI t), .int 0, .int 0, .ref nl, .ref nf, .ref nb])), (nl, .inl (g 1, 3, .inr (.inr (.inr (.inr (rf3 L L1 L2)))))), (nf, .inl (g 3, 3, .inr (.inr (.inr (.inr (rf3 w0 w1 w2)))))), (nb, .inl (g 0, 12, .inl fb)), (L, .inr (2, [.int (nI d), .int 30, .int (nI ev), .int 0, .int lt, .int se, .ref ca, .ref ua, .ref pa, .ref la])), (ua, .inl (g 0, 15, .inl fu)), (la, .inl (g 2, 3, .inr (.inr (.inr (.inr (rf3 a0 a1 a2)))))), (a0, .inr (1, [.int f0, .int f1, .int f2, .int f3, .int f4, .int f5, .int f6])), (w0, .inr (0, [.int 0, .int 0, .int (nI k), .int g3, .int g4, .int g5, .int g6, .int 0]))]) [0, 1, 2, 3, 4, 5, 6, 7, 8] (by decide) rfl
      subst hQ
      refine W.widen (k := 0) (n := 0) (Nat.le_of_ble_eq_true rfl) (Nat.le_of_ble_eq_true rfl) ?_
      exact W.vret hx hb hr (fun tS htS _ => ⟨⟨_, rfl, ⟨fb, g5, 0, f1, f5, fu, rfl, fun h => absurd h (fun h => absurd h.2 (Int32.not_lt.mpr cb_3)), fun _ => ⟨rfl, rfl, rfl, rfl, rfl⟩⟩, by rw [htS]; exact hP9, hD9⟩, hS.F htS⟩) hS.2.2 dX3_take_83
    · skip
      refine lv_iconst (v := 1) hx hb dX3_take_37 (by decide) ?_
      refine lv_goto (tgt := 42) hx hb dX3_take_38 (by decide) ?_
      refine va_put (D := D) (ci := 0) (v := .int 1) (ty := .boolean) (C := RX0) (T := TX0) (N := 8) hx hb hts iX0 tyX0 tyX0_ok nmX0 hown hK hP hD hS 8 rfl rfl 7 (by decide) f164 (fun _ h9 => h9) rfl (by decide +kernel) (rfl) (rfl) (Nat.le_of_ble_eq_true rfl) dX3_take_42 (fun H locs hP hD hS => ?_)
      have hP : va_P D vwCl [(n, .inr (3, [.int 1, .int 1, .int 1, .int 0, .int 0, .int (nI t), .int 0, .int 0, .ref nl, .ref nf, .ref nb])), (nl, .inl (g 1, 3, .inr (.inr (.inr (.inr (rf3 L L1 L2)))))), (nf, .inl (g 3, 3, .inr (.inr (.inr (.inr (rf3 w0 w1 w2)))))), (nb, .inl (g 0, 12, .inl fb)), (L, .inr (2, [.int (nI d), .int 30, .int (nI ev), .int 0, .int lt, .int se, .ref ca, .ref ua, .ref pa, .ref la])), (ua, .inl (g 0, 15, .inl fu)), (la, .inl (g 2, 3, .inr (.inr (.inr (.inr (rf3 a0 a1 a2)))))), (a0, .inr (1, [.int f0, .int f1, .int f2, .int f3, .int f4, .int f5, .int f6])), (w0, .inr (0, [.int 0, .int 0, .int (nI k), .int g3, .int g4, .int g5, .int g6, .int 1]))] H := hP
      have hD : va_D A [(n, .inr (3, [.int 1, .int 1, .int 1, .int 0, .int 0, .int (nI t), .int 0, .int 0, .ref nl, .ref nf, .ref nb])), (nl, .inl (g 1, 3, .inr (.inr (.inr (.inr (rf3 L L1 L2)))))), (nf, .inl (g 3, 3, .inr (.inr (.inr (.inr (rf3 w0 w1 w2)))))), (nb, .inl (g 0, 12, .inl fb)), (L, .inr (2, [.int (nI d), .int 30, .int (nI ev), .int 0, .int lt, .int se, .ref ca, .ref ua, .ref pa, .ref la])), (ua, .inl (g 0, 15, .inl fu)), (la, .inl (g 2, 3, .inr (.inr (.inr (.inr (rf3 a0 a1 a2)))))), (a0, .inr (1, [.int f0, .int f1, .int f2, .int f3, .int f4, .int f5, .int f6])), (w0, .inr (0, [.int 0, .int 0, .int (nI k), .int g3, .int g4, .int g5, .int g6, .int 1]))] := hD
      refine lv_aload_n hx hb dX3_take_45 rfl (lv_at hl 1 rfl) ?_
      refine va_get (D := D) (ci := 0) (v := .int 1) (C := RX0) (T := TX0) (N := 8) hx hb hts iX0 hown hK hP 8 rfl rfl 7 (by decide) f164 (fun _ h9 => h9) rfl dX3_take_46 ?_
      refine lv_if_eq (tgt := 83) hx hb dX3_take_49 (by decide) (fun cb => absurd cb (by decide)) (fun _ => ?_)
      refine lv_aload_n hx hb dX3_take_52 rfl (lv_at hl 2 rfl) ?_
      refine va_get (D := D) (ci := 3) (v := .ref nb) (C := RX3) (T := TX3) (N := 11) hx hb hts iX3 hown hK hP 0 rfl rfl 10 (by decide) f23 (fun _ h9 => h9) rfl dX3_take_53 ?_
      refine lv_iload_n hx hb dX3_take_56 rfl (lv_at hl 0 rfl) ?_
      refine lv_dup2_11 hx hb dX3_take_57 rfl rfl ?_
      refine va_iald hx hb hK hP 3 0 rfl rfl (by unfold vp_in; decide) dX3_take_58 ?_
      refine lv_eqi (y := (fb 3)) (rfl) ?_
      refine lv_iconst (v := 1) hx hb dX3_take_59 (by decide) ?_
      refine lv_isub hx hb dX3_take_60 ?_
      refine va_iast hx hb hK hP hD hS 3 0 rfl rfl (by unfold vp_in; decide) dX3_take_61 (fun H locs hP hD hS => ?_)
      have hP : va_P D vwCl [(n, .inr (3, [.int 1, .int 1, .int 1, .int 0, .int 0, .int (nI t), .int 0, .int 0, .ref nl, .ref nf, .ref nb])), (nl, .inl (g 1, 3, .inr (.inr (.inr (.inr (rf3 L L1 L2)))))), (nf, .inl (g 3, 3, .inr (.inr (.inr (.inr (rf3 w0 w1 w2)))))), (nb, .inl (g 0, 12, .inl (upd fb 3 ((fb 3) - 1)))), (L, .inr (2, [.int (nI d), .int 30, .int (nI ev), .int 0, .int lt, .int se, .ref ca, .ref ua, .ref pa, .ref la])), (ua, .inl (g 0, 15, .inl fu)), (la, .inl (g 2, 3, .inr (.inr (.inr (.inr (rf3 a0 a1 a2)))))), (a0, .inr (1, [.int f0, .int f1, .int f2, .int f3, .int f4, .int f5, .int f6])), (w0, .inr (0, [.int 0, .int 0, .int (nI k), .int g3, .int g4, .int g5, .int g6, .int 1]))] H := hP
      have hD : va_D A [(n, .inr (3, [.int 1, .int 1, .int 1, .int 0, .int 0, .int (nI t), .int 0, .int 0, .ref nl, .ref nf, .ref nb])), (nl, .inl (g 1, 3, .inr (.inr (.inr (.inr (rf3 L L1 L2)))))), (nf, .inl (g 3, 3, .inr (.inr (.inr (.inr (rf3 w0 w1 w2)))))), (nb, .inl (g 0, 12, .inl (upd fb 3 ((fb 3) - 1)))), (L, .inr (2, [.int (nI d), .int 30, .int (nI ev), .int 0, .int lt, .int se, .ref ca, .ref ua, .ref pa, .ref la])), (ua, .inl (g 0, 15, .inl fu)), (la, .inl (g 2, 3, .inr (.inr (.inr (.inr (rf3 a0 a1 a2)))))), (a0, .inr (1, [.int f0, .int f1, .int f2, .int f3, .int f4, .int f5, .int f6])), (w0, .inr (0, [.int 0, .int 0, .int (nI k), .int g3, .int g4, .int g5, .int g6, .int 1]))] := hD
      refine lv_aload_n hx hb dX3_take_62 rfl (lv_at hl 1 rfl) ?_
      refine lv_dup hx hb dX3_take_63 rfl ?_
      refine va_get (D := D) (ci := 0) (v := .int g5) (C := RX0) (T := TX0) (N := 8) hx hb hts iX0 hown hK hP 8 rfl rfl 5 (by decide) f167 (fun _ h9 => h9) rfl dX3_take_64 ?_
      refine lv_iconst (v := 1) hx hb dX3_take_67 (by decide) ?_
      refine lv_iadd hx hb dX3_take_68 ?_
      refine va_put (D := D) (ci := 0) (v := .int (g5 + 1)) (ty := .int) (C := RX0) (T := TX0) (N := 8) hx hb hts iX0 tyX0 tyX0_ok nmX0 hown hK hP hD hS 8 rfl rfl 5 (by decide) f167 (fun _ h9 => h9) rfl (by decide +kernel) (rfl) (rfl) (Nat.le_of_ble_eq_true rfl) dX3_take_69 (fun H locs hP hD hS => ?_)
      have hP : va_P D vwCl [(n, .inr (3, [.int 1, .int 1, .int 1, .int 0, .int 0, .int (nI t), .int 0, .int 0, .ref nl, .ref nf, .ref nb])), (nl, .inl (g 1, 3, .inr (.inr (.inr (.inr (rf3 L L1 L2)))))), (nf, .inl (g 3, 3, .inr (.inr (.inr (.inr (rf3 w0 w1 w2)))))), (nb, .inl (g 0, 12, .inl (upd fb 3 ((fb 3) - 1)))), (L, .inr (2, [.int (nI d), .int 30, .int (nI ev), .int 0, .int lt, .int se, .ref ca, .ref ua, .ref pa, .ref la])), (ua, .inl (g 0, 15, .inl fu)), (la, .inl (g 2, 3, .inr (.inr (.inr (.inr (rf3 a0 a1 a2)))))), (a0, .inr (1, [.int f0, .int f1, .int f2, .int f3, .int f4, .int f5, .int f6])), (w0, .inr (0, [.int 0, .int 0, .int (nI k), .int g3, .int g4, .int (g5 + 1), .int g6, .int 1]))] H := hP
      have hD : va_D A [(n, .inr (3, [.int 1, .int 1, .int 1, .int 0, .int 0, .int (nI t), .int 0, .int 0, .ref nl, .ref nf, .ref nb])), (nl, .inl (g 1, 3, .inr (.inr (.inr (.inr (rf3 L L1 L2)))))), (nf, .inl (g 3, 3, .inr (.inr (.inr (.inr (rf3 w0 w1 w2)))))), (nb, .inl (g 0, 12, .inl (upd fb 3 ((fb 3) - 1)))), (L, .inr (2, [.int (nI d), .int 30, .int (nI ev), .int 0, .int lt, .int se, .ref ca, .ref ua, .ref pa, .ref la])), (ua, .inl (g 0, 15, .inl fu)), (la, .inl (g 2, 3, .inr (.inr (.inr (.inr (rf3 a0 a1 a2)))))), (a0, .inr (1, [.int f0, .int f1, .int f2, .int f3, .int f4, .int f5, .int f6])), (w0, .inr (0, [.int 0, .int 0, .int (nI k), .int g3, .int g4, .int (g5 + 1), .int g6, .int 1]))] := hD
      refine lv_aload_n hx hb dX3_take_72 rfl (lv_at hl 2 rfl) ?_
      refine lv_aload_n hx hb dX3_take_73 rfl (lv_at hl 2 rfl) ?_
      refine va_get (D := D) (ci := 3) (v := .int 1) (C := RX3) (T := TX3) (N := 11) hx hb hts iX3 hown hK hP 0 rfl rfl 0 (by decide) f53 (fun _ h9 => h9) rfl dX3_take_74 ?_
      refine lv_iconst (v := 1) hx hb dX3_take_77 (by decide) ?_
      refine lv_isub hx hb dX3_take_78 ?_
      refine lv_eqi (y := 0) (by decide) ?_
      refine lv_iload_n hx hb dX3_take_79 rfl (lv_at hl 3 rfl) ?_
      refine ky_Vv (As := [.int 0, .int 0]) (rest := []) ⟨hx, hb, hml, hown, hts⟩ ⟨hK, hN⟩ hZ hP hD hS hA [0, 1, 4, 5, 6, 7] [2, 3, 8] (wc := [(n, .inr (3, [.int 1, .int 1, .int 1, .int 0, .int 0, .int (nI t), .int 0, .int 0, .ref nl, .ref nf, .ref nb])), (nl, .inl (g 1, 3, .inr (.inr (.inr (.inr (rf3 L L1 L2)))))), (L, .inr (2, [.int (nI d), .int 30, .int (nI ev), .int 0, .int lt, .int se, .ref ca, .ref ua, .ref pa, .ref la])), (ua, .inl (g 0, 15, .inl fu)), (la, .inl (g 2, 3, .inr (.inr (.inr (.inr (rf3 a0 a1 a2)))))), (a0, .inr (1, [.int f0, .int f1, .int f2, .int f3, .int f4, .int f5, .int f6]))]) (wr := [(nf, .inl (g 3, 3, .inr (.inr (.inr (.inr (rf3 w0 w1 w2)))))), (nb, .inl (g 0, 12, .inl (upd fb 3 ((fb 3) - 1)))), (w0, .inr (0, [.int 0, .int 0, .int (nI k), .int g3, .int g4, .int (g5 + 1), .int g6, .int 1]))]) rfl rfl rfl rfl (by decide) (c_X3_goneFrom l D g H.size n nl nf nb L L1 L2 ca ua pa la a0 a1 a2 f0 f1 f2 f3 f4 f5 f6 t d ev lt se fu (ht) (hd)) (cwV 2 hts gX3_take_X3_goneFrom rfl rfl rfl (by decide +kernel) ⟨(Nat.le_of_ble_eq_true rfl), (Nat.le_of_ble_eq_true rfl)⟩) 0 3 rfl rfl rfl rfl hl.1 rfl (Nat.le_of_ble_eq_true rfl) dX3_take_80 ⟨(Nat.le_of_ble_eq_true rfl), (Nat.le_of_ble_eq_true rfl)⟩ (fun u H locs hw hP hD hS => ?_)
      obtain ⟨su2_4, fu2_5, rfl, hf_7, hf_8⟩ := hw
      have hP : va_P D vwCl [(nf, .inl (g 3, 3, .inr (.inr (.inr (.inr (rf3 w0 w1 w2)))))), (nb, .inl (g 0, 12, .inl (upd fb 3 ((fb 3) - 1)))), (w0, .inr (0, [.int 0, .int 0, .int (nI k), .int g3, .int g4, .int (g5 + 1), .int g6, .int 1])), (n, .inr (3, [.int 1, .int 1, .int 1, .int 0, .int 0, .int (nI t), .int 0, .int 0, .ref nl, .ref nf, .ref nb])), (nl, .inl (g 1, 3, .inr (.inr (.inr (.inr (rf3 L L1 L2)))))), (L, .inr (2, [.int (nI d), .int 30, .int (nI ev), .int 0, .int lt, .int se, .ref ca, .ref ua, .ref pa, .ref la])), (ua, .inl (g 0, 15, .inl fu2_5)), (la, .inl (g 2, 3, .inr (.inr (.inr (.inr (rf3 a0 a1 a2)))))), (a0, .inr (1, [.int f0, .int ((f1 + 1) &&& 63), .int f2, .int f3, .int f4, .int su2_4, .int f6]))] H := hP
      have hD : va_D A [(nf, .inl (g 3, 3, .inr (.inr (.inr (.inr (rf3 w0 w1 w2)))))), (nb, .inl (g 0, 12, .inl (upd fb 3 ((fb 3) - 1)))), (w0, .inr (0, [.int 0, .int 0, .int (nI k), .int g3, .int g4, .int (g5 + 1), .int g6, .int 1])), (n, .inr (3, [.int 1, .int 1, .int 1, .int 0, .int 0, .int (nI t), .int 0, .int 0, .ref nl, .ref nf, .ref nb])), (nl, .inl (g 1, 3, .inr (.inr (.inr (.inr (rf3 L L1 L2)))))), (L, .inr (2, [.int (nI d), .int 30, .int (nI ev), .int 0, .int lt, .int se, .ref ca, .ref ua, .ref pa, .ref la])), (ua, .inl (g 0, 15, .inl fu2_5)), (la, .inl (g 2, 3, .inr (.inr (.inr (.inr (rf3 a0 a1 a2)))))), (a0, .inr (1, [.int f0, .int ((f1 + 1) &&& 63), .int f2, .int f3, .int f4, .int su2_4, .int f6]))] := hD
      refine W.widen (k := 0) (n := 0) (Nat.le_of_ble_eq_true rfl) (Nat.le_of_ble_eq_true rfl) ?_
      have hP9 := hP.sub (ws' := [(n, .inr (3, [.int 1, .int 1, .int 1, .int 0, .int 0, .int (nI t), .int 0, .int 0, .ref nl, .ref nf, .ref nb])), (nl, .inl (g 1, 3, .inr (.inr (.inr (.inr (rf3 L L1 L2)))))), (nf, .inl (g 3, 3, .inr (.inr (.inr (.inr (rf3 w0 w1 w2)))))), (nb, .inl (g 0, 12, .inl (upd fb 3 ((fb 3) - 1)))), (L, .inr (2, [.int (nI d), .int 30, .int (nI ev), .int 0, .int lt, .int se, .ref ca, .ref ua, .ref pa, .ref la])), (ua, .inl (g 0, 15, .inl fu2_5)), (la, .inl (g 2, 3, .inr (.inr (.inr (.inr (rf3 a0 a1 a2)))))), (a0, .inr (1, [.int f0, .int ((f1 + 1) &&& 63), .int f2, .int f3, .int f4, .int su2_4, .int f6])), (w0, .inr (0, [.int 0, .int 0, .int (nI k), .int g3, .int g4, .int (g5 + 1), .int g6, .int 1]))]) [3, 4, 0, 1, 5, 6, 7, 8, 2] rfl
      have hD9 := hD.sub (ws' := [(n, .inr (3, [.int 1, .int 1, .int 1, .int 0, .int 0, .int (nI t), .int 0, .int 0, .ref nl, .ref nf, .ref nb])), (nl, .inl (g 1, 3, .inr (.inr (.inr (.inr (rf3 L L1 L2)))))), (nf, .inl (g 3, 3, .inr (.inr (.inr (.inr (rf3 w0 w1 w2)))))), (nb, .inl (g 0, 12, .inl (upd fb 3 ((fb 3) - 1)))), (L, .inr (2, [.int (nI d), .int 30, .int (nI ev), .int 0, .int lt, .int se, .ref ca, .ref ua, .ref pa, .ref la])), (ua, .inl (g 0, 15, .inl fu2_5)), (la, .inl (g 2, 3, .inr (.inr (.inr (.inr (rf3 a0 a1 a2)))))), (a0, .inr (1, [.int f0, .int ((f1 + 1) &&& 63), .int f2, .int f3, .int f4, .int su2_4, .int f6])), (w0, .inr (0, [.int 0, .int 0, .int (nI k), .int g3, .int g4, .int (g5 + 1), .int g6, .int 1]))]) [3, 4, 0, 1, 5, 6, 7, 8, 2] (by decide) rfl
      subst hQ
      refine W.widen (k := 0) (n := 0) (Nat.le_of_ble_eq_true rfl) (Nat.le_of_ble_eq_true rfl) ?_
      exact W.vret hx hb hr (fun tS htS _ => ⟨⟨_, rfl, ⟨(upd fb 3 ((fb 3) - 1)), (g5 + 1), 1, ((f1 + 1) &&& 63), su2_4, fu2_5, rfl, fun _ => ⟨rfl, rfl, rfl, hf_7, hf_8⟩, fun h => absurd ⟨b01_1.mp cb_2, Int32.not_le.mp cb_3⟩ h⟩, by rw [htS]; exact hP9, hD9⟩, hS.F htS⟩) hS.2.2 dX3_take_83
set_option maxHeartbeats 4000000 in
set_option maxRecDepth 100000 in
theorem c_X3_nextSender (l : Launch) (D : va_G) (g : Nat → ClassId) (sz : Nat) (n : Nat) (nl : Nat) (nf : Nat) (nb : Nat) (L : Nat) (L1 : Nat) (L2 : Nat) (ca : Nat) (ua : Nat) (pa : Nat) (la : Nat) (a0 : Nat) (a1 : Nat) (a2 : Nat) (f0 : Int32) (f1 : Int32) (f2 : Int32) (f3 : Int32) (f4 : Int32) (f5 : Int32) (f6 : Int32) (t : Nat) (d : Nat) (ev : Nat) (lt : Int32) (se : Int32) (fb : Nat → Int32) (hlt : lt = -1 ∨ lt = 0) : Met l yX3_nextSender wsX3_nextSender ({ frames := 1, cells := 0, slots := 0, locals := 20 }) (va_Pc [.ref n, .int 0] (pre D g sz [(n, .inr (3, [.int 1, .int 1, .int 1, .int 0, .int 0, .int (nI t), .int 0, .int 0, .ref nl, .ref nf, .ref nb])), (nl, .inl (g 1, 3, .inr (.inr (.inr (.inr (rf3 L L1 L2)))))), (nb, .inl (g 0, 12, .inl fb)), (L, .inr (2, [.int (nI d), .int 30, .int (nI ev), .int 0, .int lt, .int se, .ref ca, .ref ua, .ref pa, .ref la])), (la, .inl (g 2, 3, .inr (.inr (.inr (.inr (rf3 a0 a1 a2)))))), (a0, .inr (1, [.int f0, .int f1, .int f2, .int f3, .int f4, .int f5, .int f6]))])) (va_Qi (fun (r : Int32) (u : va_W) => u = [(n, .inr (3, [.int 1, .int 1, .int 1, .int 0, .int 0, .int (nI t), .int 0, .int 0, .ref nl, .ref nf, .ref nb])), (nl, .inl (g 1, 3, .inr (.inr (.inr (.inr (rf3 L L1 L2)))))), (nb, .inl (g 0, 12, .inl fb)), (L, .inr (2, [.int (nI d), .int 30, .int (nI ev), .int 0, .int lt, .int se, .ref ca, .ref ua, .ref pa, .ref la])), (la, .inl (g 2, 3, .inr (.inr (.inr (.inr (rf3 a0 a1 a2)))))), (a0, .inr (1, [.int f0, .int f1, .int f2, .int f3, .int f4, .int f5, .int f6]))] ∧ r = (if (0 < fb 0 ∧ ((f0 - f2) &&& 63) < f3) then 0 else (-1))) (wd D (va_A [(n, .inr (3, [.int 1, .int 1, .int 1, .int 0, .int 0, .int (nI t), .int 0, .int 0, .ref nl, .ref nf, .ref nb])), (nl, .inl (g 1, 3, .inr (.inr (.inr (.inr (rf3 L L1 L2)))))), (nb, .inl (g 0, 12, .inl fb)), (L, .inr (2, [.int (nI d), .int 30, .int (nI ev), .int 0, .int lt, .int se, .ref ca, .ref ua, .ref pa, .ref la])), (la, .inl (g 2, 3, .inr (.inr (.inr (.inr (rf3 a0 a1 a2)))))), (a0, .inr (1, [.int f0, .int f1, .int f2, .int f3, .int f4, .int f5, .int f6]))] sz)) (va_A [(n, .inr (3, [.int 1, .int 1, .int 1, .int 0, .int 0, .int (nI t), .int 0, .int 0, .ref nl, .ref nf, .ref nb])), (nl, .inl (g 1, 3, .inr (.inr (.inr (.inr (rf3 L L1 L2)))))), (nb, .inl (g 0, 12, .inl fb)), (L, .inr (2, [.int (nI d), .int 30, .int (nI ev), .int 0, .int lt, .int se, .ref ca, .ref ua, .ref pa, .ref la])), (la, .inl (g 2, 3, .inr (.inr (.inr (.inr (rf3 a0 a1 a2)))))), (a0, .inr (1, [.int f0, .int f1, .int f2, .int f3, .int f4, .int f5, .int f6]))] sz)) 0 0 (va_A [(n, .inr (3, [.int 1, .int 1, .int 1, .int 0, .int 0, .int (nI t), .int 0, .int 0, .ref nl, .ref nf, .ref nb])), (nl, .inl (g 1, 3, .inr (.inr (.inr (.inr (rf3 L L1 L2)))))), (nb, .inl (g 0, 12, .inl fb)), (L, .inr (2, [.int (nI d), .int 30, .int (nI ev), .int 0, .int lt, .int se, .ref ca, .ref ua, .ref pa, .ref la])), (la, .inl (g 2, 3, .inr (.inr (.inr (.inr (rf3 a0 a1 a2)))))), (a0, .inr (1, [.int f0, .int f1, .int f2, .int f3, .int f4, .int f5, .int f6]))] sz) := by
  refine Met.ofW (cc := cX3_nextSender) (maxL := 6) (ret := (some .int)) (by decide) rfl ?_
  intro p e s m args below meth c s₁ B hml hv
  obtain ⟨rfl, hsz, hP, ⟨hK, hN⟩, hD0, hZ⟩ := hv
  have hx := B.exec
  have hb := B.bytes
  have hr := B.returns
  have hts := atoms_spec (ws := wsX3_nextSender) B.pre
  have hown : s.vm.findClass RX3 = some m.cls := findClass_of_methodNamed B.named
  have hlocks := B.notSynchronized
  clear B
  subst hsz
  have hD := hD0.self (sz := s.heap.size)
  clear hD0
  generalize hAe : va_A [(n, .inr (3, [.int 1, .int 1, .int 1, .int 0, .int 0, .int (nI t), .int 0, .int 0, .ref nl, .ref nf, .ref nb])), (nl, .inl (g 1, 3, .inr (.inr (.inr (.inr (rf3 L L1 L2)))))), (nb, .inl (g 0, 12, .inl fb)), (L, .inr (2, [.int (nI d), .int 30, .int (nI ev), .int 0, .int lt, .int se, .ref ca, .ref ua, .ref pa, .ref la])), (la, .inl (g 2, 3, .inr (.inr (.inr (.inr (rf3 a0 a1 a2)))))), (a0, .inr (1, [.int f0, .int f1, .int f2, .int f3, .int f4, .int f5, .int f6]))] s.heap.size = A at hD hZ ⊢
  have hA : ∀ q : Nat, s.heap.size ≤ q → A q := fun q h => by rw [← hAe]; exact Or.inr h
  have hS : va_S A s.heap s.heap [] := va_S.rf
  have f11 := hts (.fieldLink RX3 11 "HopCredits$Net" "links" "[LHopCredits$Link;") (by decide +kernel)
  have f128 := hts (.fieldLink RX3 128 "HopCredits$Link" "lanes" "[LHopCredits$Lane;") (by decide +kernel)
  have f180 := hts (.fieldLink RX3 180 "HopCredits$Link" "latest" "I") (by decide +kernel)
  have f195 := hts (.fieldLink RX3 195 "HopCredits$Lane" "zone" "I") (by decide +kernel)
  have f23 := hts (.fieldLink RX3 23 "HopCredits$Net" "buffers" "[I") (by decide +kernel)
  have f62 := hts (.fieldLink RX3 62 "HopCredits$Net" "circuits" "I") (by decide +kernel)
  have iX1 : ∀ w ∈ u_ws RX1 TX1 7, w ∈ wsX3_nextSender := by decide +kernel
  have iX2 : ∀ w ∈ u_ws RX2 TX2 10, w ∈ wsX3_nextSender := by decide +kernel
  have iX3 : ∀ w ∈ u_ws RX3 TX3 11, w ∈ wsX3_nextSender := by decide +kernel
  have hl := lv_entry ([.ref n, .int 0]) (n := 6) (Nat.le_of_ble_eq_true rfl)
  rw [lg_entry_eq]
  generalize (lg_sl ([.ref n, .int 0]) ++ List.replicate (6 - (lg_sl ([.ref n, .int 0])).length) Slot.unset).toArray = ls at hl ⊢
  have hl : lv_has ls 6 [(0, .ref n), (1, .int 0)] := hl
  generalize hQ : MQ below _ _ s _ _ _ = Q
  generalize hH : s.heap = H at hP ⊢
  have hS : va_S A s.heap H [] := by rw [← hH]; exact hS
  clear hH
  refine lv_aload_n hx hb dX3_nextSender_0 rfl (lv_at hl 0 rfl) ?_
  refine va_get (D := D) (ci := 3) (v := .ref nl) (C := RX3) (T := TX3) (N := 11) hx hb hts iX3 hown hK hP 0 rfl rfl 8 (by decide) f11 (fun _ h9 => h9) rfl dX3_nextSender_1 ?_
  refine lv_iload_n hx hb dX3_nextSender_4 rfl (lv_at hl 1 rfl) ?_
  refine va_aldq (C := "HopCredits$Link") hx hb hK hP 1 1 rfl rfl (by unfold vp_in; decide) dX3_nextSender_5 ?_
  refine lv_eqv (v2 := .ref L) rfl ?_
  refine lv_astore_n (lv' := [(2, .ref L), (0, .ref n), (1, .int 0)]) hx hb dX3_nextSender_6 rfl hl (by decide) rfl (fun ls hl => ?_)
  refine lv_iconst (v := 1) hx hb dX3_nextSender_7 (by decide) ?_
  refine lv_istore_n (lv' := [(3, .int 1), (2, .ref L), (0, .ref n), (1, .int 0)]) hx hb dX3_nextSender_8 rfl hl (by decide) rfl (fun ls hl => ?_)
  refine lv_iload_n hx hb dX3_nextSender_9 rfl (lv_at hl 0 rfl) ?_
  refine lv_aload_n hx hb dX3_nextSender_10 rfl (lv_at hl 2 rfl) ?_
  refine va_get (D := D) (ci := 3) (v := .int 1) (C := RX3) (T := TX3) (N := 11) hx hb hts iX3 hown hK hP 0 rfl rfl 1 (by decide) f62 (fun _ h9 => h9) rfl dX3_nextSender_11 ?_
  refine lv_icmp_gt (tgt := 75) hx hb dX3_nextSender_14 (by decide) (fun cb => absurd cb (by decide)) (fun _ => ?_)
  refine lv_aload_n hx hb dX3_nextSender_17 rfl (lv_at hl 1 rfl) ?_
  refine va_get (D := D) (ci := 2) (v := .int lt) (C := RX2) (T := TX2) (N := 10) hx hb hts iX2 hown hK hP 3 rfl rfl 4 (by decide) f180 (fun _ h9 => h9) rfl dX3_nextSender_18 ?_
  refine lv_iload_n hx hb dX3_nextSender_21 rfl (lv_at hl 0 rfl) ?_
  refine lv_iadd hx hb dX3_nextSender_22 ?_
  refine lv_aload_n hx hb dX3_nextSender_23 rfl (lv_at hl 2 rfl) ?_
  refine va_get (D := D) (ci := 3) (v := .int 1) (C := RX3) (T := TX3) (N := 11) hx hb hts iX3 hown hK hP 0 rfl rfl 1 (by decide) f62 (fun _ h9 => h9) rfl dX3_nextSender_24 ?_
  refine lv_irem hx hb dX3_nextSender_27 (by decide) ?_
  refine lv_eqi (y := 0) (by rcases hlt with rfl | rfl <;> decide) ?_
  refine lv_istore (lv' := [(4, .int 0), (3, .int 1), (2, .ref L), (0, .ref n), (1, .int 0)]) hx hb dX3_nextSender_28 hl (by decide) rfl (fun ls hl => ?_)
  refine lv_aload_n hx hb dX3_nextSender_30 rfl (lv_at hl 2 rfl) ?_
  refine va_get (D := D) (ci := 2) (v := .ref la) (C := RX2) (T := TX2) (N := 10) hx hb hts iX2 hown hK hP 3 rfl rfl 9 (by decide) f128 (fun _ h9 => h9) rfl dX3_nextSender_31 ?_
  refine lv_iload hx hb dX3_nextSender_34 (lv_at hl 0 rfl) ?_
  refine va_aldq (C := "HopCredits$Lane") hx hb hK hP 4 2 rfl rfl (by unfold vp_in; decide) dX3_nextSender_36 ?_
  refine lv_eqv (v2 := .ref a0) rfl ?_
  refine lv_astore (lv' := [(5, .ref a0), (4, .int 0), (3, .int 1), (2, .ref L), (0, .ref n), (1, .int 0)]) hx hb dX3_nextSender_37 hl (by decide) rfl (fun ls hl => ?_)
  refine lv_aload_n hx hb dX3_nextSender_39 rfl (lv_at hl 4 rfl) ?_
  refine va_get (D := D) (ci := 3) (v := .ref nb) (C := RX3) (T := TX3) (N := 11) hx hb hts iX3 hown hK hP 0 rfl rfl 10 (by decide) f23 (fun _ h9 => h9) rfl dX3_nextSender_40 ?_
  refine lv_iload_n hx hb dX3_nextSender_43 rfl (lv_at hl 5 rfl) ?_
  refine lv_iconst (v := 3) hx hb dX3_nextSender_44 (by decide) ?_
  refine lv_imul hx hb dX3_nextSender_45 ?_
  refine lv_eqi (y := 0) (by decide) ?_
  refine lv_iload hx hb dX3_nextSender_46 (lv_at hl 1 rfl) ?_
  refine lv_iadd hx hb dX3_nextSender_48 ?_
  refine lv_eqi (y := 0) (by decide) ?_
  refine va_iald hx hb hK hP 2 0 rfl rfl (by unfold vp_in; decide) dX3_nextSender_49 ?_
  refine lv_eqi (y := (fb 0)) (rfl) ?_
  refine lv_if_le (tgt := 69) hx hb dX3_nextSender_50 (by decide) (fun cb_1 => ?_) (fun cb_1 => ?_)
  · skip
    refine lv_iinc (v := 2) (lv' := [(3, .int 2), (5, .ref a0), (4, .int 0), (2, .ref L), (0, .ref n), (1, .int 0)]) hx hb dX3_nextSender_69 hl (k := 2) rfl (by decide) (by decide) rfl (fun ls hl => ?_)
    refine lv_goto (tgt := 9) hx hb dX3_nextSender_72 (by decide) ?_
    refine lv_iload_n hx hb dX3_nextSender_9 rfl (lv_at hl 0 rfl) ?_
    refine lv_aload_n hx hb dX3_nextSender_10 rfl (lv_at hl 4 rfl) ?_
    refine va_get (D := D) (ci := 3) (v := .int 1) (C := RX3) (T := TX3) (N := 11) hx hb hts iX3 hown hK hP 0 rfl rfl 1 (by decide) f62 (fun _ h9 => h9) rfl dX3_nextSender_11 ?_
    refine lv_icmp_gt (tgt := 75) hx hb dX3_nextSender_14 (by decide) (fun _ => ?_) (fun cb => absurd (by decide) cb)
    refine lv_iconst (v := (-1)) hx hb dX3_nextSender_75 (by decide) ?_
    have hP9 := hP.sub (ws' := [(n, .inr (3, [.int 1, .int 1, .int 1, .int 0, .int 0, .int (nI t), .int 0, .int 0, .ref nl, .ref nf, .ref nb])), (nl, .inl (g 1, 3, .inr (.inr (.inr (.inr (rf3 L L1 L2)))))), (nb, .inl (g 0, 12, .inl fb)), (L, .inr (2, [.int (nI d), .int 30, .int (nI ev), .int 0, .int lt, .int se, .ref ca, .ref ua, .ref pa, .ref la])), (la, .inl (g 2, 3, .inr (.inr (.inr (.inr (rf3 a0 a1 a2)))))), (a0, .inr (1, [.int f0, .int f1, .int f2, .int f3, .int f4, .int f5, .int f6]))]) [0, 1, 2, 3, 4, 5] rfl
    have hD9 := hD.sub (ws' := [(n, .inr (3, [.int 1, .int 1, .int 1, .int 0, .int 0, .int (nI t), .int 0, .int 0, .ref nl, .ref nf, .ref nb])), (nl, .inl (g 1, 3, .inr (.inr (.inr (.inr (rf3 L L1 L2)))))), (nb, .inl (g 0, 12, .inl fb)), (L, .inr (2, [.int (nI d), .int 30, .int (nI ev), .int 0, .int lt, .int se, .ref ca, .ref ua, .ref pa, .ref la])), (la, .inl (g 2, 3, .inr (.inr (.inr (.inr (rf3 a0 a1 a2)))))), (a0, .inr (1, [.int f0, .int f1, .int f2, .int f3, .int f4, .int f5, .int f6]))]) [0, 1, 2, 3, 4, 5] (by decide) rfl
    subst hQ
    refine W.widen (k := 0) (n := 0) (Nat.le_of_ble_eq_true rfl) (Nat.le_of_ble_eq_true rfl) ?_
    exact W.iret (v := (-1)) hx hb hr (fun tS htS _ => ⟨⟨_, _, rfl, ⟨rfl, (if_neg (fun h => absurd h.1 (Int32.not_lt.mpr cb_1))).symm⟩, by rw [htS]; exact hP9, hD9⟩, hS.F htS⟩) hS.2.2 dX3_nextSender_76
  · skip
    refine lv_aload hx hb dX3_nextSender_53 (lv_at hl 0 rfl) ?_
    refine ky_Vi (As := []) (rest := []) ⟨hx, hb, hml, hown, hts⟩ ⟨hK, hN⟩ hZ hP hD hS hA [5] [0, 1, 2, 3, 4] (wc := [(a0, .inr (1, [.int f0, .int f1, .int f2, .int f3, .int f4, .int f5, .int f6]))]) (wr := [(n, .inr (3, [.int 1, .int 1, .int 1, .int 0, .int 0, .int (nI t), .int 0, .int 0, .ref nl, .ref nf, .ref nb])), (nl, .inl (g 1, 3, .inr (.inr (.inr (.inr (rf3 L L1 L2)))))), (nb, .inl (g 0, 12, .inl fb)), (L, .inr (2, [.int (nI d), .int 30, .int (nI ev), .int 0, .int lt, .int se, .ref ca, .ref ua, .ref pa, .ref la])), (la, .inl (g 2, 3, .inr (.inr (.inr (.inr (rf3 a0 a1 a2))))))]) rfl rfl rfl rfl (by decide) (c_X1_out l D g H.size a0 f0 f1 f2 f3 f4 f5 f6) (cwV 0 hts gX3_nextSender_X1_out rfl rfl rfl (by decide +kernel) ⟨(Nat.le_of_ble_eq_true rfl), (Nat.le_of_ble_eq_true rfl)⟩) 5 1 rfl rfl rfl rfl hl.1 rfl (Nat.le_of_ble_eq_true rfl) dX3_nextSender_55 ⟨(Nat.le_of_ble_eq_true rfl), (Nat.le_of_ble_eq_true rfl)⟩ (fun r_2 u H locs hw hP hD hS => ?_)
    obtain ⟨rfl, rfl⟩ := hw
    have hP : va_P D vwCl [(n, .inr (3, [.int 1, .int 1, .int 1, .int 0, .int 0, .int (nI t), .int 0, .int 0, .ref nl, .ref nf, .ref nb])), (nl, .inl (g 1, 3, .inr (.inr (.inr (.inr (rf3 L L1 L2)))))), (nb, .inl (g 0, 12, .inl fb)), (L, .inr (2, [.int (nI d), .int 30, .int (nI ev), .int 0, .int lt, .int se, .ref ca, .ref ua, .ref pa, .ref la])), (la, .inl (g 2, 3, .inr (.inr (.inr (.inr (rf3 a0 a1 a2)))))), (a0, .inr (1, [.int f0, .int f1, .int f2, .int f3, .int f4, .int f5, .int f6]))] H := hP
    have hD : va_D A [(n, .inr (3, [.int 1, .int 1, .int 1, .int 0, .int 0, .int (nI t), .int 0, .int 0, .ref nl, .ref nf, .ref nb])), (nl, .inl (g 1, 3, .inr (.inr (.inr (.inr (rf3 L L1 L2)))))), (nb, .inl (g 0, 12, .inl fb)), (L, .inr (2, [.int (nI d), .int 30, .int (nI ev), .int 0, .int lt, .int se, .ref ca, .ref ua, .ref pa, .ref la])), (la, .inl (g 2, 3, .inr (.inr (.inr (.inr (rf3 a0 a1 a2)))))), (a0, .inr (1, [.int f0, .int f1, .int f2, .int f3, .int f4, .int f5, .int f6]))] := hD
    refine W.widen (k := 0) (n := 0) (Nat.le_of_ble_eq_true rfl) (Nat.le_of_ble_eq_true rfl) ?_
    refine lv_aload hx hb dX3_nextSender_58 (lv_at hl 0 rfl) ?_
    refine va_get (D := D) (ci := 1) (v := .int f3) (C := RX1) (T := TX1) (N := 7) hx hb hts iX1 hown hK hP 5 rfl rfl 3 (by decide) f195 (fun _ h9 => h9) rfl dX3_nextSender_60 ?_
    refine lv_icmp_ge (tgt := 69) hx hb dX3_nextSender_63 (by decide) (fun cb_3 => ?_) (fun cb_3 => ?_)
    · skip
      refine lv_iinc (v := 2) (lv' := [(3, .int 2), (5, .ref a0), (4, .int 0), (2, .ref L), (0, .ref n), (1, .int 0)]) hx hb dX3_nextSender_69 hl (k := 2) rfl (by decide) (by decide) rfl (fun ls hl => ?_)
      refine lv_goto (tgt := 9) hx hb dX3_nextSender_72 (by decide) ?_
      refine lv_iload_n hx hb dX3_nextSender_9 rfl (lv_at hl 0 rfl) ?_
      refine lv_aload_n hx hb dX3_nextSender_10 rfl (lv_at hl 4 rfl) ?_
      refine va_get (D := D) (ci := 3) (v := .int 1) (C := RX3) (T := TX3) (N := 11) hx hb hts iX3 hown hK hP 0 rfl rfl 1 (by decide) f62 (fun _ h9 => h9) rfl dX3_nextSender_11 ?_
      refine lv_icmp_gt (tgt := 75) hx hb dX3_nextSender_14 (by decide) (fun _ => ?_) (fun cb => absurd (by decide) cb)
      refine lv_iconst (v := (-1)) hx hb dX3_nextSender_75 (by decide) ?_
      have hP9 := hP.sub (ws' := [(n, .inr (3, [.int 1, .int 1, .int 1, .int 0, .int 0, .int (nI t), .int 0, .int 0, .ref nl, .ref nf, .ref nb])), (nl, .inl (g 1, 3, .inr (.inr (.inr (.inr (rf3 L L1 L2)))))), (nb, .inl (g 0, 12, .inl fb)), (L, .inr (2, [.int (nI d), .int 30, .int (nI ev), .int 0, .int lt, .int se, .ref ca, .ref ua, .ref pa, .ref la])), (la, .inl (g 2, 3, .inr (.inr (.inr (.inr (rf3 a0 a1 a2)))))), (a0, .inr (1, [.int f0, .int f1, .int f2, .int f3, .int f4, .int f5, .int f6]))]) [0, 1, 2, 3, 4, 5] rfl
      have hD9 := hD.sub (ws' := [(n, .inr (3, [.int 1, .int 1, .int 1, .int 0, .int 0, .int (nI t), .int 0, .int 0, .ref nl, .ref nf, .ref nb])), (nl, .inl (g 1, 3, .inr (.inr (.inr (.inr (rf3 L L1 L2)))))), (nb, .inl (g 0, 12, .inl fb)), (L, .inr (2, [.int (nI d), .int 30, .int (nI ev), .int 0, .int lt, .int se, .ref ca, .ref ua, .ref pa, .ref la])), (la, .inl (g 2, 3, .inr (.inr (.inr (.inr (rf3 a0 a1 a2)))))), (a0, .inr (1, [.int f0, .int f1, .int f2, .int f3, .int f4, .int f5, .int f6]))]) [0, 1, 2, 3, 4, 5] (by decide) rfl
      subst hQ
      refine W.widen (k := 0) (n := 0) (Nat.le_of_ble_eq_true rfl) (Nat.le_of_ble_eq_true rfl) ?_
      exact W.iret (v := (-1)) hx hb hr (fun tS htS _ => ⟨⟨_, _, rfl, ⟨rfl, (if_neg (fun h => absurd h.2 (Int32.not_lt.mpr cb_3))).symm⟩, by rw [htS]; exact hP9, hD9⟩, hS.F htS⟩) hS.2.2 dX3_nextSender_76
    · skip
      refine lv_iload hx hb dX3_nextSender_66 (lv_at hl 1 rfl) ?_
      have hP9 := hP.sub (ws' := [(n, .inr (3, [.int 1, .int 1, .int 1, .int 0, .int 0, .int (nI t), .int 0, .int 0, .ref nl, .ref nf, .ref nb])), (nl, .inl (g 1, 3, .inr (.inr (.inr (.inr (rf3 L L1 L2)))))), (nb, .inl (g 0, 12, .inl fb)), (L, .inr (2, [.int (nI d), .int 30, .int (nI ev), .int 0, .int lt, .int se, .ref ca, .ref ua, .ref pa, .ref la])), (la, .inl (g 2, 3, .inr (.inr (.inr (.inr (rf3 a0 a1 a2)))))), (a0, .inr (1, [.int f0, .int f1, .int f2, .int f3, .int f4, .int f5, .int f6]))]) [0, 1, 2, 3, 4, 5] rfl
      have hD9 := hD.sub (ws' := [(n, .inr (3, [.int 1, .int 1, .int 1, .int 0, .int 0, .int (nI t), .int 0, .int 0, .ref nl, .ref nf, .ref nb])), (nl, .inl (g 1, 3, .inr (.inr (.inr (.inr (rf3 L L1 L2)))))), (nb, .inl (g 0, 12, .inl fb)), (L, .inr (2, [.int (nI d), .int 30, .int (nI ev), .int 0, .int lt, .int se, .ref ca, .ref ua, .ref pa, .ref la])), (la, .inl (g 2, 3, .inr (.inr (.inr (.inr (rf3 a0 a1 a2)))))), (a0, .inr (1, [.int f0, .int f1, .int f2, .int f3, .int f4, .int f5, .int f6]))]) [0, 1, 2, 3, 4, 5] (by decide) rfl
      subst hQ
      refine W.widen (k := 0) (n := 0) (Nat.le_of_ble_eq_true rfl) (Nat.le_of_ble_eq_true rfl) ?_
      exact W.iret (v := 0) hx hb hr (fun tS htS _ => ⟨⟨_, _, rfl, ⟨rfl, (if_pos ⟨Int32.not_le.mp cb_1, Int32.not_le.mp cb_3⟩).symm⟩, by rw [htS]; exact hP9, hD9⟩, hS.F htS⟩) hS.2.2 dX3_nextSender_68
set_option maxHeartbeats 4000000 in
set_option maxRecDepth 100000 in
theorem c_X3_sendOver (l : Launch) (D : va_G) (g : Nat → ClassId) (sz : Nat) (n : Nat) (nl : Nat) (nf : Nat) (nb : Nat) (L : Nat) (L1 : Nat) (L2 : Nat) (ca : Nat) (ua : Nat) (pa : Nat) (la : Nat) (a0 : Nat) (a1 : Nat) (a2 : Nat) (f0 : Int32) (f1 : Int32) (f2 : Int32) (f3 : Int32) (f4 : Int32) (f5 : Int32) (f6 : Int32) (t : Nat) (d : Nat) (ev : Nat) (lt : Int32) (se : Int32) (fb : Nat → Int32) (fc : Nat → Int32) (ht : t < 2 ^ 30) (hd : d < 5) (hlt : lt = -1 ∨ lt = 0) : Met l yX3_sendOver wsX3_sendOver ({ frames := 2, cells := 0, slots := 0, locals := 45 }) (va_Pc [.ref n, .int 0] (pre D g sz [(n, .inr (3, [.int 1, .int 1, .int 1, .int 0, .int 0, .int (nI t), .int 0, .int 0, .ref nl, .ref nf, .ref nb])), (nl, .inl (g 1, 3, .inr (.inr (.inr (.inr (rf3 L L1 L2)))))), (nb, .inl (g 0, 12, .inl fb)), (L, .inr (2, [.int (nI d), .int 30, .int (nI ev), .int 0, .int lt, .int se, .ref ca, .ref ua, .ref pa, .ref la])), (ca, .inl (g 0, 5, .inl fc)), (la, .inl (g 2, 3, .inr (.inr (.inr (.inr (rf3 a0 a1 a2)))))), (a0, .inr (1, [.int f0, .int f1, .int f2, .int f3, .int f4, .int f5, .int f6]))])) (va_Qv (fun (u : va_W) => ∃ (fb2 : Nat → Int32) (lt2 : Int32) (se2 : Int32) (fc2 : Nat → Int32) (f02 : Int32) (f62 : Int32), u = [(n, .inr (3, [.int 1, .int 1, .int 1, .int 0, .int 0, .int (nI t), .int 0, .int 0, .ref nl, .ref nf, .ref nb])), (nl, .inl (g 1, 3, .inr (.inr (.inr (.inr (rf3 L L1 L2)))))), (nb, .inl (g 0, 12, .inl fb2)), (L, .inr (2, [.int (nI d), .int 30, .int (nI ev), .int 0, .int lt2, .int se2, .ref ca, .ref ua, .ref pa, .ref la])), (ca, .inl (g 0, 5, .inl fc2)), (la, .inl (g 2, 3, .inr (.inr (.inr (.inr (rf3 a0 a1 a2)))))), (a0, .inr (1, [.int f02, .int f1, .int f2, .int f3, .int f4, .int f5, .int f62]))] ∧ ((0 < fb 0 ∧ ((f0 - f2) &&& 63) < f3) → fb2 = upd fb 0 (fb 0 - 1) ∧ lt2 = 0 ∧ fc2 = upd fc ((t + d) % 5) 0 ∧ f02 = ((f0 + 1) &&& 63) ∧ f62 = f6 + 1) ∧ (¬ (0 < fb 0 ∧ ((f0 - f2) &&& 63) < f3) → fb2 = fb ∧ lt2 = lt ∧ fc2 = fc ∧ f02 = f0 ∧ f62 = f6)) (wd D (va_A [(n, .inr (3, [.int 1, .int 1, .int 1, .int 0, .int 0, .int (nI t), .int 0, .int 0, .ref nl, .ref nf, .ref nb])), (nl, .inl (g 1, 3, .inr (.inr (.inr (.inr (rf3 L L1 L2)))))), (nb, .inl (g 0, 12, .inl fb)), (L, .inr (2, [.int (nI d), .int 30, .int (nI ev), .int 0, .int lt, .int se, .ref ca, .ref ua, .ref pa, .ref la])), (ca, .inl (g 0, 5, .inl fc)), (la, .inl (g 2, 3, .inr (.inr (.inr (.inr (rf3 a0 a1 a2)))))), (a0, .inr (1, [.int f0, .int f1, .int f2, .int f3, .int f4, .int f5, .int f6]))] sz)) (va_A [(n, .inr (3, [.int 1, .int 1, .int 1, .int 0, .int 0, .int (nI t), .int 0, .int 0, .ref nl, .ref nf, .ref nb])), (nl, .inl (g 1, 3, .inr (.inr (.inr (.inr (rf3 L L1 L2)))))), (nb, .inl (g 0, 12, .inl fb)), (L, .inr (2, [.int (nI d), .int 30, .int (nI ev), .int 0, .int lt, .int se, .ref ca, .ref ua, .ref pa, .ref la])), (ca, .inl (g 0, 5, .inl fc)), (la, .inl (g 2, 3, .inr (.inr (.inr (.inr (rf3 a0 a1 a2)))))), (a0, .inr (1, [.int f0, .int f1, .int f2, .int f3, .int f4, .int f5, .int f6]))] sz)) 0 0 (va_A [(n, .inr (3, [.int 1, .int 1, .int 1, .int 0, .int 0, .int (nI t), .int 0, .int 0, .ref nl, .ref nf, .ref nb])), (nl, .inl (g 1, 3, .inr (.inr (.inr (.inr (rf3 L L1 L2)))))), (nb, .inl (g 0, 12, .inl fb)), (L, .inr (2, [.int (nI d), .int 30, .int (nI ev), .int 0, .int lt, .int se, .ref ca, .ref ua, .ref pa, .ref la])), (ca, .inl (g 0, 5, .inl fc)), (la, .inl (g 2, 3, .inr (.inr (.inr (.inr (rf3 a0 a1 a2)))))), (a0, .inr (1, [.int f0, .int f1, .int f2, .int f3, .int f4, .int f5, .int f6]))] sz) := by
  refine Met.ofW (cc := cX3_sendOver) (maxL := 5) (ret := none) (by decide) rfl ?_
  intro p e s m args below meth c s₁ B hml hv
  obtain ⟨rfl, hsz, hP, ⟨hK, hN⟩, hD0, hZ⟩ := hv
  have hx := B.exec
  have hb := B.bytes
  have hr := B.returns
  have hts := atoms_spec (ws := wsX3_sendOver) B.pre
  have hown : s.vm.findClass RX3 = some m.cls := findClass_of_methodNamed B.named
  have hlocks := B.notSynchronized
  clear B
  subst hsz
  have hD := hD0.self (sz := s.heap.size)
  clear hD0
  generalize hAe : va_A [(n, .inr (3, [.int 1, .int 1, .int 1, .int 0, .int 0, .int (nI t), .int 0, .int 0, .ref nl, .ref nf, .ref nb])), (nl, .inl (g 1, 3, .inr (.inr (.inr (.inr (rf3 L L1 L2)))))), (nb, .inl (g 0, 12, .inl fb)), (L, .inr (2, [.int (nI d), .int 30, .int (nI ev), .int 0, .int lt, .int se, .ref ca, .ref ua, .ref pa, .ref la])), (ca, .inl (g 0, 5, .inl fc)), (la, .inl (g 2, 3, .inr (.inr (.inr (.inr (rf3 a0 a1 a2)))))), (a0, .inr (1, [.int f0, .int f1, .int f2, .int f3, .int f4, .int f5, .int f6]))] s.heap.size = A at hD hZ ⊢
  have hA : ∀ q : Nat, s.heap.size ≤ q → A q := fun q h => by rw [← hAe]; exact Or.inr h
  have hS : va_S A s.heap s.heap [] := va_S.rf
  have f11 := hts (.fieldLink RX3 11 "HopCredits$Net" "links" "[LHopCredits$Link;") (by decide +kernel)
  have f122 := hts (.fieldLink RX3 122 "HopCredits$Link" "cellAt" "[I") (by decide +kernel)
  have f128 := hts (.fieldLink RX3 128 "HopCredits$Link" "lanes" "[LHopCredits$Lane;") (by decide +kernel)
  have f177 := hts (.fieldLink RX3 177 "HopCredits$Link" "sender" "I") (by decide +kernel)
  have f180 := hts (.fieldLink RX3 180 "HopCredits$Link" "latest" "I") (by decide +kernel)
  have f183 := hts (.fieldLink RX3 183 "HopCredits$Link" "delay" "I") (by decide +kernel)
  have f186 := hts (.fieldLink RX3 186 "HopCredits$Lane" "sent" "I") (by decide +kernel)
  have f189 := hts (.fieldLink RX3 189 "HopCredits$Lane" "sinceAdapt" "I") (by decide +kernel)
  have f23 := hts (.fieldLink RX3 23 "HopCredits$Net" "buffers" "[I") (by decide +kernel)
  have f78 := hts (.fieldLink RX3 78 "HopCredits$Net" "tick" "I") (by decide +kernel)
  have iX1 : ∀ w ∈ u_ws RX1 TX1 7, w ∈ wsX3_sendOver := by decide +kernel
  have iX2 : ∀ w ∈ u_ws RX2 TX2 10, w ∈ wsX3_sendOver := by decide +kernel
  have iX3 : ∀ w ∈ u_ws RX3 TX3 11, w ∈ wsX3_sendOver := by decide +kernel
  have hl := lv_entry ([.ref n, .int 0]) (n := 5) (Nat.le_of_ble_eq_true rfl)
  rw [lg_entry_eq]
  generalize (lg_sl ([.ref n, .int 0]) ++ List.replicate (5 - (lg_sl ([.ref n, .int 0])).length) Slot.unset).toArray = ls at hl ⊢
  have hl : lv_has ls 5 [(0, .ref n), (1, .int 0)] := hl
  generalize hQ : MQ below _ _ s _ _ _ = Q
  generalize hH : s.heap = H at hP ⊢
  have hS : va_S A s.heap H [] := by rw [← hH]; exact hS
  clear hH
  refine lv_aload_n hx hb dX3_sendOver_0 rfl (lv_at hl 0 rfl) ?_
  refine va_get (D := D) (ci := 3) (v := .ref nl) (C := RX3) (T := TX3) (N := 11) hx hb hts iX3 hown hK hP 0 rfl rfl 8 (by decide) f11 (fun _ h9 => h9) rfl dX3_sendOver_1 ?_
  refine lv_iload_n hx hb dX3_sendOver_4 rfl (lv_at hl 1 rfl) ?_
  refine va_aldq (C := "HopCredits$Link") hx hb hK hP 1 1 rfl rfl (by unfold vp_in; decide) dX3_sendOver_5 ?_
  refine lv_eqv (v2 := .ref L) rfl ?_
  refine lv_astore_n (lv' := [(2, .ref L), (0, .ref n), (1, .int 0)]) hx hb dX3_sendOver_6 rfl hl (by decide) rfl (fun ls hl => ?_)
  refine lv_aload_n hx hb dX3_sendOver_7 rfl (lv_at hl 1 rfl) ?_
  refine lv_iload_n hx hb dX3_sendOver_8 rfl (lv_at hl 2 rfl) ?_
  refine ky_Vi (As := [.int 0]) (rest := []) ⟨hx, hb, hml, hown, hts⟩ ⟨hK, hN⟩ hZ hP hD hS hA [0, 1, 2, 3, 5, 6] [4] (wc := [(n, .inr (3, [.int 1, .int 1, .int 1, .int 0, .int 0, .int (nI t), .int 0, .int 0, .ref nl, .ref nf, .ref nb])), (nl, .inl (g 1, 3, .inr (.inr (.inr (.inr (rf3 L L1 L2)))))), (nb, .inl (g 0, 12, .inl fb)), (L, .inr (2, [.int (nI d), .int 30, .int (nI ev), .int 0, .int lt, .int se, .ref ca, .ref ua, .ref pa, .ref la])), (la, .inl (g 2, 3, .inr (.inr (.inr (.inr (rf3 a0 a1 a2)))))), (a0, .inr (1, [.int f0, .int f1, .int f2, .int f3, .int f4, .int f5, .int f6]))]) (wr := [(ca, .inl (g 0, 5, .inl fc))]) rfl rfl rfl rfl (by decide) (c_X3_nextSender l D g H.size n nl nf nb L L1 L2 ca ua pa la a0 a1 a2 f0 f1 f2 f3 f4 f5 f6 t d ev lt se fb (hlt)) (cwV 1 hts gX3_sendOver_X3_nextSender rfl rfl rfl (by decide +kernel) ⟨(Nat.le_of_ble_eq_true rfl), (Nat.le_of_ble_eq_true rfl)⟩) 0 3 rfl rfl rfl rfl hl.1 rfl (Nat.le_of_ble_eq_true rfl) dX3_sendOver_9 ⟨(Nat.le_of_ble_eq_true rfl), (Nat.le_of_ble_eq_true rfl)⟩ (fun r_1 u H locs hw hP hD hS => ?_)
  obtain ⟨rfl, rfl⟩ := hw
  have hP : va_P D vwCl [(ca, .inl (g 0, 5, .inl fc)), (n, .inr (3, [.int 1, .int 1, .int 1, .int 0, .int 0, .int (nI t), .int 0, .int 0, .ref nl, .ref nf, .ref nb])), (nl, .inl (g 1, 3, .inr (.inr (.inr (.inr (rf3 L L1 L2)))))), (nb, .inl (g 0, 12, .inl fb)), (L, .inr (2, [.int (nI d), .int 30, .int (nI ev), .int 0, .int lt, .int se, .ref ca, .ref ua, .ref pa, .ref la])), (la, .inl (g 2, 3, .inr (.inr (.inr (.inr (rf3 a0 a1 a2)))))), (a0, .inr (1, [.int f0, .int f1, .int f2, .int f3, .int f4, .int f5, .int f6]))] H := hP
  have hD : va_D A [(ca, .inl (g 0, 5, .inl fc)), (n, .inr (3, [.int 1, .int 1, .int 1, .int 0, .int 0, .int (nI t), .int 0, .int 0, .ref nl, .ref nf, .ref nb])), (nl, .inl (g 1, 3, .inr (.inr (.inr (.inr (rf3 L L1 L2)))))), (nb, .inl (g 0, 12, .inl fb)), (L, .inr (2, [.int (nI d), .int 30, .int (nI ev), .int 0, .int lt, .int se, .ref ca, .ref ua, .ref pa, .ref la])), (la, .inl (g 2, 3, .inr (.inr (.inr (.inr (rf3 a0 a1 a2)))))), (a0, .inr (1, [.int f0, .int f1, .int f2, .int f3, .int f4, .int f5, .int f6]))] := hD
  refine W.widen (k := 0) (n := 0) (Nat.le_of_ble_eq_true rfl) (Nat.le_of_ble_eq_true rfl) ?_
  refine lv_istore_n (lv' := [(3, .int (if (0 < fb 0 ∧ ((f0 - f2) &&& 63) < f3) then 0 else (-1))), (2, .ref L), (0, .ref n), (1, .int 0)]) hx hb dX3_sendOver_12 rfl hl (by decide) rfl (fun ls hl => ?_)
  refine lv_aload_n hx hb dX3_sendOver_13 rfl (lv_at hl 1 rfl) ?_
  refine lv_iload_n hx hb dX3_sendOver_14 rfl (lv_at hl 0 rfl) ?_
  refine va_put (D := D) (ci := 2) (v := .int (if (0 < fb 0 ∧ ((f0 - f2) &&& 63) < f3) then 0 else (-1))) (ty := .int) (C := RX2) (T := TX2) (N := 10) hx hb hts iX2 tyX2 tyX2_ok nmX2 hown hK hP hD hS 4 rfl rfl 5 (by decide) f177 (fun _ h9 => h9) rfl (by decide +kernel) (rfl) (rfl) (Nat.le_of_ble_eq_true rfl) dX3_sendOver_15 (fun H locs hP hD hS => ?_)
  have hP : va_P D vwCl [(ca, .inl (g 0, 5, .inl fc)), (n, .inr (3, [.int 1, .int 1, .int 1, .int 0, .int 0, .int (nI t), .int 0, .int 0, .ref nl, .ref nf, .ref nb])), (nl, .inl (g 1, 3, .inr (.inr (.inr (.inr (rf3 L L1 L2)))))), (nb, .inl (g 0, 12, .inl fb)), (L, .inr (2, [.int (nI d), .int 30, .int (nI ev), .int 0, .int lt, .int (if (0 < fb 0 ∧ ((f0 - f2) &&& 63) < f3) then 0 else (-1)), .ref ca, .ref ua, .ref pa, .ref la])), (la, .inl (g 2, 3, .inr (.inr (.inr (.inr (rf3 a0 a1 a2)))))), (a0, .inr (1, [.int f0, .int f1, .int f2, .int f3, .int f4, .int f5, .int f6]))] H := hP
  have hD : va_D A [(ca, .inl (g 0, 5, .inl fc)), (n, .inr (3, [.int 1, .int 1, .int 1, .int 0, .int 0, .int (nI t), .int 0, .int 0, .ref nl, .ref nf, .ref nb])), (nl, .inl (g 1, 3, .inr (.inr (.inr (.inr (rf3 L L1 L2)))))), (nb, .inl (g 0, 12, .inl fb)), (L, .inr (2, [.int (nI d), .int 30, .int (nI ev), .int 0, .int lt, .int (if (0 < fb 0 ∧ ((f0 - f2) &&& 63) < f3) then 0 else (-1)), .ref ca, .ref ua, .ref pa, .ref la])), (la, .inl (g 2, 3, .inr (.inr (.inr (.inr (rf3 a0 a1 a2)))))), (a0, .inr (1, [.int f0, .int f1, .int f2, .int f3, .int f4, .int f5, .int f6]))] := hD
  refine lv_iload_n hx hb dX3_sendOver_18 rfl (lv_at hl 0 rfl) ?_
  refine lv_iconst (v := (-1)) hx hb dX3_sendOver_19 (by decide) ?_
  refine lv_icmp_ne (tgt := 24) hx hb dX3_sendOver_20 (by decide) (fun cb_2 => ?_) (fun cb_2 => ?_)
  · skip
    refine lv_aload_n hx hb dX3_sendOver_24 rfl (lv_at hl 1 rfl) ?_
    refine lv_iload_n hx hb dX3_sendOver_25 rfl (lv_at hl 0 rfl) ?_
    refine lv_eqi (y := 0) (if_pos (ifm_y cb_2)) ?_
    refine va_put (D := D) (ci := 2) (v := .int 0) (ty := .int) (C := RX2) (T := TX2) (N := 10) hx hb hts iX2 tyX2 tyX2_ok nmX2 hown hK hP hD hS 4 rfl rfl 4 (by decide) f180 (fun _ h9 => h9) rfl (by decide +kernel) (rfl) (rfl) (Nat.le_of_ble_eq_true rfl) dX3_sendOver_26 (fun H locs hP hD hS => ?_)
    have hP : va_P D vwCl [(ca, .inl (g 0, 5, .inl fc)), (n, .inr (3, [.int 1, .int 1, .int 1, .int 0, .int 0, .int (nI t), .int 0, .int 0, .ref nl, .ref nf, .ref nb])), (nl, .inl (g 1, 3, .inr (.inr (.inr (.inr (rf3 L L1 L2)))))), (nb, .inl (g 0, 12, .inl fb)), (L, .inr (2, [.int (nI d), .int 30, .int (nI ev), .int 0, .int 0, .int (if (0 < fb 0 ∧ ((f0 - f2) &&& 63) < f3) then 0 else (-1)), .ref ca, .ref ua, .ref pa, .ref la])), (la, .inl (g 2, 3, .inr (.inr (.inr (.inr (rf3 a0 a1 a2)))))), (a0, .inr (1, [.int f0, .int f1, .int f2, .int f3, .int f4, .int f5, .int f6]))] H := hP
    have hD : va_D A [(ca, .inl (g 0, 5, .inl fc)), (n, .inr (3, [.int 1, .int 1, .int 1, .int 0, .int 0, .int (nI t), .int 0, .int 0, .ref nl, .ref nf, .ref nb])), (nl, .inl (g 1, 3, .inr (.inr (.inr (.inr (rf3 L L1 L2)))))), (nb, .inl (g 0, 12, .inl fb)), (L, .inr (2, [.int (nI d), .int 30, .int (nI ev), .int 0, .int 0, .int (if (0 < fb 0 ∧ ((f0 - f2) &&& 63) < f3) then 0 else (-1)), .ref ca, .ref ua, .ref pa, .ref la])), (la, .inl (g 2, 3, .inr (.inr (.inr (.inr (rf3 a0 a1 a2)))))), (a0, .inr (1, [.int f0, .int f1, .int f2, .int f3, .int f4, .int f5, .int f6]))] := hD
    refine lv_aload_n hx hb dX3_sendOver_29 rfl (lv_at hl 1 rfl) ?_
    refine va_get (D := D) (ci := 2) (v := .ref ca) (C := RX2) (T := TX2) (N := 10) hx hb hts iX2 hown hK hP 4 rfl rfl 6 (by decide) f122 (fun _ h9 => h9) rfl dX3_sendOver_30 ?_
    refine lv_aload_n hx hb dX3_sendOver_33 rfl (lv_at hl 2 rfl) ?_
    refine va_get (D := D) (ci := 3) (v := .int (nI t)) (C := RX3) (T := TX3) (N := 11) hx hb hts iX3 hown hK hP 1 rfl rfl 5 (by decide) f78 (fun _ h9 => h9) rfl dX3_sendOver_34 ?_
    refine lv_aload_n hx hb dX3_sendOver_37 rfl (lv_at hl 1 rfl) ?_
    refine va_get (D := D) (ci := 2) (v := .int (nI d)) (C := RX2) (T := TX2) (N := 10) hx hb hts iX2 hown hK hP 4 rfl rfl 0 (by decide) f183 (fun _ h9 => h9) rfl dX3_sendOver_38 ?_
    refine lv_iadd hx hb dX3_sendOver_41 ?_
    refine lv_eqi (y := (nI (t + d))) (nI_add (t) (d)) ?_
    refine lv_iconst (v := 5) hx hb dX3_sendOver_42 (by decide) ?_
    refine lv_irem hx hb dX3_sendOver_43 (by decide) ?_
    refine lv_eqi (y := (nI ((t + d) % 5))) (pk_rem (show t + d < 2 ^ 31 by omega) (show 0 < 5 by omega) (show 5 < 2 ^ 31 by omega)) ?_
    refine lv_iload_n hx hb dX3_sendOver_44 rfl (lv_at hl 0 rfl) ?_
    refine lv_eqi (y := 0) (if_pos (ifm_y cb_2)) ?_
    refine va_iast hx hb hK hP hD hS 0 0 rfl rfl (vp_in_nI (show (t + d) % 5 < 5 by omega) (by decide)) dX3_sendOver_45 (fun H locs hP hD hS => ?_)
    have hP : va_P D vwCl [(ca, .inl (g 0, 5, .inl (upd fc (nI ((t + d) % 5)).toNatClampNeg 0))), (n, .inr (3, [.int 1, .int 1, .int 1, .int 0, .int 0, .int (nI t), .int 0, .int 0, .ref nl, .ref nf, .ref nb])), (nl, .inl (g 1, 3, .inr (.inr (.inr (.inr (rf3 L L1 L2)))))), (nb, .inl (g 0, 12, .inl fb)), (L, .inr (2, [.int (nI d), .int 30, .int (nI ev), .int 0, .int 0, .int (if (0 < fb 0 ∧ ((f0 - f2) &&& 63) < f3) then 0 else (-1)), .ref ca, .ref ua, .ref pa, .ref la])), (la, .inl (g 2, 3, .inr (.inr (.inr (.inr (rf3 a0 a1 a2)))))), (a0, .inr (1, [.int f0, .int f1, .int f2, .int f3, .int f4, .int f5, .int f6]))] H := hP
    have hD : va_D A [(ca, .inl (g 0, 5, .inl (upd fc (nI ((t + d) % 5)).toNatClampNeg 0))), (n, .inr (3, [.int 1, .int 1, .int 1, .int 0, .int 0, .int (nI t), .int 0, .int 0, .ref nl, .ref nf, .ref nb])), (nl, .inl (g 1, 3, .inr (.inr (.inr (.inr (rf3 L L1 L2)))))), (nb, .inl (g 0, 12, .inl fb)), (L, .inr (2, [.int (nI d), .int 30, .int (nI ev), .int 0, .int 0, .int (if (0 < fb 0 ∧ ((f0 - f2) &&& 63) < f3) then 0 else (-1)), .ref ca, .ref ua, .ref pa, .ref la])), (la, .inl (g 2, 3, .inr (.inr (.inr (.inr (rf3 a0 a1 a2)))))), (a0, .inr (1, [.int f0, .int f1, .int f2, .int f3, .int f4, .int f5, .int f6]))] := hD
    rw [nI_clamp (show (t + d) % 5 < 2 ^ 31 by omega)] at hP hD
    have hP : va_P D vwCl [(ca, .inl (g 0, 5, .inl (upd fc ((t + d) % 5) 0))), (n, .inr (3, [.int 1, .int 1, .int 1, .int 0, .int 0, .int (nI t), .int 0, .int 0, .ref nl, .ref nf, .ref nb])), (nl, .inl (g 1, 3, .inr (.inr (.inr (.inr (rf3 L L1 L2)))))), (nb, .inl (g 0, 12, .inl fb)), (L, .inr (2, [.int (nI d), .int 30, .int (nI ev), .int 0, .int 0, .int (if (0 < fb 0 ∧ ((f0 - f2) &&& 63) < f3) then 0 else (-1)), .ref ca, .ref ua, .ref pa, .ref la])), (la, .inl (g 2, 3, .inr (.inr (.inr (.inr (rf3 a0 a1 a2)))))), (a0, .inr (1, [.int f0, .int f1, .int f2, .int f3, .int f4, .int f5, .int f6]))] H := hP
    have hD : va_D A [(ca, .inl (g 0, 5, .inl (upd fc ((t + d) % 5) 0))), (n, .inr (3, [.int 1, .int 1, .int 1, .int 0, .int 0, .int (nI t), .int 0, .int 0, .ref nl, .ref nf, .ref nb])), (nl, .inl (g 1, 3, .inr (.inr (.inr (.inr (rf3 L L1 L2)))))), (nb, .inl (g 0, 12, .inl fb)), (L, .inr (2, [.int (nI d), .int 30, .int (nI ev), .int 0, .int 0, .int (if (0 < fb 0 ∧ ((f0 - f2) &&& 63) < f3) then 0 else (-1)), .ref ca, .ref ua, .ref pa, .ref la])), (la, .inl (g 2, 3, .inr (.inr (.inr (.inr (rf3 a0 a1 a2)))))), (a0, .inr (1, [.int f0, .int f1, .int f2, .int f3, .int f4, .int f5, .int f6]))] := hD
    refine lv_aload_n hx hb dX3_sendOver_46 rfl (lv_at hl 2 rfl) ?_
    refine va_get (D := D) (ci := 3) (v := .ref nb) (C := RX3) (T := TX3) (N := 11) hx hb hts iX3 hown hK hP 1 rfl rfl 10 (by decide) f23 (fun _ h9 => h9) rfl dX3_sendOver_47 ?_
    refine lv_iload_n hx hb dX3_sendOver_50 rfl (lv_at hl 3 rfl) ?_
    refine lv_iconst (v := 3) hx hb dX3_sendOver_51 (by decide) ?_
    refine lv_imul hx hb dX3_sendOver_52 ?_
    refine lv_eqi (y := 0) (by decide) ?_
    refine lv_iload_n hx hb dX3_sendOver_53 rfl (lv_at hl 0 rfl) ?_
    refine lv_eqi (y := 0) (if_pos (ifm_y cb_2)) ?_
    refine lv_iadd hx hb dX3_sendOver_54 ?_
    refine lv_eqi (y := 0) (by decide) ?_
    refine lv_dup2_11 hx hb dX3_sendOver_55 rfl rfl ?_
    refine va_iald hx hb hK hP 3 0 rfl rfl (by unfold vp_in; decide) dX3_sendOver_56 ?_
    refine lv_eqi (y := (fb 0)) (rfl) ?_
    refine lv_iconst (v := 1) hx hb dX3_sendOver_57 (by decide) ?_
    refine lv_isub hx hb dX3_sendOver_58 ?_
    refine va_iast hx hb hK hP hD hS 3 0 rfl rfl (by unfold vp_in; decide) dX3_sendOver_59 (fun H locs hP hD hS => ?_)
    have hP : va_P D vwCl [(ca, .inl (g 0, 5, .inl (upd fc ((t + d) % 5) 0))), (n, .inr (3, [.int 1, .int 1, .int 1, .int 0, .int 0, .int (nI t), .int 0, .int 0, .ref nl, .ref nf, .ref nb])), (nl, .inl (g 1, 3, .inr (.inr (.inr (.inr (rf3 L L1 L2)))))), (nb, .inl (g 0, 12, .inl (upd fb 0 ((fb 0) - 1)))), (L, .inr (2, [.int (nI d), .int 30, .int (nI ev), .int 0, .int 0, .int (if (0 < fb 0 ∧ ((f0 - f2) &&& 63) < f3) then 0 else (-1)), .ref ca, .ref ua, .ref pa, .ref la])), (la, .inl (g 2, 3, .inr (.inr (.inr (.inr (rf3 a0 a1 a2)))))), (a0, .inr (1, [.int f0, .int f1, .int f2, .int f3, .int f4, .int f5, .int f6]))] H := hP
    have hD : va_D A [(ca, .inl (g 0, 5, .inl (upd fc ((t + d) % 5) 0))), (n, .inr (3, [.int 1, .int 1, .int 1, .int 0, .int 0, .int (nI t), .int 0, .int 0, .ref nl, .ref nf, .ref nb])), (nl, .inl (g 1, 3, .inr (.inr (.inr (.inr (rf3 L L1 L2)))))), (nb, .inl (g 0, 12, .inl (upd fb 0 ((fb 0) - 1)))), (L, .inr (2, [.int (nI d), .int 30, .int (nI ev), .int 0, .int 0, .int (if (0 < fb 0 ∧ ((f0 - f2) &&& 63) < f3) then 0 else (-1)), .ref ca, .ref ua, .ref pa, .ref la])), (la, .inl (g 2, 3, .inr (.inr (.inr (.inr (rf3 a0 a1 a2)))))), (a0, .inr (1, [.int f0, .int f1, .int f2, .int f3, .int f4, .int f5, .int f6]))] := hD
    refine lv_aload_n hx hb dX3_sendOver_60 rfl (lv_at hl 1 rfl) ?_
    refine va_get (D := D) (ci := 2) (v := .ref la) (C := RX2) (T := TX2) (N := 10) hx hb hts iX2 hown hK hP 4 rfl rfl 9 (by decide) f128 (fun _ h9 => h9) rfl dX3_sendOver_61 ?_
    refine lv_iload_n hx hb dX3_sendOver_64 rfl (lv_at hl 0 rfl) ?_
    refine lv_eqi (y := 0) (if_pos (ifm_y cb_2)) ?_
    refine va_aldq (C := "HopCredits$Lane") hx hb hK hP 5 2 rfl rfl (by unfold vp_in; decide) dX3_sendOver_65 ?_
    refine lv_eqv (v2 := .ref a0) rfl ?_
    refine lv_astore (lv' := [(4, .ref a0), (3, .int (if (0 < fb 0 ∧ ((f0 - f2) &&& 63) < f3) then 0 else (-1))), (2, .ref L), (0, .ref n), (1, .int 0)]) hx hb dX3_sendOver_66 hl (by decide) rfl (fun ls hl => ?_)
    refine lv_aload hx hb dX3_sendOver_68 (lv_at hl 0 rfl) ?_
    refine lv_aload hx hb dX3_sendOver_70 (lv_at hl 0 rfl) ?_
    refine va_get (D := D) (ci := 1) (v := .int f0) (C := RX1) (T := TX1) (N := 7) hx hb hts iX1 hown hK hP 6 rfl rfl 0 (by decide) f186 (fun _ h9 => h9) rfl dX3_sendOver_72 ?_
    refine lv_iconst (v := 1) hx hb dX3_sendOver_75 (by decide) ?_
    refine lv_iadd hx hb dX3_sendOver_76 ?_
    refine lv_bipush (v := 63) hx hb dX3_sendOver_77 (by decide) ?_
    refine lv_iand hx hb dX3_sendOver_79 ?_
    refine va_put (D := D) (ci := 1) (v := .int ((f0 + 1) &&& 63)) (ty := .int) (C := RX1) (T := TX1) (N := 7) hx hb hts iX1 tyX1 tyX1_ok nmX1 hown hK hP hD hS 6 rfl rfl 0 (by decide) f186 (fun _ h9 => h9) rfl (by decide +kernel) (rfl) (rfl) (Nat.le_of_ble_eq_true rfl) dX3_sendOver_80 (fun H locs hP hD hS => ?_)
    have hP : va_P D vwCl [(ca, .inl (g 0, 5, .inl (upd fc ((t + d) % 5) 0))), (n, .inr (3, [.int 1, .int 1, .int 1, .int 0, .int 0, .int (nI t), .int 0, .int 0, .ref nl, .ref nf, .ref nb])), (nl, .inl (g 1, 3, .inr (.inr (.inr (.inr (rf3 L L1 L2)))))), (nb, .inl (g 0, 12, .inl (upd fb 0 ((fb 0) - 1)))), (L, .inr (2, [.int (nI d), .int 30, .int (nI ev), .int 0, .int 0, .int (if (0 < fb 0 ∧ ((f0 - f2) &&& 63) < f3) then 0 else (-1)), .ref ca, .ref ua, .ref pa, .ref la])), (la, .inl (g 2, 3, .inr (.inr (.inr (.inr (rf3 a0 a1 a2)))))), (a0, .inr (1, [.int ((f0 + 1) &&& 63), .int f1, .int f2, .int f3, .int f4, .int f5, .int f6]))] H := hP
    have hD : va_D A [(ca, .inl (g 0, 5, .inl (upd fc ((t + d) % 5) 0))), (n, .inr (3, [.int 1, .int 1, .int 1, .int 0, .int 0, .int (nI t), .int 0, .int 0, .ref nl, .ref nf, .ref nb])), (nl, .inl (g 1, 3, .inr (.inr (.inr (.inr (rf3 L L1 L2)))))), (nb, .inl (g 0, 12, .inl (upd fb 0 ((fb 0) - 1)))), (L, .inr (2, [.int (nI d), .int 30, .int (nI ev), .int 0, .int 0, .int (if (0 < fb 0 ∧ ((f0 - f2) &&& 63) < f3) then 0 else (-1)), .ref ca, .ref ua, .ref pa, .ref la])), (la, .inl (g 2, 3, .inr (.inr (.inr (.inr (rf3 a0 a1 a2)))))), (a0, .inr (1, [.int ((f0 + 1) &&& 63), .int f1, .int f2, .int f3, .int f4, .int f5, .int f6]))] := hD
    refine lv_aload hx hb dX3_sendOver_83 (lv_at hl 0 rfl) ?_
    refine lv_dup hx hb dX3_sendOver_85 rfl ?_
    refine va_get (D := D) (ci := 1) (v := .int f6) (C := RX1) (T := TX1) (N := 7) hx hb hts iX1 hown hK hP 6 rfl rfl 6 (by decide) f189 (fun _ h9 => h9) rfl dX3_sendOver_86 ?_
    refine lv_iconst (v := 1) hx hb dX3_sendOver_89 (by decide) ?_
    refine lv_iadd hx hb dX3_sendOver_90 ?_
    refine va_put (D := D) (ci := 1) (v := .int (f6 + 1)) (ty := .int) (C := RX1) (T := TX1) (N := 7) hx hb hts iX1 tyX1 tyX1_ok nmX1 hown hK hP hD hS 6 rfl rfl 6 (by decide) f189 (fun _ h9 => h9) rfl (by decide +kernel) (rfl) (rfl) (Nat.le_of_ble_eq_true rfl) dX3_sendOver_91 (fun H locs hP hD hS => ?_)
    have hP : va_P D vwCl [(ca, .inl (g 0, 5, .inl (upd fc ((t + d) % 5) 0))), (n, .inr (3, [.int 1, .int 1, .int 1, .int 0, .int 0, .int (nI t), .int 0, .int 0, .ref nl, .ref nf, .ref nb])), (nl, .inl (g 1, 3, .inr (.inr (.inr (.inr (rf3 L L1 L2)))))), (nb, .inl (g 0, 12, .inl (upd fb 0 ((fb 0) - 1)))), (L, .inr (2, [.int (nI d), .int 30, .int (nI ev), .int 0, .int 0, .int (if (0 < fb 0 ∧ ((f0 - f2) &&& 63) < f3) then 0 else (-1)), .ref ca, .ref ua, .ref pa, .ref la])), (la, .inl (g 2, 3, .inr (.inr (.inr (.inr (rf3 a0 a1 a2)))))), (a0, .inr (1, [.int ((f0 + 1) &&& 63), .int f1, .int f2, .int f3, .int f4, .int f5, .int (f6 + 1)]))] H := hP
    have hD : va_D A [(ca, .inl (g 0, 5, .inl (upd fc ((t + d) % 5) 0))), (n, .inr (3, [.int 1, .int 1, .int 1, .int 0, .int 0, .int (nI t), .int 0, .int 0, .ref nl, .ref nf, .ref nb])), (nl, .inl (g 1, 3, .inr (.inr (.inr (.inr (rf3 L L1 L2)))))), (nb, .inl (g 0, 12, .inl (upd fb 0 ((fb 0) - 1)))), (L, .inr (2, [.int (nI d), .int 30, .int (nI ev), .int 0, .int 0, .int (if (0 < fb 0 ∧ ((f0 - f2) &&& 63) < f3) then 0 else (-1)), .ref ca, .ref ua, .ref pa, .ref la])), (la, .inl (g 2, 3, .inr (.inr (.inr (.inr (rf3 a0 a1 a2)))))), (a0, .inr (1, [.int ((f0 + 1) &&& 63), .int f1, .int f2, .int f3, .int f4, .int f5, .int (f6 + 1)]))] := hD
    refine lv_iload_n hx hb dX3_sendOver_94 rfl (lv_at hl 4 rfl) ?_
    refine lv_if_le (tgt := 106) hx hb dX3_sendOver_95 (by decide) (fun _ => ?_) (fun cb => absurd (by decide) cb)
    have hP9 := hP.sub (ws' := [(n, .inr (3, [.int 1, .int 1, .int 1, .int 0, .int 0, .int (nI t), .int 0, .int 0, .ref nl, .ref nf, .ref nb])), (nl, .inl (g 1, 3, .inr (.inr (.inr (.inr (rf3 L L1 L2)))))), (nb, .inl (g 0, 12, .inl (upd fb 0 ((fb 0) - 1)))), (L, .inr (2, [.int (nI d), .int 30, .int (nI ev), .int 0, .int 0, .int (if (0 < fb 0 ∧ ((f0 - f2) &&& 63) < f3) then 0 else (-1)), .ref ca, .ref ua, .ref pa, .ref la])), (ca, .inl (g 0, 5, .inl (upd fc ((t + d) % 5) 0))), (la, .inl (g 2, 3, .inr (.inr (.inr (.inr (rf3 a0 a1 a2)))))), (a0, .inr (1, [.int ((f0 + 1) &&& 63), .int f1, .int f2, .int f3, .int f4, .int f5, .int (f6 + 1)]))]) [1, 2, 3, 4, 0, 5, 6] rfl
    have hD9 := hD.sub (ws' := [(n, .inr (3, [.int 1, .int 1, .int 1, .int 0, .int 0, .int (nI t), .int 0, .int 0, .ref nl, .ref nf, .ref nb])), (nl, .inl (g 1, 3, .inr (.inr (.inr (.inr (rf3 L L1 L2)))))), (nb, .inl (g 0, 12, .inl (upd fb 0 ((fb 0) - 1)))), (L, .inr (2, [.int (nI d), .int 30, .int (nI ev), .int 0, .int 0, .int (if (0 < fb 0 ∧ ((f0 - f2) &&& 63) < f3) then 0 else (-1)), .ref ca, .ref ua, .ref pa, .ref la])), (ca, .inl (g 0, 5, .inl (upd fc ((t + d) % 5) 0))), (la, .inl (g 2, 3, .inr (.inr (.inr (.inr (rf3 a0 a1 a2)))))), (a0, .inr (1, [.int ((f0 + 1) &&& 63), .int f1, .int f2, .int f3, .int f4, .int f5, .int (f6 + 1)]))]) [1, 2, 3, 4, 0, 5, 6] (by decide) rfl
    subst hQ
    refine W.widen (k := 0) (n := 0) (Nat.le_of_ble_eq_true rfl) (Nat.le_of_ble_eq_true rfl) ?_
    exact W.vret hx hb hr (fun tS htS _ => ⟨⟨_, rfl, ⟨(upd fb 0 ((fb 0) - 1)), 0, (if (0 < fb 0 ∧ ((f0 - f2) &&& 63) < f3) then 0 else (-1)), (upd fc ((t + d) % 5) 0), ((f0 + 1) &&& 63), (f6 + 1), rfl, fun _ => ⟨rfl, rfl, rfl, rfl, rfl⟩, fun h => absurd (ifm_y cb_2) h⟩, by rw [htS]; exact hP9, hD9⟩, hS.F htS⟩) hS.2.2 dX3_sendOver_106
  · skip
    have hP9 := hP.sub (ws' := [(n, .inr (3, [.int 1, .int 1, .int 1, .int 0, .int 0, .int (nI t), .int 0, .int 0, .ref nl, .ref nf, .ref nb])), (nl, .inl (g 1, 3, .inr (.inr (.inr (.inr (rf3 L L1 L2)))))), (nb, .inl (g 0, 12, .inl fb)), (L, .inr (2, [.int (nI d), .int 30, .int (nI ev), .int 0, .int lt, .int (if (0 < fb 0 ∧ ((f0 - f2) &&& 63) < f3) then 0 else (-1)), .ref ca, .ref ua, .ref pa, .ref la])), (ca, .inl (g 0, 5, .inl fc)), (la, .inl (g 2, 3, .inr (.inr (.inr (.inr (rf3 a0 a1 a2)))))), (a0, .inr (1, [.int f0, .int f1, .int f2, .int f3, .int f4, .int f5, .int f6]))]) [1, 2, 3, 4, 0, 5, 6] rfl
    have hD9 := hD.sub (ws' := [(n, .inr (3, [.int 1, .int 1, .int 1, .int 0, .int 0, .int (nI t), .int 0, .int 0, .ref nl, .ref nf, .ref nb])), (nl, .inl (g 1, 3, .inr (.inr (.inr (.inr (rf3 L L1 L2)))))), (nb, .inl (g 0, 12, .inl fb)), (L, .inr (2, [.int (nI d), .int 30, .int (nI ev), .int 0, .int lt, .int (if (0 < fb 0 ∧ ((f0 - f2) &&& 63) < f3) then 0 else (-1)), .ref ca, .ref ua, .ref pa, .ref la])), (ca, .inl (g 0, 5, .inl fc)), (la, .inl (g 2, 3, .inr (.inr (.inr (.inr (rf3 a0 a1 a2)))))), (a0, .inr (1, [.int f0, .int f1, .int f2, .int f3, .int f4, .int f5, .int f6]))]) [1, 2, 3, 4, 0, 5, 6] (by decide) rfl
    subst hQ
    refine W.widen (k := 0) (n := 0) (Nat.le_of_ble_eq_true rfl) (Nat.le_of_ble_eq_true rfl) ?_
    exact W.vret hx hb hr (fun tS htS _ => ⟨⟨_, rfl, ⟨fb, lt, (if (0 < fb 0 ∧ ((f0 - f2) &&& 63) < f3) then 0 else (-1)), fc, f0, f6, rfl, fun h => absurd h (ifm_n cb_2), fun _ => ⟨rfl, rfl, rfl, rfl, rfl⟩⟩, by rw [htS]; exact hP9, hD9⟩, hS.F htS⟩) hS.2.2 dX3_sendOver_23
set_option maxHeartbeats 4000000 in
set_option maxRecDepth 100000 in
theorem c_X3_lacksCredit (l : Launch) (D : va_G) (g : Nat → ClassId) (sz : Nat) (n : Nat) (nl : Nat) (nf : Nat) (nb : Nat) (L : Nat) (L1 : Nat) (L2 : Nat) (ca : Nat) (ua : Nat) (pa : Nat) (la : Nat) (a0 : Nat) (a1 : Nat) (a2 : Nat) (f0 : Int32) (f1 : Int32) (f2 : Int32) (f3 : Int32) (f4 : Int32) (f5 : Int32) (f6 : Int32) (t : Nat) (d : Nat) (ev : Nat) (lt : Int32) (se : Int32) (fb : Nat → Int32) : Met l yX3_lacksCredit wsX3_lacksCredit ({ frames := 1, cells := 0, slots := 0, locals := 20 }) (va_Pc [.ref n, .int 0, .int 0] (pre D g sz [(n, .inr (3, [.int 1, .int 1, .int 1, .int 0, .int 0, .int (nI t), .int 0, .int 0, .ref nl, .ref nf, .ref nb])), (nl, .inl (g 1, 3, .inr (.inr (.inr (.inr (rf3 L L1 L2)))))), (nb, .inl (g 0, 12, .inl fb)), (L, .inr (2, [.int (nI d), .int 30, .int (nI ev), .int 0, .int lt, .int se, .ref ca, .ref ua, .ref pa, .ref la])), (la, .inl (g 2, 3, .inr (.inr (.inr (.inr (rf3 a0 a1 a2)))))), (a0, .inr (1, [.int f0, .int f1, .int f2, .int f3, .int f4, .int f5, .int f6]))])) (va_Qi (fun (r : Int32) (u : va_W) => u = [(n, .inr (3, [.int 1, .int 1, .int 1, .int 0, .int 0, .int (nI t), .int 0, .int 0, .ref nl, .ref nf, .ref nb])), (nl, .inl (g 1, 3, .inr (.inr (.inr (.inr (rf3 L L1 L2)))))), (nb, .inl (g 0, 12, .inl fb)), (L, .inr (2, [.int (nI d), .int 30, .int (nI ev), .int 0, .int lt, .int se, .ref ca, .ref ua, .ref pa, .ref la])), (la, .inl (g 2, 3, .inr (.inr (.inr (.inr (rf3 a0 a1 a2)))))), (a0, .inr (1, [.int f0, .int f1, .int f2, .int f3, .int f4, .int f5, .int f6]))] ∧ r = (if 0 < fb 0 ∧ f3 ≤ ((f0 - f2) &&& 63) then 1 else 0)) (wd D (va_A [(n, .inr (3, [.int 1, .int 1, .int 1, .int 0, .int 0, .int (nI t), .int 0, .int 0, .ref nl, .ref nf, .ref nb])), (nl, .inl (g 1, 3, .inr (.inr (.inr (.inr (rf3 L L1 L2)))))), (nb, .inl (g 0, 12, .inl fb)), (L, .inr (2, [.int (nI d), .int 30, .int (nI ev), .int 0, .int lt, .int se, .ref ca, .ref ua, .ref pa, .ref la])), (la, .inl (g 2, 3, .inr (.inr (.inr (.inr (rf3 a0 a1 a2)))))), (a0, .inr (1, [.int f0, .int f1, .int f2, .int f3, .int f4, .int f5, .int f6]))] sz)) (va_A [(n, .inr (3, [.int 1, .int 1, .int 1, .int 0, .int 0, .int (nI t), .int 0, .int 0, .ref nl, .ref nf, .ref nb])), (nl, .inl (g 1, 3, .inr (.inr (.inr (.inr (rf3 L L1 L2)))))), (nb, .inl (g 0, 12, .inl fb)), (L, .inr (2, [.int (nI d), .int 30, .int (nI ev), .int 0, .int lt, .int se, .ref ca, .ref ua, .ref pa, .ref la])), (la, .inl (g 2, 3, .inr (.inr (.inr (.inr (rf3 a0 a1 a2)))))), (a0, .inr (1, [.int f0, .int f1, .int f2, .int f3, .int f4, .int f5, .int f6]))] sz)) 0 0 (va_A [(n, .inr (3, [.int 1, .int 1, .int 1, .int 0, .int 0, .int (nI t), .int 0, .int 0, .ref nl, .ref nf, .ref nb])), (nl, .inl (g 1, 3, .inr (.inr (.inr (.inr (rf3 L L1 L2)))))), (nb, .inl (g 0, 12, .inl fb)), (L, .inr (2, [.int (nI d), .int 30, .int (nI ev), .int 0, .int lt, .int se, .ref ca, .ref ua, .ref pa, .ref la])), (la, .inl (g 2, 3, .inr (.inr (.inr (.inr (rf3 a0 a1 a2)))))), (a0, .inr (1, [.int f0, .int f1, .int f2, .int f3, .int f4, .int f5, .int f6]))] sz) := by
  refine Met.ofW (cc := cX3_lacksCredit) (maxL := 3) (ret := (some .boolean)) (by decide) rfl ?_
  intro p e s m args below meth c s₁ B hml hv
  obtain ⟨rfl, hsz, hP, ⟨hK, hN⟩, hD0, hZ⟩ := hv
  have hx := B.exec
  have hb := B.bytes
  have hr := B.returns
  have hts := atoms_spec (ws := wsX3_lacksCredit) B.pre
  have hown : s.vm.findClass RX3 = some m.cls := findClass_of_methodNamed B.named
  have hlocks := B.notSynchronized
  clear B
  subst hsz
  have hD := hD0.self (sz := s.heap.size)
  clear hD0
  generalize hAe : va_A [(n, .inr (3, [.int 1, .int 1, .int 1, .int 0, .int 0, .int (nI t), .int 0, .int 0, .ref nl, .ref nf, .ref nb])), (nl, .inl (g 1, 3, .inr (.inr (.inr (.inr (rf3 L L1 L2)))))), (nb, .inl (g 0, 12, .inl fb)), (L, .inr (2, [.int (nI d), .int 30, .int (nI ev), .int 0, .int lt, .int se, .ref ca, .ref ua, .ref pa, .ref la])), (la, .inl (g 2, 3, .inr (.inr (.inr (.inr (rf3 a0 a1 a2)))))), (a0, .inr (1, [.int f0, .int f1, .int f2, .int f3, .int f4, .int f5, .int f6]))] s.heap.size = A at hD hZ ⊢
  have hA : ∀ q : Nat, s.heap.size ≤ q → A q := fun q h => by rw [← hAe]; exact Or.inr h
  have hS : va_S A s.heap s.heap [] := va_S.rf
  have f11 := hts (.fieldLink RX3 11 "HopCredits$Net" "links" "[LHopCredits$Link;") (by decide +kernel)
  have f128 := hts (.fieldLink RX3 128 "HopCredits$Link" "lanes" "[LHopCredits$Lane;") (by decide +kernel)
  have f195 := hts (.fieldLink RX3 195 "HopCredits$Lane" "zone" "I") (by decide +kernel)
  have f23 := hts (.fieldLink RX3 23 "HopCredits$Net" "buffers" "[I") (by decide +kernel)
  have iX1 : ∀ w ∈ u_ws RX1 TX1 7, w ∈ wsX3_lacksCredit := by decide +kernel
  have iX2 : ∀ w ∈ u_ws RX2 TX2 10, w ∈ wsX3_lacksCredit := by decide +kernel
  have iX3 : ∀ w ∈ u_ws RX3 TX3 11, w ∈ wsX3_lacksCredit := by decide +kernel
  have hl := lv_entry ([.ref n, .int 0, .int 0]) (n := 3) (Nat.le_of_ble_eq_true rfl)
  rw [lg_entry_eq]
  generalize (lg_sl ([.ref n, .int 0, .int 0]) ++ List.replicate (3 - (lg_sl ([.ref n, .int 0, .int 0])).length) Slot.unset).toArray = ls at hl ⊢
  have hl : lv_has ls 3 [(0, .ref n), (1, .int 0), (2, .int 0)] := hl
  generalize hQ : MQ below _ _ s _ _ _ = Q
  generalize hH : s.heap = H at hP ⊢
  have hS : va_S A s.heap H [] := by rw [← hH]; exact hS
  clear hH
  refine lv_aload_n hx hb dX3_lacksCredit_0 rfl (lv_at hl 0 rfl) ?_
  refine va_get (D := D) (ci := 3) (v := .ref nb) (C := RX3) (T := TX3) (N := 11) hx hb hts iX3 hown hK hP 0 rfl rfl 10 (by decide) f23 (fun _ h9 => h9) rfl dX3_lacksCredit_1 ?_
  refine lv_iload_n hx hb dX3_lacksCredit_4 rfl (lv_at hl 1 rfl) ?_
  refine lv_iconst (v := 3) hx hb dX3_lacksCredit_5 (by decide) ?_
  refine lv_imul hx hb dX3_lacksCredit_6 ?_
  refine lv_eqi (y := 0) (by decide) ?_
  refine lv_iload_n hx hb dX3_lacksCredit_7 rfl (lv_at hl 2 rfl) ?_
  refine lv_iadd hx hb dX3_lacksCredit_8 ?_
  refine lv_eqi (y := 0) (by decide) ?_
  refine va_iald hx hb hK hP 2 0 rfl rfl (by unfold vp_in; decide) dX3_lacksCredit_9 ?_
  refine lv_eqi (y := (fb 0)) (rfl) ?_
  refine lv_if_le (tgt := 48) hx hb dX3_lacksCredit_10 (by decide) (fun cb_1 => ?_) (fun cb_1 => ?_)
  · skip
    refine lv_iconst (v := 0) hx hb dX3_lacksCredit_48 (by decide) ?_
    have hP9 := hP.sub (ws' := [(n, .inr (3, [.int 1, .int 1, .int 1, .int 0, .int 0, .int (nI t), .int 0, .int 0, .ref nl, .ref nf, .ref nb])), (nl, .inl (g 1, 3, .inr (.inr (.inr (.inr (rf3 L L1 L2)))))), (nb, .inl (g 0, 12, .inl fb)), (L, .inr (2, [.int (nI d), .int 30, .int (nI ev), .int 0, .int lt, .int se, .ref ca, .ref ua, .ref pa, .ref la])), (la, .inl (g 2, 3, .inr (.inr (.inr (.inr (rf3 a0 a1 a2)))))), (a0, .inr (1, [.int f0, .int f1, .int f2, .int f3, .int f4, .int f5, .int f6]))]) [0, 1, 2, 3, 4, 5] rfl
    have hD9 := hD.sub (ws' := [(n, .inr (3, [.int 1, .int 1, .int 1, .int 0, .int 0, .int (nI t), .int 0, .int 0, .ref nl, .ref nf, .ref nb])), (nl, .inl (g 1, 3, .inr (.inr (.inr (.inr (rf3 L L1 L2)))))), (nb, .inl (g 0, 12, .inl fb)), (L, .inr (2, [.int (nI d), .int 30, .int (nI ev), .int 0, .int lt, .int se, .ref ca, .ref ua, .ref pa, .ref la])), (la, .inl (g 2, 3, .inr (.inr (.inr (.inr (rf3 a0 a1 a2)))))), (a0, .inr (1, [.int f0, .int f1, .int f2, .int f3, .int f4, .int f5, .int f6]))]) [0, 1, 2, 3, 4, 5] (by decide) rfl
    subst hQ
    refine W.widen (k := 0) (n := 0) (Nat.le_of_ble_eq_true rfl) (Nat.le_of_ble_eq_true rfl) ?_
    exact W.zret (v := 0) (ty := .boolean) hx hb hr (rfl) (fun tS htS _ => ⟨⟨_, _, rfl, ⟨rfl, (if_neg (fun h => absurd h.1 (Int32.not_lt.mpr cb_1))).symm⟩, by rw [htS]; exact hP9, hD9⟩, hS.F htS⟩) hS.2.2 dX3_lacksCredit_49
  · skip
    refine lv_aload_n hx hb dX3_lacksCredit_13 rfl (lv_at hl 0 rfl) ?_
    refine va_get (D := D) (ci := 3) (v := .ref nl) (C := RX3) (T := TX3) (N := 11) hx hb hts iX3 hown hK hP 0 rfl rfl 8 (by decide) f11 (fun _ h9 => h9) rfl dX3_lacksCredit_14 ?_
    refine lv_iload_n hx hb dX3_lacksCredit_17 rfl (lv_at hl 1 rfl) ?_
    refine va_aldq (C := "HopCredits$Link") hx hb hK hP 1 1 rfl rfl (by unfold vp_in; decide) dX3_lacksCredit_18 ?_
    refine lv_eqv (v2 := .ref L) rfl ?_
    refine va_get (D := D) (ci := 2) (v := .ref la) (C := RX2) (T := TX2) (N := 10) hx hb hts iX2 hown hK hP 3 rfl rfl 9 (by decide) f128 (fun _ h9 => h9) rfl dX3_lacksCredit_19 ?_
    refine lv_iload_n hx hb dX3_lacksCredit_22 rfl (lv_at hl 2 rfl) ?_
    refine va_aldq (C := "HopCredits$Lane") hx hb hK hP 4 2 rfl rfl (by unfold vp_in; decide) dX3_lacksCredit_23 ?_
    refine lv_eqv (v2 := .ref a0) rfl ?_
    refine ky_Vi (As := []) (rest := []) ⟨hx, hb, hml, hown, hts⟩ ⟨hK, hN⟩ hZ hP hD hS hA [5] [0, 1, 2, 3, 4] (wc := [(a0, .inr (1, [.int f0, .int f1, .int f2, .int f3, .int f4, .int f5, .int f6]))]) (wr := [(n, .inr (3, [.int 1, .int 1, .int 1, .int 0, .int 0, .int (nI t), .int 0, .int 0, .ref nl, .ref nf, .ref nb])), (nl, .inl (g 1, 3, .inr (.inr (.inr (.inr (rf3 L L1 L2)))))), (nb, .inl (g 0, 12, .inl fb)), (L, .inr (2, [.int (nI d), .int 30, .int (nI ev), .int 0, .int lt, .int se, .ref ca, .ref ua, .ref pa, .ref la])), (la, .inl (g 2, 3, .inr (.inr (.inr (.inr (rf3 a0 a1 a2))))))]) rfl rfl rfl rfl (by decide) (c_X1_out l D g H.size a0 f0 f1 f2 f3 f4 f5 f6) (cwV 0 hts gX3_lacksCredit_X1_out rfl rfl rfl (by decide +kernel) ⟨(Nat.le_of_ble_eq_true rfl), (Nat.le_of_ble_eq_true rfl)⟩) 5 1 rfl rfl rfl rfl hl.1 rfl (Nat.le_of_ble_eq_true rfl) dX3_lacksCredit_24 ⟨(Nat.le_of_ble_eq_true rfl), (Nat.le_of_ble_eq_true rfl)⟩ (fun r_2 u H locs hw hP hD hS => ?_)
    obtain ⟨rfl, rfl⟩ := hw
    have hP : va_P D vwCl [(n, .inr (3, [.int 1, .int 1, .int 1, .int 0, .int 0, .int (nI t), .int 0, .int 0, .ref nl, .ref nf, .ref nb])), (nl, .inl (g 1, 3, .inr (.inr (.inr (.inr (rf3 L L1 L2)))))), (nb, .inl (g 0, 12, .inl fb)), (L, .inr (2, [.int (nI d), .int 30, .int (nI ev), .int 0, .int lt, .int se, .ref ca, .ref ua, .ref pa, .ref la])), (la, .inl (g 2, 3, .inr (.inr (.inr (.inr (rf3 a0 a1 a2)))))), (a0, .inr (1, [.int f0, .int f1, .int f2, .int f3, .int f4, .int f5, .int f6]))] H := hP
    have hD : va_D A [(n, .inr (3, [.int 1, .int 1, .int 1, .int 0, .int 0, .int (nI t), .int 0, .int 0, .ref nl, .ref nf, .ref nb])), (nl, .inl (g 1, 3, .inr (.inr (.inr (.inr (rf3 L L1 L2)))))), (nb, .inl (g 0, 12, .inl fb)), (L, .inr (2, [.int (nI d), .int 30, .int (nI ev), .int 0, .int lt, .int se, .ref ca, .ref ua, .ref pa, .ref la])), (la, .inl (g 2, 3, .inr (.inr (.inr (.inr (rf3 a0 a1 a2)))))), (a0, .inr (1, [.int f0, .int f1, .int f2, .int f3, .int f4, .int f5, .int f6]))] := hD
    refine W.widen (k := 0) (n := 0) (Nat.le_of_ble_eq_true rfl) (Nat.le_of_ble_eq_true rfl) ?_
    refine lv_aload_n hx hb dX3_lacksCredit_27 rfl (lv_at hl 0 rfl) ?_
    refine va_get (D := D) (ci := 3) (v := .ref nl) (C := RX3) (T := TX3) (N := 11) hx hb hts iX3 hown hK hP 0 rfl rfl 8 (by decide) f11 (fun _ h9 => h9) rfl dX3_lacksCredit_28 ?_
    refine lv_iload_n hx hb dX3_lacksCredit_31 rfl (lv_at hl 1 rfl) ?_
    refine va_aldq (C := "HopCredits$Link") hx hb hK hP 1 1 rfl rfl (by unfold vp_in; decide) dX3_lacksCredit_32 ?_
    refine lv_eqv (v2 := .ref L) rfl ?_
    refine va_get (D := D) (ci := 2) (v := .ref la) (C := RX2) (T := TX2) (N := 10) hx hb hts iX2 hown hK hP 3 rfl rfl 9 (by decide) f128 (fun _ h9 => h9) rfl dX3_lacksCredit_33 ?_
    refine lv_iload_n hx hb dX3_lacksCredit_36 rfl (lv_at hl 2 rfl) ?_
    refine va_aldq (C := "HopCredits$Lane") hx hb hK hP 4 2 rfl rfl (by unfold vp_in; decide) dX3_lacksCredit_37 ?_
    refine lv_eqv (v2 := .ref a0) rfl ?_
    refine va_get (D := D) (ci := 1) (v := .int f3) (C := RX1) (T := TX1) (N := 7) hx hb hts iX1 hown hK hP 5 rfl rfl 3 (by decide) f195 (fun _ h9 => h9) rfl dX3_lacksCredit_38 ?_
    refine lv_icmp_lt (tgt := 48) hx hb dX3_lacksCredit_41 (by decide) (fun cb_3 => ?_) (fun cb_3 => ?_)
    · skip
      refine lv_iconst (v := 0) hx hb dX3_lacksCredit_48 (by decide) ?_
      have hP9 := hP.sub (ws' := [(n, .inr (3, [.int 1, .int 1, .int 1, .int 0, .int 0, .int (nI t), .int 0, .int 0, .ref nl, .ref nf, .ref nb])), (nl, .inl (g 1, 3, .inr (.inr (.inr (.inr (rf3 L L1 L2)))))), (nb, .inl (g 0, 12, .inl fb)), (L, .inr (2, [.int (nI d), .int 30, .int (nI ev), .int 0, .int lt, .int se, .ref ca, .ref ua, .ref pa, .ref la])), (la, .inl (g 2, 3, .inr (.inr (.inr (.inr (rf3 a0 a1 a2)))))), (a0, .inr (1, [.int f0, .int f1, .int f2, .int f3, .int f4, .int f5, .int f6]))]) [0, 1, 2, 3, 4, 5] rfl
      have hD9 := hD.sub (ws' := [(n, .inr (3, [.int 1, .int 1, .int 1, .int 0, .int 0, .int (nI t), .int 0, .int 0, .ref nl, .ref nf, .ref nb])), (nl, .inl (g 1, 3, .inr (.inr (.inr (.inr (rf3 L L1 L2)))))), (nb, .inl (g 0, 12, .inl fb)), (L, .inr (2, [.int (nI d), .int 30, .int (nI ev), .int 0, .int lt, .int se, .ref ca, .ref ua, .ref pa, .ref la])), (la, .inl (g 2, 3, .inr (.inr (.inr (.inr (rf3 a0 a1 a2)))))), (a0, .inr (1, [.int f0, .int f1, .int f2, .int f3, .int f4, .int f5, .int f6]))]) [0, 1, 2, 3, 4, 5] (by decide) rfl
      subst hQ
      refine W.widen (k := 0) (n := 0) (Nat.le_of_ble_eq_true rfl) (Nat.le_of_ble_eq_true rfl) ?_
      exact W.zret (v := 0) (ty := .boolean) hx hb hr (rfl) (fun tS htS _ => ⟨⟨_, _, rfl, ⟨rfl, (if_neg (fun h => absurd h.2 (Int32.not_le.mpr cb_3))).symm⟩, by rw [htS]; exact hP9, hD9⟩, hS.F htS⟩) hS.2.2 dX3_lacksCredit_49
    · skip
      refine lv_iconst (v := 1) hx hb dX3_lacksCredit_44 (by decide) ?_
      refine lv_goto (tgt := 49) hx hb dX3_lacksCredit_45 (by decide) ?_
      have hP9 := hP.sub (ws' := [(n, .inr (3, [.int 1, .int 1, .int 1, .int 0, .int 0, .int (nI t), .int 0, .int 0, .ref nl, .ref nf, .ref nb])), (nl, .inl (g 1, 3, .inr (.inr (.inr (.inr (rf3 L L1 L2)))))), (nb, .inl (g 0, 12, .inl fb)), (L, .inr (2, [.int (nI d), .int 30, .int (nI ev), .int 0, .int lt, .int se, .ref ca, .ref ua, .ref pa, .ref la])), (la, .inl (g 2, 3, .inr (.inr (.inr (.inr (rf3 a0 a1 a2)))))), (a0, .inr (1, [.int f0, .int f1, .int f2, .int f3, .int f4, .int f5, .int f6]))]) [0, 1, 2, 3, 4, 5] rfl
      have hD9 := hD.sub (ws' := [(n, .inr (3, [.int 1, .int 1, .int 1, .int 0, .int 0, .int (nI t), .int 0, .int 0, .ref nl, .ref nf, .ref nb])), (nl, .inl (g 1, 3, .inr (.inr (.inr (.inr (rf3 L L1 L2)))))), (nb, .inl (g 0, 12, .inl fb)), (L, .inr (2, [.int (nI d), .int 30, .int (nI ev), .int 0, .int lt, .int se, .ref ca, .ref ua, .ref pa, .ref la])), (la, .inl (g 2, 3, .inr (.inr (.inr (.inr (rf3 a0 a1 a2)))))), (a0, .inr (1, [.int f0, .int f1, .int f2, .int f3, .int f4, .int f5, .int f6]))]) [0, 1, 2, 3, 4, 5] (by decide) rfl
      subst hQ
      refine W.widen (k := 0) (n := 0) (Nat.le_of_ble_eq_true rfl) (Nat.le_of_ble_eq_true rfl) ?_
      exact W.zret (v := 1) (ty := .boolean) hx hb hr (rfl) (fun tS htS _ => ⟨⟨_, _, rfl, ⟨rfl, (if_pos ⟨Int32.not_le.mp cb_1, Int32.not_lt.mp cb_3⟩).symm⟩, by rw [htS]; exact hP9, hD9⟩, hS.F htS⟩) hS.2.2 dX3_lacksCredit_49
set_option maxHeartbeats 4000000 in
set_option maxRecDepth 100000 in
theorem c_X3_waitAt (l : Launch) (D : va_G) (g : Nat → ClassId) (sz : Nat) (n : Nat) (nl : Nat) (nf : Nat) (nb : Nat) (L : Nat) (L1 : Nat) (L2 : Nat) (ca : Nat) (ua : Nat) (pa : Nat) (la : Nat) (a0 : Nat) (a1 : Nat) (a2 : Nat) (f0 : Int32) (f1 : Int32) (f2 : Int32) (f3 : Int32) (f4 : Int32) (f5 : Int32) (f6 : Int32) (t : Nat) (d : Nat) (ev : Nat) (lt : Int32) (se : Int32) (fb : Nat → Int32) : Met l yX3_waitAt wsX3_waitAt ({ frames := 2, cells := 0, slots := 0, locals := 42 }) (va_Pc [.ref n, .int 0] (pre D g sz [(n, .inr (3, [.int 1, .int 1, .int 1, .int 0, .int 0, .int (nI t), .int 0, .int 0, .ref nl, .ref nf, .ref nb])), (nl, .inl (g 1, 3, .inr (.inr (.inr (.inr (rf3 L L1 L2)))))), (nb, .inl (g 0, 12, .inl fb)), (L, .inr (2, [.int (nI d), .int 30, .int (nI ev), .int 0, .int lt, .int se, .ref ca, .ref ua, .ref pa, .ref la])), (la, .inl (g 2, 3, .inr (.inr (.inr (.inr (rf3 a0 a1 a2)))))), (a0, .inr (1, [.int f0, .int f1, .int f2, .int f3, .int f4, .int f5, .int f6]))])) (va_Qv (fun (u : va_W) => ∃ (f42 : Int32), u = [(n, .inr (3, [.int 1, .int 1, .int 1, .int 0, .int 0, .int (nI t), .int 0, .int 0, .ref nl, .ref nf, .ref nb])), (nl, .inl (g 1, 3, .inr (.inr (.inr (.inr (rf3 L L1 L2)))))), (nb, .inl (g 0, 12, .inl fb)), (L, .inr (2, [.int (nI d), .int 30, .int (nI ev), .int 0, .int lt, .int se, .ref ca, .ref ua, .ref pa, .ref la])), (la, .inl (g 2, 3, .inr (.inr (.inr (.inr (rf3 a0 a1 a2)))))), (a0, .inr (1, [.int f0, .int f1, .int f2, .int f3, .int f42, .int f5, .int f6]))]) (wd D (va_A [(n, .inr (3, [.int 1, .int 1, .int 1, .int 0, .int 0, .int (nI t), .int 0, .int 0, .ref nl, .ref nf, .ref nb])), (nl, .inl (g 1, 3, .inr (.inr (.inr (.inr (rf3 L L1 L2)))))), (nb, .inl (g 0, 12, .inl fb)), (L, .inr (2, [.int (nI d), .int 30, .int (nI ev), .int 0, .int lt, .int se, .ref ca, .ref ua, .ref pa, .ref la])), (la, .inl (g 2, 3, .inr (.inr (.inr (.inr (rf3 a0 a1 a2)))))), (a0, .inr (1, [.int f0, .int f1, .int f2, .int f3, .int f4, .int f5, .int f6]))] sz)) (va_A [(n, .inr (3, [.int 1, .int 1, .int 1, .int 0, .int 0, .int (nI t), .int 0, .int 0, .ref nl, .ref nf, .ref nb])), (nl, .inl (g 1, 3, .inr (.inr (.inr (.inr (rf3 L L1 L2)))))), (nb, .inl (g 0, 12, .inl fb)), (L, .inr (2, [.int (nI d), .int 30, .int (nI ev), .int 0, .int lt, .int se, .ref ca, .ref ua, .ref pa, .ref la])), (la, .inl (g 2, 3, .inr (.inr (.inr (.inr (rf3 a0 a1 a2)))))), (a0, .inr (1, [.int f0, .int f1, .int f2, .int f3, .int f4, .int f5, .int f6]))] sz)) 0 0 (va_A [(n, .inr (3, [.int 1, .int 1, .int 1, .int 0, .int 0, .int (nI t), .int 0, .int 0, .ref nl, .ref nf, .ref nb])), (nl, .inl (g 1, 3, .inr (.inr (.inr (.inr (rf3 L L1 L2)))))), (nb, .inl (g 0, 12, .inl fb)), (L, .inr (2, [.int (nI d), .int 30, .int (nI ev), .int 0, .int lt, .int se, .ref ca, .ref ua, .ref pa, .ref la])), (la, .inl (g 2, 3, .inr (.inr (.inr (.inr (rf3 a0 a1 a2)))))), (a0, .inr (1, [.int f0, .int f1, .int f2, .int f3, .int f4, .int f5, .int f6]))] sz) := by
  refine Met.ofW (cc := cX3_waitAt) (maxL := 4) (ret := none) (by decide) rfl ?_
  intro p e s m args below meth c s₁ B hml hv
  obtain ⟨rfl, hsz, hP, ⟨hK, hN⟩, hD0, hZ⟩ := hv
  have hx := B.exec
  have hb := B.bytes
  have hr := B.returns
  have hts := atoms_spec (ws := wsX3_waitAt) B.pre
  have hown : s.vm.findClass RX3 = some m.cls := findClass_of_methodNamed B.named
  have hlocks := B.notSynchronized
  clear B
  subst hsz
  have hD := hD0.self (sz := s.heap.size)
  clear hD0
  generalize hAe : va_A [(n, .inr (3, [.int 1, .int 1, .int 1, .int 0, .int 0, .int (nI t), .int 0, .int 0, .ref nl, .ref nf, .ref nb])), (nl, .inl (g 1, 3, .inr (.inr (.inr (.inr (rf3 L L1 L2)))))), (nb, .inl (g 0, 12, .inl fb)), (L, .inr (2, [.int (nI d), .int 30, .int (nI ev), .int 0, .int lt, .int se, .ref ca, .ref ua, .ref pa, .ref la])), (la, .inl (g 2, 3, .inr (.inr (.inr (.inr (rf3 a0 a1 a2)))))), (a0, .inr (1, [.int f0, .int f1, .int f2, .int f3, .int f4, .int f5, .int f6]))] s.heap.size = A at hD hZ ⊢
  have hA : ∀ q : Nat, s.heap.size ≤ q → A q := fun q h => by rw [← hAe]; exact Or.inr h
  have hS : va_S A s.heap s.heap [] := va_S.rf
  have f11 := hts (.fieldLink RX3 11 "HopCredits$Net" "links" "[LHopCredits$Link;") (by decide +kernel)
  have f128 := hts (.fieldLink RX3 128 "HopCredits$Link" "lanes" "[LHopCredits$Lane;") (by decide +kernel)
  have f210 := hts (.fieldLink RX3 210 "HopCredits$Lane" "waited" "I") (by decide +kernel)
  have f50 := hts (.fieldLink RX3 50 "HopCredits$Net" "probes" "I") (by decide +kernel)
  have f62 := hts (.fieldLink RX3 62 "HopCredits$Net" "circuits" "I") (by decide +kernel)
  have iX1 : ∀ w ∈ u_ws RX1 TX1 7, w ∈ wsX3_waitAt := by decide +kernel
  have iX2 : ∀ w ∈ u_ws RX2 TX2 10, w ∈ wsX3_waitAt := by decide +kernel
  have iX3 : ∀ w ∈ u_ws RX3 TX3 11, w ∈ wsX3_waitAt := by decide +kernel
  have hl := lv_entry ([.ref n, .int 0]) (n := 4) (Nat.le_of_ble_eq_true rfl)
  rw [lg_entry_eq]
  generalize (lg_sl ([.ref n, .int 0]) ++ List.replicate (4 - (lg_sl ([.ref n, .int 0])).length) Slot.unset).toArray = ls at hl ⊢
  have hl : lv_has ls 4 [(0, .ref n), (1, .int 0)] := hl
  generalize hQ : MQ below _ _ s _ _ _ = Q
  generalize hH : s.heap = H at hP ⊢
  have hS : va_S A s.heap H [] := by rw [← hH]; exact hS
  clear hH
  refine lv_iconst (v := 0) hx hb dX3_waitAt_0 (by decide) ?_
  refine lv_istore_n (lv' := [(2, .int 0), (0, .ref n), (1, .int 0)]) hx hb dX3_waitAt_1 rfl hl (by decide) rfl (fun ls hl => ?_)
  refine lv_iload_n hx hb dX3_waitAt_2 rfl (lv_at hl 0 rfl) ?_
  refine lv_aload_n hx hb dX3_waitAt_3 rfl (lv_at hl 1 rfl) ?_
  refine va_get (D := D) (ci := 3) (v := .int 1) (C := RX3) (T := TX3) (N := 11) hx hb hts iX3 hown hK hP 0 rfl rfl 1 (by decide) f62 (fun _ h9 => h9) rfl dX3_waitAt_4 ?_
  refine lv_icmp_ge (tgt := 80) hx hb dX3_waitAt_7 (by decide) (fun cb => absurd cb (by decide)) (fun _ => ?_)
  refine lv_aload_n hx hb dX3_waitAt_10 rfl (lv_at hl 1 rfl) ?_
  refine va_get (D := D) (ci := 3) (v := .ref nl) (C := RX3) (T := TX3) (N := 11) hx hb hts iX3 hown hK hP 0 rfl rfl 8 (by decide) f11 (fun _ h9 => h9) rfl dX3_waitAt_11 ?_
  refine lv_iload_n hx hb dX3_waitAt_14 rfl (lv_at hl 2 rfl) ?_
  refine va_aldq (C := "HopCredits$Link") hx hb hK hP 1 1 rfl rfl (by unfold vp_in; decide) dX3_waitAt_15 ?_
  refine lv_eqv (v2 := .ref L) rfl ?_
  refine va_get (D := D) (ci := 2) (v := .ref la) (C := RX2) (T := TX2) (N := 10) hx hb hts iX2 hown hK hP 3 rfl rfl 9 (by decide) f128 (fun _ h9 => h9) rfl dX3_waitAt_16 ?_
  refine lv_iload_n hx hb dX3_waitAt_19 rfl (lv_at hl 0 rfl) ?_
  refine va_aldq (C := "HopCredits$Lane") hx hb hK hP 4 2 rfl rfl (by unfold vp_in; decide) dX3_waitAt_20 ?_
  refine lv_eqv (v2 := .ref a0) rfl ?_
  refine lv_astore_n (lv' := [(3, .ref a0), (2, .int 0), (0, .ref n), (1, .int 0)]) hx hb dX3_waitAt_21 rfl hl (by decide) rfl (fun ls hl => ?_)
  refine lv_aload_n hx hb dX3_waitAt_22 rfl (lv_at hl 0 rfl) ?_
  refine lv_aload_n hx hb dX3_waitAt_23 rfl (lv_at hl 2 rfl) ?_
  refine lv_iload_n hx hb dX3_waitAt_24 rfl (lv_at hl 3 rfl) ?_
  refine lv_iload_n hx hb dX3_waitAt_25 rfl (lv_at hl 1 rfl) ?_
  refine ky_Vi (As := [.int 0, .int 0]) (rest := [.ref a0]) ⟨hx, hb, hml, hown, hts⟩ ⟨hK, hN⟩ hZ hP hD hS hA [0, 1, 2, 3, 4, 5] [] (wc := [(n, .inr (3, [.int 1, .int 1, .int 1, .int 0, .int 0, .int (nI t), .int 0, .int 0, .ref nl, .ref nf, .ref nb])), (nl, .inl (g 1, 3, .inr (.inr (.inr (.inr (rf3 L L1 L2)))))), (nb, .inl (g 0, 12, .inl fb)), (L, .inr (2, [.int (nI d), .int 30, .int (nI ev), .int 0, .int lt, .int se, .ref ca, .ref ua, .ref pa, .ref la])), (la, .inl (g 2, 3, .inr (.inr (.inr (.inr (rf3 a0 a1 a2)))))), (a0, .inr (1, [.int f0, .int f1, .int f2, .int f3, .int f4, .int f5, .int f6]))]) (wr := []) rfl rfl rfl rfl (by decide) (c_X3_lacksCredit l D g H.size n nl nf nb L L1 L2 ca ua pa la a0 a1 a2 f0 f1 f2 f3 f4 f5 f6 t d ev lt se fb) (cwV 2 hts gX3_waitAt_X3_lacksCredit rfl rfl rfl (by decide +kernel) ⟨(Nat.le_of_ble_eq_true rfl), (Nat.le_of_ble_eq_true rfl)⟩) 0 3 rfl rfl rfl rfl hl.1 rfl (Nat.le_of_ble_eq_true rfl) dX3_waitAt_26 ⟨(Nat.le_of_ble_eq_true rfl), (Nat.le_of_ble_eq_true rfl)⟩ (fun r_1 u H locs hw hP hD hS => ?_)
  obtain ⟨rfl, rfl⟩ := hw
  have hP : va_P D vwCl [(n, .inr (3, [.int 1, .int 1, .int 1, .int 0, .int 0, .int (nI t), .int 0, .int 0, .ref nl, .ref nf, .ref nb])), (nl, .inl (g 1, 3, .inr (.inr (.inr (.inr (rf3 L L1 L2)))))), (nb, .inl (g 0, 12, .inl fb)), (L, .inr (2, [.int (nI d), .int 30, .int (nI ev), .int 0, .int lt, .int se, .ref ca, .ref ua, .ref pa, .ref la])), (la, .inl (g 2, 3, .inr (.inr (.inr (.inr (rf3 a0 a1 a2)))))), (a0, .inr (1, [.int f0, .int f1, .int f2, .int f3, .int f4, .int f5, .int f6]))] H := hP
  have hD : va_D A [(n, .inr (3, [.int 1, .int 1, .int 1, .int 0, .int 0, .int (nI t), .int 0, .int 0, .ref nl, .ref nf, .ref nb])), (nl, .inl (g 1, 3, .inr (.inr (.inr (.inr (rf3 L L1 L2)))))), (nb, .inl (g 0, 12, .inl fb)), (L, .inr (2, [.int (nI d), .int 30, .int (nI ev), .int 0, .int lt, .int se, .ref ca, .ref ua, .ref pa, .ref la])), (la, .inl (g 2, 3, .inr (.inr (.inr (.inr (rf3 a0 a1 a2)))))), (a0, .inr (1, [.int f0, .int f1, .int f2, .int f3, .int f4, .int f5, .int f6]))] := hD
  refine W.widen (k := 0) (n := 0) (Nat.le_of_ble_eq_true rfl) (Nat.le_of_ble_eq_true rfl) ?_
  refine lv_if_eq (tgt := 41) hx hb dX3_waitAt_29 (by decide) (fun cb_2 => ?_) (fun cb_2 => ?_)
  · skip
    refine lv_iconst (v := 0) hx hb dX3_waitAt_41 (by decide) ?_
    refine va_put (D := D) (ci := 1) (v := .int 0) (ty := .int) (C := RX1) (T := TX1) (N := 7) hx hb hts iX1 tyX1 tyX1_ok nmX1 hown hK hP hD hS 5 rfl rfl 4 (by decide) f210 (fun _ h9 => h9) rfl (by decide +kernel) (rfl) (rfl) (Nat.le_of_ble_eq_true rfl) dX3_waitAt_42 (fun H locs hP hD hS => ?_)
    have hP : va_P D vwCl [(n, .inr (3, [.int 1, .int 1, .int 1, .int 0, .int 0, .int (nI t), .int 0, .int 0, .ref nl, .ref nf, .ref nb])), (nl, .inl (g 1, 3, .inr (.inr (.inr (.inr (rf3 L L1 L2)))))), (nb, .inl (g 0, 12, .inl fb)), (L, .inr (2, [.int (nI d), .int 30, .int (nI ev), .int 0, .int lt, .int se, .ref ca, .ref ua, .ref pa, .ref la])), (la, .inl (g 2, 3, .inr (.inr (.inr (.inr (rf3 a0 a1 a2)))))), (a0, .inr (1, [.int f0, .int f1, .int f2, .int f3, .int 0, .int f5, .int f6]))] H := hP
    have hD : va_D A [(n, .inr (3, [.int 1, .int 1, .int 1, .int 0, .int 0, .int (nI t), .int 0, .int 0, .ref nl, .ref nf, .ref nb])), (nl, .inl (g 1, 3, .inr (.inr (.inr (.inr (rf3 L L1 L2)))))), (nb, .inl (g 0, 12, .inl fb)), (L, .inr (2, [.int (nI d), .int 30, .int (nI ev), .int 0, .int lt, .int se, .ref ca, .ref ua, .ref pa, .ref la])), (la, .inl (g 2, 3, .inr (.inr (.inr (.inr (rf3 a0 a1 a2)))))), (a0, .inr (1, [.int f0, .int f1, .int f2, .int f3, .int 0, .int f5, .int f6]))] := hD
    refine lv_aload_n hx hb dX3_waitAt_45 rfl (lv_at hl 2 rfl) ?_
    refine va_get (D := D) (ci := 3) (v := .int 0) (C := RX3) (T := TX3) (N := 11) hx hb hts iX3 hown hK hP 0 rfl rfl 4 (by decide) f50 (fun _ h9 => h9) rfl dX3_waitAt_46 ?_
    refine lv_if_le (tgt := 74) hx hb dX3_waitAt_49 (by decide) (fun _ => ?_) (fun cb => absurd (by decide) cb)
    refine lv_iinc (v := 1) (lv' := [(2, .int 1), (3, .ref a0), (0, .ref n), (1, .int 0)]) hx hb dX3_waitAt_74 hl (k := 1) rfl (by decide) (by decide) rfl (fun ls hl => ?_)
    refine lv_goto (tgt := 2) hx hb dX3_waitAt_77 (by decide) ?_
    refine lv_iload_n hx hb dX3_waitAt_2 rfl (lv_at hl 0 rfl) ?_
    refine lv_aload_n hx hb dX3_waitAt_3 rfl (lv_at hl 2 rfl) ?_
    refine va_get (D := D) (ci := 3) (v := .int 1) (C := RX3) (T := TX3) (N := 11) hx hb hts iX3 hown hK hP 0 rfl rfl 1 (by decide) f62 (fun _ h9 => h9) rfl dX3_waitAt_4 ?_
    refine lv_icmp_ge (tgt := 80) hx hb dX3_waitAt_7 (by decide) (fun _ => ?_) (fun cb => absurd (by decide) cb)
    have hP9 := hP.sub (ws' := [(n, .inr (3, [.int 1, .int 1, .int 1, .int 0, .int 0, .int (nI t), .int 0, .int 0, .ref nl, .ref nf, .ref nb])), (nl, .inl (g 1, 3, .inr (.inr (.inr (.inr (rf3 L L1 L2)))))), (nb, .inl (g 0, 12, .inl fb)), (L, .inr (2, [.int (nI d), .int 30, .int (nI ev), .int 0, .int lt, .int se, .ref ca, .ref ua, .ref pa, .ref la])), (la, .inl (g 2, 3, .inr (.inr (.inr (.inr (rf3 a0 a1 a2)))))), (a0, .inr (1, [.int f0, .int f1, .int f2, .int f3, .int 0, .int f5, .int f6]))]) [0, 1, 2, 3, 4, 5] rfl
    have hD9 := hD.sub (ws' := [(n, .inr (3, [.int 1, .int 1, .int 1, .int 0, .int 0, .int (nI t), .int 0, .int 0, .ref nl, .ref nf, .ref nb])), (nl, .inl (g 1, 3, .inr (.inr (.inr (.inr (rf3 L L1 L2)))))), (nb, .inl (g 0, 12, .inl fb)), (L, .inr (2, [.int (nI d), .int 30, .int (nI ev), .int 0, .int lt, .int se, .ref ca, .ref ua, .ref pa, .ref la])), (la, .inl (g 2, 3, .inr (.inr (.inr (.inr (rf3 a0 a1 a2)))))), (a0, .inr (1, [.int f0, .int f1, .int f2, .int f3, .int 0, .int f5, .int f6]))]) [0, 1, 2, 3, 4, 5] (by decide) rfl
    subst hQ
    refine W.widen (k := 0) (n := 0) (Nat.le_of_ble_eq_true rfl) (Nat.le_of_ble_eq_true rfl) ?_
    exact W.vret hx hb hr (fun tS htS _ => ⟨⟨_, rfl, ⟨0, rfl⟩, by rw [htS]; exact hP9, hD9⟩, hS.F htS⟩) hS.2.2 dX3_waitAt_80
  · skip
    refine lv_aload_n hx hb dX3_waitAt_32 rfl (lv_at hl 0 rfl) ?_
    refine va_get (D := D) (ci := 1) (v := .int f4) (C := RX1) (T := TX1) (N := 7) hx hb hts iX1 hown hK hP 5 rfl rfl 4 (by decide) f210 (fun _ h9 => h9) rfl dX3_waitAt_33 ?_
    refine lv_iconst (v := 1) hx hb dX3_waitAt_36 (by decide) ?_
    refine lv_iadd hx hb dX3_waitAt_37 ?_
    refine lv_goto (tgt := 42) hx hb dX3_waitAt_38 (by decide) ?_
    refine va_put (D := D) (ci := 1) (v := .int (f4 + 1)) (ty := .int) (C := RX1) (T := TX1) (N := 7) hx hb hts iX1 tyX1 tyX1_ok nmX1 hown hK hP hD hS 5 rfl rfl 4 (by decide) f210 (fun _ h9 => h9) rfl (by decide +kernel) (rfl) (rfl) (Nat.le_of_ble_eq_true rfl) dX3_waitAt_42 (fun H locs hP hD hS => ?_)
    have hP : va_P D vwCl [(n, .inr (3, [.int 1, .int 1, .int 1, .int 0, .int 0, .int (nI t), .int 0, .int 0, .ref nl, .ref nf, .ref nb])), (nl, .inl (g 1, 3, .inr (.inr (.inr (.inr (rf3 L L1 L2)))))), (nb, .inl (g 0, 12, .inl fb)), (L, .inr (2, [.int (nI d), .int 30, .int (nI ev), .int 0, .int lt, .int se, .ref ca, .ref ua, .ref pa, .ref la])), (la, .inl (g 2, 3, .inr (.inr (.inr (.inr (rf3 a0 a1 a2)))))), (a0, .inr (1, [.int f0, .int f1, .int f2, .int f3, .int (f4 + 1), .int f5, .int f6]))] H := hP
    have hD : va_D A [(n, .inr (3, [.int 1, .int 1, .int 1, .int 0, .int 0, .int (nI t), .int 0, .int 0, .ref nl, .ref nf, .ref nb])), (nl, .inl (g 1, 3, .inr (.inr (.inr (.inr (rf3 L L1 L2)))))), (nb, .inl (g 0, 12, .inl fb)), (L, .inr (2, [.int (nI d), .int 30, .int (nI ev), .int 0, .int lt, .int se, .ref ca, .ref ua, .ref pa, .ref la])), (la, .inl (g 2, 3, .inr (.inr (.inr (.inr (rf3 a0 a1 a2)))))), (a0, .inr (1, [.int f0, .int f1, .int f2, .int f3, .int (f4 + 1), .int f5, .int f6]))] := hD
    refine lv_aload_n hx hb dX3_waitAt_45 rfl (lv_at hl 2 rfl) ?_
    refine va_get (D := D) (ci := 3) (v := .int 0) (C := RX3) (T := TX3) (N := 11) hx hb hts iX3 hown hK hP 0 rfl rfl 4 (by decide) f50 (fun _ h9 => h9) rfl dX3_waitAt_46 ?_
    refine lv_if_le (tgt := 74) hx hb dX3_waitAt_49 (by decide) (fun _ => ?_) (fun cb => absurd (by decide) cb)
    refine lv_iinc (v := 1) (lv' := [(2, .int 1), (3, .ref a0), (0, .ref n), (1, .int 0)]) hx hb dX3_waitAt_74 hl (k := 1) rfl (by decide) (by decide) rfl (fun ls hl => ?_)
    refine lv_goto (tgt := 2) hx hb dX3_waitAt_77 (by decide) ?_
    refine lv_iload_n hx hb dX3_waitAt_2 rfl (lv_at hl 0 rfl) ?_
    refine lv_aload_n hx hb dX3_waitAt_3 rfl (lv_at hl 2 rfl) ?_
    refine va_get (D := D) (ci := 3) (v := .int 1) (C := RX3) (T := TX3) (N := 11) hx hb hts iX3 hown hK hP 0 rfl rfl 1 (by decide) f62 (fun _ h9 => h9) rfl dX3_waitAt_4 ?_
    refine lv_icmp_ge (tgt := 80) hx hb dX3_waitAt_7 (by decide) (fun _ => ?_) (fun cb => absurd (by decide) cb)
    have hP9 := hP.sub (ws' := [(n, .inr (3, [.int 1, .int 1, .int 1, .int 0, .int 0, .int (nI t), .int 0, .int 0, .ref nl, .ref nf, .ref nb])), (nl, .inl (g 1, 3, .inr (.inr (.inr (.inr (rf3 L L1 L2)))))), (nb, .inl (g 0, 12, .inl fb)), (L, .inr (2, [.int (nI d), .int 30, .int (nI ev), .int 0, .int lt, .int se, .ref ca, .ref ua, .ref pa, .ref la])), (la, .inl (g 2, 3, .inr (.inr (.inr (.inr (rf3 a0 a1 a2)))))), (a0, .inr (1, [.int f0, .int f1, .int f2, .int f3, .int (f4 + 1), .int f5, .int f6]))]) [0, 1, 2, 3, 4, 5] rfl
    have hD9 := hD.sub (ws' := [(n, .inr (3, [.int 1, .int 1, .int 1, .int 0, .int 0, .int (nI t), .int 0, .int 0, .ref nl, .ref nf, .ref nb])), (nl, .inl (g 1, 3, .inr (.inr (.inr (.inr (rf3 L L1 L2)))))), (nb, .inl (g 0, 12, .inl fb)), (L, .inr (2, [.int (nI d), .int 30, .int (nI ev), .int 0, .int lt, .int se, .ref ca, .ref ua, .ref pa, .ref la])), (la, .inl (g 2, 3, .inr (.inr (.inr (.inr (rf3 a0 a1 a2)))))), (a0, .inr (1, [.int f0, .int f1, .int f2, .int f3, .int (f4 + 1), .int f5, .int f6]))]) [0, 1, 2, 3, 4, 5] (by decide) rfl
    subst hQ
    refine W.widen (k := 0) (n := 0) (Nat.le_of_ble_eq_true rfl) (Nat.le_of_ble_eq_true rfl) ?_
    exact W.vret hx hb hr (fun tS htS _ => ⟨⟨_, rfl, ⟨(f4 + 1), rfl⟩, by rw [htS]; exact hP9, hD9⟩, hS.F htS⟩) hS.2.2 dX3_waitAt_80
